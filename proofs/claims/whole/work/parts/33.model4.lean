/-! the reference: public methods, the simpler ones -/
section MO
variable {c : Nat → aE} {B W LG : Nat} {q : DQ} {st op : Int32} {pl rc : Nat} {ep bt : Int32} {K : MP} {h : HQ} {bf : Nat → Int32} {z : ZQ} {s : SQ} {M : PM} {key : Int32} {tx : Option CL}
set_option maxHeartbeats 4000000 in
set_option maxRecDepth 100000 in
theorem m_isSeen (hK : KAm M K) (hM : Srt M) (hu : K.1 ≤ 12000) (hT : TXM op h tx) (hO : TxOK tx) (hh : h.1 ≤ 600) : MD1 mdX5_isSeen [.ref 15, .int key] (wM c B W LG q st op pl rc ep bt K h bf z s) (some (.int (b2i (lk (seenT M tx) key).isSome))) (wM c B W LG q st op pl rc ep bt K h bf z s) := by
  refine md_of [some (.ref 15), some (.int key), none] rfl (Nat.le_of_ble_eq_true rfl) (by decide) (fun X Post hX hp => ?_)
  have hr := rk_b hK (key := key)
  have base : (lk (seenT M tx) key).isSome = (lk M key).isSome → Wp X Post 27 [some (.ref 15), some (.int key), none] [] (wM c B W LG q st op pl rc ep bt K h bf z s) := by
    intro e
    rw [e, ← ka_has hK hM] at hp
    refine wp_aload_n hX dX5_isSeen_27 rfl ?_
    refine wp_iload_n hX dX5_isSeen_28 rfl ?_
    refine wp_cv1 hX dX5_isSeen_29 mlX5_100 ⟨Nat.le_of_ble_eq_true rfl, Nat.le_of_ble_eq_true rfl⟩ (m_at hK hM hu) rfl (Nat.le_of_ble_eq_true rfl) ?_
    refine wp_istore_n hX dX5_isSeen_32 (Nat.le_of_ble_eq_true rfl) rfl ?_
    refine wp_iload_n hX dX5_isSeen_33 rfl ?_
    refine wp_aload_n hX dX5_isSeen_34 rfl ?_
    refine wp_get hX dX5_isSeen_35 flX5_97 rfl rfl ?_
    refine wp_icmp_ge (tgt := 55) hX dX5_isSeen_38 (by decide) (fun d => ?_) (fun d => ?_)
    · have d1 := (nI_leI (a := K.1) (b := rk M key) (by omega) (by omega)).mp d
      refine wp_iconst (v := 0) hX dX5_isSeen_55 ic_0 ?_
      refine wp_iret hX dX5_isSeen_56 rfl rfl ?_
      rw [decide_eq_false (by omega)] at hp
      exact hp
    · have d1 : rk M key < K.1 := Nat.lt_of_not_le (fun y => d (nI_le y (by omega)))
      refine wp_aload_n hX dX5_isSeen_41 rfl ?_
      refine wp_get hX dX5_isSeen_42 flX5_14 rfl rfl ?_
      refine wp_iload_n hX dX5_isSeen_45 rfl ?_
      refine wp_iald hX dX5_isSeen_46 rfl (vp_in_nI (by omega) (by decide)) ?_
      refine wp_ti (y := (K.2.1 (rk M key))) (by rw [nI_clamp (by omega)]) ?_
      refine wp_iload_n hX dX5_isSeen_47 rfl ?_
      refine wp_icmp_ne (tgt := 55) hX dX5_isSeen_48 (by decide) (fun f => ?_) (fun f => ?_)
      · refine wp_iconst (v := 0) hX dX5_isSeen_55 ic_0 ?_
        refine wp_iret hX dX5_isSeen_56 rfl rfl ?_
        rw [decide_eq_false (fun y => f y.2)] at hp
        exact hp
      · refine wp_iconst (v := 1) hX dX5_isSeen_51 ic_1 ?_
        refine wp_goto (tgt := 56) hX dX5_isSeen_52 (by decide) ?_
        refine wp_iret hX dX5_isSeen_56 rfl rfl ?_
        rw [decide_eq_true ⟨d1, f⟩] at hp
        exact hp
  cases tx with
  | none =>
    have hT : op = 0 := hT
    subst hT
    refine wp_aload_n hX dX5_isSeen_0 rfl ?_
    refine wp_iload_n hX dX5_isSeen_1 rfl ?_
    refine wp_cv1 hX dX5_isSeen_2 mlX5_153 ⟨Nat.le_of_ble_eq_true rfl, Nat.le_of_ble_eq_true rfl⟩ (m_isChanged0 rfl hh) rfl (Nat.le_of_ble_eq_true rfl) ?_
    refine wp_if_eq (tgt := 27) hX dX5_isSeen_5 (by decide) (fun _ => ?_) (fun c_ => absurd (rfl) c_)
    exact base rfl
  | some C =>
    obtain ⟨rfl, hC⟩ := hT
    obtain ⟨hs, hl⟩ := hO
    have hCr := hC.rkb (key := key)
    refine wp_aload_n hX dX5_isSeen_0 rfl ?_
    refine wp_iload_n hX dX5_isSeen_1 rfl ?_
    refine wp_cv1 hX dX5_isSeen_2 mlX5_153 ⟨Nat.le_of_ble_eq_true rfl, Nat.le_of_ble_eq_true rfl⟩ (m_isChanged hC hs hh) rfl (Nat.le_of_ble_eq_true rfl) ?_
    cases e : lk C key with
    | none =>
      refine wp_if_eq (tgt := 27) hX dX5_isSeen_5 (by decide) (fun _ => ?_) (fun c_ => absurd (rfl) c_)
      refine base ?_
      show (lk (ov M C) key).isSome = _
      rw [lk_ov C hM hs, e]
    | some a =>
      obtain ⟨q1, q2, q3, q4⟩ := hC.look hs e
      have e2 : lk (seenT M (some C)) key = if a.1 then none else some a.2 := by
        show lk (ov M C) key = _
        rw [lk_ov C hM hs, e]
      rw [e2] at hp
      refine wp_if_eq (tgt := 27) hX dX5_isSeen_5 (by decide) (fun c_ => absurd c_ (show ¬ b2i true = 0 by decide)) (fun _ => ?_)
      refine wp_aload_n hX dX5_isSeen_8 rfl ?_
      refine wp_get hX dX5_isSeen_9 flX5_26 rfl rfl ?_
      refine wp_aload_n hX dX5_isSeen_12 rfl ?_
      refine wp_iload_n hX dX5_isSeen_13 rfl ?_
      refine wp_cv1 hX dX5_isSeen_14 mlX5_107 ⟨Nat.le_of_ble_eq_true rfl, Nat.le_of_ble_eq_true rfl⟩ (m_changeAt hC hs hh) rfl (Nat.le_of_ble_eq_true rfl) ?_
      refine wp_zald hX dX5_isSeen_17 rfl (vp_in_nI (by omega) (by decide)) ?_
      refine wp_ti (y := b2i a.1) (by rw [nI_clamp (by omega)]; exact q4) ?_
      cases ha : a.1 with
      | true =>
        rw [ha] at hp
        refine wp_if_ne (tgt := 25) hX dX5_isSeen_18 (by decide) (fun _ => ?_) (fun c_ => absurd c_ (by decide))
        refine wp_iconst (v := 0) hX dX5_isSeen_25 ic_0 ?_
        refine wp_iret hX dX5_isSeen_26 rfl rfl ?_
        exact hp
      | false =>
        rw [ha] at hp
        refine wp_if_ne (tgt := 25) hX dX5_isSeen_18 (by decide) (fun c_ => absurd (rfl) c_) (fun _ => ?_)
        refine wp_iconst (v := 1) hX dX5_isSeen_21 ic_1 ?_
        refine wp_goto (tgt := 26) hX dX5_isSeen_22 (by decide) ?_
        refine wp_iret hX dX5_isSeen_26 rfl rfl ?_
        exact hp
end MO
section MP
variable {A : Ab} {c : Nat → aE} {σ : aW}
theorem AInv.st {st : Int32} {g : Nat × Nat × Nat} {q : DQ} {u : Nat × Nat × PM × Option CL} (h : AInv (st, g, q, u)) : st = 0 ∨ st = 1 ∨ st = 2 ∨ st = 3 := by
  obtain ⟨B, W, LG⟩ := g
  obtain ⟨pl, rc, M, tx⟩ := u
  exact h.2.1
theorem AInv.tx {B W LG pl rc : Nat} {q : DQ} {M : PM} {tx : Option CL} (h : AInv (2, (B, W, LG), q, (pl, rc, M, tx))) : Srt M ∧ TxOK tx := by
  obtain ⟨-, -, -, k3, -, k5⟩ := h.2.2.2.2 rfl
  exact ⟨k3, k5⟩
set_option maxHeartbeats 4000000 in
set_option maxRecDepth 100000 in
theorem m_state (hR : RM A c σ) : MT mdX5_state [.ref 15] σ (fun r σ1 => r = some (.int A.1) ∧ RM A c σ1) := by
  obtain ⟨st, ⟨B, W, LG⟩, q, pl, rc, M, tx⟩ := A
  have hR0 := hR
  obtain ⟨op, jp, jr, ep, bt, K, h, bf, z, s, rfl, hh, hup⟩ := hR
  refine mp_of [some (.ref 15)] rfl (Nat.le_of_ble_eq_true rfl) (by decide) (fun X Post hX hp => ?_)
  refine wp_aload_n hX dX5_state_0 rfl ?_
  refine wp_get hX dX5_state_1 flX5_53 rfl rfl ?_
  refine wp_iret hX dX5_state_4 rfl rfl ?_
  exact hp _ _ ⟨rfl, hR0⟩
set_option maxHeartbeats 4000000 in
set_option maxRecDepth 100000 in
theorem m_power {x : Int32} (hR : RM A c σ) : MT mdX5_power [.ref 15, .int x] σ (fun r σ1 => r = some (.int (sPower A x).1) ∧ RM (sPower A x).2 c σ1) := by
  obtain ⟨st, ⟨B, W, LG⟩, q, pl, rc, M, tx⟩ := A
  have hR0 := hR
  obtain ⟨op, jp, jr, ep, bt, K, h, bf, z, s, rfl, hh, hup⟩ := hR
  refine mp_of [some (.ref 15), some (.int x)] rfl (Nat.le_of_ble_eq_true rfl) (by decide) (fun X Post hX hp => ?_)
  unfold sPower at hp
  dsimp only at hp
  refine wp_aload_n hX dX5_power_0 rfl ?_
  refine wp_get hX dX5_power_1 flX5_53 rfl rfl ?_
  refine wp_if_ne (tgt := 10) hX dX5_power_4 (by decide) (fun d => ?_) (fun d => ?_)
  · rw [if_neg d] at hp
    have tail : Wp X Post 21 [some (.ref 15), some (.int x)] [.int (if x < 0 then 0 else x), .ref 15] (wM c B W LG q st op jp jr ep bt K h bf z s) := by
      refine wp_put hX dX5_power_21 fwX5_50 rfl (Nat.le_of_ble_eq_true rfl) rfl rfl ?_
      refine wp_iconst (v := 0) hX dX5_power_24 ic_0 ?_
      refine wp_iret hX dX5_power_25 rfl rfl ?_
      exact hp _ _ ⟨rfl, op, jp, jr, ep, bt, K, h, bf, z, s, rfl, hh, hup⟩
    refine wp_aload_n hX dX5_power_10 rfl ?_
    refine wp_iload_n hX dX5_power_11 rfl ?_
    refine wp_iconst (v := 1) hX dX5_power_12 ic_1 ?_
    refine wp_icmp_ge (tgt := 20) hX dX5_power_13 (by decide) (fun f => ?_) (fun f => ?_)
    · rw [if_neg (by rw [ile] at f; rw [ilt]; rw [show (1 : Int32).toInt = 1 from rfl] at f; rw [show (0 : Int32).toInt = 0 from rfl]; omega)] at tail
      refine wp_iload_n hX dX5_power_20 rfl ?_
      exact tail
    · have e : (if x < 0 then 0 else x) = 0 := by
        by_cases y : x < 0
        · rw [if_pos y]
        · rw [if_neg y]
          rw [ile, show (1 : Int32).toInt = 1 from rfl] at f
          rw [ilt, show (0 : Int32).toInt = 0 from rfl] at y
          rw [ieq, show (0 : Int32).toInt = 0 from rfl]
          omega
      rw [e] at tail
      refine wp_iconst (v := 0) hX dX5_power_16 ic_0 ?_
      refine wp_goto (tgt := 21) hX dX5_power_17 (by decide) ?_
      exact tail
  · rw [if_pos d] at hp
    refine wp_bipush (v := (-7)) hX dX5_power_7 bp_m7 ?_
    refine wp_iret hX dX5_power_9 rfl rfl ?_
    exact hp _ _ ⟨rfl, hR0⟩
set_option maxHeartbeats 4000000 in
set_option maxRecDepth 100000 in
theorem m_word {x y : Int32} (hA : AInv A) (hR : RM A c σ) : MT mdX5_word [.ref 15, .int x, .int y] σ (fun r σ1 => r = some (.int (sWord A x y)) ∧ RM A c σ1) := by
  obtain ⟨st, ⟨B, W, LG⟩, q, pl, rc, M, tx⟩ := A
  have hR0 := hR
  obtain ⟨op, jp, jr, ep, bt, K, h, bf, z, s, rfl, hh, hup⟩ := hR
  refine mp_of [some (.ref 15), some (.int x), some (.int y)] rfl (Nat.le_of_ble_eq_true rfl) (by decide) (fun X Post hX hp => ?_)
  have fls : sWord (st, (B, W, LG), q, (pl, rc, M, tx)) x y = 0 → Wp X Post 31 [some (.ref 15), some (.int x), some (.int y)] [] (wM c B W LG q st op jp jr ep bt K h bf z s) := by
    intro e
    rw [e] at hp
    refine wp_iconst (v := 0) hX dX5_word_31 ic_0 ?_
    refine wp_goto (tgt := 48) hX dX5_word_32 (by decide) ?_
    refine wp_iret hX dX5_word_48 rfl rfl ?_
    exact hp _ _ ⟨rfl, hR0⟩
  have hw : sWord (st, (B, W, LG), q, (pl, rc, M, tx)) x y = wA B W q.1 x y := rfl
  refine wp_aload_n hX dX5_word_0 rfl ?_
  refine wp_get hX dX5_word_1 flX5_53 rfl rfl ?_
  refine wp_if_eq (tgt := 31) hX dX5_word_4 (by decide) (fun d0 => ?_) (fun d0 => ?_)
  · refine fls ?_
    obtain ⟨rfl, rfl, -⟩ := hA.2.2.1 d0
    rw [hw]
    unfold wA
    by_cases e : x < 0
    · rw [if_pos (Or.inl e)]
    · rw [if_pos (Or.inr (Or.inl (show nI 0 ≤ x from Int32.not_lt.mp e)))]
  · obtain ⟨⟨g1, g2, g3, g4, g5, g6, g7⟩, hHd⟩ := hA.geo d0
    refine wp_iload_n hX dX5_word_7 rfl ?_
    refine wp_if_lt (tgt := 31) hX dX5_word_8 (by decide) (fun d1 => ?_) (fun d1 => ?_)
    · refine fls ?_
      rw [hw]
      unfold wA
      rw [if_pos (Or.inl d1)]
    · refine wp_iload_n hX dX5_word_11 rfl ?_
      refine wp_aload_n hX dX5_word_12 rfl ?_
      refine wp_get hX dX5_word_13 flX5_71 rfl rfl ?_
      refine wp_icmp_ge (tgt := 31) hX dX5_word_16 (by decide) (fun d2 => ?_) (fun d2 => ?_)
      · refine fls ?_
        rw [hw]
        unfold wA
        rw [if_pos (Or.inr (Or.inl d2))]
      · refine wp_iload_n hX dX5_word_19 rfl ?_
        refine wp_if_lt (tgt := 31) hX dX5_word_20 (by decide) (fun d3 => ?_) (fun d3 => ?_)
        · refine fls ?_
          rw [hw]
          unfold wA
          rw [if_pos (Or.inr (Or.inr (Or.inl d3)))]
        · refine wp_iload_n hX dX5_word_23 rfl ?_
          refine wp_aload_n hX dX5_word_24 rfl ?_
          refine wp_get hX dX5_word_25 flX5_42 rfl rfl ?_
          refine wp_icmp_lt (tgt := 35) hX dX5_word_28 (by decide) (fun d4 => ?_) (fun d4 => ?_)
          · rw [hw] at hp
            obtain ⟨b, hb, rfl⟩ := nI_of d1
            obtain ⟨i, hi, rfl⟩ := nI_of d3
            have hbB : b < B := Nat.lt_of_not_le (fun y => d2 (nI_le y hb))
            have hiW : i < W := (nI_ltI hi (by omega)).mp d4
            have hix := ixb g2 g4 hbB hiW
            rw [wA_in g2 g4 hbB hiW] at hp
            refine wp_aload_n hX dX5_word_35 rfl ?_
            refine wp_get hX dX5_word_36 flX5_8 rfl rfl ?_
            refine wp_aload_n hX dX5_word_39 rfl ?_
            refine wp_get hX dX5_word_40 flX5_42 rfl rfl ?_
            refine wp_iload_n hX dX5_word_43 rfl ?_
            refine wp_imul hX dX5_word_44 ?_
            refine wp_iload_n hX dX5_word_45 rfl ?_
            refine wp_iadd hX dX5_word_46 ?_
            refine wp_ti (y := (nI (W * b + i))) (by rw [pk_mul, nI_add]) ?_
            refine wp_iald hX dX5_word_47 rfl (vp_in_nI hix (by decide)) ?_
            rw [nI_clamp (by omega)]
            refine wp_iret hX dX5_word_48 rfl rfl ?_
            exact hp _ _ ⟨rfl, hR0⟩
          · refine fls ?_
            rw [hw]
            unfold wA
            rw [if_pos (Or.inr (Or.inr (Or.inr (Int32.not_lt.mp d4))))]
set_option maxHeartbeats 4000000 in
set_option maxRecDepth 100000 in
theorem m_begin (hA : AInv A) (hR : RM A c σ) : MT mdX5_begin [.ref 15] σ (fun r σ1 => r = some (.int (sBegin A).1) ∧ RM (sBegin A).2 c σ1) := by
  obtain ⟨st, ⟨B, W, LG⟩, q, pl, rc, M, tx⟩ := A
  have hR0 := hR
  obtain ⟨op, jp, jr, ep, bt, K, h, bf, z, s, rfl, hh, hup⟩ := hR
  refine mp_of [some (.ref 15)] rfl (Nat.le_of_ble_eq_true rfl) (by decide) (fun X Post hX hp => ?_)
  unfold sBegin at hp
  dsimp only at hp
  refine wp_aload_n hX dX5_begin_0 rfl ?_
  refine wp_get hX dX5_begin_1 flX5_53 rfl rfl ?_
  refine wp_iconst (v := 2) hX dX5_begin_4 ic_2 ?_
  refine wp_icmp_eq (tgt := 13) hX dX5_begin_5 (by decide) (fun d => ?_) (fun d => ?_)
  · subst d
    rw [if_neg (by decide)] at hp
    obtain ⟨u1, u2, u3, u4, u5, u6⟩ := hup rfl
    cases tx with
    | none =>
      have u6 : op = 0 := u6
      subst u6
      refine wp_aload_n hX dX5_begin_13 rfl ?_
      refine wp_get hX dX5_begin_14 flX5_56 rfl rfl ?_
      refine wp_if_eq (tgt := 23) hX dX5_begin_17 (by decide) (fun _ => ?_) (fun c_ => absurd (rfl) c_)
      refine wp_aload_n hX dX5_begin_23 rfl ?_
      refine wp_iconst (v := 1) hX dX5_begin_24 ic_1 ?_
      refine wp_put hX dX5_begin_25 fwX5_56 rfl (Nat.le_of_ble_eq_true rfl) rfl rfl ?_
      refine wp_aload_n hX dX5_begin_28 rfl ?_
      refine wp_iconst (v := 0) hX dX5_begin_29 ic_0 ?_
      refine wp_put hX dX5_begin_30 fwX5_104 rfl (Nat.le_of_ble_eq_true rfl) rfl rfl ?_
      refine wp_iconst (v := 0) hX dX5_begin_33 ic_0 ?_
      refine wp_iret hX dX5_begin_34 rfl rfl ?_
      exact hp _ _ ⟨rfl, 1, jp, jr, ep, bt, K, (0, h.2), bf, z, s, rfl, Nat.zero_le _, fun _ => ⟨u1, u2, u3, u4, u5, rfl, rfl, fun i hi => absurd hi (Nat.not_lt_zero i)⟩⟩
    | some C =>
      obtain ⟨rfl, hC⟩ := u6
      refine wp_aload_n hX dX5_begin_13 rfl ?_
      refine wp_get hX dX5_begin_14 flX5_56 rfl rfl ?_
      refine wp_if_eq (tgt := 23) hX dX5_begin_17 (by decide) (fun c_ => absurd c_ (by decide)) (fun _ => ?_)
      refine wp_bipush (v := (-4)) hX dX5_begin_20 bp_m4 ?_
      refine wp_iret hX dX5_begin_22 rfl rfl ?_
      exact hp _ _ ⟨rfl, hR0⟩
  · rw [if_pos d] at hp
    refine wp_aload_n hX dX5_begin_8 rfl ?_
    refine wp_cv0 hX dX5_begin_9 mlX5_77 ⟨Nat.le_of_ble_eq_true rfl, Nat.le_of_ble_eq_true rfl⟩ (m_not hA.st d) rfl (Nat.le_of_ble_eq_true rfl) ?_
    refine wp_iret hX dX5_begin_12 rfl rfl ?_
    exact hp _ _ ⟨rfl, hR0⟩
set_option maxHeartbeats 4000000 in
set_option maxRecDepth 100000 in
theorem m_abort (hA : AInv A) (hR : RM A c σ) : MT mdX5_abort [.ref 15] σ (fun r σ1 => r = some (.int (sAbort A).1) ∧ RM (sAbort A).2 c σ1) := by
  obtain ⟨st, ⟨B, W, LG⟩, q, pl, rc, M, tx⟩ := A
  have hR0 := hR
  obtain ⟨op, jp, jr, ep, bt, K, h, bf, z, s, rfl, hh, hup⟩ := hR
  refine mp_of [some (.ref 15)] rfl (Nat.le_of_ble_eq_true rfl) (by decide) (fun X Post hX hp => ?_)
  unfold sAbort at hp
  dsimp only at hp
  refine wp_aload_n hX dX5_abort_0 rfl ?_
  refine wp_get hX dX5_abort_1 flX5_53 rfl rfl ?_
  refine wp_iconst (v := 2) hX dX5_abort_4 ic_2 ?_
  refine wp_icmp_eq (tgt := 13) hX dX5_abort_5 (by decide) (fun d => ?_) (fun d => ?_)
  · subst d
    rw [if_neg (by decide)] at hp
    obtain ⟨u1, u2, u3, u4, u5, u6⟩ := hup rfl
    cases tx with
    | none =>
      have u6 : op = 0 := u6
      subst u6
      refine wp_aload_n hX dX5_abort_13 rfl ?_
      refine wp_get hX dX5_abort_14 flX5_56 rfl rfl ?_
      refine wp_if_ne (tgt := 23) hX dX5_abort_17 (by decide) (fun c_ => absurd (rfl) c_) (fun _ => ?_)
      refine wp_bipush (v := (-3)) hX dX5_abort_20 bp_m3 ?_
      refine wp_iret hX dX5_abort_22 rfl rfl ?_
      exact hp _ _ ⟨rfl, hR0⟩
    | some C =>
      obtain ⟨rfl, hC⟩ := u6
      refine wp_aload_n hX dX5_abort_13 rfl ?_
      refine wp_get hX dX5_abort_14 flX5_56 rfl rfl ?_
      refine wp_if_ne (tgt := 23) hX dX5_abort_17 (by decide) (fun _ => ?_) (fun c_ => absurd c_ (by decide))
      refine wp_aload_n hX dX5_abort_23 rfl ?_
      refine wp_iconst (v := 0) hX dX5_abort_24 ic_0 ?_
      refine wp_put hX dX5_abort_25 fwX5_56 rfl (Nat.le_of_ble_eq_true rfl) rfl rfl ?_
      refine wp_iconst (v := 0) hX dX5_abort_28 ic_0 ?_
      refine wp_iret hX dX5_abort_29 rfl rfl ?_
      exact hp _ _ ⟨rfl, 0, jp, jr, ep, bt, K, h, bf, z, s, rfl, hh, fun _ => ⟨u1, u2, u3, u4, u5, rfl⟩⟩
  · rw [if_pos d] at hp
    refine wp_aload_n hX dX5_abort_8 rfl ?_
    refine wp_cv0 hX dX5_abort_9 mlX5_77 ⟨Nat.le_of_ble_eq_true rfl, Nat.le_of_ble_eq_true rfl⟩ (m_not hA.st d) rfl (Nat.le_of_ble_eq_true rfl) ?_
    refine wp_iret hX dX5_abort_12 rfl rfl ?_
    exact hp _ _ ⟨rfl, hR0⟩
set_option maxHeartbeats 4000000 in
set_option maxRecDepth 100000 in
theorem m_put {k v : Int32} (hA : AInv A) (hR : RM A c σ) : MT mdX5_put [.ref 15, .int k, .int v] σ (fun r σ1 => r = some (.int (sPut A k v).1) ∧ RM (sPut A k v).2 c σ1) := by
  obtain ⟨st, ⟨B, W, LG⟩, q, pl, rc, M, tx⟩ := A
  have hR0 := hR
  obtain ⟨op, jp, jr, ep, bt, K, h, bf, z, s, rfl, hh, hup⟩ := hR
  refine mp_of [some (.ref 15), some (.int k), some (.int v)] rfl (Nat.le_of_ble_eq_true rfl) (by decide) (fun X Post hX hp => ?_)
  unfold sPut at hp
  dsimp only at hp
  refine wp_aload_n hX dX5_put_0 rfl ?_
  refine wp_get hX dX5_put_1 flX5_53 rfl rfl ?_
  refine wp_iconst (v := 2) hX dX5_put_4 ic_2 ?_
  refine wp_icmp_eq (tgt := 13) hX dX5_put_5 (by decide) (fun d => ?_) (fun d => ?_)
  · subst d
    rw [if_neg (by decide)] at hp
    obtain ⟨u1, u2, u3, u4, u5, u6⟩ := hup rfl
    obtain ⟨hMs, hO⟩ := hA.tx
    cases tx with
    | none =>
      have u6 : op = 0 := u6
      subst u6
      refine wp_aload_n hX dX5_put_13 rfl ?_
      refine wp_get hX dX5_put_14 flX5_56 rfl rfl ?_
      refine wp_if_ne (tgt := 23) hX dX5_put_17 (by decide) (fun c_ => absurd (rfl) c_) (fun _ => ?_)
      refine wp_bipush (v := (-3)) hX dX5_put_20 bp_m3 ?_
      refine wp_iret hX dX5_put_22 rfl rfl ?_
      exact hp _ _ ⟨rfl, hR0⟩
    | some C =>
      obtain ⟨rfl, hC⟩ := u6
      obtain ⟨hs, hl⟩ := hO
      dsimp only at hp
      refine wp_aload_n hX dX5_put_13 rfl ?_
      refine wp_get hX dX5_put_14 flX5_56 rfl rfl ?_
      refine wp_if_ne (tgt := 23) hX dX5_put_17 (by decide) (fun _ => ?_) (fun c_ => absurd c_ (by decide))
      refine wp_aload_n hX dX5_put_23 rfl ?_
      refine wp_iload_n hX dX5_put_24 rfl ?_
      refine wp_iconst (v := 0) hX dX5_put_25 ic_0 ?_
      refine wp_iload_n hX dX5_put_26 rfl ?_
      refine wp_cv3p hX dX5_put_27 mlX5_146 ⟨Nat.le_of_ble_eq_true rfl, Nat.le_of_ble_eq_true rfl⟩ (m_change (g := false) (v := v) (by intro y; cases y) hC hs hh) rfl (Nat.le_of_ble_eq_true rfl) ?_
      rintro r1 σ1 ⟨h1, rfl, e1, e2, rfl⟩
      by_cases hf : (lk C k).isSome = false ∧ C.length = 600
      · rw [if_pos hf] at hp ⊢
        rw [e1 hf]
        refine wp_iret hX dX5_put_30 rfl rfl ?_
        exact hp _ _ ⟨rfl, hR0⟩
      · rw [if_neg hf] at hp ⊢
        have e3 := e2 hf
        refine wp_iret hX dX5_put_30 rfl rfl ?_
        refine hp _ _ ⟨rfl, 1, jp, jr, ep, bt, K, h1, bf, z, s, rfl, ?_, fun _ => ⟨u1, u2, u3, u4, u5, rfl, e3⟩⟩
        rw [← e3.1, ins_len C k (false, v) hs]
        cases e : (lk C k).isSome with
        | true => simp; exact hl
        | false =>
          have : ¬ C.length = 600 := fun y => hf ⟨e, y⟩
          simp
          omega
  · rw [if_pos d] at hp
    refine wp_aload_n hX dX5_put_8 rfl ?_
    refine wp_cv0 hX dX5_put_9 mlX5_77 ⟨Nat.le_of_ble_eq_true rfl, Nat.le_of_ble_eq_true rfl⟩ (m_not hA.st d) rfl (Nat.le_of_ble_eq_true rfl) ?_
    refine wp_iret hX dX5_put_12 rfl rfl ?_
    exact hp _ _ ⟨rfl, hR0⟩
set_option maxHeartbeats 4000000 in
set_option maxRecDepth 100000 in
theorem m_remove {k : Int32} (hA : AInv A) (hR : RM A c σ) : MT mdX5_remove [.ref 15, .int k] σ (fun r σ1 => r = some (.int (sRemove A k).1) ∧ RM (sRemove A k).2 c σ1) := by
  obtain ⟨st, ⟨B, W, LG⟩, q, pl, rc, M, tx⟩ := A
  have hR0 := hR
  obtain ⟨op, jp, jr, ep, bt, K, h, bf, z, s, rfl, hh, hup⟩ := hR
  refine mp_of [some (.ref 15), some (.int k)] rfl (Nat.le_of_ble_eq_true rfl) (by decide) (fun X Post hX hp => ?_)
  unfold sRemove at hp
  dsimp only at hp
  refine wp_aload_n hX dX5_remove_0 rfl ?_
  refine wp_get hX dX5_remove_1 flX5_53 rfl rfl ?_
  refine wp_iconst (v := 2) hX dX5_remove_4 ic_2 ?_
  refine wp_icmp_eq (tgt := 13) hX dX5_remove_5 (by decide) (fun d => ?_) (fun d => ?_)
  · subst d
    rw [if_neg (by decide)] at hp
    obtain ⟨u1, u2, u3, u4, u5, u6⟩ := hup rfl
    obtain ⟨hMs, hO⟩ := hA.tx
    have hcap := hA.cap
    have hKl : M.length = K.1 := u5.1
    cases tx with
    | none =>
      have u6 : op = 0 := u6
      subst u6
      refine wp_aload_n hX dX5_remove_13 rfl ?_
      refine wp_get hX dX5_remove_14 flX5_56 rfl rfl ?_
      refine wp_if_ne (tgt := 23) hX dX5_remove_17 (by decide) (fun c_ => absurd (rfl) c_) (fun _ => ?_)
      refine wp_bipush (v := (-3)) hX dX5_remove_20 bp_m3 ?_
      refine wp_iret hX dX5_remove_22 rfl rfl ?_
      exact hp _ _ ⟨rfl, hR0⟩
    | some C =>
      have u7 := u6
      have hO2 := hO
      obtain ⟨rfl, hC⟩ := u6
      obtain ⟨hs, hl⟩ := hO
      dsimp only at hp
      refine wp_aload_n hX dX5_remove_13 rfl ?_
      refine wp_get hX dX5_remove_14 flX5_56 rfl rfl ?_
      refine wp_if_ne (tgt := 23) hX dX5_remove_17 (by decide) (fun _ => ?_) (fun c_ => absurd c_ (by decide))
      refine wp_aload_n hX dX5_remove_23 rfl ?_
      refine wp_iload_n hX dX5_remove_24 rfl ?_
      refine wp_cv1 hX dX5_remove_25 mlX5_150 ⟨Nat.le_of_ble_eq_true rfl, Nat.le_of_ble_eq_true rfl⟩ (m_isSeen u5 hMs (by omega) u7 hO2 hh) rfl (Nat.le_of_ble_eq_true rfl) ?_
      cases hx : (lk (ov M C) k).isSome with
      | false =>
        rw [if_pos hx] at hp
        rw [show (lk (seenT M (some C)) k).isSome = false from hx]
        refine wp_if_ne (tgt := 34) hX dX5_remove_28 (by decide) (fun c_ => absurd (rfl) c_) (fun _ => ?_)
        refine wp_bipush (v := (-5)) hX dX5_remove_31 bp_m5 ?_
        refine wp_iret hX dX5_remove_33 rfl rfl ?_
        exact hp _ _ ⟨rfl, hR0⟩
      | true =>
        rw [if_neg (by rw [hx]; decide)] at hp
        rw [show (lk (seenT M (some C)) k).isSome = true from hx]
        refine wp_if_ne (tgt := 34) hX dX5_remove_28 (by decide) (fun _ => ?_) (fun c_ => absurd c_ (by decide))
        refine wp_aload_n hX dX5_remove_34 rfl ?_
        refine wp_iload_n hX dX5_remove_35 rfl ?_
        refine wp_iconst (v := 1) hX dX5_remove_36 ic_1 ?_
        refine wp_iconst (v := 0) hX dX5_remove_37 ic_0 ?_
        refine wp_cv3p hX dX5_remove_38 mlX5_146 ⟨Nat.le_of_ble_eq_true rfl, Nat.le_of_ble_eq_true rfl⟩ (m_change (g := true) (v := 0) (fun _ => rfl) hC hs hh) rfl (Nat.le_of_ble_eq_true rfl) ?_
        rintro r1 σ1 ⟨h1, rfl, e1, e2, rfl⟩
        by_cases hf : (lk C k).isSome = false ∧ C.length = 600
        · rw [if_pos hf] at hp ⊢
          rw [e1 hf]
          refine wp_iret hX dX5_remove_41 rfl rfl ?_
          exact hp _ _ ⟨rfl, hR0⟩
        · rw [if_neg hf] at hp ⊢
          have e3 := e2 hf
          refine wp_iret hX dX5_remove_41 rfl rfl ?_
          refine hp _ _ ⟨rfl, 1, jp, jr, ep, bt, K, h1, bf, z, s, rfl, ?_, fun _ => ⟨u1, u2, u3, u4, u5, rfl, e3⟩⟩
          rw [← e3.1, ins_len C k (true, 0) hs]
          cases e : (lk C k).isSome with
          | true => simp; exact hl
          | false =>
            have : ¬ C.length = 600 := fun y => hf ⟨e, y⟩
            simp
            omega
  · rw [if_pos d] at hp
    refine wp_aload_n hX dX5_remove_8 rfl ?_
    refine wp_cv0 hX dX5_remove_9 mlX5_77 ⟨Nat.le_of_ble_eq_true rfl, Nat.le_of_ble_eq_true rfl⟩ (m_not hA.st d) rfl (Nat.le_of_ble_eq_true rfl) ?_
    refine wp_iret hX dX5_remove_12 rfl rfl ?_
    exact hp _ _ ⟨rfl, hR0⟩
set_option maxHeartbeats 4000000 in
set_option maxRecDepth 100000 in
theorem m_has {k : Int32} (hA : AInv A) (hR : RM A c σ) : MT mdX5_has [.ref 15, .int k] σ (fun r σ1 => r = some (.int (b2i (sHas A k))) ∧ RM A c σ1) := by
  obtain ⟨st, ⟨B, W, LG⟩, q, pl, rc, M, tx⟩ := A
  have hR0 := hR
  obtain ⟨op, jp, jr, ep, bt, K, h, bf, z, s, rfl, hh, hup⟩ := hR
  refine mp_of [some (.ref 15), some (.int k)] rfl (Nat.le_of_ble_eq_true rfl) (by decide) (fun X Post hX hp => ?_)
  have es : sHas (st, (B, W, LG), q, (pl, rc, M, tx)) k = if st = 2 then (lk (seenT M tx) k).isSome else false := rfl
  rw [es] at hp
  refine wp_aload_n hX dX5_has_0 rfl ?_
  refine wp_get hX dX5_has_1 flX5_53 rfl rfl ?_
  refine wp_iconst (v := 2) hX dX5_has_4 ic_2 ?_
  refine wp_icmp_ne (tgt := 20) hX dX5_has_5 (by decide) (fun d => ?_) (fun d => ?_)
  · rw [if_neg d] at hp
    refine wp_iconst (v := 0) hX dX5_has_20 ic_0 ?_
    refine wp_iret hX dX5_has_21 rfl rfl ?_
    exact hp _ _ ⟨rfl, hR0⟩
  · subst d
    rw [if_pos rfl] at hp
    obtain ⟨u1, u2, u3, u4, u5, u6⟩ := hup rfl
    obtain ⟨hMs, hO⟩ := hA.tx
    have hcap := hA.cap
    have hKl : M.length = K.1 := u5.1
    refine wp_aload_n hX dX5_has_8 rfl ?_
    refine wp_iload_n hX dX5_has_9 rfl ?_
    refine wp_cv1 hX dX5_has_10 mlX5_150 ⟨Nat.le_of_ble_eq_true rfl, Nat.le_of_ble_eq_true rfl⟩ (m_isSeen u5 hMs (by omega) u6 hO hh) rfl (Nat.le_of_ble_eq_true rfl) ?_
    cases hx : (lk (seenT M tx) k).isSome with
    | true =>
      rw [hx] at hp
      refine wp_if_eq (tgt := 20) hX dX5_has_13 (by decide) (fun c_ => absurd c_ (by decide)) (fun _ => ?_)
      refine wp_iconst (v := 1) hX dX5_has_16 ic_1 ?_
      refine wp_goto (tgt := 21) hX dX5_has_17 (by decide) ?_
      refine wp_iret hX dX5_has_21 rfl rfl ?_
      exact hp _ _ ⟨rfl, hR0⟩
    | false =>
      rw [hx] at hp
      refine wp_if_eq (tgt := 20) hX dX5_has_13 (by decide) (fun _ => ?_) (fun c_ => absurd (rfl) c_)
      refine wp_iconst (v := 0) hX dX5_has_20 ic_0 ?_
      refine wp_iret hX dX5_has_21 rfl rfl ?_
      exact hp _ _ ⟨rfl, hR0⟩
set_option maxHeartbeats 4000000 in
set_option maxRecDepth 100000 in
theorem m_get {k : Int32} (hA : AInv A) (hR : RM A c σ) : MT mdX5_get [.ref 15, .int k] σ (fun r σ1 => r = some (.int (sGet A k)) ∧ RM A c σ1) := by
  obtain ⟨st, ⟨B, W, LG⟩, q, pl, rc, M, tx⟩ := A
  have hR0 := hR
  obtain ⟨op, jp, jr, ep, bt, K, h, bf, z, s, rfl, hh, hup⟩ := hR
  refine mp_of [some (.ref 15), some (.int k), none] rfl (Nat.le_of_ble_eq_true rfl) (by decide) (fun X Post hX hp => ?_)
  have es : sGet (st, (B, W, LG), q, (pl, rc, M, tx)) k = if st = 2 then (lk (seenT M tx) k).getD 0 else 0 := rfl
  rw [es] at hp
  refine wp_aload_n hX dX5_get_0 rfl ?_
  refine wp_get hX dX5_get_1 flX5_53 rfl rfl ?_
  refine wp_iconst (v := 2) hX dX5_get_4 ic_2 ?_
  refine wp_icmp_eq (tgt := 10) hX dX5_get_5 (by decide) (fun d => ?_) (fun d => ?_)
  · subst d
    rw [if_pos rfl] at hp
    obtain ⟨u1, u2, u3, u4, u5, u6⟩ := hup rfl
    obtain ⟨hMs, hO⟩ := hA.tx
    have hcap := hA.cap
    have hKl : M.length = K.1 := u5.1
    have hr := rk_b u5 (key := k)
    have base : lk (seenT M tx) k = lk M k → Wp X Post 46 [some (.ref 15), some (.int k), none] [] (wM c B W LG q 2 op jp jr ep bt K h bf z s) := by
      intro e
      rw [e] at hp
      refine wp_aload_n hX dX5_get_46 rfl ?_
      refine wp_iload_n hX dX5_get_47 rfl ?_
      refine wp_cv1 hX dX5_get_48 mlX5_100 ⟨Nat.le_of_ble_eq_true rfl, Nat.le_of_ble_eq_true rfl⟩ (m_at u5 hMs (by omega)) rfl (Nat.le_of_ble_eq_true rfl) ?_
      refine wp_istore_n hX dX5_get_51 (Nat.le_of_ble_eq_true rfl) rfl ?_
      refine wp_iload_n hX dX5_get_52 rfl ?_
      refine wp_aload_n hX dX5_get_53 rfl ?_
      refine wp_get hX dX5_get_54 flX5_97 rfl rfl ?_
      refine wp_icmp_ge (tgt := 79) hX dX5_get_57 (by decide) (fun d => ?_) (fun d => ?_)
      · have d1 := (nI_leI (a := K.1) (b := rk M k) (by omega) (by omega)).mp d
        refine wp_iconst (v := 0) hX dX5_get_79 ic_0 ?_
        refine wp_iret hX dX5_get_80 rfl rfl ?_
        have hn : lk M k = none := some_none (by rw [← ka_has u5 hMs]; exact decide_eq_false (by omega))
        rw [hn] at hp
        exact hp _ _ ⟨rfl, hR0⟩
      · have d1 : rk M k < K.1 := Nat.lt_of_not_le (fun y => d (nI_le y (by omega)))
        refine wp_aload_n hX dX5_get_60 rfl ?_
        refine wp_get hX dX5_get_61 flX5_14 rfl rfl ?_
        refine wp_iload_n hX dX5_get_64 rfl ?_
        refine wp_iald hX dX5_get_65 rfl (vp_in_nI (by omega) (by decide)) ?_
        refine wp_ti (y := (K.2.1 (rk M k))) (by rw [nI_clamp (by omega)]) ?_
        refine wp_iload_n hX dX5_get_66 rfl ?_
        refine wp_icmp_ne (tgt := 79) hX dX5_get_67 (by decide) (fun f => ?_) (fun f => ?_)
        · refine wp_iconst (v := 0) hX dX5_get_79 ic_0 ?_
          refine wp_iret hX dX5_get_80 rfl rfl ?_
          have hn : lk M k = none := some_none (by rw [← ka_has u5 hMs]; exact decide_eq_false (fun y => f y.2))
          rw [hn] at hp
          exact hp _ _ ⟨rfl, hR0⟩
        · have hs1 : (lk M k).isSome = true := by rw [← ka_has u5 hMs]; exact decide_eq_true ⟨d1, f⟩
          obtain ⟨q1, q2, q3⟩ := ka_lk u5 hMs hs1
          rw [q3] at hp
          refine wp_aload_n hX dX5_get_70 rfl ?_
          refine wp_get hX dX5_get_71 flX5_17 rfl rfl ?_
          refine wp_iload_n hX dX5_get_74 rfl ?_
          refine wp_iald hX dX5_get_75 rfl (vp_in_nI (by omega) (by decide)) ?_
          refine wp_goto (tgt := 80) hX dX5_get_76 (by decide) ?_
          rw [nI_clamp (by omega)]
          refine wp_iret hX dX5_get_80 rfl rfl ?_
          exact hp _ _ ⟨rfl, hR0⟩
    cases tx with
    | none =>
      have u7 : op = 0 := u6
      subst u7
      refine wp_aload_n hX dX5_get_10 rfl ?_
      refine wp_iload_n hX dX5_get_11 rfl ?_
      refine wp_cv1 hX dX5_get_12 mlX5_153 ⟨Nat.le_of_ble_eq_true rfl, Nat.le_of_ble_eq_true rfl⟩ (m_isChanged0 rfl hh) rfl (Nat.le_of_ble_eq_true rfl) ?_
      refine wp_if_eq (tgt := 46) hX dX5_get_15 (by decide) (fun _ => ?_) (fun c_ => absurd (rfl) c_)
      exact base rfl
    | some C =>
      obtain ⟨rfl, hC⟩ := u6
      obtain ⟨hs, hl⟩ := hO
      have hCr := hC.rkb (key := k)
      refine wp_aload_n hX dX5_get_10 rfl ?_
      refine wp_iload_n hX dX5_get_11 rfl ?_
      refine wp_cv1 hX dX5_get_12 mlX5_153 ⟨Nat.le_of_ble_eq_true rfl, Nat.le_of_ble_eq_true rfl⟩ (m_isChanged hC hs hh) rfl (Nat.le_of_ble_eq_true rfl) ?_
      cases e : lk C k with
      | none =>
        refine wp_if_eq (tgt := 46) hX dX5_get_15 (by decide) (fun _ => ?_) (fun c_ => absurd (rfl) c_)
        refine base ?_
        show lk (ov M C) k = _
        rw [lk_ov C hMs hs, e]
      | some a =>
        obtain ⟨q1, q2, q3, q4⟩ := hC.look hs e
        have e2 : lk (seenT M (some C)) k = if a.1 then none else some a.2 := by
          show lk (ov M C) k = _
          rw [lk_ov C hMs hs, e]
        rw [e2] at hp
        refine wp_if_eq (tgt := 46) hX dX5_get_15 (by decide) (fun c_ => absurd c_ (show ¬ b2i true = 0 by decide)) (fun _ => ?_)
        refine wp_aload_n hX dX5_get_18 rfl ?_
        refine wp_get hX dX5_get_19 flX5_26 rfl rfl ?_
        refine wp_aload_n hX dX5_get_22 rfl ?_
        refine wp_iload_n hX dX5_get_23 rfl ?_
        refine wp_cv1 hX dX5_get_24 mlX5_107 ⟨Nat.le_of_ble_eq_true rfl, Nat.le_of_ble_eq_true rfl⟩ (m_changeAt hC hs hh) rfl (Nat.le_of_ble_eq_true rfl) ?_
        refine wp_zald hX dX5_get_27 rfl (vp_in_nI (by omega) (by decide)) ?_
        refine wp_ti (y := b2i a.1) (by rw [nI_clamp (by omega)]; exact q4) ?_
        cases ha : a.1 with
        | true =>
          rw [ha] at hp
          refine wp_if_eq (tgt := 35) hX dX5_get_28 (by decide) (fun c_ => absurd c_ (by decide)) (fun _ => ?_)
          refine wp_iconst (v := 0) hX dX5_get_31 ic_0 ?_
          refine wp_goto (tgt := 45) hX dX5_get_32 (by decide) ?_
          refine wp_iret hX dX5_get_45 rfl rfl ?_
          exact hp _ _ ⟨rfl, hR0⟩
        | false =>
          rw [ha] at hp
          refine wp_if_eq (tgt := 35) hX dX5_get_28 (by decide) (fun _ => ?_) (fun c_ => absurd (rfl) c_)
          refine wp_aload_n hX dX5_get_35 rfl ?_
          refine wp_get hX dX5_get_36 flX5_23 rfl rfl ?_
          refine wp_aload_n hX dX5_get_39 rfl ?_
          refine wp_iload_n hX dX5_get_40 rfl ?_
          refine wp_cv1 hX dX5_get_41 mlX5_107 ⟨Nat.le_of_ble_eq_true rfl, Nat.le_of_ble_eq_true rfl⟩ (m_changeAt hC hs hh) rfl (Nat.le_of_ble_eq_true rfl) ?_
          refine wp_iald hX dX5_get_44 rfl (vp_in_nI (by omega) (by decide)) ?_
          rw [nI_clamp (by omega)]
          refine wp_iret hX dX5_get_45 rfl rfl ?_
          exact hp _ _ ⟨by rw [← q3]; rfl, hR0⟩
  · rw [if_neg d] at hp
    refine wp_iconst (v := 0) hX dX5_get_8 ic_0 ?_
    refine wp_iret hX dX5_get_9 rfl rfl ?_
    exact hp _ _ ⟨rfl, hR0⟩
end MP
