/-! BlockStore: the simpler public methods -/
theorem wA_h {B W i : Nat} {D : Nat → Int32} (hB : B ≤ 512) (hB1 : 1 ≤ B) (hW : W ≤ 64) (hi : i < W) : wA B W D 0 (nI i) = D i := by
  have := wA_in (B := B) (W := W) (wf := D) (b := 0) (i := i) hB hW hB1 hi
  rw [Nat.mul_zero, Nat.zero_add] at this
  exact this
theorem KAm.nil {H : MP} (h : H.1 = 0) : KAm [] H := ⟨h.symm, fun i hi => by omega⟩
section PB
variable {A : Ab} {τ σ : aW}
set_option maxHeartbeats 4000000 in
set_option maxRecDepth 100000 in
theorem x_state (hR : RX A τ σ) : MT mdX4_state [.ref 0] σ (fun r σ1 => r = some (.int A.1) ∧ RX A τ σ1) := by
  obtain ⟨st, ⟨B, W, LG⟩, q, pl, rc, M, tx⟩ := A
  obtain ⟨it, pf, jp, jr, tf, C, S, H, rfl, htf, hup⟩ := hR
  refine mp_of [some (.ref 0)] rfl (Nat.le_of_ble_eq_true rfl) (by decide) (fun X Post hX hp => ?_)
  refine wp_aload_n hX dX4_state_0 rfl ?_
  refine wp_get hX dX4_state_1 flX4_47 rfl rfl ?_
  refine wp_iret hX dX4_state_4 rfl rfl ?_
  exact hp _ _ ⟨rfl, it, pf, jp, jr, tf, C, S, H, rfl, htf, hup⟩
set_option maxHeartbeats 4000000 in
set_option maxRecDepth 100000 in
theorem x_power {x : Int32} (hR : RX A τ σ) : MT mdX4_power [.ref 0, .int x] σ (fun r σ1 => r = some (.int (sPower A x).1) ∧ RX (sPower A x).2 τ σ1) := by
  obtain ⟨st, ⟨B, W, LG⟩, q, pl, rc, M, tx⟩ := A
  obtain ⟨it, pf, jp, jr, tf, C, S, H, rfl, htf, hup⟩ := hR
  refine mp_of [some (.ref 0), some (.int x)] rfl (Nat.le_of_ble_eq_true rfl) (by decide) (fun X Post hX hp => ?_)
  unfold sPower at hp
  dsimp only at hp
  refine wp_aload_n hX dX4_power_0 rfl ?_
  refine wp_get hX dX4_power_1 flX4_47 rfl rfl ?_
  refine wp_if_ne (tgt := 10) hX dX4_power_4 (by decide) (fun c => ?_) (fun c => ?_)
  · rw [if_neg c] at hp
    refine wp_aload_n hX dX4_power_10 rfl ?_
    refine wp_get hX dX4_power_11 flX4_10 rfl rfl ?_
    refine wp_iload_n hX dX4_power_14 rfl ?_
    refine wp_cv1 hX dX4_power_15 mlX4_98 ⟨Nat.le_of_ble_eq_true rfl, Nat.le_of_ble_eq_true rfl⟩ (d_arm rfl) rfl (Nat.le_of_ble_eq_true rfl) ?_
    refine wp_iconst (v := 0) hX dX4_power_18 ic_0 ?_
    refine wp_iret hX dX4_power_19 rfl rfl ?_
    exact hp _ _ ⟨rfl, it, pf, jp, jr, tf, C, S, H, rfl, htf, hup⟩
  · rw [if_pos c] at hp
    refine wp_bipush (v := (-7)) hX dX4_power_7 bp_m7 ?_
    refine wp_iret hX dX4_power_9 rfl rfl ?_
    exact hp _ _ ⟨rfl, it, pf, jp, jr, tf, C, S, H, rfl, htf, hup⟩
set_option maxHeartbeats 4000000 in
set_option maxRecDepth 100000 in
theorem x_word {x y : Int32} (hA : AInv A) (hR : RX A τ σ) : MT mdX4_word [.ref 0, .int x, .int y] σ (fun r σ1 => r = some (.int (sWord A x y)) ∧ RX A τ σ1) := by
  obtain ⟨st, ⟨B, W, LG⟩, q, pl, rc, M, tx⟩ := A
  obtain ⟨it, pf, jp, jr, tf, C, S, H, rfl, htf, hup⟩ := hR
  have hg : B ≤ 512 ∧ W ≤ 64 := by
    obtain ⟨-, -, a3, a4, -⟩ := hA
    by_cases h : st = 0
    · obtain ⟨rfl, rfl, -⟩ := a3 h
      decide
    · obtain ⟨⟨g1, g2, g3, g4, -⟩, -⟩ := a4 h
      exact ⟨g2, g4⟩
  refine mp_of [some (.ref 0), some (.int x), some (.int y)] rfl (Nat.le_of_ble_eq_true rfl) (by decide) (fun X Post hX hp => ?_)
  refine wp_aload_n hX dX4_word_0 rfl ?_
  refine wp_get hX dX4_word_1 flX4_10 rfl rfl ?_
  refine wp_iload_n hX dX4_word_4 rfl ?_
  refine wp_iload_n hX dX4_word_5 rfl ?_
  refine wp_cv2 hX dX4_word_6 mlX4_68 ⟨Nat.le_of_ble_eq_true rfl, Nat.le_of_ble_eq_true rfl⟩ (d_wordAt rfl rfl hg.1 hg.2) rfl (Nat.le_of_ble_eq_true rfl) ?_
  refine wp_iret hX dX4_word_9 rfl rfl ?_
  exact hp _ _ ⟨rfl, it, pf, jp, jr, tf, C, S, H, rfl, htf, hup⟩
set_option maxHeartbeats 4000000 in
set_option maxRecDepth 100000 in
theorem x_begin (hR : RX A τ σ) : MT mdX4_begin [.ref 0] σ (fun r σ1 => r = some (.int (sBegin A).1) ∧ RX (sBegin A).2 τ σ1) := by
  obtain ⟨st, ⟨B, W, LG⟩, q, pl, rc, M, tx⟩ := A
  obtain ⟨it, pf, jp, jr, tf, C, S, H, rfl, htf, hup⟩ := hR
  refine mp_of [some (.ref 0)] rfl (Nat.le_of_ble_eq_true rfl) (by decide) (fun X Post hX hp => ?_)
  unfold sBegin at hp
  dsimp only at hp
  refine wp_aload_n hX dX4_begin_0 rfl ?_
  refine wp_get hX dX4_begin_1 flX4_47 rfl rfl ?_
  refine wp_iconst (v := 2) hX dX4_begin_4 ic_2 ?_
  refine wp_icmp_eq (tgt := 13) hX dX4_begin_5 (by decide) (fun c => ?_) (fun c => ?_)
  · subst c
    rw [if_neg (by decide)] at hp
    obtain ⟨u1, u2, u3, u4, u5⟩ := hup rfl
    cases tx with
    | none =>
      obtain ⟨u5, u6⟩ := u5
      refine wp_aload_n hX dX4_begin_13 rfl ?_
      refine wp_get hX dX4_begin_14 flX4_51 rfl rfl ?_
      rw [u5]
      refine wp_if_eq (tgt := 23) hX dX4_begin_17 (by decide) (fun _ => ?_) (fun c_ => absurd (rfl) c_)
      refine wp_aload_n hX dX4_begin_23 rfl ?_
      refine wp_iconst (v := 1) hX dX4_begin_24 ic_1 ?_
      refine wp_put hX dX4_begin_25 fwX4_51 rfl (Nat.le_of_ble_eq_true rfl) rfl rfl ?_
      refine wp_iconst (v := 0) hX dX4_begin_28 ic_0 ?_
      refine wp_iret hX dX4_begin_29 rfl rfl ?_
      exact hp _ _ ⟨rfl, 1, pf, jp, jr, tf, C, S, H, rfl, htf, fun _ => ⟨u1, u2, u3, u4, rfl, KAm.nil u6⟩⟩
    | some CC =>
      obtain ⟨u5, u6⟩ := u5
      refine wp_aload_n hX dX4_begin_13 rfl ?_
      refine wp_get hX dX4_begin_14 flX4_51 rfl rfl ?_
      subst u5
      refine wp_if_eq (tgt := 23) hX dX4_begin_17 (by decide) (fun c_ => absurd c_ (by decide)) (fun _ => ?_)
      refine wp_bipush (v := (-4)) hX dX4_begin_20 bp_m4 ?_
      refine wp_iret hX dX4_begin_22 rfl rfl ?_
      exact hp _ _ ⟨rfl, 1, pf, jp, jr, tf, C, S, H, rfl, htf, fun _ => ⟨u1, u2, u3, u4, rfl, u6⟩⟩
  · rw [if_pos c] at hp
    refine wp_aload_n hX dX4_begin_8 rfl ?_
    refine wp_cv0 hX dX4_begin_9 mlX4_64 ⟨Nat.le_of_ble_eq_true rfl, Nat.le_of_ble_eq_true rfl⟩ (b_refusal) rfl (Nat.le_of_ble_eq_true rfl) ?_
    refine wp_iret hX dX4_begin_12 rfl rfl ?_
    exact hp _ _ ⟨rfl, it, pf, jp, jr, tf, C, S, H, rfl, htf, hup⟩
set_option maxHeartbeats 4000000 in
set_option maxRecDepth 100000 in
theorem x_abort (hA : AInv A) (hR : RX A τ σ) : MT mdX4_abort [.ref 0] σ (fun r σ1 => r = some (.int (sAbort A).1) ∧ RX (sAbort A).2 τ σ1) := by
  obtain ⟨st, ⟨B, W, LG⟩, q, pl, rc, M, tx⟩ := A
  obtain ⟨it, pf, jp, jr, tf, C, S, H, rfl, htf, hup⟩ := hR
  refine mp_of [some (.ref 0)] rfl (Nat.le_of_ble_eq_true rfl) (by decide) (fun X Post hX hp => ?_)
  unfold sAbort at hp
  dsimp only at hp
  refine wp_aload_n hX dX4_abort_0 rfl ?_
  refine wp_get hX dX4_abort_1 flX4_47 rfl rfl ?_
  refine wp_iconst (v := 2) hX dX4_abort_4 ic_2 ?_
  refine wp_icmp_eq (tgt := 13) hX dX4_abort_5 (by decide) (fun c => ?_) (fun c => ?_)
  · subst c
    rw [if_neg (by decide)] at hp
    have hcap := hA.cap
    obtain ⟨u1, u2, u3, u4, u5⟩ := hup rfl
    have hcl : M.length = C.1 := u3.1
    cases tx with
    | none =>
      obtain ⟨u5, u6⟩ := u5
      subst u5
      refine wp_aload_n hX dX4_abort_13 rfl ?_
      refine wp_get hX dX4_abort_14 flX4_51 rfl rfl ?_
      refine wp_if_ne (tgt := 23) hX dX4_abort_17 (by decide) (fun c_ => absurd (rfl) c_) (fun _ => ?_)
      refine wp_bipush (v := (-3)) hX dX4_abort_20 bp_m3 ?_
      refine wp_iret hX dX4_abort_22 rfl rfl ?_
      exact hp _ _ ⟨rfl, 0, pf, jp, jr, tf, C, S, H, rfl, htf, fun _ => ⟨u1, u2, u3, u4, rfl, u6⟩⟩
    | some CC =>
      obtain ⟨u5, u6⟩ := u5
      subst u5
      refine wp_aload_n hX dX4_abort_13 rfl ?_
      refine wp_get hX dX4_abort_14 flX4_51 rfl rfl ?_
      refine wp_if_ne (tgt := 23) hX dX4_abort_17 (by decide) (fun _ => ?_) (fun c_ => absurd c_ (by decide))
      refine wp_aload_n hX dX4_abort_23 rfl ?_
      refine wp_cv0 hX dX4_abort_24 mlX4_139 ⟨Nat.le_of_ble_eq_true rfl, Nat.le_of_ble_eq_true rfl⟩ (b_endTransaction (by omega)) rfl (Nat.le_of_ble_eq_true rfl) ?_
      refine wp_iconst (v := 0) hX dX4_abort_27 ic_0 ?_
      refine wp_iret hX dX4_abort_28 rfl rfl ?_
      exact hp _ _ ⟨rfl, 0, pf, jp, jr, tf, C, _, _, rfl, htf, fun _ => ⟨u1, u2, u3, u3.copy, rfl, rfl⟩⟩
  · rw [if_pos c] at hp
    refine wp_aload_n hX dX4_abort_8 rfl ?_
    refine wp_cv0 hX dX4_abort_9 mlX4_64 ⟨Nat.le_of_ble_eq_true rfl, Nat.le_of_ble_eq_true rfl⟩ (b_refusal) rfl (Nat.le_of_ble_eq_true rfl) ?_
    refine wp_iret hX dX4_abort_12 rfl rfl ?_
    exact hp _ _ ⟨rfl, it, pf, jp, jr, tf, C, S, H, rfl, htf, hup⟩
/-- when the store is up: its maps -/
theorem RX_up {B W LG pl rc : Nat} {q : DQ} {M : PM} {tx : Option CL} (hA : AInv (2, (B, W, LG), q, (pl, rc, M, tx))) : Srt M ∧ Srt (seenT M tx) ∧ M.length ≤ 8100 ∧ (seenT M tx).length ≤ 8700 := by
  have hc := hA.cap
  obtain ⟨-, -, -, -, h5⟩ := hA
  obtain ⟨-, -, -, k3, -, k5⟩ := h5 rfl
  cases tx with
  | none => exact ⟨k3, k3, hc, by show M.length ≤ 8700; omega⟩
  | some C =>
    have := ov_len (M := M) C k3
    exact ⟨k3, ov_srt C k3, hc, by have := k5.2; show (ov M C).length ≤ 8700; omega⟩
set_option maxHeartbeats 4000000 in
set_option maxRecDepth 100000 in
theorem x_get {k : Int32} (hA : AInv A) (hR : RX A τ σ) : MT mdX4_get [.ref 0, .int k] σ (fun r σ1 => r = some (.int (sGet A k)) ∧ RX A τ σ1) := by
  obtain ⟨st, ⟨B, W, LG⟩, q, pl, rc, M, tx⟩ := A
  obtain ⟨it, pf, jp, jr, tf, C, S, H, rfl, htf, hup⟩ := hR
  refine mp_of [some (.ref 0), some (.int k)] rfl (Nat.le_of_ble_eq_true rfl) (by decide) (fun X Post hX hp => ?_)
  unfold sGet smA at hp
  refine wp_aload_n hX dX4_get_0 rfl ?_
  refine wp_get hX dX4_get_1 flX4_47 rfl rfl ?_
  refine wp_iconst (v := 2) hX dX4_get_4 ic_2 ?_
  refine wp_icmp_ne (tgt := 19) hX dX4_get_5 (by decide) (fun c => ?_) (fun c => ?_)
  · rw [if_neg c] at hp
    refine wp_iconst (v := 0) hX dX4_get_19 ic_0 ?_
    refine wp_iret hX dX4_get_20 rfl rfl ?_
    exact hp _ _ ⟨rfl, it, pf, jp, jr, tf, C, S, H, rfl, htf, hup⟩
  · subst c
    obtain ⟨r1, r2, r3, r4⟩ := RX_up hA
    have u4 := (hup rfl).2.2.2.1
    have hl : (seenT M tx).length = S.1 := u4.1
    rw [if_pos rfl] at hp
    refine wp_aload_n hX dX4_get_8 rfl ?_
    refine wp_get hX dX4_get_9 flX4_41 rfl rfl ?_
    refine wp_iload_n hX dX4_get_12 rfl ?_
    refine wp_cv1 hX dX4_get_13 mlX4_156 ⟨Nat.le_of_ble_eq_true rfl, Nat.le_of_ble_eq_true rfl⟩ (k_valueOf rfl rfl rfl (by omega) (by decide) u4 r2) rfl (Nat.le_of_ble_eq_true rfl) ?_
    refine wp_goto (tgt := 20) hX dX4_get_16 (by decide) ?_
    refine wp_iret hX dX4_get_20 rfl rfl ?_
    exact hp _ _ ⟨rfl, it, pf, jp, jr, tf, C, S, H, rfl, htf, hup⟩
set_option maxHeartbeats 4000000 in
set_option maxRecDepth 100000 in
theorem x_has {k : Int32} (hA : AInv A) (hR : RX A τ σ) : MT mdX4_has [.ref 0, .int k] σ (fun r σ1 => r = some (.int (b2i (sHas A k))) ∧ RX A τ σ1) := by
  obtain ⟨st, ⟨B, W, LG⟩, q, pl, rc, M, tx⟩ := A
  obtain ⟨it, pf, jp, jr, tf, C, S, H, rfl, htf, hup⟩ := hR
  refine mp_of [some (.ref 0), some (.int k)] rfl (Nat.le_of_ble_eq_true rfl) (by decide) (fun X Post hX hp => ?_)
  unfold sHas smA at hp
  refine wp_aload_n hX dX4_has_0 rfl ?_
  refine wp_get hX dX4_has_1 flX4_47 rfl rfl ?_
  refine wp_iconst (v := 2) hX dX4_has_4 ic_2 ?_
  refine wp_icmp_ne (tgt := 23) hX dX4_has_5 (by decide) (fun c => ?_) (fun c => ?_)
  · rw [if_neg c] at hp
    refine wp_iconst (v := 0) hX dX4_has_23 ic_0 ?_
    refine wp_iret hX dX4_has_24 rfl rfl ?_
    exact hp _ _ ⟨rfl, it, pf, jp, jr, tf, C, S, H, rfl, htf, hup⟩
  · subst c
    obtain ⟨r1, r2, r3, r4⟩ := RX_up hA
    have u4 := (hup rfl).2.2.2.1
    have hl : (seenT M tx).length = S.1 := u4.1
    rw [if_pos rfl] at hp
    refine wp_aload_n hX dX4_has_8 rfl ?_
    refine wp_get hX dX4_has_9 flX4_41 rfl rfl ?_
    refine wp_iload_n hX dX4_has_12 rfl ?_
    refine wp_cv1 hX dX4_has_13 mlX4_119 ⟨Nat.le_of_ble_eq_true rfl, Nat.le_of_ble_eq_true rfl⟩ (k_holds rfl rfl (by omega) (by decide) u4 r2) rfl (Nat.le_of_ble_eq_true rfl) ?_
    cases hh : (lk (seenT M tx) k).isSome with
    | true =>
      rw [show (lk (seenT ((2 : Int32), (B, W, LG), q, pl, rc, M, tx).2.2.2.2.2.1 ((2 : Int32), (B, W, LG), q, pl, rc, M, tx).2.2.2.2.2.2) k).isSome = true from hh] at hp
      refine wp_if_eq (tgt := 23) hX dX4_has_16 (by decide) (fun c_ => absurd c_ (by decide)) (fun _ => ?_)
      refine wp_iconst (v := 1) hX dX4_has_19 ic_1 ?_
      refine wp_goto (tgt := 24) hX dX4_has_20 (by decide) ?_
      refine wp_iret hX dX4_has_24 rfl rfl ?_
      exact hp _ _ ⟨rfl, it, pf, jp, jr, tf, C, S, H, rfl, htf, hup⟩
    | false =>
      rw [show (lk (seenT ((2 : Int32), (B, W, LG), q, pl, rc, M, tx).2.2.2.2.2.1 ((2 : Int32), (B, W, LG), q, pl, rc, M, tx).2.2.2.2.2.2) k).isSome = false from hh] at hp
      refine wp_if_eq (tgt := 23) hX dX4_has_16 (by decide) (fun _ => ?_) (fun c_ => absurd (rfl) c_)
      refine wp_iconst (v := 0) hX dX4_has_23 ic_0 ?_
      refine wp_iret hX dX4_has_24 rfl rfl ?_
      exact hp _ _ ⟨rfl, it, pf, jp, jr, tf, C, S, H, rfl, htf, hup⟩
set_option maxHeartbeats 4000000 in
set_option maxRecDepth 100000 in
theorem x_size (hA : AInv A) (hR : RX A τ σ) : MT mdX4_size [.ref 0] σ (fun r σ1 => r = some (.int (sSize A)) ∧ RX A τ σ1) := by
  obtain ⟨st, ⟨B, W, LG⟩, q, pl, rc, M, tx⟩ := A
  obtain ⟨it, pf, jp, jr, tf, C, S, H, rfl, htf, hup⟩ := hR
  refine mp_of [some (.ref 0)] rfl (Nat.le_of_ble_eq_true rfl) (by decide) (fun X Post hX hp => ?_)
  unfold sSize smA at hp
  refine wp_aload_n hX dX4_size_0 rfl ?_
  refine wp_get hX dX4_size_1 flX4_47 rfl rfl ?_
  refine wp_iconst (v := 2) hX dX4_size_4 ic_2 ?_
  refine wp_icmp_ne (tgt := 18) hX dX4_size_5 (by decide) (fun c => ?_) (fun c => ?_)
  · rw [if_neg c] at hp
    refine wp_iconst (v := 0) hX dX4_size_18 ic_0 ?_
    refine wp_iret hX dX4_size_19 rfl rfl ?_
    exact hp _ _ ⟨rfl, it, pf, jp, jr, tf, C, S, H, rfl, htf, hup⟩
  · subst c
    have u4 := (hup rfl).2.2.2.1
    have hl : (seenT M tx).length = S.1 := u4.1
    rw [if_pos rfl] at hp
    refine wp_aload_n hX dX4_size_8 rfl ?_
    refine wp_get hX dX4_size_9 flX4_41 rfl rfl ?_
    refine wp_cv0 hX dX4_size_12 mlX4_125 ⟨Nat.le_of_ble_eq_true rfl, Nat.le_of_ble_eq_true rfl⟩ (k_entries rfl) rfl (Nat.le_of_ble_eq_true rfl) ?_
    refine wp_goto (tgt := 19) hX dX4_size_15 (by decide) ?_
    refine wp_iret hX dX4_size_19 rfl rfl ?_
    exact hp _ _ ⟨by rw [← hl], it, pf, jp, jr, tf, C, S, H, rfl, htf, hup⟩
theorem at0_KA {m : PM} {u : Nat} {kf vf : Nat → Int32} (h : KA m u kf vf) (x : Int32) : at0 kf u x = at0 (fun i => (m.getD i (0, 0)).1) m.length x ∧ at0 vf u x = at0 (fun i => (m.getD i (0, 0)).2) m.length x := by
  by_cases hi : vp_in x u
  · rw [at0_in hi, at0_in hi, at0_in (by rw [h.1]; exact hi), at0_in (by rw [h.1]; exact hi)]
    have hlt : x.toNatClampNeg < u := Nat.not_le.mp fun q => hi (Or.inr q)
    show kf _ = (m.getD _ (0, 0)).1 ∧ vf _ = (m.getD _ (0, 0)).2
    rw [KA.getD h hlt]
    exact ⟨rfl, rfl⟩
  · rw [at0_out hi, at0_out hi, at0_out (by rw [h.1]; exact hi), at0_out (by rw [h.1]; exact hi)]
    exact ⟨rfl, rfl⟩
set_option maxHeartbeats 4000000 in
set_option maxRecDepth 100000 in
theorem x_key {x : Int32} (hA : AInv A) (hR : RX A τ σ) : MT mdX4_key [.ref 0, .int x] σ (fun r σ1 => r = some (.int (sKey A x)) ∧ RX A τ σ1) := by
  obtain ⟨st, ⟨B, W, LG⟩, q, pl, rc, M, tx⟩ := A
  obtain ⟨it, pf, jp, jr, tf, C, S, H, rfl, htf, hup⟩ := hR
  refine mp_of [some (.ref 0), some (.int x)] rfl (Nat.le_of_ble_eq_true rfl) (by decide) (fun X Post hX hp => ?_)
  unfold sKey smA at hp
  refine wp_aload_n hX dX4_key_0 rfl ?_
  refine wp_get hX dX4_key_1 flX4_47 rfl rfl ?_
  refine wp_iconst (v := 2) hX dX4_key_4 ic_2 ?_
  refine wp_icmp_ne (tgt := 19) hX dX4_key_5 (by decide) (fun c => ?_) (fun c => ?_)
  · rw [if_neg c] at hp
    refine wp_iconst (v := 0) hX dX4_key_19 ic_0 ?_
    refine wp_iret hX dX4_key_20 rfl rfl ?_
    exact hp _ _ ⟨rfl, it, pf, jp, jr, tf, C, S, H, rfl, htf, hup⟩
  · subst c
    obtain ⟨r1, r2, r3, r4⟩ := RX_up hA
    have u4 := (hup rfl).2.2.2.1
    have hl : (seenT M tx).length = S.1 := u4.1
    rw [if_pos rfl] at hp
    refine wp_aload_n hX dX4_key_8 rfl ?_
    refine wp_get hX dX4_key_9 flX4_41 rfl rfl ?_
    refine wp_iload_n hX dX4_key_12 rfl ?_
    refine wp_cv1 hX dX4_key_13 mlX4_159 ⟨Nat.le_of_ble_eq_true rfl, Nat.le_of_ble_eq_true rfl⟩ (k_keyAt rfl rfl (by omega) (by decide)) rfl (Nat.le_of_ble_eq_true rfl) ?_
    refine wp_goto (tgt := 20) hX dX4_key_16 (by decide) ?_
    refine wp_iret hX dX4_key_20 rfl rfl ?_
    exact hp _ _ ⟨by rw [(at0_KA u4 x).1], it, pf, jp, jr, tf, C, S, H, rfl, htf, hup⟩
theorem sumF_congr {f g : Nat → Int32} {a : Nat} : ∀ n, (∀ i, i < n → f (a + i) = g (a + i)) → sumF f a n = sumF g a n
  | 0, _ => rfl
  | n + 1, h => by
    unfold sumF
    rw [sumF_congr n (fun i hi => h i (by omega)), h n (by omega)]
theorem lk_some_rk {m : PM} (h : Srt m) {y : Int32} (hs : (lk m y).isSome = true) : rk m y < m.length := by
  cases e : lk m y with
  | none => rw [e] at hs; cases hs
  | some v => exact (List.getElem?_eq_some_iff.mp ((lk_some h).mp e)).1
theorem rkB_le {m : PM} (h : Srt m) (y : Int32) : rkB m y ≤ m.length := by
  unfold rkB
  split
  next hs => exact lk_some_rk h hs
  next => exact rk_le m y
set_option maxHeartbeats 4000000 in
set_option maxRecDepth 100000 in
theorem x_sum {x y w : Int32} (hA : AInv A) (hR : RX A τ σ) : MT mdX4_sum [.ref 0, .int x, .int y, .int w] σ (fun r σ1 => r = some (.long (sSum A x y w)) ∧ RX A τ σ1) := by
  obtain ⟨st, ⟨B, W, LG⟩, q, pl, rc, M, tx⟩ := A
  obtain ⟨it, pf, jp, jr, tf, C, S, H, rfl, htf, hup⟩ := hR
  refine mp_of [some (.ref 0), some (.int x), some (.int y), some (.int w), none, none] rfl (Nat.le_of_ble_eq_true rfl) (by decide) (fun X Post hX hp => ?_)
  unfold sSum at hp
  refine wp_aload_n hX dX4_sum_0 rfl ?_
  refine wp_get hX dX4_sum_1 flX4_47 rfl rfl ?_
  refine wp_iconst (v := 2) hX dX4_sum_4 ic_2 ?_
  refine wp_icmp_eq (tgt := 10) hX dX4_sum_5 (by decide) (fun c => ?_) (fun c => ?_)
  · subst c
    obtain ⟨r1, r2, r3, r4⟩ := RX_up hA
    have u4 := (hup rfl).2.2.2.1
    have hl : (seenT M tx).length = S.1 := u4.1
    rw [if_neg (show ¬ ¬ (2 : Int32) = 2 by decide)] at hp
    generalize hm : seenT M tx = m at r2 r4 u4 hl
    rw [show smA ((2 : Int32), (B, W, LG), q, pl, rc, M, tx) = m from hm] at hp
    have b1 := rk_le m x
    have b2 := rkB_le r2 y
    refine wp_aload_n hX dX4_sum_10 rfl ?_
    refine wp_get hX dX4_sum_11 flX4_41 rfl rfl ?_
    refine wp_iload_n hX dX4_sum_14 rfl ?_
    refine wp_cv1 hX dX4_sum_15 mlX4_162 ⟨Nat.le_of_ble_eq_true rfl, Nat.le_of_ble_eq_true rfl⟩ (k_placeOf rfl rfl (by omega) (by decide) u4 r2) rfl (Nat.le_of_ble_eq_true rfl) ?_
    refine wp_istore hX dX4_sum_18 (Nat.le_of_ble_eq_true rfl) rfl ?_
    refine wp_aload_n hX dX4_sum_20 rfl ?_
    refine wp_get hX dX4_sum_21 flX4_41 rfl rfl ?_
    refine wp_iload_n hX dX4_sum_24 rfl ?_
    refine wp_cv1 hX dX4_sum_25 mlX4_165 ⟨Nat.le_of_ble_eq_true rfl, Nat.le_of_ble_eq_true rfl⟩ (k_placeBehind rfl rfl (by omega) (by decide) u4 r2) rfl (Nat.le_of_ble_eq_true rfl) ?_
    rw [show (if (lk m y).isSome = true then rk m y + 1 else rk m y) = rkB m y from rfl]
    refine wp_istore hX dX4_sum_28 (Nat.le_of_ble_eq_true rfl) rfl ?_
    refine wp_iload hX dX4_sum_30 rfl ?_
    refine wp_iload hX dX4_sum_32 rfl ?_
    refine wp_icmp_lt (tgt := 39) hX dX4_sum_34 (by decide) (fun d => ?_) (fun d => ?_)
    · have d1 := (nI_ltI (a := rk m x) (b := rkB m y) (by omega) (by omega)).mp d
      rw [if_neg (by omega)] at hp
      refine wp_iload_n hX dX4_sum_39 rfl ?_
      by_cases w0 : w = 0
      · subst w0
        rw [if_pos rfl] at hp
        refine wp_tableIn (off := 32) (tgt := 72) hX dX4_sum_40 (by decide) (by decide) (by decide) (by decide) ?_
        refine wp_iload hX dX4_sum_72 rfl ?_
        refine wp_iload hX dX4_sum_74 rfl ?_
        refine wp_isub hX dX4_sum_76 ?_
        refine wp_ti (y := (nI (rkB m y - rk m x))) (pk_sub (by omega)) ?_
        refine wp_i2l hX dX4_sum_77 ?_
        refine wp_lret hX dX4_sum_78 rfl ?_
        exact hp _ _ ⟨rfl, it, pf, jp, jr, tf, C, S, H, rfl, htf, hup⟩
      · rw [if_neg w0] at hp
        by_cases w1 : w = 1
        · subst w1
          rw [if_pos rfl] at hp
          refine wp_tableIn (off := 39) (tgt := 79) hX dX4_sum_40 (by decide) (by decide) (by decide) (by decide) ?_
          refine wp_aload_n hX dX4_sum_79 rfl ?_
          refine wp_get hX dX4_sum_80 flX4_41 rfl rfl ?_
          refine wp_iload hX dX4_sum_83 rfl ?_
          refine wp_iload hX dX4_sum_85 rfl ?_
          refine wp_cv2 hX dX4_sum_87 mlX4_168 ⟨Nat.le_of_ble_eq_true rfl, Nat.le_of_ble_eq_true rfl⟩ (k_sumOfValues rfl rfl (by omega) (by decide) (by omega) (by omega)) rfl (Nat.le_of_ble_eq_true rfl) ?_
          refine wp_lret hX dX4_sum_90 rfl ?_
          refine hp _ _ ⟨?_, it, pf, jp, jr, tf, C, S, H, rfl, htf, hup⟩
          rw [sumF_congr (f := fun i => (m.getD i (0, 0)).2) (g := S.2.2) _ (fun i hi => by rw [KA.getD u4 (by omega)])]
        · rw [if_neg w1] at hp
          by_cases w2 : w = 2
          · subst w2
            rw [if_pos rfl] at hp
            refine wp_tableIn (off := 51) (tgt := 91) hX dX4_sum_40 (by decide) (by decide) (by decide) (by decide) ?_
            refine wp_aload_n hX dX4_sum_91 rfl ?_
            refine wp_get hX dX4_sum_92 flX4_41 rfl rfl ?_
            refine wp_iload hX dX4_sum_95 rfl ?_
            refine wp_cv1 hX dX4_sum_97 mlX4_159 ⟨Nat.le_of_ble_eq_true rfl, Nat.le_of_ble_eq_true rfl⟩ (k_keyAt rfl rfl (by omega) (by decide)) rfl (Nat.le_of_ble_eq_true rfl) ?_
            rw [at0_nI (by omega), if_pos (by omega)]
            refine wp_i2l hX dX4_sum_100 ?_
            refine wp_lret hX dX4_sum_101 rfl ?_
            exact hp _ _ ⟨by rw [KA.getD u4 (by omega)], it, pf, jp, jr, tf, C, S, H, rfl, htf, hup⟩
          · rw [if_neg w2] at hp
            by_cases w3 : w = 3
            · subst w3
              rw [if_pos rfl] at hp
              refine wp_tableIn (off := 62) (tgt := 102) hX dX4_sum_40 (by decide) (by decide) (by decide) (by decide) ?_
              refine wp_aload_n hX dX4_sum_102 rfl ?_
              refine wp_get hX dX4_sum_103 flX4_41 rfl rfl ?_
              refine wp_iload hX dX4_sum_106 rfl ?_
              refine wp_iconst (v := 1) hX dX4_sum_108 ic_1 ?_
              refine wp_isub hX dX4_sum_109 ?_
              refine wp_ti (y := (nI (rkB m y - 1))) (pk_sub (b := 1) (by omega)) ?_
              refine wp_cv1 hX dX4_sum_110 mlX4_159 ⟨Nat.le_of_ble_eq_true rfl, Nat.le_of_ble_eq_true rfl⟩ (k_keyAt rfl rfl (by omega) (by decide)) rfl (Nat.le_of_ble_eq_true rfl) ?_
              rw [at0_nI (by omega), if_pos (by omega)]
              refine wp_i2l hX dX4_sum_113 ?_
              refine wp_lret hX dX4_sum_114 rfl ?_
              exact hp _ _ ⟨by rw [KA.getD u4 (by omega)], it, pf, jp, jr, tf, C, S, H, rfl, htf, hup⟩
            · rw [if_neg w3] at hp
              have ho : w.toInt < 0 ∨ 3 < w.toInt := by
                rw [ieq] at w0 w1 w2 w3
                rw [show (0 : Int32).toInt = 0 from rfl] at w0
                rw [show (1 : Int32).toInt = 1 from rfl] at w1
                rw [show (2 : Int32).toInt = 2 from rfl] at w2
                rw [show (3 : Int32).toInt = 3 from rfl] at w3
                omega
              refine wp_tableOut (tgt := 115) hX dX4_sum_40 ho (by decide) ?_
              refine wp_lconst (v := 0) hX dX4_sum_115 lc_0 ?_
              refine wp_lret hX dX4_sum_116 rfl ?_
              exact hp _ _ ⟨rfl, it, pf, jp, jr, tf, C, S, H, rfl, htf, hup⟩
    · have d1 : rkB m y ≤ rk m x := Nat.le_of_not_lt (fun z => d (nI_lt z (by omega)))
      rw [if_pos d1] at hp
      refine wp_lconst (v := 0) hX dX4_sum_37 lc_0 ?_
      refine wp_lret hX dX4_sum_38 rfl ?_
      exact hp _ _ ⟨rfl, it, pf, jp, jr, tf, C, S, H, rfl, htf, hup⟩
  · rw [if_pos c] at hp
    refine wp_lconst (v := 0) hX dX4_sum_8 lc_0 ?_
    refine wp_lret hX dX4_sum_9 rfl ?_
    exact hp _ _ ⟨rfl, it, pf, jp, jr, tf, C, S, H, rfl, htf, hup⟩
end PB
