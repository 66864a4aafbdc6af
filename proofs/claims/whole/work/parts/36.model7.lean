/-! the reference: size, key, sum -/
section MO
variable {c : Nat → aE} {B W LG : Nat} {q : DQ} {st op : Int32} {pl rc : Nat} {ep bt : Int32} {K : MP} {h : HQ} {bf : Nat → Int32} {z : ZQ} {s : SQ}
set_option maxRecDepth 100000 in
theorem m_beginSeen : MD1 mdX5_beginSeen [.ref 15] (wM c B W LG q st op pl rc ep bt K h bf z s) none (wM c B W LG q st op pl rc ep bt K h bf z (s.1, s.2.1, s.2.2.1, 0, 0)) := by
  refine md_of [some (.ref 15)] rfl (Nat.le_of_ble_eq_true rfl) (by decide) (fun X Post hX hp => ?_)
  refine wp_aload_n hX dX5_beginSeen_0 rfl ?_
  refine wp_iconst (v := 0) hX dX5_beginSeen_1 ic_0 ?_
  refine wp_put hX dX5_beginSeen_2 fwX5_165 rfl (Nat.le_of_ble_eq_true rfl) rfl rfl ?_
  refine wp_aload_n hX dX5_beginSeen_5 rfl ?_
  refine wp_iconst (v := 0) hX dX5_beginSeen_6 ic_0 ?_
  refine wp_put hX dX5_beginSeen_7 fwX5_168 rfl (Nat.le_of_ble_eq_true rfl) rfl rfl ?_
  refine wp_vret hX dX5_beginSeen_10 rfl ?_
  exact hp
end MO
theorem TXM.tc {op : Int32} {h : HQ} {tx : Option CL} (hT : TXM op h tx) (hO : TxOK tx) : TXC op h (tx.getD []) ∧ Srt (tx.getD []) ∧ ∀ M, seenT M tx = ov M (tx.getD []) := by
  cases tx with
  | none => exact ⟨Or.inl ⟨hT, rfl⟩, List.Pairwise.nil, fun _ => rfl⟩
  | some C => exact ⟨Or.inr hT, hO.1, fun _ => rfl⟩
/-- one more of what is seen: at place i of the list l -/
theorem m_step {c : Nat → aE} {B W LG : Nat} {q : DQ} {st op : Int32} {pl rc : Nat} {ep bt : Int32} {K : MP} {h : HQ} {bf : Nat → Int32} {z : ZQ} {s1 s2 s3 : Int32} {M : PM} {C : CL} {a j i : Nat} {l : PM} (hK : KAm M K) (hM : Srt M) (hu : K.1 ≤ 12000) (hT : TXC op h C) (hs : Srt C) (hh : h.1 ≤ 600) (ha : a ≤ M.length) (hj : j ≤ C.length) (hl : l.drop i = ov (M.drop a) (C.drop j)) :
    MT mdX5_next [.ref 15] (wM c B W LG q st op pl rc ep bt K h bf z (s1, s2, s3, a, j)) (fun r σ1 => ∃ s2' s3' a' j', a' ≤ M.length ∧ j' ≤ C.length ∧ σ1 = wM c B W LG q st op pl rc ep bt K h bf z (s1, s2', s3', a', j') ∧ ((l.length ≤ i ∧ r = some (.int 0)) ∨ (i < l.length ∧ r = some (.int 1) ∧ l[i]? = some (s2', s3') ∧ l.drop (i + 1) = ov (M.drop a') (C.drop j')))) := by
  refine mt_post (m_next hK hM hu hT hs hh ha hj) ?_
  rintro r σ1 ⟨s2', s3', a', j', h1, h2, h3, h4⟩
  refine ⟨s2', s3', a', j', h1, h2, h3, ?_⟩
  rw [← hl] at h4
  rcases h4 with ⟨h4, h5⟩ | ⟨h4, h5⟩
  · exact Or.inl ⟨List.drop_eq_nil_iff.mp h4, h5⟩
  · have hi : i < l.length := by
      rcases Nat.lt_or_ge i l.length with y | y
      · exact y
      · rw [List.drop_eq_nil_of_le y] at h5; cases h5
    refine Or.inr ⟨hi, h4, ?_, ?_⟩
    · rw [List.drop_eq_getElem_cons hi] at h5
      rw [List.getElem?_eq_getElem hi, (List.cons.inj h5).1]
    · rw [List.drop_eq_getElem_cons hi] at h5
      exact (List.cons.inj h5).2
section MP
variable {A : Ab} {c : Nat → aE} {σ : aW}
set_option maxHeartbeats 4000000 in
set_option maxRecDepth 100000 in
theorem m_size (hA : AInv A) (hR : RM A c σ) : MT mdX5_size [.ref 15] σ (fun r σ1 => r = some (.int (sSize A)) ∧ RM A c σ1) := by
  obtain ⟨st, ⟨B, W, LG⟩, q, pl, rc, M, tx⟩ := A
  have hR0 := hR
  obtain ⟨op, jp, jr, ep, bt, K, h, bf, z, s, rfl, hh, hup⟩ := hR
  refine mp_of [some (.ref 15)] rfl (Nat.le_of_ble_eq_true rfl) (by decide) (fun X Post hX hp => ?_)
  have es : sSize (st, (B, W, LG), q, (pl, rc, M, tx)) = if st = 2 then nI (seenT M tx).length else 0 := rfl
  rw [es] at hp
  refine wp_aload_n hX dX5_size_0 rfl ?_
  refine wp_get hX dX5_size_1 flX5_53 rfl rfl ?_
  refine wp_iconst (v := 2) hX dX5_size_4 ic_2 ?_
  refine wp_icmp_eq (tgt := 10) hX dX5_size_5 (by decide) (fun d => ?_) (fun d => ?_)
  · subst d
    rw [if_pos rfl] at hp
    have hup2 := hup rfl
    obtain ⟨u1, u2, u3, u4, u5, u6⟩ := hup2
    obtain ⟨hMs, hO⟩ := hA.tx
    have hcap := hA.cap
    have hKl : M.length = K.1 := u5.1
    obtain ⟨t1, t2, t3⟩ := u6.tc hO
    rw [t3] at hp
    generalize hCC : tx.getD [] = C at t1 t2 t3 hp
    have loop : ∀ (n i a j : Nat) (s2 s3 : Int32), i + n = (ov M C).length → a ≤ M.length → j ≤ C.length → (ov M C).drop i = ov (M.drop a) (C.drop j) → Wp X Post 19 [some (.ref 15)] [] (wM c B W LG q 2 op jp jr ep bt K h bf z (nI i, s2, s3, a, j)) := by
      intro n
      induction n with
      | zero =>
        intro i a j s2 s3 hi ha hj hd
        refine wp_aload_n hX dX5_size_19 rfl ?_
        refine wp_cv0p hX dX5_size_20 mlX5_183 ⟨Nat.le_of_ble_eq_true rfl, Nat.le_of_ble_eq_true rfl⟩ (m_step u5 hMs (by omega) t1 t2 hh ha hj hd) rfl (Nat.le_of_ble_eq_true rfl) ?_
        rintro r1 σ1 ⟨s2', s3', a', j', h1, h2, rfl, h4⟩
        rcases h4 with ⟨h4, rfl⟩ | ⟨h4, -⟩
        · refine wp_if_eq (tgt := 39) hX dX5_size_23 (by decide) (fun _ => ?_) (fun c_ => absurd (rfl) c_)
          refine wp_aload_n hX dX5_size_39 rfl ?_
          refine wp_get hX dX5_size_40 flX5_177 rfl rfl ?_
          refine wp_iret hX dX5_size_43 rfl rfl ?_
          exact hp _ _ ⟨by rw [show (ov M C).length = i by omega], op, jp, jr, ep, bt, K, h, bf, z, _, rfl, hh, hup⟩
        · omega
      | succ n ih =>
        intro i a j s2 s3 hi ha hj hd
        refine wp_aload_n hX dX5_size_19 rfl ?_
        refine wp_cv0p hX dX5_size_20 mlX5_183 ⟨Nat.le_of_ble_eq_true rfl, Nat.le_of_ble_eq_true rfl⟩ (m_step u5 hMs (by omega) t1 t2 hh ha hj hd) rfl (Nat.le_of_ble_eq_true rfl) ?_
        rintro r1 σ1 ⟨s2', s3', a', j', h1, h2, rfl, h4⟩
        rcases h4 with ⟨h4, -⟩ | ⟨h4, rfl, h5, h6⟩
        · omega
        · refine wp_if_eq (tgt := 39) hX dX5_size_23 (by decide) (fun c_ => absurd c_ (by decide)) (fun _ => ?_)
          refine wp_aload_n hX dX5_size_26 rfl ?_
          refine wp_dup hX dX5_size_27 rfl ?_
          refine wp_get hX dX5_size_28 flX5_177 rfl rfl ?_
          refine wp_iconst (v := 1) hX dX5_size_31 ic_1 ?_
          refine wp_iadd hX dX5_size_32 ?_
          refine wp_ti (y := (nI (i + 1))) (nI_1 i) ?_
          refine wp_put hX dX5_size_33 fwX5_177 rfl (Nat.le_of_ble_eq_true rfl) rfl rfl ?_
          refine wp_goto (tgt := 19) hX dX5_size_36 (by decide) ?_
          exact ih (i + 1) a' j' s2' s3' (by omega) h1 h2 h6
    refine wp_aload_n hX dX5_size_10 rfl ?_
    refine wp_iconst (v := 0) hX dX5_size_11 ic_0 ?_
    refine wp_put hX dX5_size_12 fwX5_177 rfl (Nat.le_of_ble_eq_true rfl) rfl rfl ?_
    refine wp_aload_n hX dX5_size_15 rfl ?_
    refine wp_cv0 hX dX5_size_16 mlX5_180 ⟨Nat.le_of_ble_eq_true rfl, Nat.le_of_ble_eq_true rfl⟩ (m_beginSeen (s := (0, s.2))) rfl (Nat.le_of_ble_eq_true rfl) ?_
    exact loop (ov M C).length 0 0 0 s.2.1 s.2.2.1 (by omega) (by omega) (by omega) rfl
  · rw [if_neg d] at hp
    refine wp_iconst (v := 0) hX dX5_size_8 ic_0 ?_
    refine wp_iret hX dX5_size_9 rfl rfl ?_
    exact hp _ _ ⟨rfl, hR0⟩
set_option maxHeartbeats 4000000 in
set_option maxRecDepth 100000 in
theorem m_key {x : Int32} (hA : AInv A) (hR : RM A c σ) : MT mdX5_key [.ref 15, .int x] σ (fun r σ1 => r = some (.int (sKey A x)) ∧ RM A c σ1) := by
  obtain ⟨st, ⟨B, W, LG⟩, q, pl, rc, M, tx⟩ := A
  have hR0 := hR
  obtain ⟨op, jp, jr, ep, bt, K, h, bf, z, s, rfl, hh, hup⟩ := hR
  refine mp_of [some (.ref 15), some (.int x), none] rfl (Nat.le_of_ble_eq_true rfl) (by decide) (fun X Post hX hp => ?_)
  have es : sKey (st, (B, W, LG), q, (pl, rc, M, tx)) x = if st = 2 then at0 (fun i => ((seenT M tx).getD i (0, 0)).1) (seenT M tx).length x else 0 := rfl
  rw [es] at hp
  refine wp_aload_n hX dX5_key_0 rfl ?_
  refine wp_get hX dX5_key_1 flX5_53 rfl rfl ?_
  refine wp_iconst (v := 2) hX dX5_key_4 ic_2 ?_
  refine wp_icmp_ne (tgt := 12) hX dX5_key_5 (by decide) (fun d => ?_) (fun d => ?_)
  · rw [if_neg d] at hp
    refine wp_iconst (v := 0) hX dX5_key_12 ic_0 ?_
    refine wp_iret hX dX5_key_13 rfl rfl ?_
    exact hp _ _ ⟨rfl, hR0⟩
  · subst d
    rw [if_pos rfl] at hp
    obtain ⟨r1, r2, r3, r4⟩ := RX_up hA
    refine wp_iload_n hX dX5_key_8 rfl ?_
    refine wp_if_ge (tgt := 14) hX dX5_key_9 (by decide) (fun d => ?_) (fun d => ?_)
    · have hup2 := hup rfl
      obtain ⟨u1, u2, u3, u4, u5, u6⟩ := hup2
      obtain ⟨hMs, hO⟩ := hA.tx
      have hKl : M.length = K.1 := u5.1
      obtain ⟨t1, t2, t3⟩ := u6.tc hO
      rw [t3] at hp r4
      generalize hCC : tx.getD [] = C at t1 t2 t3 hp r4
      obtain ⟨y, hy, rfl⟩ := nI_of (Int32.not_lt.mpr d)
      rw [at0_nI hy] at hp
      have loop : ∀ (n i a j : Nat) (s2 s3 : Int32), i + n = (ov M C).length → i ≤ y → a ≤ M.length → j ≤ C.length → (ov M C).drop i = ov (M.drop a) (C.drop j) → Wp X Post 20 [some (.ref 15), some (.int (nI y)), some (.int (nI i))] [] (wM c B W LG q 2 op jp jr ep bt K h bf z (s.1, s2, s3, a, j)) := by
        intro n
        induction n with
        | zero =>
          intro i a j s2 s3 hi hiy ha hj hd
          refine wp_aload_n hX dX5_key_20 rfl ?_
          refine wp_cv0p hX dX5_key_21 mlX5_183 ⟨Nat.le_of_ble_eq_true rfl, Nat.le_of_ble_eq_true rfl⟩ (m_step u5 hMs (by omega) t1 t2 hh ha hj hd) rfl (Nat.le_of_ble_eq_true rfl) ?_
          rintro r1 σ1 ⟨s2', s3', a', j', h1, h2, rfl, h4⟩
          rcases h4 with ⟨h4, rfl⟩ | ⟨h4, -⟩
          · rw [if_neg (by omega)] at hp
            refine wp_if_eq (tgt := 43) hX dX5_key_24 (by decide) (fun _ => ?_) (fun c_ => absurd (rfl) c_)
            refine wp_iconst (v := 0) hX dX5_key_43 ic_0 ?_
            refine wp_iret hX dX5_key_44 rfl rfl ?_
            exact hp _ _ ⟨rfl, op, jp, jr, ep, bt, K, h, bf, z, _, rfl, hh, hup⟩
          · omega
        | succ n ih =>
          intro i a j s2 s3 hi hiy ha hj hd
          refine wp_aload_n hX dX5_key_20 rfl ?_
          refine wp_cv0p hX dX5_key_21 mlX5_183 ⟨Nat.le_of_ble_eq_true rfl, Nat.le_of_ble_eq_true rfl⟩ (m_step u5 hMs (by omega) t1 t2 hh ha hj hd) rfl (Nat.le_of_ble_eq_true rfl) ?_
          rintro r1 σ1 ⟨s2', s3', a', j', h1, h2, rfl, h4⟩
          rcases h4 with ⟨h4, -⟩ | ⟨h4, rfl, h5, h6⟩
          · omega
          · refine wp_if_eq (tgt := 43) hX dX5_key_24 (by decide) (fun c_ => absurd c_ (by decide)) (fun _ => ?_)
            refine wp_iload_n hX dX5_key_27 rfl ?_
            refine wp_iload_n hX dX5_key_28 rfl ?_
            refine wp_icmp_ne (tgt := 37) hX dX5_key_29 (by decide) (fun f => ?_) (fun f => ?_)
            · refine wp_iinc hX dX5_key_37 ic_1 rfl (Nat.le_of_ble_eq_true rfl) rfl ?_
              refine wp_goto (tgt := 20) hX dX5_key_40 (by decide) ?_
              rw [nI_1]
              exact ih (i + 1) a' j' s2' s3' (by omega) (by
                have : ¬ i = y := fun e => f (by rw [e])
                omega) h1 h2 h6
            · have f1 := (nI_eq (a := i) (b := y) (by omega) hy).mp f
              subst f1
              rw [if_pos h4] at hp
              refine wp_aload_n hX dX5_key_32 rfl ?_
              refine wp_get hX dX5_key_33 flX5_171 rfl rfl ?_
              refine wp_iret hX dX5_key_36 rfl rfl ?_
              refine hp _ _ ⟨?_, op, jp, jr, ep, bt, K, h, bf, z, _, rfl, hh, hup⟩
              rw [List.getD_eq_getElem?_getD, h5]
              rfl
      refine wp_aload_n hX dX5_key_14 rfl ?_
      refine wp_cv0 hX dX5_key_15 mlX5_180 ⟨Nat.le_of_ble_eq_true rfl, Nat.le_of_ble_eq_true rfl⟩ (m_beginSeen) rfl (Nat.le_of_ble_eq_true rfl) ?_
      refine wp_iconst (v := 0) hX dX5_key_18 ic_0 ?_
      refine wp_istore_n hX dX5_key_19 (Nat.le_of_ble_eq_true rfl) rfl ?_
      exact loop (ov M C).length 0 0 0 s.2.1 s.2.2.1 (by omega) (by omega) (by omega) (by omega) rfl
    · have hx : ¬ vp_in x (seenT M tx).length := fun y => y (Or.inl (Int32.not_le.mp d))
      rw [at0_out hx] at hp
      refine wp_iconst (v := 0) hX dX5_key_12 ic_0 ?_
      refine wp_iret hX dX5_key_13 rfl rfl ?_
      exact hp _ _ ⟨rfl, hR0⟩
theorem rkB_lt {m : PM} (hs : Srt m) {y : Int32} {i : Nat} {x : Int32 × Int32} (hx : m[i]? = some x) : (i < rkB m y ↔ x.1 ≤ y) := by
  unfold rkB
  cases e : lk m y with
  | none =>
    simp only [Option.isSome_none, Bool.false_eq_true, if_false]
    constructor
    · intro h
      have := rk_lt m y i h x hx
      rw [ilt] at this
      rw [ile]
      omega
    · intro h
      rcases Nat.lt_or_ge i (rk m y) with g | g
      · exact g
      · have h1 := rk_ge hs g hx
        have h2 : x.1 = y := by rw [ilt] at h1; rw [ile] at h; rw [ieq]; omega
        obtain ⟨x1, x2⟩ := x
        dsimp only at h2
        subst h2
        rw [(lk_mem hs hx).1] at e
        cases e
  | some v =>
    simp only [Option.isSome_some, if_true]
    have h3 := (lk_some hs).mp e
    constructor
    · intro h
      rcases Nat.lt_or_ge i (rk m y) with g | g
      · have := rk_lt m y i g x hx
        rw [ilt] at this
        rw [ile]
        omega
      · have : i = rk m y := by omega
        subst this
        rw [h3] at hx
        cases hx
        show y ≤ y
        rw [ile]
        omega
    · intro h
      rcases Nat.lt_or_ge (rk m y) i with g | g
      · have := srt_get hs g h3 hx
        rw [ilt] at this
        rw [ile] at h
        dsimp only at this
        omega
      · omega
theorem rk_lti {m : PM} (hs : Srt m) {y : Int32} {i : Nat} {x : Int32 × Int32} (hx : m[i]? = some x) : (i < rk m y ↔ x.1 < y) := by
  constructor
  · intro h
    exact rk_lt m y i h x hx
  · intro h
    rcases Nat.lt_or_ge i (rk m y) with g | g
    · exact g
    · exact absurd h (rk_ge hs g hx)
theorem lc_ne {n : Nat} (hn : n < 2 ^ 31) : lg_cmp (lN n) 0 = 0 ↔ n = 0 := by
  have e0 : (0 : Int64) = lN 0 := rfl
  unfold lg_cmp
  rw [e0]
  by_cases h : n = 0
  · subst h; simp
  · have h1 : lN 0 < lN n := (lN_lt (by decide) hn).mpr (by omega)
    rw [if_pos h1]
    simp [h]
set_option maxHeartbeats 8000000 in
set_option maxRecDepth 100000 in
theorem m_sum {x y w : Int32} (hA : AInv A) (hR : RM A c σ) : MT mdX5_sum [.ref 15, .int x, .int y, .int w] σ (fun r σ1 => r = some (.long (sSum A x y w)) ∧ RM A c σ1) := by
  obtain ⟨st, ⟨B, W, LG⟩, q, pl, rc, M, tx⟩ := A
  have hR0 := hR
  obtain ⟨op, jp, jr, ep, bt, K, h, bf, z, s, rfl, hh, hup⟩ := hR
  refine mp_of [some (.ref 15), some (.int x), some (.int y), some (.int w), none, none, none, none, none, none] rfl (Nat.le_of_ble_eq_true rfl) (by decide) (fun X Post hX hp => ?_)
  have zero : sSum (st, (B, W, LG), q, (pl, rc, M, tx)) x y w = 0 → Wp X Post 17 [some (.ref 15), some (.int x), some (.int y), some (.int w), none, none, none, none, none, none] [] (wM c B W LG q st op jp jr ep bt K h bf z s) := by
    intro e
    rw [e] at hp
    refine wp_lconst (v := 0) hX dX5_sum_17 lc_0 ?_
    refine wp_lret hX dX5_sum_18 rfl ?_
    exact hp _ _ ⟨rfl, hR0⟩
  have ew : ∀ n : Int, (w.toInt = n) → n < 0 ∨ 3 < n → sSum (st, (B, W, LG), q, (pl, rc, M, tx)) x y w = 0 := by
    intro n hn ho
    unfold sSum
    have w0 : ¬ w = 0 := fun e => by rw [e] at hn; rw [show (0 : Int32).toInt = 0 from rfl] at hn; omega
    have w1 : ¬ w = 1 := fun e => by rw [e] at hn; rw [show (1 : Int32).toInt = 1 from rfl] at hn; omega
    have w2 : ¬ w = 2 := fun e => by rw [e] at hn; rw [show (2 : Int32).toInt = 2 from rfl] at hn; omega
    have w3 : ¬ w = 3 := fun e => by rw [e] at hn; rw [show (3 : Int32).toInt = 3 from rfl] at hn; omega
    rw [if_neg w0, if_neg w1, if_neg w2, if_neg w3]
    split
    · rfl
    · split <;> rfl
  refine wp_aload_n hX dX5_sum_0 rfl ?_
  refine wp_get hX dX5_sum_1 flX5_53 rfl rfl ?_
  refine wp_iconst (v := 2) hX dX5_sum_4 ic_2 ?_
  refine wp_icmp_ne (tgt := 17) hX dX5_sum_5 (by decide) (fun d => ?_) (fun d => ?_)
  · exact zero (by unfold sSum; rw [if_pos d])
  · subst d
    refine wp_iload_n hX dX5_sum_8 rfl ?_
    refine wp_if_lt (tgt := 17) hX dX5_sum_9 (by decide) (fun d1 => ?_) (fun d1 => ?_)
    · refine zero (ew _ rfl (Or.inl ?_))
      rw [ilt, show (0 : Int32).toInt = 0 from rfl] at d1
      exact d1
    · refine wp_iload_n hX dX5_sum_12 rfl ?_
      refine wp_iconst (v := 3) hX dX5_sum_13 ic_3 ?_
      refine wp_icmp_le (tgt := 19) hX dX5_sum_14 (by decide) (fun d2 => ?_) (fun d2 => ?_)
      · rw [ilt, show (0 : Int32).toInt = 0 from rfl] at d1
        rw [ile, show (3 : Int32).toInt = 3 from rfl] at d2
        have hup2 := hup rfl
        obtain ⟨r1, r2, r3, r4⟩ := RX_up hA
        obtain ⟨u1, u2, u3, u4, u5, u6⟩ := hup2
        obtain ⟨hMs, hO⟩ := hA.tx
        have hKl : M.length = K.1 := u5.1
        obtain ⟨t1, t2, t3⟩ := u6.tc hO
        have es : sSum ((2 : Int32), (B, W, LG), q, (pl, rc, M, tx)) x y w = if rkB (seenT M tx) y ≤ rk (seenT M tx) x then 0 else if w = 0 then (nI (rkB (seenT M tx) y - rk (seenT M tx) x)).toInt64 else if w = 1 then sumF (fun i => ((seenT M tx).getD i (0, 0)).2) (rk (seenT M tx) x) (rkB (seenT M tx) y - rk (seenT M tx) x) else if w = 2 then ((seenT M tx).getD (rk (seenT M tx) x) (0, 0)).1.toInt64 else if w = 3 then ((seenT M tx).getD (rkB (seenT M tx) y - 1) (0, 0)).1.toInt64 else 0 := by
          unfold sSum
          rw [if_neg (show ¬ ¬ (2 : Int32) = 2 by decide)]
          rfl
        rw [es] at hp
        rw [t3] at hp r4 r2
        generalize hCC : tx.getD [] = C at t1 t2 t3 hp r4 r2
        generalize hll : ov M C = l at hp r4 r2
        have b1 := rk_le l x
        have b2 := rkB_le r2 y
        generalize hra : rk l x = ra at hp b1
        generalize hrb : rkB l y = rb at hp b2
        have loop : ∀ (n i a j m : Nat) (f la s2 s3 : Int32), i + n = l.length → m = min i rb - ra → (m = 0 → f = 0 ∧ la = 0) → (¬ m = 0 → f = (l.getD ra (0, 0)).1 ∧ la = (l.getD (ra + m - 1) (0, 0)).1) → a ≤ M.length → j ≤ C.length → l.drop i = ov (M.drop a) (C.drop j) → Wp X Post 35 [some (.ref 15), some (.int x), some (.int y), some (.int w), some (.long (lN m)), none, some (.long (sumF (fun i => (l.getD i (0, 0)).2) ra m)), none, some (.int f), some (.int la)] [] (wM c B W LG q 2 op jp jr ep bt K h bf z (s.1, s2, s3, a, j)) := by
          intro n
          induction n with
          | zero =>
            intro i a j m f la s2 s3 hi hm hf0 hf1 ha hj hd
            refine wp_aload_n hX dX5_sum_35 rfl ?_
            refine wp_cv0p hX dX5_sum_36 mlX5_183 ⟨Nat.le_of_ble_eq_true rfl, Nat.le_of_ble_eq_true rfl⟩ (m_step u5 hMs (by omega) t1 t2 hh ha hj hd) rfl (Nat.le_of_ble_eq_true rfl) ?_
            rintro r1 σ1 ⟨s2', s3', a', j', h1, h2, rfl, h4⟩
            rcases h4 with ⟨h4, rfl⟩ | ⟨h4, -⟩
            · have hmm : m = rb - ra := by omega
              refine wp_if_eq (tgt := 99) hX dX5_sum_39 (by decide) (fun _ => ?_) (fun c_ => absurd (rfl) c_)
              have fin : ∀ v : Int64, v = (if rb ≤ ra then 0 else if w = 0 then (nI (rb - ra)).toInt64 else if w = 1 then sumF (fun i => (l.getD i (0, 0)).2) ra (rb - ra) else if w = 2 then (l.getD ra (0, 0)).1.toInt64 else if w = 3 then (l.getD (rb - 1) (0, 0)).1.toInt64 else 0) → Wp X Post 132 [some (.ref 15), some (.int x), some (.int y), some (.int w), some (.long (lN m)), none, some (.long (sumF (fun i => (l.getD i (0, 0)).2) ra m)), none, some (.int f), some (.int la)] [.long v] (wM c B W LG q 2 op jp jr ep bt K h bf z (s.1, s2', s3', a', j')) := by
                intro v hv
                refine wp_lret hX dX5_sum_132 rfl ?_
                exact hp _ _ ⟨by rw [hv], op, jp, jr, ep, bt, K, h, bf, z, _, rfl, hh, hup⟩
              refine wp_iload_n hX dX5_sum_99 rfl ?_
              refine wp_if_ne (tgt := 108) hX dX5_sum_100 (by decide) (fun w0 => ?_) (fun w0 => ?_)
              · refine wp_iload_n hX dX5_sum_108 rfl ?_
                refine wp_iconst (v := 1) hX dX5_sum_109 ic_1 ?_
                refine wp_icmp_ne (tgt := 118) hX dX5_sum_110 (by decide) (fun w1 => ?_) (fun w1 => ?_)
                · refine wp_iload_n hX dX5_sum_118 rfl ?_
                  refine wp_iconst (v := 2) hX dX5_sum_119 ic_2 ?_
                  refine wp_icmp_ne (tgt := 129) hX dX5_sum_120 (by decide) (fun w2 => ?_) (fun w2 => ?_)
                  · have w3 : w = 3 := by
                      rw [ieq, show (0 : Int32).toInt = 0 from rfl] at w0
                      rw [ieq, show (1 : Int32).toInt = 1 from rfl] at w1
                      rw [ieq, show (2 : Int32).toInt = 2 from rfl] at w2
                      rw [ieq, show (3 : Int32).toInt = 3 from rfl]
                      omega
                    refine wp_iload hX dX5_sum_129 rfl ?_
                    refine wp_i2l hX dX5_sum_131 ?_
                    refine fin _ ?_
                    rw [if_neg w0, if_neg w1, if_neg w2, if_pos w3]
                    by_cases e : rb ≤ ra
                    · rw [if_pos e, (hf0 (by omega)).2]
                      rfl
                    · rw [if_neg e, (hf1 (by omega)).2, show ra + m - 1 = rb - 1 by omega]
                  · refine wp_iload hX dX5_sum_123 rfl ?_
                    refine wp_i2l hX dX5_sum_125 ?_
                    refine wp_goto (tgt := 132) hX dX5_sum_126 (by decide) ?_
                    refine fin _ ?_
                    rw [if_neg w0, if_neg w1, if_pos w2]
                    by_cases e : rb ≤ ra
                    · rw [if_pos e, (hf0 (by omega)).1]
                      rfl
                    · rw [if_neg e, (hf1 (by omega)).1]
                · refine wp_lload hX dX5_sum_113 rfl ?_
                  refine wp_goto (tgt := 132) hX dX5_sum_115 (by decide) ?_
                  refine fin _ ?_
                  rw [if_neg w0, if_pos w1, ← hmm]
                  by_cases e : rb ≤ ra
                  · rw [if_pos e, show m = 0 by omega]
                    rfl
                  · rw [if_neg e]
              · refine wp_lload hX dX5_sum_103 rfl ?_
                refine wp_goto (tgt := 132) hX dX5_sum_105 (by decide) ?_
                refine fin _ ?_
                rw [if_pos w0, ← hmm, nI_l (by omega)]
                by_cases e : rb ≤ ra
                · rw [if_pos e, show m = 0 by omega]
                  rfl
                · rw [if_neg e]
            · omega
          | succ n ih =>
            intro i a j m f la s2 s3 hi hm hf0 hf1 ha hj hd
            refine wp_aload_n hX dX5_sum_35 rfl ?_
            refine wp_cv0p hX dX5_sum_36 mlX5_183 ⟨Nat.le_of_ble_eq_true rfl, Nat.le_of_ble_eq_true rfl⟩ (m_step u5 hMs (by omega) t1 t2 hh ha hj hd) rfl (Nat.le_of_ble_eq_true rfl) ?_
            rintro r1 σ1 ⟨s2', s3', a', j', h1, h2, rfl, h4⟩
            rcases h4 with ⟨h4, -⟩ | ⟨h4, rfl, h5, h6⟩
            · omega
            · have c1 := rk_lti r2 (y := x) h5
              have c2 := rkB_lt r2 (y := y) h5
              rw [hra] at c1
              rw [hrb] at c2
              dsimp only at c1 c2
              have ei : l.getD i (0, 0) = (s2', s3') := by rw [List.getD_eq_getElem?_getD, h5]; rfl
              refine wp_if_eq (tgt := 99) hX dX5_sum_39 (by decide) (fun c_ => absurd c_ (by decide)) (fun _ => ?_)
              refine wp_aload_n hX dX5_sum_42 rfl ?_
              refine wp_get hX dX5_sum_43 flX5_171 rfl rfl ?_
              refine wp_iload_n hX dX5_sum_46 rfl ?_
              refine wp_icmp_lt (tgt := 35) hX dX5_sum_47 (by decide) (fun e1 => ?_) (fun e1 => ?_)
              · have := c1.mpr e1
                exact ih (i + 1) a' j' m f la s2' s3' (by omega) (by omega) hf0 hf1 h1 h2 h6
              · have g1 : ra ≤ i := Nat.le_of_not_lt (fun y => e1 (c1.mp y))
                refine wp_aload_n hX dX5_sum_50 rfl ?_
                refine wp_get hX dX5_sum_51 flX5_171 rfl rfl ?_
                refine wp_iload_n hX dX5_sum_54 rfl ?_
                refine wp_icmp_le (tgt := 61) hX dX5_sum_55 (by decide) (fun e2 => ?_) (fun e2 => ?_)
                · have g2 : i < rb := c2.mpr e2
                  have hmi : m = i - ra := by omega
                  have tail : ∀ f', f' = (l.getD ra (0, 0)).1 → Wp X Post 74 [some (.ref 15), some (.int x), some (.int y), some (.int w), some (.long (lN m)), none, some (.long (sumF (fun i => (l.getD i (0, 0)).2) ra m)), none, some (.int f'), some (.int la)] [] (wM c B W LG q 2 op jp jr ep bt K h bf z (s.1, s2', s3', a', j')) := by
                    intro f' hf'
                    refine wp_aload_n hX dX5_sum_74 rfl ?_
                    refine wp_get hX dX5_sum_75 flX5_171 rfl rfl ?_
                    refine wp_istore hX dX5_sum_78 (Nat.le_of_ble_eq_true rfl) rfl ?_
                    refine wp_lload hX dX5_sum_80 rfl ?_
                    refine wp_lconst (v := 1) hX dX5_sum_82 lc_1 ?_
                    refine wp_ladd hX dX5_sum_83 ?_
                    refine wp_lstore hX dX5_sum_84 (Nat.le_of_ble_eq_true rfl) rfl ?_
                    refine wp_lload hX dX5_sum_86 rfl ?_
                    refine wp_aload_n hX dX5_sum_88 rfl ?_
                    refine wp_get hX dX5_sum_89 flX5_174 rfl rfl ?_
                    refine wp_i2l hX dX5_sum_92 ?_
                    refine wp_ladd hX dX5_sum_93 ?_
                    refine wp_lstore hX dX5_sum_94 (Nat.le_of_ble_eq_true rfl) rfl ?_
                    refine wp_goto (tgt := 35) hX dX5_sum_96 (by decide) ?_
                    rw [show lN m + 1 = lN (m + 1) from lN_1 m]
                    have e3 : sumF (fun i => (l.getD i (0, 0)).2) ra m + s3'.toInt64 = sumF (fun i => (l.getD i (0, 0)).2) ra (m + 1) := by
                      show _ = sumF (fun i => (l.getD i (0, 0)).2) ra m + ((l.getD (ra + m) (0, 0)).2).toInt64
                      rw [show ra + m = i by omega, ei]
                    rw [show ((s.1, s2', s3', a', j') : SQ).2.2.1.toInt64 = s3'.toInt64 from rfl, e3]
                    refine ih (i + 1) a' j' (m + 1) f' s2' s2' s3' (by omega) (by omega) (fun y => by omega) (fun _ => ⟨hf', ?_⟩) h1 h2 h6
                    rw [show ra + (m + 1) - 1 = i by omega, ei]
                  refine wp_lload hX dX5_sum_61 rfl ?_
                  refine wp_lconst (v := 0) hX dX5_sum_63 lc_0 ?_
                  refine wp_lcmp hX dX5_sum_64 ?_
                  by_cases m0 : m = 0
                  · refine wp_if_ne (tgt := 74) hX dX5_sum_65 (by decide) (fun c_ => absurd ((lc_ne (by omega)).mpr m0) c_) (fun _ => ?_)
                    refine wp_aload_n hX dX5_sum_68 rfl ?_
                    refine wp_get hX dX5_sum_69 flX5_171 rfl rfl ?_
                    refine wp_istore hX dX5_sum_72 (Nat.le_of_ble_eq_true rfl) rfl ?_
                    exact tail s2' (by rw [show ra = i by omega, ei])
                  · refine wp_if_ne (tgt := 74) hX dX5_sum_65 (by decide) (fun _ => ?_) (fun c_ => absurd c_ (fun y => m0 ((lc_ne (by omega)).mp y)))
                    exact tail f (hf1 m0).1
                · have g2 : ¬ i < rb := fun y => e2 (c2.mp y)
                  refine wp_goto (tgt := 35) hX dX5_sum_58 (by decide) ?_
                  exact ih (i + 1) a' j' m f la s2' s3' (by omega) (by omega) hf0 hf1 h1 h2 h6
        refine wp_lconst (v := 0) hX dX5_sum_19 lc_0 ?_
        refine wp_lstore hX dX5_sum_20 (Nat.le_of_ble_eq_true rfl) rfl ?_
        refine wp_lconst (v := 0) hX dX5_sum_22 lc_0 ?_
        refine wp_lstore hX dX5_sum_23 (Nat.le_of_ble_eq_true rfl) rfl ?_
        refine wp_iconst (v := 0) hX dX5_sum_25 ic_0 ?_
        refine wp_istore hX dX5_sum_26 (Nat.le_of_ble_eq_true rfl) rfl ?_
        refine wp_iconst (v := 0) hX dX5_sum_28 ic_0 ?_
        refine wp_istore hX dX5_sum_29 (Nat.le_of_ble_eq_true rfl) rfl ?_
        refine wp_aload_n hX dX5_sum_31 rfl ?_
        refine wp_cv0 hX dX5_sum_32 mlX5_180 ⟨Nat.le_of_ble_eq_true rfl, Nat.le_of_ble_eq_true rfl⟩ (m_beginSeen) rfl (Nat.le_of_ble_eq_true rfl) ?_
        exact loop l.length 0 0 0 0 0 0 s.2.1 s.2.2.1 (by omega) (by omega) (fun _ => ⟨rfl, rfl⟩) (fun y => absurd rfl y) (by omega) (by omega) (by rw [← hll]; rfl)
      · refine zero (ew _ rfl (Or.inr ?_))
        rw [ile, show (3 : Int32).toInt = 3 from rfl] at d2
        omega
end MP
