/-! the reference: reading the log and the tree -/
def isM (W : Nat) (D : Nat → Int32) (b : Nat) (e n p : Int32) : Bool := decide (D (W * b + (W - 1)) = sumD D (W * b) (W - 1) ∧ D (W * b + 0) = e ∧ D (W * b + 1) = n ∧ D (W * b + 2) = p)
theorem isP_M {W : Nat} {D : Nat → Int32} {b : Nat} {e n p bt : Int32} : isP W D b e n p bt = (isM W D b e n p && decide (D (W * b + 3) = bt)) := by
  unfold isP isM
  by_cases h : D (W * b + (W - 1)) = sumD D (W * b) (W - 1) ∧ D (W * b + 0) = e ∧ D (W * b + 1) = n ∧ D (W * b + 2) = p
  · rw [decide_eq_true h, Bool.true_and]
    obtain ⟨h1, h2, h3, h4⟩ := h
    by_cases g : D (W * b + 3) = bt
    · rw [decide_eq_true g, decide_eq_true ⟨h1, h2, h3, h4, g⟩]
    · rw [decide_eq_false g, decide_eq_false (fun z => g z.2.2.2.2)]
  · rw [decide_eq_false h, Bool.false_and, decide_eq_false (fun z => h ⟨z.1, z.2.1, z.2.2.1, z.2.2.2.1⟩)]
theorem ins_app {m : PM} {k v : Int32} (h : ∀ a ∈ m, a.1 < k) : ins m k v = m ++ [(k, v)] := by
  induction m with
  | nil => rfl
  | cons b m ih =>
    show (if b.1 < k then b :: ins m k v else _) = _
    rw [if_pos (h b List.mem_cons_self), ih (fun a ha => h a (List.mem_cons_of_mem _ ha))]
    rfl
theorem ldo_eq {W : Nat} {D : Nat → Int32} {s : Nat} {m : PM} (hs : Srt m) (hm : ∀ i, i < m.length → m[i]? = some (prD W D s i)) : ∀ (r c : Nat), c + r = m.length → ldo W D s c r (m.take c) = m
  | 0, c, h => by
    show m.take c = m
    exact List.take_of_length_le (by omega)
  | r + 1, c, h => by
    rw [ldo_s]
    have hc := hm c (by omega)
    have e : ins (m.take c) (D (W * (s + c / fan W) + (2 + 2 * (c % fan W)))) (D (W * (s + c / fan W) + (2 + 2 * (c % fan W) + 1))) = m.take (c + 1) := by
      rw [List.take_add_one, hc]
      refine ins_app (fun a ha => ?_)
      obtain ⟨i, hi⟩ := List.getElem?_of_mem ha
      rw [List.getElem?_take] at hi
      split at hi
      next hlt => exact srt_get hs hlt hi hc
      next => cases hi
    rw [e]
    exact ldo_eq hs hm r (c + 1) (by omega)
theorem KA.take_s {m : PM} {c : Nat} {kf vf : Nat → Int32} {k v : Int32} (h : KA (m.take c) c kf vf) (hc : m[c]? = some (k, v)) : KA (m.take (c + 1)) (c + 1) (upd kf c k) (upd vf c v) := by
  have hl : c < m.length := (List.getElem?_eq_some_iff.mp hc).1
  refine ⟨by rw [List.length_take]; omega, fun i hi => ?_⟩
  rw [List.getElem?_take, if_pos hi]
  by_cases e : i = c
  · rw [e, pk_us, pk_us]
    exact hc
  · rw [pk_un e, pk_un e]
    have := h.2 i (by omega)
    rw [List.getElem?_take, if_pos (by omega)] at this
    exact this
section MO
variable {c : Nat → aE} {B W LG : Nat} {q : DQ} {st op : Int32} {pl rc : Nat} {ep bt : Int32} {K : MP} {h : HQ} {bf : Nat → Int32} {z : ZQ} {s : SQ} {m : PM}
theorem lcmp_le {k : Nat} (hk : k < 2 ^ 62) : lg_cmp (lN k) 1000 ≤ 0 ↔ k ≤ 1000 := by
  have hp : (2 : Nat) ^ 62 = 4611686018427387904 := by decide
  have e0 : (1000 : Int64) = lN 1000 := rfl
  unfold lg_cmp
  rw [e0]
  by_cases h1 : lN 1000 < lN k
  · have h2 := (pk_lLT (by decide) (by omega)).mp h1
    rw [if_pos h1]
    constructor
    · intro y; exact absurd y (by decide)
    · intro y; omega
  · have h2 : k ≤ 1000 := Nat.le_of_not_lt (fun y => h1 ((pk_lLT (by decide) (by omega)).mpr y))
    rw [if_neg h1]
    constructor
    · intro _; exact h2
    · intro _
      split <;> decide
set_option maxHeartbeats 4000000 in
set_option maxRecDepth 100000 in
theorem m_needed {mm : Nat} (hW : 6 ≤ W) (hW2 : W ≤ 64) (hm : mm < 2 ^ 31) : MD1 mdX5_needed [.ref 15, .long (lN mm)] (wM c B W LG q st op pl rc ep bt K h bf z s) (some (.int (nI (min 1000 (cdv (1 + 3 * mm) (W - 5)))))) (wM c B W LG q st op pl rc ep bt K h bf z s) := by
  refine md_of [some (.ref 15), some (.long (lN mm)), none, none, none, none, none] rfl (Nat.le_of_ble_eq_true rfl) (by decide) (fun X Post hX hp => ?_)
  have hp31 : (2 : Nat) ^ 31 = 2147483648 := by decide
  have hp62 : (2 : Nat) ^ 62 = 4611686018427387904 := by decide
  have hp63 : (2 : Nat) ^ 63 = 9223372036854775808 := by decide
  have hle := cdv_le (n := 1 + 3 * mm) (e := W - 5) (by omega)
  have e1 : (1 : Int64) + 3 * lN mm = lN (1 + 3 * mm) := by rw [show (3 : Int64) = lN 3 from rfl, show (1 : Int64) = lN 1 from rfl, lN_mul, lN_add]
  have e2 : lN (1 + 3 * mm) + (nI (W - 5)).toInt64 = lN (1 + 3 * mm + (W - 5)) := by rw [nI_l (by omega), lN_add]
  have e3 : lN (1 + 3 * mm + (W - 5)) - 1 = lN (1 + 3 * mm + (W - 5) - 1) := lN_sub (b := 1) (by omega)
  have e4 : lN (1 + 3 * mm + (W - 5) - 1) / (nI (W - 5)).toInt64 = lN (cdv (1 + 3 * mm) (W - 5)) := by
    rw [nI_l (by omega)]
    exact pk_lDiv (by omega) (by omega) (by omega)
  have hne : ¬ (nI (W - 5)).toInt64 = 0 := by
    rw [nI_l (by omega), show (0 : Int64) = lN 0 from rfl, lN_eq (by omega) (by decide)]
    omega
  refine wp_lconst (v := 1) hX dX5_needed_0 lc_1 ?_
  refine wp_ldc2 hX dX5_needed_1 lcX5_113 ?_
  refine wp_lload_n hX dX5_needed_4 rfl ?_
  refine wp_lmul hX dX5_needed_5 ?_
  refine wp_ladd hX dX5_needed_6 ?_
  refine wp_tl (y := (lN (1 + 3 * mm))) (e1) ?_
  refine wp_lstore_n hX dX5_needed_7 (Nat.le_of_ble_eq_true rfl) rfl ?_
  refine wp_lload_n hX dX5_needed_8 rfl ?_
  refine wp_aload_n hX dX5_needed_9 rfl ?_
  refine wp_cv0 hX dX5_needed_10 mlX5_115 ⟨Nat.le_of_ble_eq_true rfl, Nat.le_of_ble_eq_true rfl⟩ (m_part (by omega)) rfl (Nat.le_of_ble_eq_true rfl) ?_
  refine wp_i2l hX dX5_needed_13 ?_
  refine wp_ladd hX dX5_needed_14 ?_
  refine wp_tl (y := (lN (1 + 3 * mm + (W - 5)))) (e2) ?_
  refine wp_lconst (v := 1) hX dX5_needed_15 lc_1 ?_
  refine wp_lsub hX dX5_needed_16 ?_
  refine wp_tl (y := (lN (1 + 3 * mm + (W - 5) - 1))) (e3) ?_
  refine wp_aload_n hX dX5_needed_17 rfl ?_
  refine wp_cv0 hX dX5_needed_18 mlX5_115 ⟨Nat.le_of_ble_eq_true rfl, Nat.le_of_ble_eq_true rfl⟩ (m_part (by omega)) rfl (Nat.le_of_ble_eq_true rfl) ?_
  refine wp_i2l hX dX5_needed_21 ?_
  refine wp_ldiv hX dX5_needed_22 (hne) ?_
  refine wp_tl (y := (lN (cdv (1 + 3 * mm) (W - 5)))) (e4) ?_
  refine wp_lstore hX dX5_needed_23 (Nat.le_of_ble_eq_true rfl) rfl ?_
  refine wp_lload hX dX5_needed_25 rfl ?_
  refine wp_ldc2 hX dX5_needed_27 lcX5_118 ?_
  refine wp_lcmp hX dX5_needed_30 ?_
  refine wp_if_le (tgt := 40) hX dX5_needed_31 (by decide) (fun d => ?_) (fun d => ?_)
  · have d1 := (lcmp_le (by omega)).mp d
    refine wp_lload hX dX5_needed_40 rfl ?_
    refine wp_l2i hX dX5_needed_42 ?_
    refine wp_ti (y := nI (cdv (1 + 3 * mm) (W - 5))) (lN_i _) ?_
    refine wp_iret hX dX5_needed_43 rfl rfl ?_
    rw [Nat.min_eq_right d1] at hp
    exact hp
  · have d1 : ¬ cdv (1 + 3 * mm) (W - 5) ≤ 1000 := fun y => d ((lcmp_le (by omega)).mpr y)
    refine wp_sipush (v := 1000) hX dX5_needed_34 sp_1000 ?_
    refine wp_goto (tgt := 43) hX dX5_needed_37 (by decide) ?_
    refine wp_iret hX dX5_needed_43 rfl rfl ?_
    rw [Nat.min_eq_left (by omega)] at hp
    exact hp
set_option maxHeartbeats 4000000 in
set_option maxRecDepth 100000 in
theorem m_isPart {b : Nat} {n p : Int32} (hB : B ≤ 512) (hW : 6 ≤ W) (hW2 : W ≤ 64) (hb : b < B) : MD1 mdX5_isPart [.ref 15, .int (nI b), .int n, .int p] (wM c B W LG q st op pl rc ep bt K h bf z s) (some (.int (b2i (isM W q.1 b ep n p)))) (wM c B W LG q st op pl rc ep bt K h bf z s) := by
  refine md_of [some (.ref 15), some (.int (nI b)), some (.int n), some (.int p), none] rfl (Nat.le_of_ble_eq_true rfl) (by decide) (fun X Post hX hp => ?_)
  unfold isM at hp
  have hix : ∀ i, i < 6 → W * b + i < 32768 := fun i hi => ixb hB hW2 hb (by omega)
  have h0 := hix 0 (by decide)
  have h1 := hix 1 (by decide)
  have h2 := hix 2 (by decide)
  have fls : ¬ (q.1 (W * b + (W - 1)) = sumD q.1 (W * b) (W - 1) ∧ q.1 (W * b + 0) = ep ∧ q.1 (W * b + 1) = n ∧ q.1 (W * b + 2) = p) → Wp X Post 60 [some (.ref 15), some (.int (nI b)), some (.int n), some (.int p), some (.int (nI (W * b)))] [] (wM c B W LG q st op pl rc ep bt K h bf z s) := by
    intro hf
    rw [decide_eq_false hf] at hp
    refine wp_iconst (v := 0) hX dX5_isPart_60 ic_0 ?_
    refine wp_iret hX dX5_isPart_61 rfl rfl ?_
    exact hp
  refine wp_aload_n hX dX5_isPart_0 rfl ?_
  refine wp_get hX dX5_isPart_1 flX5_42 rfl rfl ?_
  refine wp_iload_n hX dX5_isPart_4 rfl ?_
  refine wp_imul hX dX5_isPart_5 ?_
  refine wp_ti (y := (nI (W * b))) (pk_mul _ _) ?_
  refine wp_istore hX dX5_isPart_6 (Nat.le_of_ble_eq_true rfl) rfl ?_
  refine wp_aload_n hX dX5_isPart_8 rfl ?_
  refine wp_iload_n hX dX5_isPart_9 rfl ?_
  refine wp_cv1 hX dX5_isPart_10 mlX5_110 ⟨Nat.le_of_ble_eq_true rfl, Nat.le_of_ble_eq_true rfl⟩ (m_isGood hB hW2 (by omega) hb) rfl (Nat.le_of_ble_eq_true rfl) ?_
  by_cases g : q.1 (W * b + (W - 1)) = sumD q.1 (W * b) (W - 1)
  · rw [decide_eq_true g]
    refine wp_if_eq (tgt := 60) hX dX5_isPart_13 (by decide) (fun c_ => absurd c_ (by decide)) (fun _ => ?_)
    refine wp_aload_n hX dX5_isPart_16 rfl ?_
    refine wp_get hX dX5_isPart_17 flX5_8 rfl rfl ?_
    refine wp_iload hX dX5_isPart_20 rfl ?_
    refine wp_iald hX dX5_isPart_22 rfl (vp_in_nI (by omega) (by decide)) ?_
    refine wp_ti (y := (q.1 (W * b + 0))) (by rw [nI_clamp (by omega)]; rfl) ?_
    refine wp_aload_n hX dX5_isPart_23 rfl ?_
    refine wp_get hX dX5_isPart_24 flX5_85 rfl rfl ?_
    refine wp_icmp_ne (tgt := 60) hX dX5_isPart_27 (by decide) (fun d0 => ?_) (fun d0 => ?_)
    · exact fls (fun y => d0 y.2.1)
    · refine wp_aload_n hX dX5_isPart_30 rfl ?_
      refine wp_get hX dX5_isPart_31 flX5_8 rfl rfl ?_
      refine wp_iload hX dX5_isPart_34 rfl ?_
      refine wp_iconst (v := 1) hX dX5_isPart_36 ic_1 ?_
      refine wp_iadd hX dX5_isPart_37 ?_
      refine wp_ti (y := (nI (W * b + 1))) (nI_1 _) ?_
      refine wp_iald hX dX5_isPart_38 rfl (vp_in_nI (by omega) (by decide)) ?_
      refine wp_ti (y := (q.1 (W * b + 1))) (by rw [nI_clamp (by omega)]) ?_
      refine wp_iload_n hX dX5_isPart_39 rfl ?_
      refine wp_icmp_ne (tgt := 60) hX dX5_isPart_40 (by decide) (fun d1 => ?_) (fun d1 => ?_)
      · exact fls (fun y => d1 y.2.2.1)
      · refine wp_aload_n hX dX5_isPart_43 rfl ?_
        refine wp_get hX dX5_isPart_44 flX5_8 rfl rfl ?_
        refine wp_iload hX dX5_isPart_47 rfl ?_
        refine wp_iconst (v := 2) hX dX5_isPart_49 ic_2 ?_
        refine wp_iadd hX dX5_isPart_50 ?_
        refine wp_ti (y := (nI (W * b + 2))) (nI_add _ 2) ?_
        refine wp_iald hX dX5_isPart_51 rfl (vp_in_nI (by omega) (by decide)) ?_
        refine wp_ti (y := (q.1 (W * b + 2))) (by rw [nI_clamp (by omega)]) ?_
        refine wp_iload_n hX dX5_isPart_52 rfl ?_
        refine wp_icmp_ne (tgt := 60) hX dX5_isPart_53 (by decide) (fun d2 => ?_) (fun d2 => ?_)
        · exact fls (fun y => d2 y.2.2.2)
        · refine wp_iconst (v := 1) hX dX5_isPart_56 ic_1 ?_
          refine wp_goto (tgt := 61) hX dX5_isPart_57 (by decide) ?_
          refine wp_iret hX dX5_isPart_61 rfl rfl ?_
          rw [decide_eq_true ⟨g, d0, d1, d2⟩] at hp
          exact hp
  · rw [decide_eq_false g]
    refine wp_if_eq (tgt := 60) hX dX5_isPart_13 (by decide) (fun _ => ?_) (fun c_ => absurd (rfl) c_)
    exact fls (fun y => g y.1)
set_option maxHeartbeats 4000000 in
set_option maxRecDepth 100000 in
theorem m_intAt {b i : Nat} (hB : B ≤ 512) (hW : 6 ≤ W) (hW2 : W ≤ 64) (hi : i < 2 ^ 29) (hb : b + i / (W - 5) < B) : MD1 mdX5_intAt [.ref 15, .int (nI b), .int (nI i)] (wM c B W LG q st op pl rc ep bt K h bf z s) (some (.int (sI W q.1 b i))) (wM c B W LG q st op pl rc ep bt K h bf z s) := by
  refine md_of [some (.ref 15), some (.int (nI b)), some (.int (nI i))] rfl (Nat.le_of_ble_eq_true rfl) (by decide) (fun X Post hX hp => ?_)
  have hcu : (2 : Nat) ^ 29 = 536870912 := by decide
  have hne : ¬ nI (W - 5) = 0 := nI_ne0 (by omega) (by omega)
  have hmod : i % (W - 5) < W - 5 := Nat.mod_lt _ (by omega)
  have hix := ixb (i := 4 + i % (W - 5)) hB hW2 hb (by omega)
  refine wp_aload_n hX dX5_intAt_0 rfl ?_
  refine wp_get hX dX5_intAt_1 flX5_8 rfl rfl ?_
  refine wp_aload_n hX dX5_intAt_4 rfl ?_
  refine wp_get hX dX5_intAt_5 flX5_42 rfl rfl ?_
  refine wp_iload_n hX dX5_intAt_8 rfl ?_
  refine wp_iload_n hX dX5_intAt_9 rfl ?_
  refine wp_aload_n hX dX5_intAt_10 rfl ?_
  refine wp_cv0 hX dX5_intAt_11 mlX5_115 ⟨Nat.le_of_ble_eq_true rfl, Nat.le_of_ble_eq_true rfl⟩ (m_part (by omega)) rfl (Nat.le_of_ble_eq_true rfl) ?_
  refine wp_idiv hX dX5_intAt_14 (hne) ?_
  refine wp_ti (y := (nI (i / (W - 5)))) (pk_div (by omega) (by omega) (by omega)) ?_
  refine wp_iadd hX dX5_intAt_15 ?_
  refine wp_ti (y := (nI (b + i / (W - 5)))) (nI_add _ _) ?_
  refine wp_imul hX dX5_intAt_16 ?_
  refine wp_ti (y := (nI (W * (b + i / (W - 5))))) (pk_mul _ _) ?_
  refine wp_iconst (v := 4) hX dX5_intAt_17 ic_4 ?_
  refine wp_iadd hX dX5_intAt_18 ?_
  refine wp_ti (y := (nI (W * (b + i / (W - 5)) + 4))) (nI_add _ 4) ?_
  refine wp_iload_n hX dX5_intAt_19 rfl ?_
  refine wp_aload_n hX dX5_intAt_20 rfl ?_
  refine wp_cv0 hX dX5_intAt_21 mlX5_115 ⟨Nat.le_of_ble_eq_true rfl, Nat.le_of_ble_eq_true rfl⟩ (m_part (by omega)) rfl (Nat.le_of_ble_eq_true rfl) ?_
  refine wp_irem hX dX5_intAt_24 (hne) ?_
  refine wp_ti (y := (nI (i % (W - 5)))) (pk_rem (by omega) (by omega) (by omega)) ?_
  refine wp_iadd hX dX5_intAt_25 ?_
  refine wp_ti (y := nI (W * (b + i / (W - 5)) + (4 + i % (W - 5)))) (by rw [nI_add, Nat.add_assoc]) ?_
  refine wp_iald hX dX5_intAt_26 rfl (vp_in_nI hix (by decide)) ?_
  rw [nI_clamp (by omega)]
  refine wp_iret hX dX5_intAt_27 rfl rfl ?_
  exact hp
set_option maxHeartbeats 8000000 in
set_option maxRecDepth 100000 in
theorem m_redo {b : Nat} {n : Int32} (hB : B ≤ 512) (hW : 6 ≤ W) (hW2 : W ≤ 64) (hb : b ≤ LG + 1) (hLG : LG + 1 < B) (hL2 : LG ≤ 128) (hK : KAm m K) (hs : Srt m) (hlen : 3 * m.length + (LG + 1 - b) * (W - 5) ≤ 26100) :
    MT mdX5_redo [.ref 15, .int (nI b), .int n] (wM c B W LG q st op pl rc ep bt K h bf z s) (fun r σ1 => ∃ K1, r = some (.int (nI (whl W LG q.1 b ep n))) ∧ KAm (if whl W LG q.1 b ep n = 0 then m else rdo W q.1 b 0 (q.1 (W * b + 4)).toNatClampNeg m) K1 ∧ σ1 = wM c B W LG q st op pl rc ep bt K1 h bf z s) := by
  refine mp_of [some (.ref 15), some (.int (nI b)), some (.int n), none, none, none, none, none, none] rfl (Nat.le_of_ble_eq_true rfl) (by decide) (fun X Post hX hp => ?_)
  have hcu : (2 : Nat) ^ 29 = 536870912 := by decide
  have hp31 : (2 : Nat) ^ 31 = 2147483648 := by decide
  have hKl : m.length = K.1 := hK.1
  have zero : whl W LG q.1 b ep n = 0 → ∀ r σ1, r = some (.int 0) ∧ σ1 = wM c B W LG q st op pl rc ep bt K h bf z s → Post r σ1 := by
    rintro e r σ1 ⟨rfl, rfl⟩
    refine hp _ _ ⟨K, by rw [e]; rfl, by rw [if_pos e]; exact hK, rfl⟩
  refine wp_iload_n hX dX5_redo_0 rfl ?_
  refine wp_aload_n hX dX5_redo_1 rfl ?_
  refine wp_get hX dX5_redo_2 flX5_74 rfl rfl ?_
  refine wp_icmp_gt (tgt := 18) hX dX5_redo_5 (by decide) (fun d0 => ?_) (fun d0 => ?_)
  · have d1 := (nI_ltI (a := LG) (b := b) (by omega) (by omega)).mp d0
    refine wp_iconst (v := 0) hX dX5_redo_18 ic_0 ?_
    refine wp_iret hX dX5_redo_19 rfl rfl ?_
    exact zero (by unfold whl; rw [if_pos d1]) _ _ ⟨rfl, rfl⟩
  · have d1 : ¬ LG < b := fun y => d0 (nI_lt y (by omega))
    have hix : ∀ i, i < 6 → W * b + i < 32768 := fun i hi => ixb hB hW2 (by omega) (by omega)
    have h3 := hix 3 (by decide)
    have h4 := hix 4 (by decide)
    refine wp_aload_n hX dX5_redo_8 rfl ?_
    refine wp_iload_n hX dX5_redo_9 rfl ?_
    refine wp_iload_n hX dX5_redo_10 rfl ?_
    refine wp_iconst (v := 0) hX dX5_redo_11 ic_0 ?_
    refine wp_cv3 hX dX5_redo_12 mlX5_120 ⟨Nat.le_of_ble_eq_true rfl, Nat.le_of_ble_eq_true rfl⟩ (m_isPart hB hW hW2 (by omega)) rfl (Nat.le_of_ble_eq_true rfl) ?_
    have eP : isP W q.1 b ep n 0 (q.1 (W * b + 3)) = isM W q.1 b ep n 0 := by rw [isP_M, decide_eq_true rfl, Bool.and_true]
    cases hM : isM W q.1 b ep n 0 with
    | false =>
      refine wp_if_ne (tgt := 20) hX dX5_redo_15 (by decide) (fun c_ => absurd (rfl) c_) (fun _ => ?_)
      refine wp_iconst (v := 0) hX dX5_redo_18 ic_0 ?_
      refine wp_iret hX dX5_redo_19 rfl rfl ?_
      exact zero (by unfold whl; rw [if_neg d1, eP, hM, if_pos rfl]) _ _ ⟨rfl, rfl⟩
    | true =>
      rw [hM] at eP
      refine wp_if_ne (tgt := 20) hX dX5_redo_15 (by decide) (fun _ => ?_) (fun c_ => absurd c_ (by decide))
      refine wp_aload_n hX dX5_redo_20 rfl ?_
      refine wp_get hX dX5_redo_21 flX5_8 rfl rfl ?_
      refine wp_aload_n hX dX5_redo_24 rfl ?_
      refine wp_get hX dX5_redo_25 flX5_42 rfl rfl ?_
      refine wp_iload_n hX dX5_redo_28 rfl ?_
      refine wp_imul hX dX5_redo_29 ?_
      refine wp_ti (y := (nI (W * b))) (pk_mul _ _) ?_
      refine wp_iconst (v := 4) hX dX5_redo_30 ic_4 ?_
      refine wp_iadd hX dX5_redo_31 ?_
      refine wp_ti (y := (nI (W * b + 4))) (nI_add _ 4) ?_
      refine wp_iald hX dX5_redo_32 rfl (vp_in_nI h4 (by decide)) ?_
      refine wp_ti (y := (q.1 (W * b + 4))) (by rw [nI_clamp (by omega)]) ?_
      refine wp_istore_n hX dX5_redo_33 (Nat.le_of_ble_eq_true rfl) rfl ?_
      refine wp_aload_n hX dX5_redo_34 rfl ?_
      refine wp_get hX dX5_redo_35 flX5_8 rfl rfl ?_
      refine wp_aload_n hX dX5_redo_38 rfl ?_
      refine wp_get hX dX5_redo_39 flX5_42 rfl rfl ?_
      refine wp_iload_n hX dX5_redo_42 rfl ?_
      refine wp_imul hX dX5_redo_43 ?_
      refine wp_ti (y := (nI (W * b))) (pk_mul _ _) ?_
      refine wp_iconst (v := 3) hX dX5_redo_44 ic_3 ?_
      refine wp_iadd hX dX5_redo_45 ?_
      refine wp_ti (y := (nI (W * b + 3))) (nI_add _ 3) ?_
      refine wp_iald hX dX5_redo_46 rfl (vp_in_nI h3 (by decide)) ?_
      refine wp_ti (y := (q.1 (W * b + 3))) (by rw [nI_clamp (by omega)]) ?_
      refine wp_istore hX dX5_redo_47 (Nat.le_of_ble_eq_true rfl) rfl ?_
      refine wp_iload_n hX dX5_redo_49 rfl ?_
      refine wp_iconst (v := 1) hX dX5_redo_50 ic_1 ?_
      refine wp_icmp_ge (tgt := 56) hX dX5_redo_51 (by decide) (fun c3 => ?_) (fun c3 => ?_)
      · have hnn : ¬ q.1 (W * b + 4) < 0 := fun y => by
          rw [ile, show (1 : Int32).toInt = 1 from rfl] at c3
          rw [ilt, show (0 : Int32).toInt = 0 from rfl] at y
          omega
        obtain ⟨mm, hmm, he⟩ := nI_of hnn
        have hm1 : 1 ≤ mm := by
          rw [he] at c3
          exact (nI_leI (a := 1) (b := mm) (by decide) hmm).mp c3
        have hnlt : ¬ q.1 (W * b + 4) < 1 := Int32.not_lt.mpr c3
        have hrbe : rB W mm = cdv (1 + 3 * mm) (W - 5) := by unfold rB; rw [if_neg (by omega)]
        have hle := cdv_le (n := 1 + 3 * mm) (e := W - 5) (by omega)
        have hcm := cdv_mul (n := 1 + 3 * mm) (e := W - 5) (by omega)
        generalize hcd : cdv (1 + 3 * mm) (W - 5) = rb at hrbe hle hcm
        have hrb1 : 1 ≤ rb := by rw [← hcd]; exact (cdv_lt (by omega)).mpr (by omega)
        have hlm : (1 + LG - b) * (W - 5) ≤ 129 * 59 := Nat.mul_le_mul (by omega) (by omega)
        rw [he]
        refine wp_aload_n hX dX5_redo_56 rfl ?_
        refine wp_iload_n hX dX5_redo_57 rfl ?_
        have el : (nI mm).toInt64 = lN mm := nI_l hmm
        refine wp_i2l hX dX5_redo_58 ?_
        rw [el]
        refine wp_cv1 hX dX5_redo_59 mlX5_124 ⟨Nat.le_of_ble_eq_true rfl, Nat.le_of_ble_eq_true rfl⟩ (m_needed hW hW2 hmm) rfl (Nat.le_of_ble_eq_true rfl) ?_
        rw [hcd]
        refine wp_istore hX dX5_redo_62 (Nat.le_of_ble_eq_true rfl) rfl ?_
        refine wp_iload_n hX dX5_redo_64 rfl ?_
        refine wp_iload hX dX5_redo_65 rfl ?_
        refine wp_iadd hX dX5_redo_67 ?_
        refine wp_iconst (v := 1) hX dX5_redo_68 ic_1 ?_
        refine wp_isub hX dX5_redo_69 ?_
        refine wp_ti (y := (nI (b + min 1000 rb - 1))) (by rw [nI_add]; exact pk_sub (b := 1) (by omega)) ?_
        refine wp_aload_n hX dX5_redo_70 rfl ?_
        refine wp_get hX dX5_redo_71 flX5_74 rfl rfl ?_
        refine wp_icmp_le (tgt := 79) hX dX5_redo_74 (by decide) (fun c4 => ?_) (fun c4 => ?_)
        · have c5 := (nI_leI (a := b + min 1000 rb - 1) (b := LG) (by omega) (by omega)).mp c4
          have hrl : rb ≤ 1 + LG - b := by omega
          have emin : min 1000 rb = rb := by omega
          rw [emin]
          have hrm : rb * (W - 5) ≤ (1 + LG - b) * (W - 5) := Nat.mul_le_mul hrl (Nat.le_refl _)
          have hwe : whl W LG q.1 b ep n = if allP W q.1 b ep n (q.1 (W * b + 3)) 1 (rb - 1) then rb else 0 := by
            unfold whl
            rw [if_neg d1, eP, if_neg (by decide), if_neg (fun y => y.elim hnlt (fun y => by
              rw [he] at y
              have := (nI_ltI (by omega) hmm).mp y
              omega)), he, nI_clamp hmm, hrbe, if_neg (by omega)]
          have hin : ∀ i, i < 1 + 3 * mm → b + i / (W - 5) < B := fun i hi => by
            have h1 : i / (W - 5) < rb := by
              rw [← hcd]
              refine (cdv_lt (by omega)).mpr ?_
              have := Nat.div_mul_le_self i (W - 5)
              omega
            omega
          have apply : allP W q.1 b ep n (q.1 (W * b + 3)) 1 (rb - 1) = true → ∀ x6 : Option Value, Wp X Post 132 [some (.ref 15), some (.int (nI b)), some (.int n), some (.int (nI mm)), some (.int (q.1 (W * b + 3))), some (.int (nI rb)), some (.int (nI rb)), none, none] [] (wM c B W LG q st op pl rc ep bt K h bf z s) := by
            intro hall x6
            rw [hall, if_pos rfl] at hwe
            rw [hwe, if_neg (by omega), he, nI_clamp hmm] at hp
            have loop : ∀ (r k : Nat) (m1 : PM) (K1 : MP) (x7 x8 : Option Value), noL [none, none, none, none, none, none, none, x7] 8 = true → k + r = mm → KAm m1 K1 → Srt m1 → m1.length + r ≤ 12000 → rdo W q.1 b k r m1 = rdo W q.1 b 0 mm m → Wp X Post 135 [some (.ref 15), some (.int (nI b)), some (.int n), some (.int (nI mm)), some (.int (q.1 (W * b + 3))), some (.int (nI rb)), some (.int (nI k)), x7, x8] [] (wM c B W LG q st op pl rc ep bt K1 h bf z s) := by
              intro r
              induction r with
              | zero =>
                intro k m1 K1 x7 x8 _ hk hk1 hs1 hl1 he1
                refine wp_iload hX dX5_redo_135 rfl ?_
                refine wp_iload_n hX dX5_redo_137 rfl ?_
                refine wp_icmp_ge (tgt := 205) hX dX5_redo_138 (by decide) (fun _ => ?_) (fun c_ => absurd (nI_le (by omega) (by omega)) c_)
                refine wp_iload hX dX5_redo_205 rfl ?_
                refine wp_iret hX dX5_redo_207 rfl rfl ?_
                exact hp _ _ ⟨K1, rfl, by rw [← he1]; exact hk1, rfl⟩
              | succ r ih =>
                intro k m1 K1 x7 x8 _ hk hk1 hs1 hl1 he1
                have hku : K1.1 = m1.length := hk1.1.symm
                rw [rdo_s] at he1
                have e3 : ∀ y : Nat, nI y + 3 * nI k = nI (y + 3 * k) := fun y => by rw [show (3 : Int32) = nI 3 from rfl, pk_mul, nI_add]
                refine wp_iload hX dX5_redo_135 rfl ?_
                refine wp_iload_n hX dX5_redo_137 rfl ?_
                refine wp_icmp_ge (tgt := 205) hX dX5_redo_138 (by decide) (fun c_ => absurd c_ (nI_ge (by omega) (by omega))) (fun _ => ?_)
                refine wp_aload_n hX dX5_redo_141 rfl ?_
                refine wp_iload_n hX dX5_redo_142 rfl ?_
                refine wp_iconst (v := 1) hX dX5_redo_143 ic_1 ?_
                refine wp_iconst (v := 3) hX dX5_redo_144 ic_3 ?_
                refine wp_iload hX dX5_redo_145 rfl ?_
                refine wp_imul hX dX5_redo_147 ?_
                refine wp_iadd hX dX5_redo_148 ?_
                refine wp_ti (y := (nI (1 + 3 * k))) (e3 1) ?_
                refine wp_cv2 hX dX5_redo_149 mlX5_128 ⟨Nat.le_of_ble_eq_true rfl, Nat.le_of_ble_eq_true rfl⟩ (m_intAt hB hW hW2 (by omega) (hin _ (by omega))) rfl (Nat.le_of_ble_eq_true rfl) ?_
                refine wp_istore hX dX5_redo_152 (Nat.le_of_ble_eq_true rfl) rfl ?_
                refine wp_aload_n hX dX5_redo_154 rfl ?_
                refine wp_iload_n hX dX5_redo_155 rfl ?_
                refine wp_iconst (v := 2) hX dX5_redo_156 ic_2 ?_
                refine wp_iconst (v := 3) hX dX5_redo_157 ic_3 ?_
                refine wp_iload hX dX5_redo_158 rfl ?_
                refine wp_imul hX dX5_redo_160 ?_
                refine wp_iadd hX dX5_redo_161 ?_
                refine wp_ti (y := (nI (1 + 3 * k + 1))) ((e3 2).trans (by congr 1; omega)) ?_
                refine wp_cv2 hX dX5_redo_162 mlX5_128 ⟨Nat.le_of_ble_eq_true rfl, Nat.le_of_ble_eq_true rfl⟩ (m_intAt hB hW hW2 (by omega) (hin _ (by omega))) rfl (Nat.le_of_ble_eq_true rfl) ?_
                refine wp_istore hX dX5_redo_165 (Nat.le_of_ble_eq_true rfl) rfl ?_
                refine wp_iload hX dX5_redo_167 rfl ?_
                refine wp_iconst (v := 1) hX dX5_redo_169 ic_1 ?_
                refine wp_icmp_ne (tgt := 193) hX dX5_redo_170 (by decide) (fun f => ?_) (fun f => ?_)
                · rw [if_neg f] at he1
                  refine wp_aload_n hX dX5_redo_193 rfl ?_
                  refine wp_iload hX dX5_redo_194 rfl ?_
                  refine wp_cv1p hX dX5_redo_196 mlX5_136 ⟨Nat.le_of_ble_eq_true rfl, Nat.le_of_ble_eq_true rfl⟩ (m_unbind hk1 hs1 (by omega)) rfl (Nat.le_of_ble_eq_true rfl) ?_
                  rintro r1 σ1 ⟨K2, rfl, hk2, rfl⟩
                  refine wp_iinc hX dX5_redo_199 ic_1 rfl (Nat.le_of_ble_eq_true rfl) rfl ?_
                  refine wp_goto (tgt := 135) hX dX5_redo_202 (by decide) ?_
                  rw [nI_1]
                  exact ih (k + 1) _ K2 (some (.int (sI W q.1 b (1 + 3 * k)))) _ rfl (by omega) hk2 (del_srt hs1 _) (by have := del_len_le m1 (sI W q.1 b (1 + 3 * k + 1)); omega) he1
                · rw [if_pos f] at he1
                  refine wp_aload_n hX dX5_redo_173 rfl ?_
                  refine wp_iload hX dX5_redo_174 rfl ?_
                  refine wp_aload_n hX dX5_redo_176 rfl ?_
                  refine wp_iload_n hX dX5_redo_177 rfl ?_
                  refine wp_iconst (v := 3) hX dX5_redo_178 ic_3 ?_
                  refine wp_iconst (v := 3) hX dX5_redo_179 ic_3 ?_
                  refine wp_iload hX dX5_redo_180 rfl ?_
                  refine wp_imul hX dX5_redo_182 ?_
                  refine wp_iadd hX dX5_redo_183 ?_
                  refine wp_ti (y := (nI (1 + 3 * k + 2))) ((e3 3).trans (by congr 1; omega)) ?_
                  refine wp_cv2 hX dX5_redo_184 mlX5_128 ⟨Nat.le_of_ble_eq_true rfl, Nat.le_of_ble_eq_true rfl⟩ (m_intAt hB hW hW2 (by omega) (hin _ (by omega))) rfl (Nat.le_of_ble_eq_true rfl) ?_
                  refine wp_cv2p hX dX5_redo_187 mlX5_132 ⟨Nat.le_of_ble_eq_true rfl, Nat.le_of_ble_eq_true rfl⟩ (m_bind hk1 hs1 (by omega)) rfl (Nat.le_of_ble_eq_true rfl) ?_
                  rintro r1 σ1 ⟨K2, rfl, hk2, rfl⟩
                  refine wp_goto (tgt := 199) hX dX5_redo_190 (by decide) ?_
                  refine wp_iinc hX dX5_redo_199 ic_1 rfl (Nat.le_of_ble_eq_true rfl) rfl ?_
                  refine wp_goto (tgt := 135) hX dX5_redo_202 (by decide) ?_
                  rw [nI_1]
                  exact ih (k + 1) _ K2 (some (.int (sI W q.1 b (1 + 3 * k)))) _ rfl (by omega) hk2 (ins_srt hs1 _ _) (by have := ins_len_le m1 (sI W q.1 b (1 + 3 * k + 1)) (sI W q.1 b (1 + 3 * k + 2)) hs1; omega) he1
            refine wp_iconst (v := 0) hX dX5_redo_132 ic_0 ?_
            refine wp_istore hX dX5_redo_133 (Nat.le_of_ble_eq_true rfl) rfl ?_
            refine loop mm 0 m K none none rfl (by omega) hK hs ?_ rfl
            have h9 : rb * (W - 5) ≤ (LG + 1 - b) * (W - 5) := Nat.mul_le_mul (by omega) (Nat.le_refl _)
            omega
          have chk : ∀ (r k : Nat), k + r = rb → allP W q.1 b ep n (q.1 (W * b + 3)) k r = allP W q.1 b ep n (q.1 (W * b + 3)) 1 (rb - 1) → Wp X Post 82 [some (.ref 15), some (.int (nI b)), some (.int n), some (.int (nI mm)), some (.int (q.1 (W * b + 3))), some (.int (nI rb)), some (.int (nI k)), none, none] [] (wM c B W LG q st op pl rc ep bt K h bf z s) := by
            intro r
            induction r with
            | zero =>
              intro k hk ha
              rw [show k = rb by omega]
              refine wp_iload hX dX5_redo_82 rfl ?_
              refine wp_iload hX dX5_redo_84 rfl ?_
              refine wp_icmp_ge (tgt := 132) hX dX5_redo_86 (by decide) (fun _ => ?_) (fun c_ => absurd (nI_le (Nat.le_refl _) (by omega)) c_)
              exact apply (by rw [← ha]; rfl) none
            | succ r ih =>
              intro k hk ha
              have hix3 := ixb (i := 3) (b := b + k) hB hW2 (by omega) (by omega)
              rw [allP_s, isP_M] at ha
              have no : allP W q.1 b ep n (q.1 (W * b + 3)) 1 (rb - 1) = false → Wp X Post 124 [some (.ref 15), some (.int (nI b)), some (.int n), some (.int (nI mm)), some (.int (q.1 (W * b + 3))), some (.int (nI rb)), some (.int (nI k)), none, none] [] (wM c B W LG q st op pl rc ep bt K h bf z s) := by
                intro hf
                refine wp_iconst (v := 0) hX dX5_redo_124 ic_0 ?_
                refine wp_iret hX dX5_redo_125 rfl rfl ?_
                exact zero (by rw [hwe, hf, if_neg (by decide)]) _ _ ⟨rfl, rfl⟩
              refine wp_iload hX dX5_redo_82 rfl ?_
              refine wp_iload hX dX5_redo_84 rfl ?_
              refine wp_icmp_ge (tgt := 132) hX dX5_redo_86 (by decide) (fun c_ => absurd c_ (nI_ge (by omega) (by omega))) (fun _ => ?_)
              refine wp_aload_n hX dX5_redo_89 rfl ?_
              refine wp_iload_n hX dX5_redo_90 rfl ?_
              refine wp_iload hX dX5_redo_91 rfl ?_
              refine wp_iadd hX dX5_redo_93 ?_
              refine wp_ti (y := (nI (b + k))) (nI_add _ _) ?_
              refine wp_iload_n hX dX5_redo_94 rfl ?_
              refine wp_iload hX dX5_redo_95 rfl ?_
              refine wp_cv3 hX dX5_redo_97 mlX5_120 ⟨Nat.le_of_ble_eq_true rfl, Nat.le_of_ble_eq_true rfl⟩ (m_isPart hB hW hW2 (by omega)) rfl (Nat.le_of_ble_eq_true rfl) ?_
              cases h6 : isM W q.1 (b + k) ep n (nI k) with
              | false =>
                rw [h6, Bool.false_and, Bool.false_and] at ha
                refine wp_if_eq (tgt := 124) hX dX5_redo_100 (by decide) (fun _ => ?_) (fun c_ => absurd (rfl) c_)
                exact no ha.symm
              | true =>
                rw [h6, Bool.true_and] at ha
                refine wp_if_eq (tgt := 124) hX dX5_redo_100 (by decide) (fun c_ => absurd c_ (by decide)) (fun _ => ?_)
                refine wp_aload_n hX dX5_redo_103 rfl ?_
                refine wp_get hX dX5_redo_104 flX5_8 rfl rfl ?_
                refine wp_aload_n hX dX5_redo_107 rfl ?_
                refine wp_get hX dX5_redo_108 flX5_42 rfl rfl ?_
                refine wp_iload_n hX dX5_redo_111 rfl ?_
                refine wp_iload hX dX5_redo_112 rfl ?_
                refine wp_iadd hX dX5_redo_114 ?_
                refine wp_ti (y := (nI (b + k))) (nI_add _ _) ?_
                refine wp_imul hX dX5_redo_115 ?_
                refine wp_ti (y := (nI (W * (b + k)))) (pk_mul _ _) ?_
                refine wp_iconst (v := 3) hX dX5_redo_116 ic_3 ?_
                refine wp_iadd hX dX5_redo_117 ?_
                refine wp_ti (y := (nI (W * (b + k) + 3))) (nI_add _ 3) ?_
                refine wp_iald hX dX5_redo_118 rfl (vp_in_nI hix3 (by decide)) ?_
                refine wp_ti (y := (q.1 (W * (b + k) + 3))) (by rw [nI_clamp (by omega)]) ?_
                refine wp_iload hX dX5_redo_119 rfl ?_
                refine wp_icmp_eq (tgt := 126) hX dX5_redo_121 (by decide) (fun f => ?_) (fun f => ?_)
                · rw [decide_eq_true f, Bool.true_and] at ha
                  refine wp_iinc hX dX5_redo_126 ic_1 rfl (Nat.le_of_ble_eq_true rfl) rfl ?_
                  refine wp_goto (tgt := 82) hX dX5_redo_129 (by decide) ?_
                  rw [nI_1]
                  exact ih (k + 1) (by omega) ha
                · rw [decide_eq_false f, Bool.false_and] at ha
                  exact no ha.symm
          refine wp_iconst (v := 1) hX dX5_redo_79 ic_1 ?_
          refine wp_istore hX dX5_redo_80 (Nat.le_of_ble_eq_true rfl) rfl ?_
          exact chk (rb - 1) 1 (by omega) rfl
        · have c5 : ¬ b + min 1000 rb - 1 ≤ LG := fun y => c4 (nI_le y (by omega))
          refine wp_iconst (v := 0) hX dX5_redo_77 ic_0 ?_
          refine wp_iret hX dX5_redo_78 rfl rfl ?_
          refine zero ?_ _ _ ⟨rfl, rfl⟩
          unfold whl
          rw [if_neg d1, eP, if_neg (by decide)]
          by_cases hbig : q.1 (W * b + 4) < 1 ∨ nI ((1 + LG - b) * (W - 5)) < q.1 (W * b + 4)
          · rw [if_pos hbig]
          · rw [if_neg hbig, he, nI_clamp hmm, hrbe, if_pos (by omega)]
      · refine wp_iconst (v := 0) hX dX5_redo_54 ic_0 ?_
        refine wp_iret hX dX5_redo_55 rfl rfl ?_
        refine zero ?_ _ _ ⟨rfl, rfl⟩
        unfold whl
        rw [if_neg d1, eP, if_neg (by decide), if_pos (Or.inl (Int32.not_le.mp c3))]
end MO
