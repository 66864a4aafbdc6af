/-! the reference: object in cell 15, arrays in cells 16 to 25; cells 0 to 14 are the class's -/
abbrev HQ : Type := Nat × (Nat → Int32) × (Nat → Int32) × (Nat → Int32)
abbrev ZQ : Type := (Nat → Int32) × (Nat → Int32) × (Nat → Int32)
abbrev SQ : Type := Int32 × Int32 × Int32 × Nat × Nat
abbrev emd (B W LG : Nat) (st ar wr : Int32) (pl : Nat) (ep bt : Int32) (rc mn : Nat) (op : Int32) (ch : Nat) (s : SQ) : aE := .inr (5, [.ref 16, .int (nI B), .int (nI W), .int (nI LG), .int st, .int ar, .int wr, .int (nI pl), .int ep, .int bt, .int (nI rc), .ref 17, .ref 18, .int (nI mn), .int op, .ref 19, .ref 20, .ref 21, .int (nI ch), .ref 22, .ref 23, .ref 24, .ref 25, .int s.1, .int s.2.1, .int s.2.2.1, .int (nI s.2.2.2.1), .int (nI s.2.2.2.2)])
abbrev wM (c : Nat → aE) (B W LG : Nat) (q : DQ) (st op : Int32) (pl rc : Nat) (ep bt : Int32) (K : MP) (h : HQ) (bf : Nat → Int32) (z : ZQ) (s : SQ) : aW :=
  c 0 :: c 1 :: c 2 :: c 3 :: c 4 :: c 5 :: c 6 :: c 7 :: c 8 :: c 9 :: c 10 :: c 11 :: c 12 :: c 13 :: c 14 ::
  emd B W LG st q.2.2 q.2.1 pl ep bt rc K.1 op h.1 s :: ear 32768 q.1 :: ear 12000 K.2.1 :: ear 12000 K.2.2 :: ear 600 h.2.1 :: ear 600 h.2.2.1 :: .inl (true, 600, h.2.2.2) :: ear 64 bf :: ear 512 z.1 :: ear 512 z.2.1 :: ear 1801 z.2.2 :: []
section MO
variable {c : Nat → aE} {B W LG : Nat} {q : DQ} {st op : Int32} {pl rc : Nat} {ep bt : Int32} {K : MP} {h : HQ} {bf : Nat → Int32} {z : ZQ} {s : SQ}
set_option maxHeartbeats 4000000 in
set_option maxRecDepth 100000 in
theorem m_sumOf {σ : aW} {a N o n : Nat} {f : Nat → Int32} (ha : σ[a]? = some (ear N f)) (hN : N < 2 ^ 31) (hn : o + n ≤ N) : MD1 mdX5_sumOf [.ref a, .int (nI o), .int (nI n)] σ (some (.int (sumD f o n))) σ := by
  refine md_of [some (.ref a), some (.int (nI o)), some (.int (nI n)), none, none] rfl (Nat.le_of_ble_eq_true rfl) (by decide) (fun X Post hX hp => ?_)
  have loop : ∀ (r i : Nat), i + r = n → Wp X Post 6 [some (.ref a), some (.int (nI o)), some (.int (nI n)), some (.int (sumD f o i)), some (.int (nI i))] [] σ := by
    intro r
    induction r with
    | zero =>
      intro i hi
      rw [show i = n by omega]
      refine wp_iload hX dX5_sumOf_6 rfl ?_
      refine wp_iload_n hX dX5_sumOf_8 rfl ?_
      refine wp_icmp_ge (tgt := 30) hX dX5_sumOf_9 (by decide) (fun _ => ?_) (fun c_ => absurd (nI_le (Nat.le_refl _) (by omega)) c_)
      refine wp_iload_n hX dX5_sumOf_30 rfl ?_
      refine wp_iret hX dX5_sumOf_31 rfl rfl ?_
      exact hp
    | succ r ih =>
      intro i hi
      refine wp_iload hX dX5_sumOf_6 rfl ?_
      refine wp_iload_n hX dX5_sumOf_8 rfl ?_
      refine wp_icmp_ge (tgt := 30) hX dX5_sumOf_9 (by decide) (fun c_ => absurd c_ (nI_ge (by omega) (by omega))) (fun _ => ?_)
      refine wp_bipush (v := 31) hX dX5_sumOf_12 bp_31 ?_
      refine wp_iload_n hX dX5_sumOf_14 rfl ?_
      refine wp_imul hX dX5_sumOf_15 ?_
      refine wp_aload_n hX dX5_sumOf_16 rfl ?_
      refine wp_iload_n hX dX5_sumOf_17 rfl ?_
      refine wp_iload hX dX5_sumOf_18 rfl ?_
      refine wp_iadd hX dX5_sumOf_20 ?_
      refine wp_ti (y := (nI (o + i))) (nI_add _ _) ?_
      refine wp_iald hX dX5_sumOf_21 (ha) (vp_in_nI (by omega) hN) ?_
      refine wp_ti (y := (f (o + i))) (by rw [nI_clamp (by omega)]) ?_
      refine wp_iadd hX dX5_sumOf_22 ?_
      refine wp_istore_n hX dX5_sumOf_23 (Nat.le_of_ble_eq_true rfl) rfl ?_
      refine wp_iinc hX dX5_sumOf_24 ic_1 rfl (Nat.le_of_ble_eq_true rfl) rfl ?_
      refine wp_goto (tgt := 6) hX dX5_sumOf_27 (by decide) ?_
      rw [nI_1]
      exact ih (i + 1) (by omega)
  refine wp_bipush (v := 7) hX dX5_sumOf_0 bp_7 ?_
  refine wp_istore_n hX dX5_sumOf_2 (Nat.le_of_ble_eq_true rfl) rfl ?_
  refine wp_iconst (v := 0) hX dX5_sumOf_3 ic_0 ?_
  refine wp_istore hX dX5_sumOf_4 (Nat.le_of_ble_eq_true rfl) rfl ?_
  exact loop n 0 (by omega)
set_option maxHeartbeats 4000000 in
set_option maxRecDepth 100000 in
theorem m_isGood {b : Nat} (hB : B ≤ 512) (hW : W ≤ 64) (hW1 : 1 ≤ W) (hb : b < B) : MD1 mdX5_isGood [.ref 15, .int (nI b)] (wM c B W LG q st op pl rc ep bt K h bf z s) (some (.int (b2i (decide (q.1 (W * b + (W - 1)) = sumD q.1 (W * b) (W - 1)))))) (wM c B W LG q st op pl rc ep bt K h bf z s) := by
  refine md_of [some (.ref 15), some (.int (nI b))] rfl (Nat.le_of_ble_eq_true rfl) (by decide) (fun X Post hX hp => ?_)
  have hix := ixb hB hW hb (show W - 1 < W by omega)
  have e1 : nI W * nI b = nI (W * b) := pk_mul _ _
  refine wp_aload_n hX dX5_isGood_0 rfl ?_
  refine wp_get hX dX5_isGood_1 flX5_8 rfl rfl ?_
  refine wp_aload_n hX dX5_isGood_4 rfl ?_
  refine wp_get hX dX5_isGood_5 flX5_42 rfl rfl ?_
  refine wp_iload_n hX dX5_isGood_8 rfl ?_
  refine wp_imul hX dX5_isGood_9 ?_
  refine wp_ti (y := (nI (W * b))) (e1) ?_
  refine wp_aload_n hX dX5_isGood_10 rfl ?_
  refine wp_get hX dX5_isGood_11 flX5_42 rfl rfl ?_
  refine wp_iadd hX dX5_isGood_14 ?_
  refine wp_iconst (v := 1) hX dX5_isGood_15 ic_1 ?_
  refine wp_isub hX dX5_isGood_16 ?_
  refine wp_ti (y := (nI (W * b + (W - 1)))) (by rw [nI_add]; exact (pk_sub (a := W * b + W) (b := 1) (by omega)).trans (by congr 1; omega)) ?_
  refine wp_iald hX dX5_isGood_17 rfl (vp_in_nI hix (by decide)) ?_
  refine wp_ti (y := q.1 (W * b + (W - 1))) (by rw [nI_clamp (by omega)]) ?_
  refine wp_aload_n hX dX5_isGood_18 rfl ?_
  refine wp_get hX dX5_isGood_19 flX5_8 rfl rfl ?_
  refine wp_aload_n hX dX5_isGood_22 rfl ?_
  refine wp_get hX dX5_isGood_23 flX5_42 rfl rfl ?_
  refine wp_iload_n hX dX5_isGood_26 rfl ?_
  refine wp_imul hX dX5_isGood_27 ?_
  refine wp_ti (y := (nI (W * b))) (e1) ?_
  refine wp_aload_n hX dX5_isGood_28 rfl ?_
  refine wp_get hX dX5_isGood_29 flX5_42 rfl rfl ?_
  refine wp_iconst (v := 1) hX dX5_isGood_32 ic_1 ?_
  refine wp_isub hX dX5_isGood_33 ?_
  refine wp_ti (y := (nI (W - 1))) (w1 hW1) ?_
  refine wp_cs3 hX dX5_isGood_34 mlX5_46 ⟨Nat.le_of_ble_eq_true rfl, Nat.le_of_ble_eq_true rfl⟩ (m_sumOf rfl (by decide) (by omega)) (Nat.le_of_ble_eq_true rfl) ?_
  refine wp_icmp_ne (tgt := 44) hX dX5_isGood_37 (by decide) (fun d => ?_) (fun d => ?_)
  · refine wp_iconst (v := 0) hX dX5_isGood_44 ic_0 ?_
    refine wp_iret hX dX5_isGood_45 rfl rfl ?_
    rw [decide_eq_false d] at hp
    exact hp
  · refine wp_iconst (v := 1) hX dX5_isGood_40 ic_1 ?_
    refine wp_goto (tgt := 45) hX dX5_isGood_41 (by decide) ?_
    refine wp_iret hX dX5_isGood_45 rfl rfl ?_
    rw [decide_eq_true d] at hp
    exact hp
set_option maxHeartbeats 4000000 in
set_option maxRecDepth 100000 in
theorem m_blank : MD1 mdX5_blank [.ref 15] (wM c B W LG q st op pl rc ep bt K h bf z s) none (wM c B W LG q st op pl rc ep bt K h (fun j => if j < 64 then 0 else bf j) z s) := by
  refine md_of [some (.ref 15), none] rfl (Nat.le_of_ble_eq_true rfl) (by decide) (fun X Post hX hp => ?_)
  have loop : ∀ (r i : Nat), i + r = 64 → Wp X Post 2 [some (.ref 15), some (.int (nI i))] [] (wM c B W LG q st op pl rc ep bt K h (fun j => if j < i then 0 else bf j) z s) := by
    intro r
    induction r with
    | zero =>
      intro i hi
      rw [show i = 64 by omega]
      refine wp_iload_n hX dX5_blank_2 rfl ?_
      refine wp_bipush (v := 64) hX dX5_blank_3 bp_64 ?_
      refine wp_icmp_ge (tgt := 21) hX dX5_blank_5 (by decide) (fun _ => ?_) (fun c_ => absurd (by decide) c_)
      refine wp_vret hX dX5_blank_21 rfl ?_
      exact hp
    | succ r ih =>
      intro i hi
      refine wp_iload_n hX dX5_blank_2 rfl ?_
      refine wp_bipush (v := 64) hX dX5_blank_3 bp_64 ?_
      refine wp_icmp_ge (tgt := 21) hX dX5_blank_5 (by decide) (fun c_ => absurd c_ (nI_ge (a := i) (b := 64) (by omega) (by decide))) (fun _ => ?_)
      refine wp_aload_n hX dX5_blank_8 rfl ?_
      refine wp_get hX dX5_blank_9 flX5_30 rfl rfl ?_
      refine wp_iload_n hX dX5_blank_12 rfl ?_
      refine wp_iconst (v := 0) hX dX5_blank_13 ic_0 ?_
      refine wp_iast hX dX5_blank_14 rfl (vp_in_nI (by omega) (by decide)) ?_
      rw [nI_clamp (by omega)]
      have e : upd (fun j => if j < i then 0 else bf j) i 0 = (fun j => if j < i + 1 then 0 else bf j) := by
        funext j
        by_cases h1 : j = i
        · rw [h1, pk_us, if_pos (by omega)]
        · rw [pk_un h1]
          by_cases h2 : j < i
          · rw [if_pos h2, if_pos (by omega)]
          · rw [if_neg h2, if_neg (by omega)]
      rw [e]
      refine wp_iinc hX dX5_blank_15 ic_1 rfl (Nat.le_of_ble_eq_true rfl) rfl ?_
      refine wp_goto (tgt := 2) hX dX5_blank_18 (by decide) ?_
      rw [nI_1]
      exact ih (i + 1) (by omega)
  refine wp_iconst (v := 0) hX dX5_blank_0 ic_0 ?_
  refine wp_istore_n hX dX5_blank_1 (Nat.le_of_ble_eq_true rfl) rfl ?_
  have := loop 64 0 (by omega)
  have e : (fun j => if j < 0 then 0 else bf j) = bf := by funext j; simp
  rw [e] at this
  exact this
set_option maxHeartbeats 4000000 in
set_option maxRecDepth 100000 in
theorem m_write_no {b : Nat} (hf : q.2.2 = 1) : MD1 mdX5_write [.ref 15, .int (nI b)] (wM c B W LG q st op pl rc ep bt K h bf z s) (some (.int 0)) (wM c B W LG (q.1, q.2.1, 0) 3 0 pl rc ep bt K h bf z s) := by
  refine md_of [some (.ref 15), some (.int (nI b)), none] rfl (Nat.le_of_ble_eq_true rfl) (by decide) (fun X Post hX hp => ?_)
  obtain ⟨D, wr, fu⟩ := q
  dsimp only at hf
  subst hf
  refine wp_aload_n hX dX5_write_0 rfl ?_
  refine wp_get hX dX5_write_1 flX5_50 rfl rfl ?_
  refine wp_if_le (tgt := 36) hX dX5_write_4 (by decide) (fun c_ => absurd c_ (show ¬ (1 : Int32) ≤ 0 by decide)) (fun _ => ?_)
  refine wp_aload_n hX dX5_write_7 rfl ?_
  refine wp_dup hX dX5_write_8 rfl ?_
  refine wp_get hX dX5_write_9 flX5_50 rfl rfl ?_
  refine wp_iconst (v := 1) hX dX5_write_12 ic_1 ?_
  refine wp_isub hX dX5_write_13 ?_
  refine wp_ti (y := (0)) (show (1 : Int32) - 1 = 0 by decide) ?_
  refine wp_put hX dX5_write_14 fwX5_50 rfl (Nat.le_of_ble_eq_true rfl) rfl rfl ?_
  refine wp_aload_n hX dX5_write_17 rfl ?_
  refine wp_get hX dX5_write_18 flX5_50 rfl rfl ?_
  refine wp_if_ne (tgt := 36) hX dX5_write_21 (by decide) (fun c_ => absurd (rfl) c_) (fun _ => ?_)
  refine wp_aload_n hX dX5_write_24 rfl ?_
  refine wp_iconst (v := 3) hX dX5_write_25 ic_3 ?_
  refine wp_put hX dX5_write_26 fwX5_53 rfl (Nat.le_of_ble_eq_true rfl) rfl rfl ?_
  refine wp_aload_n hX dX5_write_29 rfl ?_
  refine wp_iconst (v := 0) hX dX5_write_30 ic_0 ?_
  refine wp_put hX dX5_write_31 fwX5_56 rfl (Nat.le_of_ble_eq_true rfl) rfl rfl ?_
  refine wp_iconst (v := 0) hX dX5_write_34 ic_0 ?_
  refine wp_iret hX dX5_write_35 rfl rfl ?_
  exact hp
theorem cpB {D bf : Nat → Int32} {W b : Nat} (hW1 : 1 ≤ W) : va_cpy (upd bf (W - 1) (sumD bf 0 (W - 1))) D 0 (W * b) W = wrD D W b bf := by
  funext j
  unfold wrD
  by_cases h1 : W * b ≤ j ∧ j < W * b + W
  · rw [if_pos h1, pk_cpy_in h1.1 h1.2, Nat.zero_add]
    by_cases h2 : j = W * b + (W - 1)
    · rw [if_pos h2, h2, show W * b + (W - 1) - W * b = W - 1 by omega, pk_us]
    · rw [if_neg h2, pk_un (by omega)]
  · rw [if_neg h1, pk_cpy_out (by omega)]
set_option maxHeartbeats 4000000 in
set_option maxRecDepth 100000 in
theorem m_write_ok {b : Nat} (hB : B ≤ 512) (hW : W ≤ 64) (hW1 : 1 ≤ W) (hb : b < B) (hf : ¬ q.2.2 = 1) : MD1 mdX5_write [.ref 15, .int (nI b)] (wM c B W LG q st op pl rc ep bt K h bf z s) (some (.int 1)) (wM c B W LG (wrD q.1 W b bf, q.2.1 + 1, pwd q.2.2) st op pl rc ep bt K h (upd bf (W - 1) (sumD bf 0 (W - 1))) z s) := by
  refine md_of [some (.ref 15), some (.int (nI b)), none] rfl (Nat.le_of_ble_eq_true rfl) (by decide) (fun X Post hX hp => ?_)
  have hix := ixb hB hW hb (show W - 1 < W by omega)
  have tail : ∀ fu1, fu1 = pwd q.2.2 → Wp X Post 36 [some (.ref 15), some (.int (nI b)), none] [] (wM c B W LG (q.1, q.2.1, fu1) st op pl rc ep bt K h bf z s) := by
    intro fu1 hfu
    have loop : ∀ (r k : Nat), k + r = W → Wp X Post 63 [some (.ref 15), some (.int (nI b)), some (.int (nI k))] [] (wM c B W LG (va_cpy (upd bf (W - 1) (sumD bf 0 (W - 1))) q.1 0 (W * b) k, q.2.1, fu1) st op pl rc ep bt K h (upd bf (W - 1) (sumD bf 0 (W - 1))) z s) := by
      intro r
      induction r with
      | zero =>
        intro k hk
        rw [show k = W by omega]
        refine wp_iload_n hX dX5_write_63 rfl ?_
        refine wp_aload_n hX dX5_write_64 rfl ?_
        refine wp_get hX dX5_write_65 flX5_42 rfl rfl ?_
        refine wp_icmp_ge (tgt := 96) hX dX5_write_68 (by decide) (fun _ => ?_) (fun c_ => absurd (nI_le (Nat.le_refl _) (by omega)) c_)
        rw [cpB hW1, hfu]
        refine wp_aload_n hX dX5_write_96 rfl ?_
        refine wp_dup hX dX5_write_97 rfl ?_
        refine wp_get hX dX5_write_98 flX5_60 rfl rfl ?_
        refine wp_iconst (v := 1) hX dX5_write_101 ic_1 ?_
        refine wp_iadd hX dX5_write_102 ?_
        refine wp_put hX dX5_write_103 fwX5_60 rfl (Nat.le_of_ble_eq_true rfl) rfl rfl ?_
        refine wp_iconst (v := 1) hX dX5_write_106 ic_1 ?_
        refine wp_iret hX dX5_write_107 rfl rfl ?_
        exact hp
      | succ r ih =>
        intro k hk
        refine wp_iload_n hX dX5_write_63 rfl ?_
        refine wp_aload_n hX dX5_write_64 rfl ?_
        refine wp_get hX dX5_write_65 flX5_42 rfl rfl ?_
        refine wp_icmp_ge (tgt := 96) hX dX5_write_68 (by decide) (fun c_ => absurd c_ (nI_ge (by omega) (by omega))) (fun _ => ?_)
        refine wp_aload_n hX dX5_write_71 rfl ?_
        refine wp_get hX dX5_write_72 flX5_8 rfl rfl ?_
        refine wp_aload_n hX dX5_write_75 rfl ?_
        refine wp_get hX dX5_write_76 flX5_42 rfl rfl ?_
        refine wp_iload_n hX dX5_write_79 rfl ?_
        refine wp_imul hX dX5_write_80 ?_
        refine wp_iload_n hX dX5_write_81 rfl ?_
        refine wp_iadd hX dX5_write_82 ?_
        refine wp_ti (y := nI (W * b + k)) (by rw [pk_mul, nI_add]) ?_
        refine wp_aload_n hX dX5_write_83 rfl ?_
        refine wp_get hX dX5_write_84 flX5_30 rfl rfl ?_
        refine wp_iload_n hX dX5_write_87 rfl ?_
        refine wp_iald hX dX5_write_88 rfl (vp_in_nI (by omega) (by decide)) ?_
        refine wp_iast hX dX5_write_89 rfl (vp_in_nI (by omega) (by decide)) ?_
        rw [nI_clamp (show k < 2 ^ 31 by omega), nI_clamp (show W * b + k < 2 ^ 31 by omega)]
        have e : upd (va_cpy (upd bf (W - 1) (sumD bf 0 (W - 1))) q.1 0 (W * b) k) (W * b + k) (upd bf (W - 1) (sumD bf 0 (W - 1)) k) = va_cpy (upd bf (W - 1) (sumD bf 0 (W - 1))) q.1 0 (W * b) (k + 1) := by
          funext j
          by_cases h1 : j = W * b + k
          · rw [h1, pk_us, pk_cpy_in (by omega) (by omega)]
            congr 1
            omega
          · rw [pk_un h1]
            by_cases h2 : W * b ≤ j ∧ j < W * b + k
            · rw [pk_cpy_in h2.1 h2.2, pk_cpy_in h2.1 (by omega)]
            · rw [pk_cpy_out (by omega), pk_cpy_out (by omega)]
        refine wp_eqW (σ1 := wM c B W LG (upd (va_cpy (upd bf (W - 1) (sumD bf 0 (W - 1))) q.1 0 (W * b) k) (W * b + k) (upd bf (W - 1) (sumD bf 0 (W - 1)) k), q.2.1, fu1) st op pl rc ep bt K h (upd bf (W - 1) (sumD bf 0 (W - 1))) z s) rfl ?_
        rw [e]
        refine wp_iinc hX dX5_write_90 ic_1 rfl (Nat.le_of_ble_eq_true rfl) rfl ?_
        refine wp_goto (tgt := 63) hX dX5_write_93 (by decide) ?_
        rw [nI_1]
        exact ih (k + 1) (by omega)
    refine wp_aload_n hX dX5_write_36 rfl ?_
    refine wp_get hX dX5_write_37 flX5_30 rfl rfl ?_
    refine wp_aload_n hX dX5_write_40 rfl ?_
    refine wp_get hX dX5_write_41 flX5_42 rfl rfl ?_
    refine wp_iconst (v := 1) hX dX5_write_44 ic_1 ?_
    refine wp_isub hX dX5_write_45 ?_
    refine wp_ti (y := (nI (W - 1))) (w1 hW1) ?_
    refine wp_aload_n hX dX5_write_46 rfl ?_
    refine wp_get hX dX5_write_47 flX5_30 rfl rfl ?_
    refine wp_iconst (v := 0) hX dX5_write_50 ic_0 ?_
    refine wp_aload_n hX dX5_write_51 rfl ?_
    refine wp_get hX dX5_write_52 flX5_42 rfl rfl ?_
    refine wp_iconst (v := 1) hX dX5_write_55 ic_1 ?_
    refine wp_isub hX dX5_write_56 ?_
    refine wp_ti (y := (nI (W - 1))) (w1 hW1) ?_
    refine wp_cs3 hX dX5_write_57 mlX5_46 ⟨Nat.le_of_ble_eq_true rfl, Nat.le_of_ble_eq_true rfl⟩ (m_sumOf (o := 0) rfl (by decide) (by omega)) (Nat.le_of_ble_eq_true rfl) ?_
    refine wp_iast hX dX5_write_60 rfl (vp_in_nI (by omega) (by decide)) ?_
    rw [nI_clamp (by omega)]
    refine wp_iconst (v := 0) hX dX5_write_61 ic_0 ?_
    refine wp_istore_n hX dX5_write_62 (Nat.le_of_ble_eq_true rfl) rfl ?_
    have := loop W 0 (by omega)
    have e0 : va_cpy (upd bf (W - 1) (sumD bf 0 (W - 1))) q.1 0 (W * b) 0 = q.1 := by
      funext j
      rw [pk_cpy_out (by omega)]
    rw [e0] at this
    exact this
  refine wp_aload_n hX dX5_write_0 rfl ?_
  refine wp_get hX dX5_write_1 flX5_50 rfl rfl ?_
  refine wp_if_le (tgt := 36) hX dX5_write_4 (by decide) (fun d => ?_) (fun d => ?_)
  · exact tail q.2.2 (by unfold pwd; rw [if_neg (Int32.not_lt.mpr d)])
  · have d0 : 0 < q.2.2 := Int32.not_le.mp d
    have hne : ¬ q.2.2 - 1 = 0 := fun y => hf (by
      have : q.2.2 - 1 + 1 = 0 + 1 := by rw [y]
      simpa using this)
    refine wp_aload_n hX dX5_write_7 rfl ?_
    refine wp_dup hX dX5_write_8 rfl ?_
    refine wp_get hX dX5_write_9 flX5_50 rfl rfl ?_
    refine wp_iconst (v := 1) hX dX5_write_12 ic_1 ?_
    refine wp_isub hX dX5_write_13 ?_
    refine wp_put hX dX5_write_14 fwX5_50 rfl (Nat.le_of_ble_eq_true rfl) rfl rfl ?_
    refine wp_aload_n hX dX5_write_17 rfl ?_
    refine wp_get hX dX5_write_18 flX5_50 rfl rfl ?_
    refine wp_if_ne (tgt := 36) hX dX5_write_21 (by decide) (fun _ => ?_) (fun c_ => absurd c_ (hne))
    exact tail (q.2.2 - 1) (by unfold pwd; rw [if_pos d0])
set_option maxHeartbeats 4000000 in
set_option maxRecDepth 100000 in
/-- writeHead: the state is 3 behind a power that failed -/
theorem m_writeHead {e b1 a r n : Int32} (hB : B ≤ 512) (hB1 : 1 ≤ B) (hW : 16 ≤ W) (hW2 : W ≤ 64) : MT mdX5_writeHead [.ref 15, .int e, .int b1, .int a, .int r, .int n] (wM c B W LG q st op pl rc ep bt K h bf z s) (fun r0 σ1 => ∃ bf1, r0 = some (.int (b2i (wr1 W q 0 (hdB e b1 a r n)).1)) ∧ σ1 = wM c B W LG (wr1 W q 0 (hdB e b1 a r n)).2 (if (wr1 W q 0 (hdB e b1 a r n)).1 then st else 3) (if (wr1 W q 0 (hdB e b1 a r n)).1 then op else 0) pl rc ep bt K h bf1 z s) := by
  refine mp_of [some (.ref 15), some (.int e), some (.int b1), some (.int a), some (.int r), some (.int n)] rfl (Nat.le_of_ble_eq_true rfl) (by decide) (fun X Post hX hp => ?_)
  refine wp_aload_n hX dX5_writeHead_0 rfl ?_
  refine wp_cv0 hX dX5_writeHead_1 mlX5_63 ⟨Nat.le_of_ble_eq_true rfl, Nat.le_of_ble_eq_true rfl⟩ (m_blank) rfl (Nat.le_of_ble_eq_true rfl) ?_
  refine wp_aload_n hX dX5_writeHead_4 rfl ?_
  refine wp_get hX dX5_writeHead_5 flX5_30 rfl rfl ?_
  refine wp_iconst (v := 0) hX dX5_writeHead_8 ic_0 ?_
  refine wp_ldc hX dX5_writeHead_9 lcX5_66 ?_
  refine wp_iast hX dX5_writeHead_11 rfl (vp_in_nI (n := 0) (by decide) (by decide)) ?_
  refine wp_aload_n hX dX5_writeHead_12 rfl ?_
  refine wp_get hX dX5_writeHead_13 flX5_30 rfl rfl ?_
  refine wp_iconst (v := 1) hX dX5_writeHead_16 ic_1 ?_
  refine wp_iload_n hX dX5_writeHead_17 rfl ?_
  refine wp_iast hX dX5_writeHead_18 rfl (vp_in_nI (n := 1) (by decide) (by decide)) ?_
  refine wp_aload_n hX dX5_writeHead_19 rfl ?_
  refine wp_get hX dX5_writeHead_20 flX5_30 rfl rfl ?_
  refine wp_iconst (v := 2) hX dX5_writeHead_23 ic_2 ?_
  refine wp_iload_n hX dX5_writeHead_24 rfl ?_
  refine wp_iast hX dX5_writeHead_25 rfl (vp_in_nI (n := 2) (by decide) (by decide)) ?_
  refine wp_aload_n hX dX5_writeHead_26 rfl ?_
  refine wp_get hX dX5_writeHead_27 flX5_30 rfl rfl ?_
  refine wp_iconst (v := 3) hX dX5_writeHead_30 ic_3 ?_
  refine wp_iload_n hX dX5_writeHead_31 rfl ?_
  refine wp_iast hX dX5_writeHead_32 rfl (vp_in_nI (n := 3) (by decide) (by decide)) ?_
  refine wp_aload_n hX dX5_writeHead_33 rfl ?_
  refine wp_get hX dX5_writeHead_34 flX5_30 rfl rfl ?_
  refine wp_iconst (v := 4) hX dX5_writeHead_37 ic_4 ?_
  refine wp_iload hX dX5_writeHead_38 rfl ?_
  refine wp_iast hX dX5_writeHead_40 rfl (vp_in_nI (n := 4) (by decide) (by decide)) ?_
  refine wp_aload_n hX dX5_writeHead_41 rfl ?_
  refine wp_get hX dX5_writeHead_42 flX5_30 rfl rfl ?_
  refine wp_iconst (v := 5) hX dX5_writeHead_45 ic_5 ?_
  refine wp_iload hX dX5_writeHead_46 rfl ?_
  refine wp_iast hX dX5_writeHead_48 rfl (vp_in_nI (n := 5) (by decide) (by decide)) ?_
  refine wp_eqW (σ1 := wM c B W LG q st op pl rc ep bt K h (upd (upd (upd (upd (upd (upd (fun j => if j < 64 then 0 else bf j) 0 1129337682) 1 e) 2 b1) 3 a) 4 r) 5 n) z s) rfl ?_
  by_cases h1 : q.2.2 = 1
  · rw [wr1_no h1] at hp
    refine wp_aload_n hX dX5_writeHead_49 rfl ?_
    refine wp_iconst (v := 0) hX dX5_writeHead_50 ic_0 ?_
    refine wp_cv1 hX dX5_writeHead_51 mlX5_67 ⟨Nat.le_of_ble_eq_true rfl, Nat.le_of_ble_eq_true rfl⟩ (m_write_no (b := 0) h1) rfl (Nat.le_of_ble_eq_true rfl) ?_
    refine wp_iret hX dX5_writeHead_54 rfl rfl ?_
    exact hp _ _ ⟨_, rfl, rfl⟩
  · rw [wr1_ok h1] at hp
    refine wp_aload_n hX dX5_writeHead_49 rfl ?_
    refine wp_iconst (v := 0) hX dX5_writeHead_50 ic_0 ?_
    refine wp_cv1 hX dX5_writeHead_51 mlX5_67 ⟨Nat.le_of_ble_eq_true rfl, Nat.le_of_ble_eq_true rfl⟩ (m_write_ok (b := 0) hB hW2 (by omega) (by omega) h1) rfl (Nat.le_of_ble_eq_true rfl) ?_
    refine wp_iret hX dX5_writeHead_54 rfl rfl ?_
    rw [wrD_congr (hdB_eq hW2)]
    exact hp _ _ ⟨_, rfl, rfl⟩
set_option maxRecDepth 100000 in
theorem m_area (hg : LG + 1 ≤ B) (hB : B ≤ 512) : MD1 mdX5_area [.ref 15] (wM c B W LG q st op pl rc ep bt K h bf z s) (some (.int (nI (AR B LG)))) (wM c B W LG q st op pl rc ep bt K h bf z s) := by
  refine md_of [some (.ref 15)] rfl (Nat.le_of_ble_eq_true rfl) (by decide) (fun X Post hX hp => ?_)
  refine wp_aload_n hX dX5_area_0 rfl ?_
  refine wp_get hX dX5_area_1 flX5_71 rfl rfl ?_
  refine wp_iconst (v := 1) hX dX5_area_4 ic_1 ?_
  refine wp_isub hX dX5_area_5 ?_
  refine wp_ti (y := (nI (B - 1))) (w1 (by omega)) ?_
  refine wp_aload_n hX dX5_area_6 rfl ?_
  refine wp_get hX dX5_area_7 flX5_74 rfl rfl ?_
  refine wp_isub hX dX5_area_10 ?_
  refine wp_ti (y := (nI (B - 1 - LG))) (pk_sub (by omega)) ?_
  refine wp_iconst (v := 2) hX dX5_area_11 ic_2 ?_
  refine wp_idiv hX dX5_area_12 (by decide) ?_
  refine wp_ti (y := nI (AR B LG)) (pk_div (a := B - 1 - LG) (d := 2) (by omega) (by decide) (by decide)) ?_
  refine wp_iret hX dX5_area_13 rfl rfl ?_
  exact hp
set_option maxRecDepth 100000 in
theorem m_fan (hW : 3 ≤ W) (hW2 : W ≤ 64) : MD1 mdX5_fan [.ref 15] (wM c B W LG q st op pl rc ep bt K h bf z s) (some (.int (nI (fan W)))) (wM c B W LG q st op pl rc ep bt K h bf z s) := by
  refine md_of [some (.ref 15)] rfl (Nat.le_of_ble_eq_true rfl) (by decide) (fun X Post hX hp => ?_)
  refine wp_aload_n hX dX5_fan_0 rfl ?_
  refine wp_get hX dX5_fan_1 flX5_42 rfl rfl ?_
  refine wp_iconst (v := 3) hX dX5_fan_4 ic_3 ?_
  refine wp_isub hX dX5_fan_5 ?_
  refine wp_ti (y := (nI (W - 3))) (pk_sub (a := W) (b := 3) hW) ?_
  refine wp_iconst (v := 2) hX dX5_fan_6 ic_2 ?_
  refine wp_idiv hX dX5_fan_7 (by decide) ?_
  refine wp_ti (y := nI (fan W)) (pk_div (a := W - 3) (d := 2) (by omega) (by decide) (by decide)) ?_
  refine wp_iret hX dX5_fan_8 rfl rfl ?_
  exact hp
set_option maxRecDepth 100000 in
theorem m_part (hW : 5 ≤ W) : MD1 mdX5_part [.ref 15] (wM c B W LG q st op pl rc ep bt K h bf z s) (some (.int (nI (W - 5)))) (wM c B W LG q st op pl rc ep bt K h bf z s) := by
  refine md_of [some (.ref 15)] rfl (Nat.le_of_ble_eq_true rfl) (by decide) (fun X Post hX hp => ?_)
  refine wp_aload_n hX dX5_part_0 rfl ?_
  refine wp_get hX dX5_part_1 flX5_42 rfl rfl ?_
  refine wp_iconst (v := 5) hX dX5_part_4 ic_5 ?_
  refine wp_isub hX dX5_part_5 ?_
  refine wp_ti (y := nI (W - 5)) (pk_sub (a := W) (b := 5) hW) ?_
  refine wp_iret hX dX5_part_6 rfl rfl ?_
  exact hp
set_option maxHeartbeats 4000000 in
set_option maxRecDepth 100000 in
theorem m_not (hst : st = 0 ∨ st = 1 ∨ st = 2 ∨ st = 3) (h2 : ¬ st = 2) : MD1 mdX5_not [.ref 15] (wM c B W LG q st op pl rc ep bt K h bf z s) (some (.int (rfs st))) (wM c B W LG q st op pl rc ep bt K h bf z s) := by
  refine md_of [some (.ref 15)] rfl (Nat.le_of_ble_eq_true rfl) (by decide) (fun X Post hX hp => ?_)
  rcases hst with rfl | rfl | rfl | rfl
  · refine wp_aload_n hX dX5_not_0 rfl ?_
    refine wp_get hX dX5_not_1 flX5_53 rfl rfl ?_
    refine wp_if_ne (tgt := 12) hX dX5_not_4 (by decide) (fun c_ => absurd (rfl) c_) (fun _ => ?_)
    refine wp_bipush (v := (-7)) hX dX5_not_7 bp_m7 ?_
    refine wp_goto (tgt := 38) hX dX5_not_9 (by decide) ?_
    refine wp_iret hX dX5_not_38 rfl rfl ?_
    exact hp
  · refine wp_aload_n hX dX5_not_0 rfl ?_
    refine wp_get hX dX5_not_1 flX5_53 rfl rfl ?_
    refine wp_if_ne (tgt := 12) hX dX5_not_4 (by decide) (fun _ => ?_) (fun c_ => absurd c_ (by decide))
    refine wp_aload_n hX dX5_not_12 rfl ?_
    refine wp_get hX dX5_not_13 flX5_53 rfl rfl ?_
    refine wp_iconst (v := 1) hX dX5_not_16 ic_1 ?_
    refine wp_icmp_ne (tgt := 25) hX dX5_not_17 (by decide) (fun c_ => absurd (rfl) c_) (fun _ => ?_)
    refine wp_bipush (v := (-2)) hX dX5_not_20 bp_m2 ?_
    refine wp_goto (tgt := 38) hX dX5_not_22 (by decide) ?_
    refine wp_iret hX dX5_not_38 rfl rfl ?_
    exact hp
  · exact absurd rfl h2
  · refine wp_aload_n hX dX5_not_0 rfl ?_
    refine wp_get hX dX5_not_1 flX5_53 rfl rfl ?_
    refine wp_if_ne (tgt := 12) hX dX5_not_4 (by decide) (fun _ => ?_) (fun c_ => absurd c_ (by decide))
    refine wp_aload_n hX dX5_not_12 rfl ?_
    refine wp_get hX dX5_not_13 flX5_53 rfl rfl ?_
    refine wp_iconst (v := 1) hX dX5_not_16 ic_1 ?_
    refine wp_icmp_ne (tgt := 25) hX dX5_not_17 (by decide) (fun _ => ?_) (fun c_ => absurd c_ (by decide))
    refine wp_aload_n hX dX5_not_25 rfl ?_
    refine wp_get hX dX5_not_26 flX5_53 rfl rfl ?_
    refine wp_iconst (v := 3) hX dX5_not_29 ic_3 ?_
    refine wp_icmp_ne (tgt := 37) hX dX5_not_30 (by decide) (fun c_ => absurd (rfl) c_) (fun _ => ?_)
    refine wp_iconst (v := (-1)) hX dX5_not_33 ic_m1 ?_
    refine wp_goto (tgt := 38) hX dX5_not_34 (by decide) ?_
    refine wp_iret hX dX5_not_38 rfl rfl ?_
    exact hp
end MO
