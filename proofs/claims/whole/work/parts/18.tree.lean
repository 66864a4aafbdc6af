/-! Tree: cell 5 -/
/-- blocks of the rows of nodes above a row -/
def tbl (F : Nat) : Nat → Nat → Nat
  | 0, _ => 0
  | k + 1, row => if row ≤ 1 then 0 else cdv row F + tbl F k (cdv row F)
theorem tbl_s (F k row : Nat) : tbl F (k + 1) row = if row ≤ 1 then 0 else cdv row F + tbl F k (cdv row F) := rfl
def tBl (F n : Nat) : Nat := cdv n F + tbl F 32 (cdv n F)
theorem cdv_half {row F k : Nat} (hF : 2 ≤ F) (h : row ≤ 2 ^ (k + 1)) : cdv row F ≤ 2 ^ k := by
  have h1 : cdv row F * F < row + F := by
    rcases Nat.eq_zero_or_pos row with z | z
    · rw [z, cdv_0 (by omega)]; omega
    · rw [cdv_s z (by omega), Nat.add_mul]
      have := Nat.div_mul_le_self (row - 1) F
      omega
  rw [Nat.pow_succ] at h
  rcases Nat.lt_or_ge (2 ^ k) (cdv row F) with z | z
  · exfalso
    have h2 : (2 ^ k + 1) * F ≤ cdv row F * F := Nat.mul_le_mul z (Nat.le_refl _)
    have h3 : 2 ^ k * 2 ≤ 2 ^ k * F := Nat.mul_le_mul (Nat.le_refl _) hF
    rw [Nat.add_mul] at h2
    omega
  · exact z
theorem tbl_0 (F k : Nat) : tbl F k 0 = 0 := by cases k <;> rfl
theorem tbl_le {F : Nat} (hF : 2 ≤ F) : ∀ (k row : Nat), tbl F k row ≤ 2 * row
  | 0, row => by unfold tbl; omega
  | k + 1, row => by
    unfold tbl
    split
    · omega
    · next h =>
      have := tbl_le hF k (cdv row F)
      have h1 : cdv row F * 2 ≤ row + 1 := by
        have : cdv row F ≤ cdv row 2 := by
          rcases Nat.lt_or_ge (cdv row 2) (cdv row F) with z | z
          · have := (cdv_lt (n := row) (e := F) (k := cdv row 2) (by omega)).mp z
            have h5 := cdv_mul (n := row) (e := 2) (by omega)
            have h6 : cdv row 2 * 2 ≤ cdv row 2 * F := Nat.mul_le_mul (Nat.le_refl _) hF
            omega
          · exact z
        have h7 : cdv row 2 * 2 ≤ row + 1 := by unfold cdv; omega
        omega
      omega
/-- a block of n pairs -/
def pgB (kind : Int32) (n : Nat) (g : Nat → Int32 × Int32) : Nat → Int32 := fun j => if j = 0 then kind else if j = 1 then nI n else if j < 2 + 2 * n then (if (j - 2) % 2 = 0 then (g ((j - 2) / 2)).1 else (g ((j - 2) / 2)).2) else 0
/-- block k of a row that holds len pairs g -/
def rowB (F : Nat) (kind : Int32) (len : Nat) (g : Nat → Int32 × Int32) (k : Nat) : Nat → Int32 := pgB kind (min F (len - F * k)) (fun i => g (F * k + i))
/-- page with n pairs g from place 2 on -/
def prP (pf : Nat → Int32) (g : Nat → Int32 × Int32) (n : Nat) : Nat → Int32 := fun j => if 2 ≤ j ∧ j < 2 + 2 * n then (if (j - 2) % 2 = 0 then (g ((j - 2) / 2)).1 else (g ((j - 2) / 2)).2) else pf j
theorem prP_0 (pf : Nat → Int32) (g : Nat → Int32 × Int32) : prP pf g 0 = pf := by
  funext j
  unfold prP
  rw [if_neg (by omega)]
theorem prP_s (pf : Nat → Int32) (g : Nat → Int32 × Int32) (i : Nat) : upd (upd (prP pf g i) (2 + 2 * i) (g i).1) (2 + 2 * i + 1) (g i).2 = prP pf g (i + 1) := by
  funext j
  unfold prP
  by_cases h : j = 2 + 2 * i + 1
  · rw [h, pk_us, if_pos (by omega), if_neg (by omega)]
    rw [show (2 + 2 * i + 1 - 2) / 2 = i by omega]
  · rw [pk_un h]
    by_cases h2 : j = 2 + 2 * i
    · rw [h2, pk_us, if_pos (by omega), if_pos (by omega)]
      rw [show (2 + 2 * i - 2) / 2 = i by omega]
    · rw [pk_un h2]
      by_cases h3 : 2 ≤ j ∧ j < 2 + 2 * i
      · rw [if_pos h3, if_pos (show 2 ≤ j ∧ j < 2 + 2 * (i + 1) by omega)]
      · rw [if_neg h3, if_neg (show ¬ (2 ≤ j ∧ j < 2 + 2 * (i + 1)) by omega)]
theorem pgB_eq {W n : Nat} {kind : Int32} {g : Nat → Int32 × Int32} {pf : Nat → Int32} (hW : W ≤ 64) : ∀ j, j < W - 1 → prP (upd (upd (fun j => if j < 64 then 0 else pf j) 0 kind) 1 (nI n)) g n j = pgB kind n g j := by
  intro j hj
  unfold prP pgB
  by_cases h0 : j = 0
  · subst h0
    rw [if_neg (by omega), if_pos rfl, pk_un (by omega), pk_us]
  · rw [if_neg h0]
    by_cases h1 : j = 1
    · subst h1
      rw [if_neg (by omega), if_pos rfl, pk_us]
    · rw [if_neg h1]
      by_cases h2 : j < 2 + 2 * n
      · rw [if_pos (by omega), if_pos h2]
      · rw [if_neg (by omega), if_neg h2, pk_un h1, pk_un h0, if_pos (by omega)]
def fan (W : Nat) : Nat := (W - 3) / 2
section TR
variable {st it : Int32} {B W : Nat} {q : DQ} {pf : Nat → Int32} {jb jp jr tf te : Nat} {C S H : MP} {τ : aW} {Cm : PM}
set_option maxRecDepth 100000 in
theorem t_layOut {x y : Nat} : MD1 mdX3_layOut [.ref 5, .int (nI x), .int (nI y)] (wX st it B W q pf jb jp jr tf te C S H τ) none (wX st it B W q pf jb jp jr x y C S H τ) := by
  refine md_of [some (.ref 5), some (.int (nI x)), some (.int (nI y))] rfl (Nat.le_of_ble_eq_true rfl) (by decide) (fun X Post hX hp => ?_)
  refine wp_aload_n hX dX3_layOut_0 rfl ?_
  refine wp_iload_n hX dX3_layOut_1 rfl ?_
  refine wp_put hX dX3_layOut_2 fwX3_9 rfl (Nat.le_of_ble_eq_true rfl) rfl rfl ?_
  refine wp_aload_n hX dX3_layOut_5 rfl ?_
  refine wp_iload_n hX dX3_layOut_6 rfl ?_
  refine wp_put hX dX3_layOut_7 fwX3_15 rfl (Nat.le_of_ble_eq_true rfl) rfl rfl ?_
  refine wp_vret hX dX3_layOut_10 rfl ?_
  exact hp
set_option maxRecDepth 100000 in
theorem t_areaBlocks : MD1 mdX3_areaBlocks [.ref 5] (wX st it B W q pf jb jp jr tf te C S H τ) (some (.int (nI te))) (wX st it B W q pf jb jp jr tf te C S H τ) := by
  refine md_of [some (.ref 5)] rfl (Nat.le_of_ble_eq_true rfl) (by decide) (fun X Post hX hp => ?_)
  refine wp_aload_n hX dX3_areaBlocks_0 rfl ?_
  refine wp_get hX dX3_areaBlocks_1 flX3_15 rfl rfl ?_
  refine wp_iret hX dX3_areaBlocks_4 rfl rfl ?_
  exact hp
set_option maxRecDepth 100000 in
theorem t_fan (hW : 3 ≤ W) (hW2 : W ≤ 64) : MD1 mdX3_fan [.ref 5] (wX st it B W q pf jb jp jr tf te C S H τ) (some (.int (nI (fan W)))) (wX st it B W q pf jb jp jr tf te C S H τ) := by
  refine md_of [some (.ref 5)] rfl (Nat.le_of_ble_eq_true rfl) (by decide) (fun X Post hX hp => ?_)
  refine wp_aload_n hX dX3_fan_0 rfl ?_
  refine wp_get hX dX3_fan_1 flX3_18 rfl rfl ?_
  refine wp_cv0 hX dX3_fan_4 mlX3_62 ⟨Nat.le_of_ble_eq_true rfl, Nat.le_of_ble_eq_true rfl⟩ (d_wordsInBlock rfl) rfl (Nat.le_of_ble_eq_true rfl) ?_
  refine wp_iconst (v := 3) hX dX3_fan_7 ic_3 ?_
  refine wp_isub hX dX3_fan_8 ?_
  refine wp_ti (y := (nI (W - 3))) (pk_sub (a := W) (b := 3) hW) ?_
  refine wp_iconst (v := 2) hX dX3_fan_9 ic_2 ?_
  refine wp_idiv hX dX3_fan_10 (by decide) ?_
  refine wp_ti (y := nI (fan W)) (pk_div (a := W - 3) (d := 2) (by omega) (by decide) (by decide)) ?_
  refine wp_iret hX dX3_fan_11 rfl rfl ?_
  exact hp
theorem fan_2 (hW : 16 ≤ W) : 2 ≤ fan W := by unfold fan; omega
theorem fan_le (hW2 : W ≤ 64) : fan W ≤ 30 := by unfold fan; omega
theorem fan_w : 2 * fan W ≤ W - 3 := by unfold fan; omega
set_option maxHeartbeats 4000000 in
set_option maxRecDepth 100000 in
theorem t_blocksFor {n : Nat} (hW : 16 ≤ W) (hW2 : W ≤ 64) (hn : n ≤ 20000) : MD1 mdX3_blocksFor [.ref 5, .int (nI n)] (wX st it B W q pf jb jp jr tf te C S H τ) (some (.int (nI (tBl (fan W) n)))) (wX st it B W q pf jb jp jr tf te C S H τ) := by
  refine md_of [some (.ref 5), some (.int (nI n)), none, none, none] rfl (Nat.le_of_ble_eq_true rfl) (by decide) (fun X Post hX hp => ?_)
  have hF := fan_2 hW
  have hF2 := fan_le hW2
  have hle := cdv_le (n := n) (e := fan W) (by omega)
  have loop : ∀ (k i row all : Nat), i + k = 32 → row ≤ 2 ^ k → row ≤ 20000 → all + 2 * row ≤ 100000 → all + tbl (fan W) k row = tBl (fan W) n → Wp X Post 14 [some (.ref 5), some (.int (nI n)), some (.int (nI row)), some (.int (nI all)), some (.int (nI i))] [] (wX st it B W q pf jb jp jr tf te C S H τ) := by
    intro k
    induction k with
    | zero =>
      intro i row all hi hr hr2 ha he
      refine wp_iload hX dX3_blocksFor_14 rfl ?_
      refine wp_bipush (v := 32) hX dX3_blocksFor_16 bp_32 ?_
      refine wp_icmp_ge (tgt := 45) hX dX3_blocksFor_18 (by decide) (fun _ => ?_) (fun c => absurd (nI_le (a := 32) (b := i) (by omega) (by omega)) c)
      refine wp_iload_n hX dX3_blocksFor_45 rfl ?_
      refine wp_iret hX dX3_blocksFor_46 rfl rfl ?_
      rw [← he] at hp
      exact hp
    | succ k ih =>
      intro i row all hi hr hr2 ha he
      rw [tbl_s] at he
      refine wp_iload hX dX3_blocksFor_14 rfl ?_
      refine wp_bipush (v := 32) hX dX3_blocksFor_16 bp_32 ?_
      refine wp_icmp_ge (tgt := 45) hX dX3_blocksFor_18 (by decide) (fun c => absurd c (nI_ge (a := i) (b := 32) (by omega) (by omega))) (fun _ => ?_)
      refine wp_iload_n hX dX3_blocksFor_21 rfl ?_
      refine wp_iconst (v := 1) hX dX3_blocksFor_22 ic_1 ?_
      refine wp_icmp_le (tgt := 45) hX dX3_blocksFor_23 (by decide) (fun c => ?_) (fun c => ?_)
      · have h1 := (nI_leI (a := row) (b := 1) (by omega) (by decide)).mp c
        rw [if_pos h1] at he
        refine wp_iload_n hX dX3_blocksFor_45 rfl ?_
        refine wp_iret hX dX3_blocksFor_46 rfl rfl ?_
        rw [← he] at hp
        exact hp
      · have h1 : ¬ row ≤ 1 := fun z => c (nI_le (a := row) (b := 1) z (by decide))
        rw [if_neg h1] at he
        have h2 := cdv_le (n := row) (e := fan W) (by omega)
        have h3 : cdv row (fan W) * 2 ≤ row + 1 := by
          rcases Nat.lt_or_ge (cdv row 2) (cdv row (fan W)) with z | z
          · have h4 := (cdv_lt (n := row) (e := fan W) (k := cdv row 2) (by omega)).mp z
            have h5 := cdv_mul (n := row) (e := 2) (by omega)
            have h6 : cdv row 2 * 2 ≤ cdv row 2 * fan W := Nat.mul_le_mul (Nat.le_refl _) hF
            omega
          · have h7 : cdv row 2 * 2 ≤ row + 1 := by unfold cdv; omega
            omega
        refine wp_iload_n hX dX3_blocksFor_26 rfl ?_
        refine wp_aload_n hX dX3_blocksFor_27 rfl ?_
        refine wp_cv0 hX dX3_blocksFor_28 mlX3_22 ⟨Nat.le_of_ble_eq_true rfl, Nat.le_of_ble_eq_true rfl⟩ (t_fan (by omega) hW2) rfl (Nat.le_of_ble_eq_true rfl) ?_
        refine wp_cn2 hX dX3_blocksFor_31 msX4_blocksOf (fun s h => h.2) ⟨Nat.le_of_ble_eq_true rfl, Nat.le_of_ble_eq_true rfl⟩ (b_blocksOf (by omega) (by omega) (by omega)) (Nat.le_of_ble_eq_true rfl) ?_
        refine wp_istore_n hX dX3_blocksFor_34 (Nat.le_of_ble_eq_true rfl) rfl ?_
        refine wp_iload_n hX dX3_blocksFor_35 rfl ?_
        refine wp_iload_n hX dX3_blocksFor_36 rfl ?_
        refine wp_iadd hX dX3_blocksFor_37 ?_
        refine wp_ti (y := (nI (all + cdv row (fan W)))) (nI_add _ _) ?_
        refine wp_istore_n hX dX3_blocksFor_38 (Nat.le_of_ble_eq_true rfl) rfl ?_
        refine wp_iinc hX dX3_blocksFor_39 ic_1 rfl (Nat.le_of_ble_eq_true rfl) rfl ?_
        refine wp_goto (tgt := 14) hX dX3_blocksFor_42 (by decide) ?_
        rw [nI_1]
        exact ih (i + 1) (cdv row (fan W)) (all + cdv row (fan W)) (by omega) (cdv_half hF hr) (by omega) (by omega) (by omega)
  refine wp_iload_n hX dX3_blocksFor_0 rfl ?_
  refine wp_aload_n hX dX3_blocksFor_1 rfl ?_
  refine wp_cv0 hX dX3_blocksFor_2 mlX3_22 ⟨Nat.le_of_ble_eq_true rfl, Nat.le_of_ble_eq_true rfl⟩ (t_fan (by omega) hW2) rfl (Nat.le_of_ble_eq_true rfl) ?_
  refine wp_cn2 hX dX3_blocksFor_5 msX4_blocksOf (fun s h => h.2) ⟨Nat.le_of_ble_eq_true rfl, Nat.le_of_ble_eq_true rfl⟩ (b_blocksOf (by omega) (by omega) (by omega)) (Nat.le_of_ble_eq_true rfl) ?_
  refine wp_istore_n hX dX3_blocksFor_8 (Nat.le_of_ble_eq_true rfl) rfl ?_
  refine wp_iload_n hX dX3_blocksFor_9 rfl ?_
  refine wp_istore_n hX dX3_blocksFor_10 (Nat.le_of_ble_eq_true rfl) rfl ?_
  refine wp_iconst (v := 0) hX dX3_blocksFor_11 ic_0 ?_
  refine wp_istore hX dX3_blocksFor_12 (Nat.le_of_ble_eq_true rfl) rfl ?_
  exact loop 32 0 (cdv n (fan W)) (cdv n (fan W)) (by omega) (by omega) (by omega) (by omega) rfl
set_option maxHeartbeats 4000000 in
set_option maxRecDepth 100000 in
theorem t_startOf {a : Int32} : MD1 mdX3_startOf [.ref 5, .int a] (wX st it B W q pf jb jp jr tf te C S H τ) (some (.int (nI (if a = 0 then tf else tf + te)))) (wX st it B W q pf jb jp jr tf te C S H τ) := by
  refine md_of [some (.ref 5), some (.int a)] rfl (Nat.le_of_ble_eq_true rfl) (by decide) (fun X Post hX hp => ?_)
  refine wp_iload_n hX dX3_startOf_0 rfl ?_
  refine wp_if_ne (tgt := 11) hX dX3_startOf_1 (by decide) (fun c => ?_) (fun c => ?_)
  · rw [if_neg c] at hp
    refine wp_aload_n hX dX3_startOf_11 rfl ?_
    refine wp_get hX dX3_startOf_12 flX3_9 rfl rfl ?_
    refine wp_aload_n hX dX3_startOf_15 rfl ?_
    refine wp_get hX dX3_startOf_16 flX3_15 rfl rfl ?_
    refine wp_iadd hX dX3_startOf_19 ?_
    refine wp_ti (y := nI (tf + te)) (nI_add _ _) ?_
    refine wp_iret hX dX3_startOf_20 rfl rfl ?_
    exact hp
  · rw [if_pos c] at hp
    refine wp_aload_n hX dX3_startOf_4 rfl ?_
    refine wp_get hX dX3_startOf_5 flX3_9 rfl rfl ?_
    refine wp_goto (tgt := 20) hX dX3_startOf_8 (by decide) ?_
    refine wp_iret hX dX3_startOf_20 rfl rfl ?_
    exact hp
set_option maxHeartbeats 4000000 in
set_option maxRecDepth 100000 in
theorem t_rootOf {a : Int32} {n : Nat} (hW : 16 ≤ W) (hW2 : W ≤ 64) (hn : n ≤ 20000) (htf : tf + te ≤ 1000) : MD1 mdX3_rootOf [.ref 5, .int a, .int (nI n)] (wX st it B W q pf jb jp jr tf te C S H τ) (some (.int (nI (if n = 0 then 0 else (if a = 0 then tf else tf + te) + tBl (fan W) n - 1)))) (wX st it B W q pf jb jp jr tf te C S H τ) := by
  refine md_of [some (.ref 5), some (.int a), some (.int (nI n))] rfl (Nat.le_of_ble_eq_true rfl) (by decide) (fun X Post hX hp => ?_)
  have hF := fan_2 hW
  refine wp_iload_n hX dX3_rootOf_0 rfl ?_
  refine wp_iconst (v := 1) hX dX3_rootOf_1 ic_1 ?_
  refine wp_icmp_ge (tgt := 9) hX dX3_rootOf_2 (by decide) (fun c => ?_) (fun c => ?_)
  · have h1 := (nI_leI (a := 1) (b := n) (by decide) (by omega)).mp c
    rw [if_neg (by omega)] at hp
    have h2 : 1 ≤ tBl (fan W) n := by
      unfold tBl
      have : 0 < cdv n (fan W) := (cdv_lt (by omega)).mpr (by omega)
      omega
    refine wp_aload_n hX dX3_rootOf_9 rfl ?_
    refine wp_iload_n hX dX3_rootOf_10 rfl ?_
    refine wp_cv1 hX dX3_rootOf_11 mlX3_30 ⟨Nat.le_of_ble_eq_true rfl, Nat.le_of_ble_eq_true rfl⟩ (t_startOf) rfl (Nat.le_of_ble_eq_true rfl) ?_
    refine wp_aload_n hX dX3_rootOf_14 rfl ?_
    refine wp_iload_n hX dX3_rootOf_15 rfl ?_
    refine wp_cv1 hX dX3_rootOf_16 mlX3_34 ⟨Nat.le_of_ble_eq_true rfl, Nat.le_of_ble_eq_true rfl⟩ (t_blocksFor hW hW2 hn) rfl (Nat.le_of_ble_eq_true rfl) ?_
    refine wp_iadd hX dX3_rootOf_19 ?_
    refine wp_ti (y := nI ((if a = 0 then tf else tf + te) + tBl (fan W) n)) (nI_add _ _) ?_
    refine wp_iconst (v := 1) hX dX3_rootOf_20 ic_1 ?_
    refine wp_isub hX dX3_rootOf_21 ?_
    refine wp_ti (y := nI ((if a = 0 then tf else tf + te) + tBl (fan W) n - 1)) (pk_sub (b := 1) (by omega)) ?_
    refine wp_iret hX dX3_rootOf_22 rfl rfl ?_
    exact hp
  · have h1 : n = 0 := by
      rcases Nat.eq_zero_or_pos n with h | h
      · exact h
      · exact absurd (nI_le (a := 1) (b := n) h (by omega)) c
    rw [if_pos h1] at hp
    refine wp_iconst (v := 0) hX dX3_rootOf_5 ic_0 ?_
    refine wp_goto (tgt := 22) hX dX3_rootOf_6 (by decide) ?_
    refine wp_iret hX dX3_rootOf_22 rfl rfl ?_
    exact hp
set_option maxHeartbeats 4000000 in
set_option maxRecDepth 100000 in
theorem t_beginPage {x y : Int32} (hW : 16 ≤ W) (hW2 : W ≤ 64) : MD1 mdX3_beginPage [.ref 5, .int x, .int y] (wX st it B W q pf jb jp jr tf te C S H τ) none (wX st it B W q (upd (upd (fun j => if j < 64 then 0 else pf j) 0 x) 1 y) jb jp jr tf te C S H τ) := by
  refine md_of [some (.ref 5), some (.int x), some (.int y)] rfl (Nat.le_of_ble_eq_true rfl) (by decide) (fun X Post hX hp => ?_)
  refine wp_aload_n hX dX3_beginPage_0 rfl ?_
  refine wp_get hX dX3_beginPage_1 flX3_18 rfl rfl ?_
  refine wp_cv0 hX dX3_beginPage_4 mlX3_87 ⟨Nat.le_of_ble_eq_true rfl, Nat.le_of_ble_eq_true rfl⟩ (d_clearPage rfl rfl) rfl (Nat.le_of_ble_eq_true rfl) ?_
  refine wp_aload_n hX dX3_beginPage_7 rfl ?_
  refine wp_get hX dX3_beginPage_8 flX3_18 rfl rfl ?_
  refine wp_iconst (v := 0) hX dX3_beginPage_11 ic_0 ?_
  refine wp_iload_n hX dX3_beginPage_12 rfl ?_
  refine wp_cv2 hX dX3_beginPage_13 mlX3_90 ⟨Nat.le_of_ble_eq_true rfl, Nat.le_of_ble_eq_true rfl⟩ (d_setPage (i := 0) rfl rfl hW2 (by omega)) rfl (Nat.le_of_ble_eq_true rfl) ?_
  refine wp_aload_n hX dX3_beginPage_16 rfl ?_
  refine wp_get hX dX3_beginPage_17 flX3_18 rfl rfl ?_
  refine wp_iconst (v := 1) hX dX3_beginPage_20 ic_1 ?_
  refine wp_iload_n hX dX3_beginPage_21 rfl ?_
  refine wp_cv2 hX dX3_beginPage_22 mlX3_90 ⟨Nat.le_of_ble_eq_true rfl, Nat.le_of_ble_eq_true rfl⟩ (d_setPage (i := 1) rfl rfl hW2 (by omega)) rfl (Nat.le_of_ble_eq_true rfl) ?_
  refine wp_vret hX dX3_beginPage_25 rfl ?_
  exact hp
set_option maxHeartbeats 4000000 in
set_option maxRecDepth 100000 in
theorem t_setPair {i : Nat} {x y : Int32} (hW : 16 ≤ W) (hW2 : W ≤ 64) (hi : i < fan W) : MD1 mdX3_setPair [.ref 5, .int (nI i), .int x, .int y] (wX st it B W q pf jb jp jr tf te C S H τ) none (wX st it B W q (upd (upd pf (2 + 2 * i) x) (2 + 2 * i + 1) y) jb jp jr tf te C S H τ) := by
  refine md_of [some (.ref 5), some (.int (nI i)), some (.int x), some (.int y)] rfl (Nat.le_of_ble_eq_true rfl) (by decide) (fun X Post hX hp => ?_)
  have hw := fan_w (W := W)
  have e1 : (2 : Int32) + 2 * nI i = nI (2 + 2 * i) := by rw [show (2 : Int32) = nI 2 from rfl, pk_mul, nI_add]
  refine wp_aload_n hX dX3_setPair_0 rfl ?_
  refine wp_get hX dX3_setPair_1 flX3_18 rfl rfl ?_
  refine wp_iconst (v := 2) hX dX3_setPair_4 ic_2 ?_
  refine wp_iconst (v := 2) hX dX3_setPair_5 ic_2 ?_
  refine wp_iload_n hX dX3_setPair_6 rfl ?_
  refine wp_imul hX dX3_setPair_7 ?_
  refine wp_iadd hX dX3_setPair_8 ?_
  refine wp_ti (y := (nI (2 + 2 * i))) (e1) ?_
  refine wp_iload_n hX dX3_setPair_9 rfl ?_
  refine wp_cv2 hX dX3_setPair_10 mlX3_90 ⟨Nat.le_of_ble_eq_true rfl, Nat.le_of_ble_eq_true rfl⟩ (d_setPage (i := 2 + 2 * i) rfl rfl hW2 (by omega)) rfl (Nat.le_of_ble_eq_true rfl) ?_
  refine wp_aload_n hX dX3_setPair_13 rfl ?_
  refine wp_get hX dX3_setPair_14 flX3_18 rfl rfl ?_
  refine wp_iconst (v := 2) hX dX3_setPair_17 ic_2 ?_
  refine wp_iconst (v := 2) hX dX3_setPair_18 ic_2 ?_
  refine wp_iload_n hX dX3_setPair_19 rfl ?_
  refine wp_imul hX dX3_setPair_20 ?_
  refine wp_iadd hX dX3_setPair_21 ?_
  refine wp_ti (y := (nI (2 + 2 * i))) (e1) ?_
  refine wp_iconst (v := 1) hX dX3_setPair_22 ic_1 ?_
  refine wp_iadd hX dX3_setPair_23 ?_
  refine wp_ti (y := (nI (2 + 2 * i + 1))) (nI_1 _) ?_
  refine wp_iload_n hX dX3_setPair_24 rfl ?_
  refine wp_cv2 hX dX3_setPair_25 mlX3_90 ⟨Nat.le_of_ble_eq_true rfl, Nat.le_of_ble_eq_true rfl⟩ (d_setPage (i := 2 + 2 * i + 1) rfl rfl hW2 (by omega)) rfl (Nat.le_of_ble_eq_true rfl) ?_
  refine wp_vret hX dX3_setPair_28 rfl ?_
  exact hp
end TR
