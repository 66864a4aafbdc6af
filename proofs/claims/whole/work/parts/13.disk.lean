/-! Disk: cell 1, its words in cell 2, its page in cell 3 -/
abbrev edk (B W : Nat) (wr fu : Int32) : aE := .inr (0, [.ref 2, .ref 3, .int (nI B), .int (nI W), .int wr, .int fu])
/-- the SUM of n words from o on -/
def sumD (f : Nat → Int32) (o : Nat) : Nat → Int32
  | 0 => 7
  | n + 1 => 31 * sumD f o n + f (o + n)
theorem sumD_congr {f g : Nat → Int32} {o o' : Nat} : ∀ (n : Nat), (∀ i, i < n → f (o + i) = g (o' + i)) → sumD f o n = sumD g o' n
  | 0, _ => rfl
  | n + 1, h => by
    unfold sumD
    rw [sumD_congr n (fun i hi => h i (by omega)), h n (by omega)]
/-- word y of block x, 0 without -/
def wA (B W : Nat) (wf : Nat → Int32) (x y : Int32) : Int32 := if x < 0 ∨ nI B ≤ x ∨ y < 0 ∨ nI W ≤ y then 0 else wf (W * x.toNatClampNeg + y.toNatClampNeg)
theorem wA_in {B W : Nat} {wf : Nat → Int32} {b i : Nat} (hB : B ≤ 512) (hW : W ≤ 64) (hb : b < B) (hi : i < W) : wA B W wf (nI b) (nI i) = wf (W * b + i) := by
  unfold wA
  rw [if_neg, nI_clamp (by omega), nI_clamp (by omega)]
  rintro (h | h | h | h)
  · exact nI_pos (by omega) h
  · exact nI_ge hb (by omega) h
  · exact nI_pos (by omega) h
  · exact nI_ge hi (by omega) h
theorem ixb {B W b i : Nat} (hB : B ≤ 512) (hW : W ≤ 64) (hb : b < B) (hi : i < W) : W * b + i < 32768 := by
  have h1 : W * b ≤ 64 * 511 := Nat.mul_le_mul hW (by omega)
  omega
/-- block b with these words and their SUM -/
def wrD (wf : Nat → Int32) (W b : Nat) (pf : Nat → Int32) : Nat → Int32 := fun j => if W * b ≤ j ∧ j < W * b + W then (if j = W * b + (W - 1) then sumD pf 0 (W - 1) else pf (j - W * b)) else wf j
def pwd (fu : Int32) : Int32 := if 0 < fu then fu - 1 else fu
section DK
variable {σ : aW} {B W : Nat} {wr fu : Int32} {wf pf : Nat → Int32}
set_option maxHeartbeats 4000000 in
set_option maxRecDepth 100000 in
theorem d_fill {q n : Nat} {f : Nat → Int32} {v : Int32} (hq : σ[q]? = some (ear n f)) (hn : n < 2 ^ 31) : MD1 mdJ7_fill_53178 [.ref q, .int v] σ none (σ.set q (ear n (fun j => if j < n then v else f j))) := by
  refine md_of [some (.ref q), some (.int v), none, none] rfl (Nat.le_of_ble_eq_true rfl) (by decide) (fun X Post hX hp => ?_)
  have loop : ∀ (r i : Nat), i + r = n → Wp X Post 5 [some (.ref q), some (.int v), some (.int (nI i)), some (.int (nI n))] [] (σ.set q (ear n (fun j => if j < i then v else f j))) := by
    intro r
    induction r with
    | zero =>
      intro i hi
      rw [show i = n by omega]
      refine wp_iload_n hX dJ7_fill_53178_5 rfl ?_
      refine wp_iload_n hX dJ7_fill_53178_6 rfl ?_
      refine wp_icmp_ge (tgt := 20) hX dJ7_fill_53178_7 (by decide) (fun _ => ?_) (fun c => absurd (nI_le (Nat.le_refl _) hn) c)
      refine wp_vret hX dJ7_fill_53178_20 rfl ?_
      exact hp
    | succ r ih =>
      intro i hi
      refine wp_iload_n hX dJ7_fill_53178_5 rfl ?_
      refine wp_iload_n hX dJ7_fill_53178_6 rfl ?_
      refine wp_icmp_ge (tgt := 20) hX dJ7_fill_53178_7 (by decide) (fun c => absurd c (nI_ge (by omega) hn)) (fun _ => ?_)
      refine wp_aload_n hX dJ7_fill_53178_10 rfl ?_
      refine wp_iload_n hX dJ7_fill_53178_11 rfl ?_
      refine wp_iload_n hX dJ7_fill_53178_12 rfl ?_
      refine wp_iast hX dJ7_fill_53178_13 (aw_eq hq) (vp_in_nI (by omega) hn) ?_
      rw [nI_clamp (by omega), aw_ss]
      refine wp_iinc hX dJ7_fill_53178_14 ic_1 rfl (Nat.le_of_ble_eq_true rfl) rfl ?_
      refine wp_goto (tgt := 5) hX dJ7_fill_53178_17 (by decide) ?_
      rw [nI_1]
      have e : upd (fun j => if j < i then v else f j) i v = (fun j => if j < i + 1 then v else f j) := by
        funext j
        by_cases h : j = i
        · rw [h, pk_us, if_pos (by omega)]
        · rw [pk_un h]
          by_cases h2 : j < i
          · rw [if_pos h2, if_pos (by omega)]
          · rw [if_neg h2, if_neg (by omega)]
      rw [e]
      exact ih (i + 1) (by omega)
  refine wp_iconst (v := 0) hX dJ7_fill_53178_0 ic_0 ?_
  refine wp_istore_n hX dJ7_fill_53178_1 (Nat.le_of_ble_eq_true rfl) rfl ?_
  refine wp_aload_n hX dJ7_fill_53178_2 rfl ?_
  refine wp_alen hX dJ7_fill_53178_3 (hq) ?_
  refine wp_istore_n hX dJ7_fill_53178_4 (Nat.le_of_ble_eq_true rfl) rfl ?_
  have e : σ = σ.set q (ear n (fun j => if j < 0 then v else f j)) := by
    have : (fun j => if j < 0 then v else f j) = f := by funext j; simp
    rw [this, aw_id hq]
  rw [e]
  exact loop n 0 (by omega)
set_option maxRecDepth 100000 in
theorem d_wordsInBlock (hd : σ[1]? = some (edk B W wr fu)) : MD1 mdX0_wordsInBlock [.ref 1] σ (some (.int (nI W))) σ := by
  refine md_of [some (.ref 1)] rfl (Nat.le_of_ble_eq_true rfl) (by decide) (fun X Post hX hp => ?_)
  refine wp_aload_n hX dX0_wordsInBlock_0 rfl ?_
  refine wp_get hX dX0_wordsInBlock_1 flX0_23 hd rfl ?_
  refine wp_iret hX dX0_wordsInBlock_4 rfl rfl ?_
  exact hp
set_option maxRecDepth 100000 in
theorem d_writesDone (hd : σ[1]? = some (edk B W wr fu)) : MD1 mdX0_writesDone [.ref 1] σ (some (.int wr)) σ := by
  refine md_of [some (.ref 1)] rfl (Nat.le_of_ble_eq_true rfl) (by decide) (fun X Post hX hp => ?_)
  refine wp_aload_n hX dX0_writesDone_0 rfl ?_
  refine wp_get hX dX0_writesDone_1 flX0_26 hd rfl ?_
  refine wp_iret hX dX0_writesDone_4 rfl rfl ?_
  exact hp
set_option maxRecDepth 100000 in
theorem d_writesToFailure (hd : σ[1]? = some (edk B W wr fu)) : MD1 mdX0_writesToFailure [.ref 1] σ (some (.int fu)) σ := by
  refine md_of [some (.ref 1)] rfl (Nat.le_of_ble_eq_true rfl) (by decide) (fun X Post hX hp => ?_)
  refine wp_aload_n hX dX0_writesToFailure_0 rfl ?_
  refine wp_get hX dX0_writesToFailure_1 flX0_29 hd rfl ?_
  refine wp_iret hX dX0_writesToFailure_4 rfl rfl ?_
  exact hp
set_option maxRecDepth 100000 in
theorem d_arm {x : Int32} (hd : σ[1]? = some (edk B W wr fu)) : MD1 mdX0_arm [.ref 1, .int x] σ none (σ.set 1 (edk B W wr (if x < 0 then 0 else x))) := by
  refine md_of [some (.ref 1), some (.int x)] rfl (Nat.le_of_ble_eq_true rfl) (by decide) (fun X Post hX hp => ?_)
  refine wp_aload_n hX dX0_arm_0 rfl ?_
  refine wp_iload_n hX dX0_arm_1 rfl ?_
  refine wp_iconst (v := 0) hX dX0_arm_2 ic_0 ?_
  refine wp_max hX dX0_arm_3 mlX0_38 ⟨Nat.le_of_ble_eq_true rfl, Nat.le_of_ble_eq_true rfl⟩ (Nat.le_of_ble_eq_true rfl) ?_
  refine wp_put hX dX0_arm_6 fwX0_29 hd (Nat.le_of_ble_eq_true rfl) rfl rfl ?_
  refine wp_vret hX dX0_arm_9 rfl ?_
  exact hp
set_option maxHeartbeats 4000000 in
set_option maxRecDepth 100000 in
theorem d_renew {B1 W1 : Nat} (hd : σ[1]? = some (edk B W wr fu)) (hw : σ[2]? = some (ear 32768 wf)) : MD1 mdX0_renew [.ref 1, .int (nI B1), .int (nI W1)] σ none ((σ.set 2 (ear 32768 (fun j => if j < 32768 then 0 else wf j))).set 1 (edk B1 W1 0 0)) := by
  refine md_of [some (.ref 1), some (.int (nI B1)), some (.int (nI W1))] rfl (Nat.le_of_ble_eq_true rfl) (by decide) (fun X Post hX hp => ?_)
  refine wp_aload_n hX dX0_renew_0 rfl ?_
  refine wp_get hX dX0_renew_1 flX0_10 hd rfl ?_
  refine wp_iconst (v := 0) hX dX0_renew_4 ic_0 ?_
  refine wp_cs2 hX dX0_renew_5 mlX0_32 ⟨Nat.le_of_ble_eq_true rfl, Nat.le_of_ble_eq_true rfl⟩ (d_fill hw (by decide)) (Nat.le_of_ble_eq_true rfl) ?_
  have hd := (aw_ne (c := ear 32768 (fun j => if j < 32768 then 0 else wf j)) (show 2 ≠ 1 by decide)).trans hd
  refine wp_aload_n hX dX0_renew_8 rfl ?_
  refine wp_iload_n hX dX0_renew_9 rfl ?_
  refine wp_put hX dX0_renew_10 fwX0_19 hd (Nat.le_of_ble_eq_true rfl) rfl rfl ?_
  refine wp_eqW (σ1 := (σ.set 2 (ear 32768 (fun j => if j < 32768 then 0 else wf j))).set 1 (edk B1 W wr fu)) rfl ?_
  refine wp_aload_n hX dX0_renew_13 rfl ?_
  refine wp_iload_n hX dX0_renew_14 rfl ?_
  refine wp_put hX dX0_renew_15 fwX0_23 (aw_eq hd) (Nat.le_of_ble_eq_true rfl) rfl rfl ?_
  rw [aw_ss]
  refine wp_eqW (σ1 := (σ.set 2 (ear 32768 (fun j => if j < 32768 then 0 else wf j))).set 1 (edk B1 W1 wr fu)) rfl ?_
  refine wp_aload_n hX dX0_renew_18 rfl ?_
  refine wp_iconst (v := 0) hX dX0_renew_19 ic_0 ?_
  refine wp_put hX dX0_renew_20 fwX0_26 (aw_eq hd) (Nat.le_of_ble_eq_true rfl) rfl rfl ?_
  rw [aw_ss]
  refine wp_eqW (σ1 := (σ.set 2 (ear 32768 (fun j => if j < 32768 then 0 else wf j))).set 1 (edk B1 W1 0 fu)) rfl ?_
  refine wp_aload_n hX dX0_renew_23 rfl ?_
  refine wp_iconst (v := 0) hX dX0_renew_24 ic_0 ?_
  refine wp_put hX dX0_renew_25 fwX0_29 (aw_eq hd) (Nat.le_of_ble_eq_true rfl) rfl rfl ?_
  rw [aw_ss]
  refine wp_vret hX dX0_renew_28 rfl ?_
  exact hp
set_option maxHeartbeats 4000000 in
set_option maxRecDepth 100000 in
theorem d_wordAt {x y : Int32} (hd : σ[1]? = some (edk B W wr fu)) (hw : σ[2]? = some (ear 32768 wf)) (hB : B ≤ 512) (hW : W ≤ 64) : MD1 mdX0_wordAt [.ref 1, .int x, .int y] σ (some (.int (wA B W wf x y))) σ := by
  refine md_of [some (.ref 1), some (.int x), some (.int y)] rfl (Nat.le_of_ble_eq_true rfl) (by decide) (fun X Post hX hp => ?_)
  refine wp_iload_n hX dX0_wordAt_0 rfl ?_
  refine wp_if_lt (tgt := 24) hX dX0_wordAt_1 (by decide) (fun c1 => ?_) (fun c1 => ?_)
  · refine wp_iconst (v := 0) hX dX0_wordAt_24 ic_0 ?_
    refine wp_iret hX dX0_wordAt_25 rfl rfl ?_
    rw [wA, if_pos (Or.inl c1)] at hp
    exact hp
  · refine wp_iload_n hX dX0_wordAt_4 rfl ?_
    refine wp_aload_n hX dX0_wordAt_5 rfl ?_
    refine wp_get hX dX0_wordAt_6 flX0_19 hd rfl ?_
    refine wp_icmp_ge (tgt := 24) hX dX0_wordAt_9 (by decide) (fun c2 => ?_) (fun c2 => ?_)
    · refine wp_iconst (v := 0) hX dX0_wordAt_24 ic_0 ?_
      refine wp_iret hX dX0_wordAt_25 rfl rfl ?_
      rw [wA, if_pos (Or.inr (Or.inl c2))] at hp
      exact hp
    · refine wp_iload_n hX dX0_wordAt_12 rfl ?_
      refine wp_if_lt (tgt := 24) hX dX0_wordAt_13 (by decide) (fun c3 => ?_) (fun c3 => ?_)
      · refine wp_iconst (v := 0) hX dX0_wordAt_24 ic_0 ?_
        refine wp_iret hX dX0_wordAt_25 rfl rfl ?_
        rw [wA, if_pos (Or.inr (Or.inr (Or.inl c3)))] at hp
        exact hp
      · refine wp_iload_n hX dX0_wordAt_16 rfl ?_
        refine wp_aload_n hX dX0_wordAt_17 rfl ?_
        refine wp_get hX dX0_wordAt_18 flX0_23 hd rfl ?_
        refine wp_icmp_lt (tgt := 26) hX dX0_wordAt_21 (by decide) (fun c4 => ?_) (fun c4 => ?_)
        · obtain ⟨b, hb, rfl⟩ := nI_of c1
          obtain ⟨i, hi, rfl⟩ := nI_of c3
          have hbB : b < B := Nat.lt_of_not_le (fun q => c2 (nI_le q hb))
          have hiW : i < W := (nI_ltI hi (by omega)).mp c4
          have hix := ixb hB hW hbB hiW
          refine wp_aload_n hX dX0_wordAt_26 rfl ?_
          refine wp_get hX dX0_wordAt_27 flX0_10 hd rfl ?_
          refine wp_iload_n hX dX0_wordAt_30 rfl ?_
          refine wp_aload_n hX dX0_wordAt_31 rfl ?_
          refine wp_get hX dX0_wordAt_32 flX0_23 hd rfl ?_
          refine wp_imul hX dX0_wordAt_35 ?_
          refine wp_iload_n hX dX0_wordAt_36 rfl ?_
          refine wp_iadd hX dX0_wordAt_37 ?_
          refine wp_ti (y := (nI (W * b + i))) (by rw [pk_mul, nI_add, Nat.mul_comm b W]) ?_
          refine wp_iald hX dX0_wordAt_38 (hw) (vp_in_nI hix (by decide)) ?_
          refine wp_iret hX dX0_wordAt_39 rfl rfl ?_
          rw [wA_in hB hW hbB hiW] at hp
          rw [nI_clamp (by omega)]
          exact hp
        · refine wp_iconst (v := 0) hX dX0_wordAt_24 ic_0 ?_
          refine wp_iret hX dX0_wordAt_25 rfl rfl ?_
          rw [wA, if_pos (Or.inr (Or.inr (Or.inr (Int32.not_lt.mp c4))))] at hp
          exact hp
theorem w1 {W : Nat} (h : 1 ≤ W) : nI W - 1 = nI (W - 1) := pk_sub (a := W) (b := 1) h
set_option maxHeartbeats 4000000 in
set_option maxRecDepth 100000 in
theorem d_sumOf {b : Nat} (hd : σ[1]? = some (edk B W wr fu)) (hw : σ[2]? = some (ear 32768 wf)) (hB : B ≤ 512) (hW : W ≤ 64) (hW1 : 1 ≤ W) (hb : b < B) : MD1 mdX0_sumOf [.ref 1, .int (nI b)] σ (some (.int (sumD wf (W * b) (W - 1)))) σ := by
  refine md_of [some (.ref 1), some (.int (nI b)), none, none] rfl (Nat.le_of_ble_eq_true rfl) (by decide) (fun X Post hX hp => ?_)
  have loop : ∀ (r i : Nat), i + r = W - 1 → Wp X Post 5 [some (.ref 1), some (.int (nI b)), some (.int (sumD wf (W * b) i)), some (.int (nI i))] [] σ := by
    intro r
    induction r with
    | zero =>
      intro i hi
      rw [show i = W - 1 by omega]
      refine wp_iload_n hX dX0_sumOf_5 rfl ?_
      refine wp_aload_n hX dX0_sumOf_6 rfl ?_
      refine wp_get hX dX0_sumOf_7 flX0_23 hd rfl ?_
      refine wp_iconst (v := 1) hX dX0_sumOf_10 ic_1 ?_
      refine wp_isub hX dX0_sumOf_11 ?_
      refine wp_ti (y := (nI (W - 1))) (w1 hW1) ?_
      refine wp_icmp_ge (tgt := 33) hX dX0_sumOf_12 (by decide) (fun _ => ?_) (fun c => absurd (nI_le (Nat.le_refl _) (by omega)) c)
      refine wp_iload_n hX dX0_sumOf_33 rfl ?_
      refine wp_iret hX dX0_sumOf_34 rfl rfl ?_
      exact hp
    | succ r ih =>
      intro i hi
      refine wp_iload_n hX dX0_sumOf_5 rfl ?_
      refine wp_aload_n hX dX0_sumOf_6 rfl ?_
      refine wp_get hX dX0_sumOf_7 flX0_23 hd rfl ?_
      refine wp_iconst (v := 1) hX dX0_sumOf_10 ic_1 ?_
      refine wp_isub hX dX0_sumOf_11 ?_
      refine wp_ti (y := (nI (W - 1))) (w1 hW1) ?_
      refine wp_icmp_ge (tgt := 33) hX dX0_sumOf_12 (by decide) (fun c => absurd c (nI_ge (by omega) (by omega))) (fun _ => ?_)
      refine wp_bipush (v := 31) hX dX0_sumOf_15 bp_31 ?_
      refine wp_iload_n hX dX0_sumOf_17 rfl ?_
      refine wp_imul hX dX0_sumOf_18 ?_
      refine wp_aload_n hX dX0_sumOf_19 rfl ?_
      refine wp_iload_n hX dX0_sumOf_20 rfl ?_
      refine wp_iload_n hX dX0_sumOf_21 rfl ?_
      refine wp_cv2 hX dX0_sumOf_22 mlX0_44 ⟨Nat.le_of_ble_eq_true rfl, Nat.le_of_ble_eq_true rfl⟩ (d_wordAt hd hw hB hW) hd (Nat.le_of_ble_eq_true rfl) ?_
      rw [wA_in hB hW hb (by omega)]
      refine wp_iadd hX dX0_sumOf_25 ?_
      refine wp_istore_n hX dX0_sumOf_26 (Nat.le_of_ble_eq_true rfl) rfl ?_
      refine wp_iinc hX dX0_sumOf_27 ic_1 rfl (Nat.le_of_ble_eq_true rfl) rfl ?_
      refine wp_goto (tgt := 5) hX dX0_sumOf_30 (by decide) ?_
      rw [nI_1]
      exact ih (i + 1) (by omega)
  refine wp_bipush (v := 7) hX dX0_sumOf_0 bp_7 ?_
  refine wp_istore_n hX dX0_sumOf_2 (Nat.le_of_ble_eq_true rfl) rfl ?_
  refine wp_iconst (v := 0) hX dX0_sumOf_3 ic_0 ?_
  refine wp_istore_n hX dX0_sumOf_4 (Nat.le_of_ble_eq_true rfl) rfl ?_
  exact loop (W - 1) 0 (by omega)
set_option maxHeartbeats 4000000 in
set_option maxRecDepth 100000 in
theorem d_isGood {b : Nat} (hd : σ[1]? = some (edk B W wr fu)) (hw : σ[2]? = some (ear 32768 wf)) (hB : B ≤ 512) (hW : W ≤ 64) (hW1 : 1 ≤ W) (hb : b < B) : MD1 mdX0_isGood [.ref 1, .int (nI b)] σ (some (.int (b2i (decide (wf (W * b + (W - 1)) = sumD wf (W * b) (W - 1)))))) σ := by
  refine md_of [some (.ref 1), some (.int (nI b))] rfl (Nat.le_of_ble_eq_true rfl) (by decide) (fun X Post hX hp => ?_)
  refine wp_aload_n hX dX0_isGood_0 rfl ?_
  refine wp_iload_n hX dX0_isGood_1 rfl ?_
  refine wp_aload_n hX dX0_isGood_2 rfl ?_
  refine wp_get hX dX0_isGood_3 flX0_23 hd rfl ?_
  refine wp_iconst (v := 1) hX dX0_isGood_6 ic_1 ?_
  refine wp_isub hX dX0_isGood_7 ?_
  refine wp_ti (y := (nI (W - 1))) (w1 hW1) ?_
  refine wp_cv2 hX dX0_isGood_8 mlX0_44 ⟨Nat.le_of_ble_eq_true rfl, Nat.le_of_ble_eq_true rfl⟩ (d_wordAt hd hw hB hW) hd (Nat.le_of_ble_eq_true rfl) ?_
  rw [wA_in hB hW hb (by omega)]
  refine wp_aload_n hX dX0_isGood_11 rfl ?_
  refine wp_iload_n hX dX0_isGood_12 rfl ?_
  refine wp_cv1 hX dX0_isGood_13 mlX0_47 ⟨Nat.le_of_ble_eq_true rfl, Nat.le_of_ble_eq_true rfl⟩ (d_sumOf hd hw hB hW hW1 hb) hd (Nat.le_of_ble_eq_true rfl) ?_
  refine wp_icmp_ne (tgt := 23) hX dX0_isGood_16 (by decide) (fun c => ?_) (fun c => ?_)
  · refine wp_iconst (v := 0) hX dX0_isGood_23 ic_0 ?_
    refine wp_iret hX dX0_isGood_24 rfl rfl ?_
    rw [decide_eq_false c] at hp
    exact hp
  · refine wp_iconst (v := 1) hX dX0_isGood_19 ic_1 ?_
    refine wp_goto (tgt := 24) hX dX0_isGood_20 (by decide) ?_
    refine wp_iret hX dX0_isGood_24 rfl rfl ?_
    rw [decide_eq_true c] at hp
    exact hp
set_option maxHeartbeats 4000000 in
set_option maxRecDepth 100000 in
theorem d_clearPage (hd : σ[1]? = some (edk B W wr fu)) (hp3 : σ[3]? = some (ear 64 pf)) : MD1 mdX0_clearPage [.ref 1] σ none (σ.set 3 (ear 64 (fun j => if j < 64 then 0 else pf j))) := by
  refine md_of [some (.ref 1)] rfl (Nat.le_of_ble_eq_true rfl) (by decide) (fun X Post hX hp => ?_)
  refine wp_aload_n hX dX0_clearPage_0 rfl ?_
  refine wp_get hX dX0_clearPage_1 flX0_16 hd rfl ?_
  refine wp_iconst (v := 0) hX dX0_clearPage_4 ic_0 ?_
  refine wp_cs2 hX dX0_clearPage_5 mlX0_32 ⟨Nat.le_of_ble_eq_true rfl, Nat.le_of_ble_eq_true rfl⟩ (d_fill hp3 (by decide)) (Nat.le_of_ble_eq_true rfl) ?_
  refine wp_vret hX dX0_clearPage_8 rfl ?_
  exact hp
set_option maxHeartbeats 4000000 in
set_option maxRecDepth 100000 in
theorem d_setPage {i : Nat} {x : Int32} (hd : σ[1]? = some (edk B W wr fu)) (hp3 : σ[3]? = some (ear 64 pf)) (hW : W ≤ 64) (hi : i + 1 < W) : MD1 mdX0_setPage [.ref 1, .int (nI i), .int x] σ none (σ.set 3 (ear 64 (upd pf i x))) := by
  refine md_of [some (.ref 1), some (.int (nI i)), some (.int x)] rfl (Nat.le_of_ble_eq_true rfl) (by decide) (fun X Post hX hp => ?_)
  refine wp_iload_n hX dX0_setPage_0 rfl ?_
  refine wp_if_lt (tgt := 21) hX dX0_setPage_1 (by decide) (fun c => absurd c (nI_pos (by omega))) (fun _ => ?_)
  refine wp_iload_n hX dX0_setPage_4 rfl ?_
  refine wp_aload_n hX dX0_setPage_5 rfl ?_
  refine wp_get hX dX0_setPage_6 flX0_23 hd rfl ?_
  refine wp_iconst (v := 1) hX dX0_setPage_9 ic_1 ?_
  refine wp_isub hX dX0_setPage_10 ?_
  refine wp_ti (y := (nI (W - 1))) (w1 (by omega)) ?_
  refine wp_icmp_ge (tgt := 21) hX dX0_setPage_11 (by decide) (fun c => absurd c (nI_ge (by omega) (by omega))) (fun _ => ?_)
  refine wp_aload_n hX dX0_setPage_14 rfl ?_
  refine wp_get hX dX0_setPage_15 flX0_16 hd rfl ?_
  refine wp_iload_n hX dX0_setPage_18 rfl ?_
  refine wp_iload_n hX dX0_setPage_19 rfl ?_
  refine wp_iast hX dX0_setPage_20 (hp3) (vp_in_nI (by omega) (by decide)) ?_
  rw [nI_clamp (by omega)]
  refine wp_vret hX dX0_setPage_21 rfl ?_
  exact hp
theorem wrD_eq (hW1 : 1 ≤ W) (b : Nat) : upd (va_cpy pf wf 0 (W * b) W) (W * b + (W - 1)) (sumD (va_cpy pf wf 0 (W * b) W) (W * b) (W - 1)) = wrD wf W b pf := by
  have hs : sumD (va_cpy pf wf 0 (W * b) W) (W * b) (W - 1) = sumD pf 0 (W - 1) := sumD_congr _ (fun i hi => by
    rw [pk_cpy_in (by omega) (by omega)]
    congr 1
    omega)
  rw [hs]
  funext j
  unfold wrD
  by_cases h1 : j = W * b + (W - 1)
  · rw [h1, pk_us, if_pos (by omega), if_pos rfl]
  · rw [pk_un h1]
    by_cases h2 : W * b ≤ j ∧ j < W * b + W
    · rw [if_pos h2, if_neg h1, pk_cpy_in h2.1 h2.2]
      congr 1
      omega
    · rw [if_neg h2, pk_cpy_out (by omega)]
set_option maxHeartbeats 4000000 in
set_option maxRecDepth 100000 in
theorem d_writePage_no {b : Nat} (hd : σ[1]? = some (edk B W wr fu)) (hB : B ≤ 512) (hW : W ≤ 64) (hW1 : 1 ≤ W) (hb : b < B) (hf : fu = 1) : MD1 mdX0_writePage [.ref 1, .int (nI b)] σ (some (.int 0)) (σ.set 1 (edk B W wr 0)) := by
  refine md_of [some (.ref 1), some (.int (nI b))] rfl (Nat.le_of_ble_eq_true rfl) (by decide) (fun X Post hX hp => ?_)
  subst hf
  refine wp_aload_n hX dX0_writePage_0 rfl ?_
  refine wp_get hX dX0_writePage_1 flX0_23 hd rfl ?_
  refine wp_iconst (v := 1) hX dX0_writePage_4 ic_1 ?_
  refine wp_icmp_lt (tgt := 20) hX dX0_writePage_5 (by decide) (fun c => absurd c (nI_nlt (a := W) (b := 1) hW1 (by omega))) (fun _ => ?_)
  refine wp_iload_n hX dX0_writePage_8 rfl ?_
  refine wp_if_lt (tgt := 20) hX dX0_writePage_9 (by decide) (fun c => absurd c (nI_pos (by omega))) (fun _ => ?_)
  refine wp_iload_n hX dX0_writePage_12 rfl ?_
  refine wp_aload_n hX dX0_writePage_13 rfl ?_
  refine wp_get hX dX0_writePage_14 flX0_19 hd rfl ?_
  refine wp_icmp_lt (tgt := 22) hX dX0_writePage_17 (by decide) (fun _ => ?_) (fun c => absurd (nI_lt hb (by omega)) c)
  refine wp_aload_n hX dX0_writePage_22 rfl ?_
  refine wp_get hX dX0_writePage_23 flX0_29 hd rfl ?_
  refine wp_if_le (tgt := 48) hX dX0_writePage_26 (by decide) (fun c => absurd c (by decide)) (fun _ => ?_)
  refine wp_aload_n hX dX0_writePage_29 rfl ?_
  refine wp_dup hX dX0_writePage_30 rfl ?_
  refine wp_get hX dX0_writePage_31 flX0_29 hd rfl ?_
  refine wp_iconst (v := 1) hX dX0_writePage_34 ic_1 ?_
  refine wp_isub hX dX0_writePage_35 ?_
  refine wp_ti (y := (0)) (by decide) ?_
  refine wp_put hX dX0_writePage_36 fwX0_29 hd (Nat.le_of_ble_eq_true rfl) rfl rfl ?_
  refine wp_aload_n hX dX0_writePage_39 rfl ?_
  refine wp_get hX dX0_writePage_40 flX0_29 (aw_eq hd) rfl ?_
  refine wp_if_ne (tgt := 48) hX dX0_writePage_43 (by decide) (fun c => absurd (rfl) c) (fun _ => ?_)
  refine wp_iconst (v := 0) hX dX0_writePage_46 ic_0 ?_
  refine wp_iret hX dX0_writePage_47 rfl rfl ?_
  exact hp
set_option maxHeartbeats 4000000 in
set_option maxRecDepth 100000 in
theorem d_writePage_ok {b : Nat} (hd : σ[1]? = some (edk B W wr fu)) (hw : σ[2]? = some (ear 32768 wf)) (hp3 : σ[3]? = some (ear 64 pf)) (hB : B ≤ 512) (hW : W ≤ 64) (hW1 : 1 ≤ W) (hb : b < B) (hf : ¬ fu = 1) : MD1 mdX0_writePage [.ref 1, .int (nI b)] σ (some (.int 1)) ((σ.set 2 (ear 32768 (wrD wf W b pf))).set 1 (edk B W (wr + 1) (pwd fu))) := by
  refine md_of [some (.ref 1), some (.int (nI b))] rfl (Nat.le_of_ble_eq_true rfl) (by decide) (fun X Post hX hp => ?_)
  have hix := ixb hB hW hb (show W - 1 < W by omega)
  have l1 : W * b < 2 ^ 31 := by omega
  have l2 : W < 2 ^ 31 := by omega
  have tail : ∀ fu1, fu1 = pwd fu → Wp X Post 48 [some (.ref 1), some (.int (nI b))] [] (σ.set 1 (edk B W wr fu1)) := by
    intro fu1 hfu
    have hw := (aw_ne (c := edk B W wr fu1) (show 1 ≠ 2 by decide)).trans hw
    have hp3 := (aw_ne (c := edk B W wr fu1) (show 1 ≠ 3 by decide)).trans hp3
    have hd := aw_eq (c := edk B W wr fu1) hd
    refine wp_aload_n hX dX0_writePage_48 rfl ?_
    refine wp_get hX dX0_writePage_49 flX0_16 hd rfl ?_
    refine wp_iconst (v := 0) hX dX0_writePage_52 ic_0 ?_
    refine wp_aload_n hX dX0_writePage_53 rfl ?_
    refine wp_get hX dX0_writePage_54 flX0_10 hd rfl ?_
    refine wp_iload_n hX dX0_writePage_57 rfl ?_
    refine wp_aload_n hX dX0_writePage_58 rfl ?_
    refine wp_get hX dX0_writePage_59 flX0_23 hd rfl ?_
    refine wp_imul hX dX0_writePage_62 ?_
    refine wp_ti (y := (nI (W * b))) (by rw [pk_mul, Nat.mul_comm b W]) ?_
    refine wp_aload_n hX dX0_writePage_63 rfl ?_
    refine wp_get hX dX0_writePage_64 flX0_23 hd rfl ?_
    refine wp_copy hX dX0_writePage_67 mlX0_51 ⟨Nat.le_of_ble_eq_true rfl, Nat.le_of_ble_eq_true rfl⟩ (Nat.le_of_ble_eq_true rfl) (hp3) (hw) (by decide) (nI_pos l1) (nI_pos l2) (by rw [nI_clamp l2]; show 0 + W ≤ 64; omega) (by rw [nI_clamp l1, nI_clamp l2]; omega) ?_
    rw [nI_clamp l1, nI_clamp l2, show (0 : Int32).toNatClampNeg = 0 from rfl]
    have hd := (aw_ne (c := ear 32768 (va_cpy pf wf 0 (W * b) W)) (show 2 ≠ 1 by decide)).trans hd
    have hw := aw_eq (c := ear 32768 (va_cpy pf wf 0 (W * b) W)) hw
    refine wp_aload_n hX dX0_writePage_70 rfl ?_
    refine wp_get hX dX0_writePage_71 flX0_10 hd rfl ?_
    refine wp_iload_n hX dX0_writePage_74 rfl ?_
    refine wp_aload_n hX dX0_writePage_75 rfl ?_
    refine wp_get hX dX0_writePage_76 flX0_23 hd rfl ?_
    refine wp_imul hX dX0_writePage_79 ?_
    refine wp_aload_n hX dX0_writePage_80 rfl ?_
    refine wp_get hX dX0_writePage_81 flX0_23 hd rfl ?_
    refine wp_iadd hX dX0_writePage_84 ?_
    refine wp_iconst (v := 1) hX dX0_writePage_85 ic_1 ?_
    refine wp_isub hX dX0_writePage_86 ?_
    refine wp_ti (y := (nI (W * b + (W - 1)))) (by rw [pk_mul, nI_add, Nat.mul_comm b W]; exact (pk_sub (a := W * b + W) (b := 1) (by omega)).trans (by congr 1; omega)) ?_
    refine wp_aload_n hX dX0_writePage_87 rfl ?_
    refine wp_iload_n hX dX0_writePage_88 rfl ?_
    refine wp_cv1 hX dX0_writePage_89 mlX0_47 ⟨Nat.le_of_ble_eq_true rfl, Nat.le_of_ble_eq_true rfl⟩ (d_sumOf hd hw hB hW hW1 hb) hd (Nat.le_of_ble_eq_true rfl) ?_
    refine wp_iast hX dX0_writePage_92 (hw) (vp_in_nI hix (by decide)) ?_
    rw [nI_clamp (by omega), aw_ss, wrD_eq hW1]
    have hd := (aw_ne (c := ear 32768 (wrD wf W b pf)) (show 2 ≠ 1 by decide)).trans (aw_eq (c := edk B W wr fu1) ‹σ[1]? = some (edk B W wr fu)›)
    refine wp_aload_n hX dX0_writePage_93 rfl ?_
    refine wp_dup hX dX0_writePage_94 rfl ?_
    refine wp_get hX dX0_writePage_95 flX0_26 hd rfl ?_
    refine wp_iconst (v := 1) hX dX0_writePage_98 ic_1 ?_
    refine wp_iadd hX dX0_writePage_99 ?_
    refine wp_put hX dX0_writePage_100 fwX0_26 hd (Nat.le_of_ble_eq_true rfl) rfl rfl ?_
    refine wp_iconst (v := 1) hX dX0_writePage_103 ic_1 ?_
    refine wp_iret hX dX0_writePage_104 rfl rfl ?_
    rw [hfu]
    rw [← aw_cc (i := 1) (j := 2) (by decide)] at hp
    rw [aw_cc (i := 2) (j := 1) (by decide), aw_ss, aw_cc (i := 1) (j := 2) (by decide)]
    rw [aw_cc (i := 1) (j := 2) (by decide)] at hp
    exact hp
  refine wp_aload_n hX dX0_writePage_0 rfl ?_
  refine wp_get hX dX0_writePage_1 flX0_23 hd rfl ?_
  refine wp_iconst (v := 1) hX dX0_writePage_4 ic_1 ?_
  refine wp_icmp_lt (tgt := 20) hX dX0_writePage_5 (by decide) (fun c => absurd c (nI_nlt (a := W) (b := 1) hW1 (by omega))) (fun _ => ?_)
  refine wp_iload_n hX dX0_writePage_8 rfl ?_
  refine wp_if_lt (tgt := 20) hX dX0_writePage_9 (by decide) (fun c => absurd c (nI_pos (by omega))) (fun _ => ?_)
  refine wp_iload_n hX dX0_writePage_12 rfl ?_
  refine wp_aload_n hX dX0_writePage_13 rfl ?_
  refine wp_get hX dX0_writePage_14 flX0_19 hd rfl ?_
  refine wp_icmp_lt (tgt := 22) hX dX0_writePage_17 (by decide) (fun _ => ?_) (fun c => absurd (nI_lt hb (by omega)) c)
  refine wp_aload_n hX dX0_writePage_22 rfl ?_
  refine wp_get hX dX0_writePage_23 flX0_29 hd rfl ?_
  refine wp_if_le (tgt := 48) hX dX0_writePage_26 (by decide) (fun c => ?_) (fun c => ?_)
  · rw [← aw_id hd]
    exact tail fu (by unfold pwd; rw [if_neg (Int32.not_lt.mpr c)])
  · refine wp_aload_n hX dX0_writePage_29 rfl ?_
    refine wp_dup hX dX0_writePage_30 rfl ?_
    refine wp_get hX dX0_writePage_31 flX0_29 hd rfl ?_
    refine wp_iconst (v := 1) hX dX0_writePage_34 ic_1 ?_
    refine wp_isub hX dX0_writePage_35 ?_
    refine wp_put hX dX0_writePage_36 fwX0_29 hd (Nat.le_of_ble_eq_true rfl) rfl rfl ?_
    have c0 : 0 < fu := Int32.not_le.mp c
    have hne : ¬ fu - 1 = 0 := fun z => hf (by
      have : fu - 1 + 1 = 0 + 1 := by rw [z]
      simpa using this)
    refine wp_aload_n hX dX0_writePage_39 rfl ?_
    refine wp_get hX dX0_writePage_40 flX0_29 (aw_eq hd) rfl ?_
    refine wp_if_ne (tgt := 48) hX dX0_writePage_43 (by decide) (fun _ => ?_) (fun c => absurd c (hne))
    exact tail (fu - 1) (by unfold pwd; rw [if_pos c0])
end DK
