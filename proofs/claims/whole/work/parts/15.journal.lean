/-! Journal: cell 4 -/
/-- blocks of a record of c changes -/
def rB (W c : Nat) : Nat := if c = 0 then 0 else cdv (1 + 3 * c) (W - 5)
/-- int i of the record of the changes H, where S is seen -/
def recH (H S : PM) (i : Nat) : Int32 := if i = 0 then nI H.length else
  if (i - 1) % 3 = 0 then (if (lk S (H.getD ((i - 1) / 3) (0, 0)).1).isSome then 1 else 2) else if (i - 1) % 3 = 1 then (H.getD ((i - 1) / 3) (0, 0)).1 else (H.getD ((i - 1) / 3) (0, 0)).2
section JN
variable {st it : Int32} {B W : Nat} {q : DQ} {pf : Nat → Int32} {jb jp jr tf te : Nat} {C S H : MP} {τ : aW}
set_option maxHeartbeats 4000000 in
set_option maxRecDepth 100000 in
theorem j_restart : MD1 mdX1_restart [.ref 4] (wX st it B W q pf jb jp jr tf te C S H τ) none (wX st it B W q pf jb 0 0 tf te C S H τ) := by
  refine md_of [some (.ref 4)] rfl (Nat.le_of_ble_eq_true rfl) (by decide) (fun X Post hX hp => ?_)
  refine wp_aload_n hX dX1_restart_0 rfl ?_
  refine wp_iconst (v := 0) hX dX1_restart_1 ic_0 ?_
  refine wp_put hX dX1_restart_2 fwX1_13 rfl (Nat.le_of_ble_eq_true rfl) rfl rfl ?_
  refine wp_aload_n hX dX1_restart_5 rfl ?_
  refine wp_iconst (v := 0) hX dX1_restart_6 ic_0 ?_
  refine wp_put hX dX1_restart_7 fwX1_16 rfl (Nat.le_of_ble_eq_true rfl) rfl rfl ?_
  refine wp_vret hX dX1_restart_10 rfl ?_
  exact hp
set_option maxHeartbeats 4000000 in
set_option maxRecDepth 100000 in
theorem j_layOut {x : Nat} : MD1 mdX1_layOut [.ref 4, .int (nI x)] (wX st it B W q pf jb jp jr tf te C S H τ) none (wX st it B W q pf x 0 0 tf te C S H τ) := by
  refine md_of [some (.ref 4), some (.int (nI x))] rfl (Nat.le_of_ble_eq_true rfl) (by decide) (fun X Post hX hp => ?_)
  refine wp_aload_n hX dX1_layOut_0 rfl ?_
  refine wp_iload_n hX dX1_layOut_1 rfl ?_
  refine wp_put hX dX1_layOut_2 fwX1_7 rfl (Nat.le_of_ble_eq_true rfl) rfl rfl ?_
  refine wp_aload_n hX dX1_layOut_5 rfl ?_
  refine wp_cv0 hX dX1_layOut_6 mlX1_23 ⟨Nat.le_of_ble_eq_true rfl, Nat.le_of_ble_eq_true rfl⟩ (j_restart (jb := x) (jp := jp) (jr := jr)) rfl (Nat.le_of_ble_eq_true rfl) ?_
  refine wp_vret hX dX1_layOut_9 rfl ?_
  exact hp
set_option maxRecDepth 100000 in
theorem j_usedBlocks : MD1 mdX1_usedBlocks [.ref 4] (wX st it B W q pf jb jp jr tf te C S H τ) (some (.int (nI jp))) (wX st it B W q pf jb jp jr tf te C S H τ) := by
  refine md_of [some (.ref 4)] rfl (Nat.le_of_ble_eq_true rfl) (by decide) (fun X Post hX hp => ?_)
  refine wp_aload_n hX dX1_usedBlocks_0 rfl ?_
  refine wp_get hX dX1_usedBlocks_1 flX1_13 rfl rfl ?_
  refine wp_iret hX dX1_usedBlocks_4 rfl rfl ?_
  exact hp
set_option maxRecDepth 100000 in
theorem j_recordCount : MD1 mdX1_recordCount [.ref 4] (wX st it B W q pf jb jp jr tf te C S H τ) (some (.int (nI jr))) (wX st it B W q pf jb jp jr tf te C S H τ) := by
  refine md_of [some (.ref 4)] rfl (Nat.le_of_ble_eq_true rfl) (by decide) (fun X Post hX hp => ?_)
  refine wp_aload_n hX dX1_recordCount_0 rfl ?_
  refine wp_get hX dX1_recordCount_1 flX1_16 rfl rfl ?_
  refine wp_iret hX dX1_recordCount_4 rfl rfl ?_
  exact hp
set_option maxRecDepth 100000 in
theorem j_partInts (hW : 5 ≤ W) : MD1 mdX1_partInts [.ref 4] (wX st it B W q pf jb jp jr tf te C S H τ) (some (.int (nI (W - 5)))) (wX st it B W q pf jb jp jr tf te C S H τ) := by
  refine md_of [some (.ref 4)] rfl (Nat.le_of_ble_eq_true rfl) (by decide) (fun X Post hX hp => ?_)
  refine wp_aload_n hX dX1_partInts_0 rfl ?_
  refine wp_get hX dX1_partInts_1 flX1_19 rfl rfl ?_
  refine wp_cv0 hX dX1_partInts_4 mlX1_64 ⟨Nat.le_of_ble_eq_true rfl, Nat.le_of_ble_eq_true rfl⟩ (d_wordsInBlock rfl) rfl (Nat.le_of_ble_eq_true rfl) ?_
  refine wp_iconst (v := 5) hX dX1_partInts_7 ic_5 ?_
  refine wp_isub hX dX1_partInts_8 ?_
  refine wp_ti (y := nI (W - 5)) (pk_sub (a := W) (b := 5) hW) ?_
  refine wp_iret hX dX1_partInts_9 rfl rfl ?_
  exact hp
set_option maxHeartbeats 4000000 in
set_option maxRecDepth 100000 in
theorem j_blocksFor {c : Nat} (hW : 6 ≤ W) (hW2 : W ≤ 64) (hc : c < 2 ^ 29) : MD1 mdX1_blocksFor [.ref 4, .int (nI c)] (wX st it B W q pf jb jp jr tf te C S H τ) (some (.int (nI (rB W c)))) (wX st it B W q pf jb jp jr tf te C S H τ) := by
  refine md_of [some (.ref 4), some (.int (nI c))] rfl (Nat.le_of_ble_eq_true rfl) (by decide) (fun X Post hX hp => ?_)
  have hcu : (2 : Nat) ^ 29 = 536870912 := by decide
  refine wp_iload_n hX dX1_blocksFor_0 rfl ?_
  refine wp_iconst (v := 1) hX dX1_blocksFor_1 ic_1 ?_
  refine wp_icmp_ge (tgt := 9) hX dX1_blocksFor_2 (by decide) (fun d => ?_) (fun d => ?_)
  · have h1 : ¬ c = 0 := by
      have := (nI_leI (a := 1) (b := c) (by decide) (by omega)).mp d
      omega
    refine wp_iconst (v := 1) hX dX1_blocksFor_9 ic_1 ?_
    refine wp_iconst (v := 3) hX dX1_blocksFor_10 ic_3 ?_
    refine wp_iload_n hX dX1_blocksFor_11 rfl ?_
    refine wp_imul hX dX1_blocksFor_12 ?_
    refine wp_iadd hX dX1_blocksFor_13 ?_
    refine wp_ti (y := (nI (1 + 3 * c))) (by rw [show (3 : Int32) = nI 3 from rfl, show (1 : Int32) = nI 1 from rfl, pk_mul, nI_add]) ?_
    refine wp_aload_n hX dX1_blocksFor_14 rfl ?_
    refine wp_cv0 hX dX1_blocksFor_15 mlX1_45 ⟨Nat.le_of_ble_eq_true rfl, Nat.le_of_ble_eq_true rfl⟩ (j_partInts (by omega)) rfl (Nat.le_of_ble_eq_true rfl) ?_
    refine wp_cn2 hX dX1_blocksFor_18 msX4_blocksOf (fun s h => h.1) ⟨Nat.le_of_ble_eq_true rfl, Nat.le_of_ble_eq_true rfl⟩ (b_blocksOf (by omega) (by omega) (by omega)) (Nat.le_of_ble_eq_true rfl) ?_
    refine wp_iret hX dX1_blocksFor_21 rfl rfl ?_
    rw [rB, if_neg h1] at hp
    exact hp
  · have h1 : c = 0 := by
      rcases Nat.eq_zero_or_pos c with h | h
      · exact h
      · exact absurd (nI_le (a := 1) (b := c) h (by omega)) d
    refine wp_iconst (v := 0) hX dX1_blocksFor_5 ic_0 ?_
    refine wp_goto (tgt := 21) hX dX1_blocksFor_6 (by decide) ?_
    refine wp_iret hX dX1_blocksFor_21 rfl rfl ?_
    rw [rB, if_pos h1] at hp
    exact hp
set_option maxHeartbeats 4000000 in
set_option maxRecDepth 100000 in
theorem j_hasRoom {c : Nat} (hW : 6 ≤ W) (hW2 : W ≤ 64) (hc : c < 2 ^ 29) (hj : jp ≤ jb) (hb : jb ≤ 128) : MD1 mdX1_hasRoom [.ref 4, .int (nI c)] (wX st it B W q pf jb jp jr tf te C S H τ) (some (.int (b2i (decide (rB W c ≤ jb - jp))))) (wX st it B W q pf jb jp jr tf te C S H τ) := by
  refine md_of [some (.ref 4), some (.int (nI c))] rfl (Nat.le_of_ble_eq_true rfl) (by decide) (fun X Post hX hp => ?_)
  have hcu : (2 : Nat) ^ 29 = 536870912 := by decide
  have hr : rB W c < 2 ^ 31 := by
    unfold rB
    split
    · decide
    · have := cdv_le (n := 1 + 3 * c) (e := W - 5) (by omega)
      omega
  refine wp_aload_n hX dX1_hasRoom_0 rfl ?_
  refine wp_iload_n hX dX1_hasRoom_1 rfl ?_
  refine wp_cv1 hX dX1_hasRoom_2 mlX1_26 ⟨Nat.le_of_ble_eq_true rfl, Nat.le_of_ble_eq_true rfl⟩ (j_blocksFor hW hW2 hc) rfl (Nat.le_of_ble_eq_true rfl) ?_
  refine wp_aload_n hX dX1_hasRoom_5 rfl ?_
  refine wp_get hX dX1_hasRoom_6 flX1_7 rfl rfl ?_
  refine wp_aload_n hX dX1_hasRoom_9 rfl ?_
  refine wp_get hX dX1_hasRoom_10 flX1_13 rfl rfl ?_
  refine wp_isub hX dX1_hasRoom_13 ?_
  refine wp_ti (y := nI (jb - jp)) (pk_sub hj) ?_
  refine wp_icmp_gt (tgt := 21) hX dX1_hasRoom_14 (by decide) (fun d => ?_) (fun d => ?_)
  · have := (nI_ltI (a := jb - jp) (b := rB W c) (by omega) hr).mp d
    refine wp_iconst (v := 0) hX dX1_hasRoom_21 ic_0 ?_
    refine wp_iret hX dX1_hasRoom_22 rfl rfl ?_
    rw [decide_eq_false (by omega)] at hp
    exact hp
  · have : rB W c ≤ jb - jp := Nat.le_of_not_lt (fun z => d (nI_lt z hr))
    refine wp_iconst (v := 1) hX dX1_hasRoom_17 ic_1 ?_
    refine wp_goto (tgt := 22) hX dX1_hasRoom_18 (by decide) ?_
    refine wp_iret hX dX1_hasRoom_22 rfl rfl ?_
    rw [decide_eq_true this] at hp
    exact hp
end JN
