/-! BlockStore: its private methods -/
theorem tBl_cap {W n a : Nat} (hW : 16 ≤ W) (hW2 : W ≤ 64) (ha : 2 ≤ a) (h : tBl (fan W) n ≤ a) : 31 * n ≤ 900 * a := by
  have hF := fan_2 hW
  have hF2 := fan_le hW2
  unfold tBl at h
  have h1 := cdv_mul (n := n) (e := fan W) (by omega)
  have h2 : cdv n (fan W) * fan W ≤ cdv n (fan W) * 30 := Nat.mul_le_mul (Nat.le_refl _) hF2
  by_cases hl : cdv n (fan W) ≤ 1
  · omega
  · rw [tbl_s, if_neg hl] at h
    have h3 := cdv_mul (n := cdv n (fan W)) (e := fan W) (by omega)
    have h4 : cdv (cdv n (fan W)) (fan W) * fan W ≤ cdv (cdv n (fan W)) (fan W) * 30 := Nat.mul_le_mul (Nat.le_refl _) hF2
    omega
theorem AInv.cap {B W LG pl rc : Nat} {q : DQ} {M : PM} {tx : Option CL} (h : AInv (2, (B, W, LG), q, (pl, rc, M, tx))) : M.length ≤ 8100 := by
  obtain ⟨-, -, -, h4, h5⟩ := h
  obtain ⟨⟨g1, g2, g3, g4, g5, g6, g7⟩, -⟩ := h4 (by decide)
  obtain ⟨-, k1, k2, k3, ⟨n, k4, k5, k6⟩, -⟩ := h5 rfl
  have h6 := tBl_cap g3 g4 (by unfold AR; omega) k5
  have h7 : (W - 5) * pl ≤ 59 * LG := Nat.mul_le_mul (by omega) k1
  unfold AR at h6
  omega
def TXR (it : Int32) (H : MP) (tx : Option CL) : Prop := match tx with
  | none => it = 0 ∧ H.1 = 0
  | some C => it = 1 ∧ KAm (chK C) H
/-- the class's cells hold this store; behind them is τ -/
def RX (A : Ab) (τ σ : aW) : Prop := match A with
  | (st, (B, W, LG), q, (pl, rc, M, tx)) => ∃ (it : Int32) (pf : Nat → Int32) (jp jr tf : Nat) (C S H : MP), σ = wX st it B W q pf LG jp jr tf (AR B LG) C S H τ ∧ (¬ st = 0 → tf = LG + 1) ∧ (st = 2 → jp = pl ∧ jr = rc ∧ KAm M C ∧ KAm (seenT M tx) S ∧ TXR it H tx)
section BS
variable {st it : Int32} {B W : Nat} {q : DQ} {pf : Nat → Int32} {jb jp jr tf te : Nat} {C S H : MP} {τ : aW}
set_option maxHeartbeats 4000000 in
set_option maxRecDepth 100000 in
theorem b_refusal : MD1 mdX4_refusal [.ref 0] (wX st it B W q pf jb jp jr tf te C S H τ) (some (.int (rfs st))) (wX st it B W q pf jb jp jr tf te C S H τ) := by
  refine md_of [some (.ref 0)] rfl (Nat.le_of_ble_eq_true rfl) (by decide) (fun X Post hX hp => ?_)
  unfold rfs at hp
  refine wp_aload_n hX dX4_refusal_0 rfl ?_
  refine wp_get hX dX4_refusal_1 flX4_47 rfl rfl ?_
  by_cases h0 : st = 0
  · rw [if_pos h0] at hp
    refine wp_lookup (off := 28) (tgt := 32) hX dX4_refusal_4 (by decide) (by rw [h0]; decide) (by decide) ?_
    refine wp_bipush (v := (-7)) hX dX4_refusal_32 bp_m7 ?_
    refine wp_iret hX dX4_refusal_34 rfl rfl ?_
    exact hp
  · rw [if_neg h0] at hp
    by_cases h1 : st = 1
    · rw [if_pos h1] at hp
      refine wp_lookup (off := 31) (tgt := 35) hX dX4_refusal_4 (by decide) (by rw [h1]; decide) (by decide) ?_
      refine wp_bipush (v := (-2)) hX dX4_refusal_35 bp_m2 ?_
      refine wp_iret hX dX4_refusal_37 rfl rfl ?_
      exact hp
    · rw [if_neg h1] at hp
      refine wp_lookup (off := 34) (tgt := 38) hX dX4_refusal_4 (by decide) ((lv_osw (k := 0) h0 rfl).trans (lv_osw (k := 1) h1 rfl)) (by decide) ?_
      refine wp_iconst (v := (-1)) hX dX4_refusal_38 ic_m1 ?_
      refine wp_iret hX dX4_refusal_39 rfl rfl ?_
      exact hp
set_option maxRecDepth 100000 in
theorem b_fail : MD1 mdX4_fail [.ref 0] (wX st it B W q pf jb jp jr tf te C S H τ) (some (.int (-1))) (wX 3 it B W q pf jb jp jr tf te C S H τ) := by
  refine md_of [some (.ref 0)] rfl (Nat.le_of_ble_eq_true rfl) (by decide) (fun X Post hX hp => ?_)
  refine wp_aload_n hX dX4_fail_0 rfl ?_
  refine wp_iconst (v := 3) hX dX4_fail_1 ic_3 ?_
  refine wp_put hX dX4_fail_2 fwX4_47 rfl (Nat.le_of_ble_eq_true rfl) rfl rfl ?_
  refine wp_iconst (v := (-1)) hX dX4_fail_5 ic_m1 ?_
  refine wp_iret hX dX4_fail_6 rfl rfl ?_
  exact hp
theorem hdB_eq {W : Nat} {e bt a r n : Int32} (hW : W ≤ 64) : ∀ j, j < W - 1 → upd (upd (upd (upd (upd (upd (fun j => if j < 64 then 0 else pf j) 0 1129337682) 1 e) 2 bt) 3 a) 4 r) 5 n j = hdB e bt a r n j := by
  intro j hj
  unfold hdB
  by_cases h0 : j = 0
  · subst h0; rfl
  · by_cases h1 : j = 1
    · subst h1; rfl
    · by_cases h2 : j = 2
      · subst h2; rfl
      · by_cases h3 : j = 3
        · subst h3; rfl
        · by_cases h4 : j = 4
          · subst h4; rfl
          · by_cases h5 : j = 5
            · subst h5; rfl
            · rw [pk_un h5, pk_un h4, pk_un h3, pk_un h2, pk_un h1, pk_un h0, if_neg h0, if_neg h1, if_neg h2, if_neg h3, if_neg h4, if_neg h5, if_pos (by omega)]
set_option maxHeartbeats 4000000 in
set_option maxRecDepth 100000 in
theorem b_writeHead {e bt a r n : Int32} (hB : B ≤ 512) (hB1 : 1 ≤ B) (hW : 16 ≤ W) (hW2 : W ≤ 64) : MT mdX4_writeHead [.ref 0, .int e, .int bt, .int a, .int r, .int n] (wX st it B W q pf jb jp jr tf te C S H τ) (fun r0 σ1 => ∃ pf1, r0 = some (.int (b2i (wr1 W q 0 (hdB e bt a r n)).1)) ∧ σ1 = wX st it B W (wr1 W q 0 (hdB e bt a r n)).2 pf1 jb jp jr tf te C S H τ) := by
  refine mp_of [some (.ref 0), some (.int e), some (.int bt), some (.int a), some (.int r), some (.int n)] rfl (Nat.le_of_ble_eq_true rfl) (by decide) (fun X Post hX hp => ?_)
  refine wp_aload_n hX dX4_writeHead_0 rfl ?_
  refine wp_get hX dX4_writeHead_1 flX4_10 rfl rfl ?_
  refine wp_cv0 hX dX4_writeHead_4 mlX4_72 ⟨Nat.le_of_ble_eq_true rfl, Nat.le_of_ble_eq_true rfl⟩ (d_clearPage rfl rfl) rfl (Nat.le_of_ble_eq_true rfl) ?_
  refine wp_aload_n hX dX4_writeHead_7 rfl ?_
  refine wp_get hX dX4_writeHead_8 flX4_10 rfl rfl ?_
  refine wp_iconst (v := 0) hX dX4_writeHead_11 ic_0 ?_
  refine wp_ldc hX dX4_writeHead_12 lcX4_104 ?_
  refine wp_cv2 hX dX4_writeHead_14 mlX4_75 ⟨Nat.le_of_ble_eq_true rfl, Nat.le_of_ble_eq_true rfl⟩ (d_setPage (i := 0) rfl rfl hW2 (by omega)) rfl (Nat.le_of_ble_eq_true rfl) ?_
  refine wp_aload_n hX dX4_writeHead_17 rfl ?_
  refine wp_get hX dX4_writeHead_18 flX4_10 rfl rfl ?_
  refine wp_iconst (v := 1) hX dX4_writeHead_21 ic_1 ?_
  refine wp_iload_n hX dX4_writeHead_22 rfl ?_
  refine wp_cv2 hX dX4_writeHead_23 mlX4_75 ⟨Nat.le_of_ble_eq_true rfl, Nat.le_of_ble_eq_true rfl⟩ (d_setPage (i := 1) rfl rfl hW2 (by omega)) rfl (Nat.le_of_ble_eq_true rfl) ?_
  refine wp_aload_n hX dX4_writeHead_26 rfl ?_
  refine wp_get hX dX4_writeHead_27 flX4_10 rfl rfl ?_
  refine wp_iconst (v := 2) hX dX4_writeHead_30 ic_2 ?_
  refine wp_iload_n hX dX4_writeHead_31 rfl ?_
  refine wp_cv2 hX dX4_writeHead_32 mlX4_75 ⟨Nat.le_of_ble_eq_true rfl, Nat.le_of_ble_eq_true rfl⟩ (d_setPage (i := 2) rfl rfl hW2 (by omega)) rfl (Nat.le_of_ble_eq_true rfl) ?_
  refine wp_aload_n hX dX4_writeHead_35 rfl ?_
  refine wp_get hX dX4_writeHead_36 flX4_10 rfl rfl ?_
  refine wp_iconst (v := 3) hX dX4_writeHead_39 ic_3 ?_
  refine wp_iload_n hX dX4_writeHead_40 rfl ?_
  refine wp_cv2 hX dX4_writeHead_41 mlX4_75 ⟨Nat.le_of_ble_eq_true rfl, Nat.le_of_ble_eq_true rfl⟩ (d_setPage (i := 3) rfl rfl hW2 (by omega)) rfl (Nat.le_of_ble_eq_true rfl) ?_
  refine wp_aload_n hX dX4_writeHead_44 rfl ?_
  refine wp_get hX dX4_writeHead_45 flX4_10 rfl rfl ?_
  refine wp_iconst (v := 4) hX dX4_writeHead_48 ic_4 ?_
  refine wp_iload hX dX4_writeHead_49 rfl ?_
  refine wp_cv2 hX dX4_writeHead_51 mlX4_75 ⟨Nat.le_of_ble_eq_true rfl, Nat.le_of_ble_eq_true rfl⟩ (d_setPage (i := 4) rfl rfl hW2 (by omega)) rfl (Nat.le_of_ble_eq_true rfl) ?_
  refine wp_aload_n hX dX4_writeHead_54 rfl ?_
  refine wp_get hX dX4_writeHead_55 flX4_10 rfl rfl ?_
  refine wp_iconst (v := 5) hX dX4_writeHead_58 ic_5 ?_
  refine wp_iload hX dX4_writeHead_59 rfl ?_
  refine wp_cv2 hX dX4_writeHead_61 mlX4_75 ⟨Nat.le_of_ble_eq_true rfl, Nat.le_of_ble_eq_true rfl⟩ (d_setPage (i := 5) rfl rfl hW2 (by omega)) rfl (Nat.le_of_ble_eq_true rfl) ?_
  refine wp_eqW (σ1 := wX st it B W q (upd (upd (upd (upd (upd (upd (fun j => if j < 64 then 0 else pf j) 0 1129337682) 1 e) 2 bt) 3 a) 4 r) 5 n) jb jp jr tf te C S H τ) rfl ?_
  by_cases h1 : q.2.2 = 1
  · rw [wr1_no h1] at hp
    refine wp_aload_n hX dX4_writeHead_64 rfl ?_
    refine wp_get hX dX4_writeHead_65 flX4_10 rfl rfl ?_
    refine wp_iconst (v := 0) hX dX4_writeHead_68 ic_0 ?_
    refine wp_cv1 hX dX4_writeHead_69 mlX4_78 ⟨Nat.le_of_ble_eq_true rfl, Nat.le_of_ble_eq_true rfl⟩ (d_writePage_no (b := 0) rfl hB hW2 (by omega) (by omega) h1) rfl (Nat.le_of_ble_eq_true rfl) ?_
    refine wp_iret hX dX4_writeHead_72 rfl rfl ?_
    exact hp _ _ ⟨_, rfl, rfl⟩
  · rw [wr1_ok h1] at hp
    refine wp_aload_n hX dX4_writeHead_64 rfl ?_
    refine wp_get hX dX4_writeHead_65 flX4_10 rfl rfl ?_
    refine wp_iconst (v := 0) hX dX4_writeHead_68 ic_0 ?_
    refine wp_cv1 hX dX4_writeHead_69 mlX4_78 ⟨Nat.le_of_ble_eq_true rfl, Nat.le_of_ble_eq_true rfl⟩ (d_writePage_ok (b := 0) rfl rfl rfl hB hW2 (by omega) (by omega) h1) rfl (Nat.le_of_ble_eq_true rfl) ?_
    refine wp_iret hX dX4_writeHead_72 rfl rfl ?_
    rw [wrD_congr (hdB_eq hW2)]
    exact hp _ _ ⟨_, rfl, rfl⟩
set_option maxHeartbeats 4000000 in
set_option maxRecDepth 100000 in
theorem b_endTransaction (hC : C.1 ≤ 8700) : MD1 mdX4_endTransaction [.ref 0] (wX st it B W q pf jb jp jr tf te C S H τ) none (wX st 0 B W q pf jb jp jr tf te C (C.1, va_cpy C.2.1 S.2.1 0 0 C.1, va_cpy C.2.2 S.2.2 0 0 C.1) (0, H.2) τ) := by
  refine md_of [some (.ref 0)] rfl (Nat.le_of_ble_eq_true rfl) (by decide) (fun X Post hX hp => ?_)
  refine wp_aload_n hX dX4_endTransaction_0 rfl ?_
  refine wp_get hX dX4_endTransaction_1 flX4_41 rfl rfl ?_
  refine wp_aload_n hX dX4_endTransaction_4 rfl ?_
  refine wp_get hX dX4_endTransaction_5 flX4_37 rfl rfl ?_
  refine wp_cv1 hX dX4_endTransaction_8 mlX4_135 ⟨Nat.le_of_ble_eq_true rfl, Nat.le_of_ble_eq_true rfl⟩ (k_copyFrom (by decide) rfl rfl rfl rfl rfl rfl hC hC (by decide) (by decide)) rfl (Nat.le_of_ble_eq_true rfl) ?_
  refine wp_aload_n hX dX4_endTransaction_11 rfl ?_
  refine wp_get hX dX4_endTransaction_12 flX4_44 rfl rfl ?_
  refine wp_cv0 hX dX4_endTransaction_15 mlX4_89 ⟨Nat.le_of_ble_eq_true rfl, Nat.le_of_ble_eq_true rfl⟩ (k_clear rfl) rfl (Nat.le_of_ble_eq_true rfl) ?_
  refine wp_aload_n hX dX4_endTransaction_18 rfl ?_
  refine wp_iconst (v := 0) hX dX4_endTransaction_19 ic_0 ?_
  refine wp_put hX dX4_endTransaction_20 fwX4_51 rfl (Nat.le_of_ble_eq_true rfl) rfl rfl ?_
  refine wp_vret hX dX4_endTransaction_23 rfl ?_
  exact hp
set_option maxHeartbeats 4000000 in
set_option maxRecDepth 100000 in
theorem b_comeUp (hC : C.1 ≤ 8700) : MD1 mdX4_comeUp [.ref 0] (wX st it B W q pf jb jp jr tf te C S H τ) none (wX 2 0 B W q pf jb jp jr tf te C (C.1, va_cpy C.2.1 S.2.1 0 0 C.1, va_cpy C.2.2 S.2.2 0 0 C.1) (0, H.2) τ) := by
  refine md_of [some (.ref 0)] rfl (Nat.le_of_ble_eq_true rfl) (by decide) (fun X Post hX hp => ?_)
  refine wp_aload_n hX dX4_comeUp_0 rfl ?_
  refine wp_cv0 hX dX4_comeUp_1 mlX4_139 ⟨Nat.le_of_ble_eq_true rfl, Nat.le_of_ble_eq_true rfl⟩ (b_endTransaction hC) rfl (Nat.le_of_ble_eq_true rfl) ?_
  refine wp_aload_n hX dX4_comeUp_4 rfl ?_
  refine wp_iconst (v := 2) hX dX4_comeUp_5 ic_2 ?_
  refine wp_put hX dX4_comeUp_6 fwX4_47 rfl (Nat.le_of_ble_eq_true rfl) rfl rfl ?_
  refine wp_vret hX dX4_comeUp_9 rfl ?_
  exact hp
set_option maxHeartbeats 4000000 in
set_option maxRecDepth 100000 in
theorem b_hasRoom {key : Int32} {Hm : PM} (hH : KAm Hm H) (hs : Srt Hm) (hl : H.1 ≤ 600) : MD1 mdX4_hasRoomForChange [.ref 0, .int key] (wX st it B W q pf jb jp jr tf te C S H τ) (some (.int (b2i (decide (¬ ((lk Hm key).isSome = false ∧ Hm.length = 600)))))) (wX st it B W q pf jb jp jr tf te C S H τ) := by
  refine md_of [some (.ref 0), some (.int key)] rfl (Nat.le_of_ble_eq_true rfl) (by decide) (fun X Post hX hp => ?_)
  have hHl : Hm.length = H.1 := hH.1
  refine wp_aload_n hX dX4_hasRoomForChange_0 rfl ?_
  refine wp_get hX dX4_hasRoomForChange_1 flX4_44 rfl rfl ?_
  refine wp_cv0 hX dX4_hasRoomForChange_4 mlX4_125 ⟨Nat.le_of_ble_eq_true rfl, Nat.le_of_ble_eq_true rfl⟩ (k_entries rfl) rfl (Nat.le_of_ble_eq_true rfl) ?_
  refine wp_sipush (v := 600) hX dX4_hasRoomForChange_7 sp_600 ?_
  refine wp_icmp_lt (tgt := 24) hX dX4_hasRoomForChange_10 (by decide) (fun c => ?_) (fun c => ?_)
  · have h1 := (nI_ltI (a := H.1) (b := 600) (by omega) (by decide)).mp c
    refine wp_iconst (v := 1) hX dX4_hasRoomForChange_24 ic_1 ?_
    refine wp_goto (tgt := 29) hX dX4_hasRoomForChange_25 (by decide) ?_
    refine wp_iret hX dX4_hasRoomForChange_29 rfl rfl ?_
    rw [decide_eq_true (by omega)] at hp
    exact hp
  · have h1 : H.1 = 600 := by
      have : ¬ H.1 < 600 := fun z => c (nI_lt (a := H.1) (b := 600) z (by decide))
      omega
    refine wp_aload_n hX dX4_hasRoomForChange_13 rfl ?_
    refine wp_get hX dX4_hasRoomForChange_14 flX4_44 rfl rfl ?_
    refine wp_iload_n hX dX4_hasRoomForChange_17 rfl ?_
    refine wp_cv1 hX dX4_hasRoomForChange_18 mlX4_119 ⟨Nat.le_of_ble_eq_true rfl, Nat.le_of_ble_eq_true rfl⟩ (k_holds rfl rfl hl (by decide) hH hs) rfl (Nat.le_of_ble_eq_true rfl) ?_
    cases hh : (lk Hm key).isSome with
    | true =>
      rw [decide_eq_true (by rw [hh]; simp)] at hp
      refine wp_if_eq (tgt := 28) hX dX4_hasRoomForChange_21 (by decide) (fun c_ => absurd c_ (by decide)) (fun _ => ?_)
      refine wp_iconst (v := 1) hX dX4_hasRoomForChange_24 ic_1 ?_
      refine wp_goto (tgt := 29) hX dX4_hasRoomForChange_25 (by decide) ?_
      refine wp_iret hX dX4_hasRoomForChange_29 rfl rfl ?_
      exact hp
    | false =>
      rw [decide_eq_false (by rw [hh]; simp; omega)] at hp
      refine wp_if_eq (tgt := 28) hX dX4_hasRoomForChange_21 (by decide) (fun _ => ?_) (fun c_ => absurd (rfl) c_)
      refine wp_iconst (v := 0) hX dX4_hasRoomForChange_28 ic_0 ?_
      refine wp_iret hX dX4_hasRoomForChange_29 rfl rfl ?_
      exact hp
end BS
theorem KAm.copy {m : PM} {C S : MP} (h : KAm m C) : KAm m (C.1, va_cpy C.2.1 S.2.1 0 0 C.1, va_cpy C.2.2 S.2.2 0 0 C.1) := KA.copy h
