/-! BlockStore: recover, checkpoint, count -/
/-- the area that begins at s lies on the disk -/
theorem ars_le {B LG : Nat} (a : Int32) (h : LG + 5 ≤ B) : arS B LG a + AR B LG ≤ B := by
  unfold arS AR
  split <;> omega
section PB
variable {A : Ab} {τ σ : aW}
set_option maxHeartbeats 4000000 in
set_option maxRecDepth 100000 in
theorem x_recover (hA : AInv A) (hR : RX A τ σ) : MT mdX4_recover [.ref 0] σ (fun r σ1 => r = some (.int (sRecover A).1) ∧ RX (sRecover A).2 τ σ1) := by
  obtain ⟨st, ⟨B, W, LG⟩, q, pl, rc, M, tx⟩ := A
  have hR0 := hR
  obtain ⟨it, pf, jp, jr, tf, C, S, H, rfl, htf, hup⟩ := hR
  refine mp_of [some (.ref 0), none, none, none, none] rfl (Nat.le_of_ble_eq_true rfl) (by decide) (fun X Post hX hp => ?_)
  unfold sRecover at hp
  dsimp only at hp
  refine wp_aload_n hX dX4_recover_0 rfl ?_
  refine wp_get hX dX4_recover_1 flX4_47 rfl rfl ?_
  refine wp_if_ne (tgt := 10) hX dX4_recover_4 (by decide) (fun c => ?_) (fun c => ?_)
  · rw [if_neg c] at hp
    obtain ⟨⟨g1, g2, g3, g4, g5, g6, g7⟩, hHd⟩ := hA.geo c
    have htf := htf c
    subst htf
    have wah : ∀ i, i < 6 → wA B W q.1 0 (nI i) = q.1 i := fun i hi => wA_h g2 (by omega) g4 (by omega)
    refine wp_aload_n hX dX4_recover_10 rfl ?_
    refine wp_get hX dX4_recover_11 flX4_10 rfl rfl ?_
    refine wp_iconst (v := 0) hX dX4_recover_14 ic_0 ?_
    refine wp_cv1 hX dX4_recover_15 mlX4_101 ⟨Nat.le_of_ble_eq_true rfl, Nat.le_of_ble_eq_true rfl⟩ (d_isGood (b := 0) rfl rfl g2 g4 (by omega) (by omega)) rfl (Nat.le_of_ble_eq_true rfl) ?_
    rw [Nat.mul_zero, Nat.zero_add]
    have bad : (¬ (q.1 (W - 1) = sumD q.1 0 (W - 1) ∧ q.1 0 = MARK)) → Wp X Post 35 [some (.ref 0), none, none, none, none] [] (wX st it B W q pf LG jp jr (LG + 1) (AR B LG) C S H τ) := by
      intro hb
      rw [if_pos hb] at hp
      refine wp_aload_n hX dX4_recover_35 rfl ?_
      refine wp_iconst (v := 1) hX dX4_recover_36 ic_1 ?_
      refine wp_put hX dX4_recover_37 fwX4_47 rfl (Nat.le_of_ble_eq_true rfl) rfl rfl ?_
      refine wp_bipush (v := (-2)) hX dX4_recover_40 bp_m2 ?_
      refine wp_iret hX dX4_recover_42 rfl rfl ?_
      exact hp _ _ ⟨rfl, it, pf, jp, jr, LG + 1, C, S, H, rfl, fun _ => rfl, fun h => absurd h (by decide)⟩
    by_cases hg : q.1 (W - 1) = sumD q.1 0 (W - 1)
    · rw [decide_eq_true hg]
      refine wp_if_eq (tgt := 35) hX dX4_recover_18 (by decide) (fun c_ => absurd c_ (by decide)) (fun _ => ?_)
      refine wp_aload_n hX dX4_recover_21 rfl ?_
      refine wp_get hX dX4_recover_22 flX4_10 rfl rfl ?_
      refine wp_iconst (v := 0) hX dX4_recover_25 ic_0 ?_
      refine wp_iconst (v := 0) hX dX4_recover_26 ic_0 ?_
      refine wp_cv2 hX dX4_recover_27 mlX4_68 ⟨Nat.le_of_ble_eq_true rfl, Nat.le_of_ble_eq_true rfl⟩ (d_wordAt rfl rfl g2 g4) rfl (Nat.le_of_ble_eq_true rfl) ?_
      rw [show wA B W q.1 0 0 = q.1 0 from wah 0 (by decide)]
      refine wp_ldc hX dX4_recover_30 lcX4_104 ?_
      refine wp_icmp_eq (tgt := 43) hX dX4_recover_32 (by decide) (fun d => ?_) (fun d => ?_)
      · have hmk : q.1 0 = MARK := d
        rw [if_neg (fun z => z ⟨hg, hmk⟩)] at hp
        rcases hHd with h0 | ⟨-, n, hn3, hn5, hn4, hT⟩
        · rw [h0] at hmk
          exact absurd hmk.symm mark_ne
        obtain ⟨hT1, -⟩ := hT
        have h6 := tBl_cap g3 g4 (by unfold AR; omega) hT1
        have hb := ars_le (B := B) (LG := LG) (q.1 3) g7
        have hcn : cdv n (fan W) ≤ tBl (fan W) n := by unfold tBl; omega
        have har : AR B LG ≤ 253 := by unfold AR; omega
        have harx : 2 * AR B LG + LG ≤ 511 := by unfold AR; omega
        have hn : n ≤ 8000 := by omega
        have hmc : rcM B W LG q.1 = rpl W LG q.1 (q.1 1) LG 0 0 (ldo W q.1 (arS B LG (q.1 3)) 0 n []) := by
          unfold rcM
          rw [hn5, nI_clamp (by omega)]
        rw [hmc] at hp
        have hld := ldo_len (W := W) (D := q.1) (s := arS B LG (q.1 3)) n 0 (m := []) List.Pairwise.nil
        have hlds := ldo_srt (W := W) (D := q.1) (s := arS B LG (q.1 3)) n 0 (m := []) List.Pairwise.nil
        have hwl : (W - 5) * LG ≤ 59 * LG := Nat.mul_le_mul (by omega) (Nat.le_refl _)
        simp only [List.length_nil, Nat.zero_add] at hld
        refine wp_aload_n hX dX4_recover_43 rfl ?_
        refine wp_get hX dX4_recover_44 flX4_10 rfl rfl ?_
        refine wp_iconst (v := 0) hX dX4_recover_47 ic_0 ?_
        refine wp_iconst (v := 1) hX dX4_recover_48 ic_1 ?_
        refine wp_cv2 hX dX4_recover_49 mlX4_68 ⟨Nat.le_of_ble_eq_true rfl, Nat.le_of_ble_eq_true rfl⟩ (d_wordAt rfl rfl g2 g4) rfl (Nat.le_of_ble_eq_true rfl) ?_
        rw [show wA B W q.1 0 1 = q.1 1 from wah 1 (by decide)]
        refine wp_istore_n hX dX4_recover_52 (Nat.le_of_ble_eq_true rfl) rfl ?_
        refine wp_aload_n hX dX4_recover_53 rfl ?_
        refine wp_get hX dX4_recover_54 flX4_10 rfl rfl ?_
        refine wp_iconst (v := 0) hX dX4_recover_57 ic_0 ?_
        refine wp_iconst (v := 3) hX dX4_recover_58 ic_3 ?_
        refine wp_cv2 hX dX4_recover_59 mlX4_68 ⟨Nat.le_of_ble_eq_true rfl, Nat.le_of_ble_eq_true rfl⟩ (d_wordAt rfl rfl g2 g4) rfl (Nat.le_of_ble_eq_true rfl) ?_
        rw [show wA B W q.1 0 3 = q.1 3 from wah 3 (by decide)]
        refine wp_istore_n hX dX4_recover_62 (Nat.le_of_ble_eq_true rfl) rfl ?_
        refine wp_aload_n hX dX4_recover_63 rfl ?_
        refine wp_get hX dX4_recover_64 flX4_10 rfl rfl ?_
        refine wp_iconst (v := 0) hX dX4_recover_67 ic_0 ?_
        refine wp_iconst (v := 4) hX dX4_recover_68 ic_4 ?_
        refine wp_cv2 hX dX4_recover_69 mlX4_68 ⟨Nat.le_of_ble_eq_true rfl, Nat.le_of_ble_eq_true rfl⟩ (d_wordAt rfl rfl g2 g4) rfl (Nat.le_of_ble_eq_true rfl) ?_
        rw [show wA B W q.1 0 4 = q.1 4 from wah 4 (by decide)]
        refine wp_istore_n hX dX4_recover_72 (Nat.le_of_ble_eq_true rfl) rfl ?_
        refine wp_aload_n hX dX4_recover_73 rfl ?_
        refine wp_get hX dX4_recover_74 flX4_10 rfl rfl ?_
        refine wp_iconst (v := 0) hX dX4_recover_77 ic_0 ?_
        refine wp_iconst (v := 5) hX dX4_recover_78 ic_5 ?_
        refine wp_cv2 hX dX4_recover_79 mlX4_68 ⟨Nat.le_of_ble_eq_true rfl, Nat.le_of_ble_eq_true rfl⟩ (d_wordAt rfl rfl g2 g4) rfl (Nat.le_of_ble_eq_true rfl) ?_
        rw [show wA B W q.1 0 5 = q.1 5 from wah 5 (by decide), hn5]
        rw [hn5] at hp
        refine wp_istore hX dX4_recover_82 (Nat.le_of_ble_eq_true rfl) rfl ?_
        refine wp_aload_n hX dX4_recover_84 rfl ?_
        refine wp_get hX dX4_recover_85 flX4_28 rfl rfl ?_
        refine wp_aload_n hX dX4_recover_88 rfl ?_
        refine wp_get hX dX4_recover_89 flX4_37 rfl rfl ?_
        refine wp_iload_n hX dX4_recover_92 rfl ?_
        refine wp_iload hX dX4_recover_93 rfl ?_
        refine wp_cv3p hX dX4_recover_95 mlX4_105 ⟨Nat.le_of_ble_eq_true rfl, Nat.le_of_ble_eq_true rfl⟩ (t_load (s := arS B LG (q.1 3)) g2 g3 g4 rfl hn (by omega)) rfl (Nat.le_of_ble_eq_true rfl) ?_
        rintro r1 σ1 ⟨C1, rfl, hk1, rfl⟩
        refine wp_aload_n hX dX4_recover_98 rfl ?_
        refine wp_get hX dX4_recover_99 flX4_21 rfl rfl ?_
        refine wp_aload_n hX dX4_recover_102 rfl ?_
        refine wp_get hX dX4_recover_103 flX4_37 rfl rfl ?_
        refine wp_iload_n hX dX4_recover_106 rfl ?_
        refine wp_cv2p hX dX4_recover_107 mlX4_109 ⟨Nat.le_of_ble_eq_true rfl, Nat.le_of_ble_eq_true rfl⟩ (j_replay g2 (by omega) g4 (by omega) g6 hk1 hlds (by omega)) rfl (Nat.le_of_ble_eq_true rfl) ?_
        rintro r1 σ1 ⟨C2, rfl, hk2, rfl⟩
        obtain ⟨i1, i2, i3, i4, i5⟩ := rpl_b (W := W) (LG := LG) (D := q.1) (e := q.1 1) (by omega) g4 g6 LG 0 0 _ (Nat.zero_le _) (Nat.le_refl _) hlds
        generalize hrr : rpl W LG q.1 (q.1 1) LG 0 0 (ldo W q.1 (arS B LG (q.1 3)) 0 n []) = rr at hp hk2 i1 i2 i3 i4 i5 ⊢
        have hwl2 : (W - 5) * rr.1 ≤ 59 * LG := Nat.mul_le_mul (by omega) i2
        have hC2 : rr.2.2.length = C2.1 := hk2.1
        refine wp_aload_n hX dX4_recover_110 rfl ?_
        refine wp_iload_n hX dX4_recover_111 rfl ?_
        refine wp_aload_n hX dX4_recover_112 rfl ?_
        refine wp_get hX dX4_recover_113 flX4_10 rfl rfl ?_
        refine wp_iconst (v := 0) hX dX4_recover_116 ic_0 ?_
        refine wp_iconst (v := 2) hX dX4_recover_117 ic_2 ?_
        refine wp_cv2 hX dX4_recover_118 mlX4_68 ⟨Nat.le_of_ble_eq_true rfl, Nat.le_of_ble_eq_true rfl⟩ (d_wordAt rfl rfl g2 g4) rfl (Nat.le_of_ble_eq_true rfl) ?_
        rw [show wA B W q.1 0 2 = q.1 2 from wah 2 (by decide)]
        refine wp_iconst (v := 1) hX dX4_recover_121 ic_1 ?_
        refine wp_iadd hX dX4_recover_122 ?_
        refine wp_iload_n hX dX4_recover_123 rfl ?_
        refine wp_iload_n hX dX4_recover_124 rfl ?_
        refine wp_iload hX dX4_recover_125 rfl ?_
        refine wp_cv5p hX dX4_recover_127 mlX4_85 ⟨Nat.le_of_ble_eq_true rfl, Nat.le_of_ble_eq_true rfl⟩ (b_writeHead g2 (by omega) g3 g4) rfl (Nat.le_of_ble_eq_true rfl) ?_
        rintro r1 σ1 ⟨pf1, rfl, rfl⟩
        generalize hz : wr1 W q 0 (hdB (q.1 1) (q.1 2 + 1) (q.1 3) (q.1 4) (nI n)) = zz at hp ⊢
        obtain ⟨zb, z2⟩ := zz
        cases zb with
        | false =>
          rw [if_pos rfl] at hp
          refine wp_if_ne (tgt := 138) hX dX4_recover_130 (by decide) (fun c_ => absurd (rfl) c_) (fun _ => ?_)
          refine wp_aload_n hX dX4_recover_133 rfl ?_
          refine wp_cv0 hX dX4_recover_134 mlX4_82 ⟨Nat.le_of_ble_eq_true rfl, Nat.le_of_ble_eq_true rfl⟩ (b_fail) rfl (Nat.le_of_ble_eq_true rfl) ?_
          refine wp_iret hX dX4_recover_137 rfl rfl ?_
          exact hp _ _ ⟨rfl, it, _, _, _, LG + 1, C2, S, H, rfl, fun _ => rfl, fun h => absurd h (by decide)⟩
        | true =>
          rw [if_neg (show ¬ true = false by decide)] at hp
          refine wp_if_ne (tgt := 138) hX dX4_recover_130 (by decide) (fun _ => ?_) (fun c_ => absurd c_ (show ¬ b2i true = 0 by decide))
          refine wp_aload_n hX dX4_recover_138 rfl ?_
          refine wp_cv0 hX dX4_recover_139 mlX4_95 ⟨Nat.le_of_ble_eq_true rfl, Nat.le_of_ble_eq_true rfl⟩ (b_comeUp (by omega)) rfl (Nat.le_of_ble_eq_true rfl) ?_
          refine wp_iconst (v := 0) hX dX4_recover_142 ic_0 ?_
          refine wp_iret hX dX4_recover_143 rfl rfl ?_
          exact hp _ _ ⟨rfl, 0, _, _, _, LG + 1, C2, _, _, rfl, fun _ => rfl, fun _ => ⟨rfl, rfl, hk2, hk2.copy, rfl, rfl⟩⟩
      · exact bad (fun z => d z.2)
    · rw [decide_eq_false hg]
      refine wp_if_eq (tgt := 35) hX dX4_recover_18 (by decide) (fun _ => ?_) (fun c_ => absurd (rfl) c_)
      exact bad (fun z => hg z.1)
  · rw [if_pos c] at hp
    refine wp_bipush (v := (-7)) hX dX4_recover_7 bp_m7 ?_
    refine wp_iret hX dX4_recover_9 rfl rfl ?_
    exact hp _ _ ⟨rfl, hR0⟩
set_option maxHeartbeats 4000000 in
set_option maxRecDepth 100000 in
theorem nodW_off {W b i : Nat} (hi : i < W) : ∀ (k s row : Nat) (ls : Nat → Int32) (q : DQ), b < s + row → (nodW W k s row ls q).2.1 (W * b + i) = q.1 (W * b + i)
  | 0, _, _, _, _, _ => rfl
  | k + 1, s, row, ls, q, h => by
    rw [nodW_s]
    split
    · rfl
    · have h1 := wrN_off (W := W) (f := fun j => (s + row + j, rowB (fan W) 2 row (fun i => (ls i, nI (s + i))) j)) (b := b) hi (cdv row (fan W)) 0 q (fun j _ _ => by show ¬ b = s + row + j; omega)
      split
      · rw [nodW_off hi k (s + row) (cdv row (fan W)) _ _ (by omega)]
        exact h1
      · exact h1
theorem treW_off {W b i s : Nat} {m : PM} {q : DQ} (hi : i < W) (hb : b < s) : (treW W s m q).2.1 (W * b + i) = q.1 (W * b + i) := by
  have h1 : (leaW W s m q).2.1 (W * b + i) = q.1 (W * b + i) := wrN_off hi _ _ _ (fun j _ _ => by show ¬ b = s + j; omega)
  unfold treW
  split
  · rw [nodW_off hi _ _ _ _ _ (by omega)]
    exact h1
  · exact h1
set_option maxHeartbeats 4000000 in
set_option maxRecDepth 100000 in
theorem x_checkpoint (hA : AInv A) (hR : RX A τ σ) : MT mdX4_checkpoint [.ref 0] σ (fun r σ1 => r = some (.int (sCheck A).1) ∧ RX (sCheck A).2 τ σ1) := by
  obtain ⟨st, ⟨B, W, LG⟩, q, pl, rc, M, tx⟩ := A
  have hR0 := hR
  obtain ⟨it, pf, jp, jr, tf, C, S, H, rfl, htf, hup⟩ := hR
  refine mp_of [some (.ref 0), none, none, none, none] rfl (Nat.le_of_ble_eq_true rfl) (by decide) (fun X Post hX hp => ?_)
  unfold sCheck at hp
  dsimp only at hp
  refine wp_aload_n hX dX4_checkpoint_0 rfl ?_
  refine wp_get hX dX4_checkpoint_1 flX4_47 rfl rfl ?_
  refine wp_iconst (v := 2) hX dX4_checkpoint_4 ic_2 ?_
  refine wp_icmp_eq (tgt := 13) hX dX4_checkpoint_5 (by decide) (fun c => ?_) (fun c => ?_)
  · subst c
    rw [if_neg (by decide)] at hp
    obtain ⟨u1, u2, u3, u4, u5⟩ := hup rfl
    subst u1
    subst u2
    have hcap := hA.cap
    obtain ⟨⟨g1, g2, g3, g4, g5, g6, g7⟩, hHd⟩ := hA.geo (by decide)
    have htf := htf (by decide)
    subst htf
    cases tx with
    | some CC =>
      obtain ⟨u5, u6⟩ := u5
      subst u5
      refine wp_aload_n hX dX4_checkpoint_13 rfl ?_
      refine wp_get hX dX4_checkpoint_14 flX4_51 rfl rfl ?_
      refine wp_if_eq (tgt := 23) hX dX4_checkpoint_17 (by decide) (fun c_ => absurd c_ (by decide)) (fun _ => ?_)
      refine wp_bipush (v := (-4)) hX dX4_checkpoint_20 bp_m4 ?_
      refine wp_iret hX dX4_checkpoint_22 rfl rfl ?_
      exact hp _ _ ⟨rfl, hR0⟩
    | none =>
      obtain ⟨u5, u6⟩ := u5
      subst u5
      have hCl : M.length = C.1 := u3.1
      have har : AR B LG ≤ 253 := by unfold AR; omega
      dsimp only at hp
      refine wp_aload_n hX dX4_checkpoint_13 rfl ?_
      refine wp_get hX dX4_checkpoint_14 flX4_51 rfl rfl ?_
      refine wp_if_eq (tgt := 23) hX dX4_checkpoint_17 (by decide) (fun _ => ?_) (fun c_ => absurd (rfl) c_)
      refine wp_aload_n hX dX4_checkpoint_23 rfl ?_
      refine wp_get hX dX4_checkpoint_24 flX4_37 rfl rfl ?_
      refine wp_cv0 hX dX4_checkpoint_27 mlX4_125 ⟨Nat.le_of_ble_eq_true rfl, Nat.le_of_ble_eq_true rfl⟩ (k_entries rfl) rfl (Nat.le_of_ble_eq_true rfl) ?_
      rw [← hCl]
      have htb : tBl (fan W) M.length ≤ 100000 := by
        unfold tBl
        have h1 := cdv_le (n := M.length) (e := fan W) (by have := fan_2 g3; omega)
        have h2 := tbl_le (fan_2 g3) 32 (cdv M.length (fan W))
        omega
      refine wp_istore_n hX dX4_checkpoint_30 (Nat.le_of_ble_eq_true rfl) rfl ?_
      refine wp_aload_n hX dX4_checkpoint_31 rfl ?_
      refine wp_get hX dX4_checkpoint_32 flX4_28 rfl rfl ?_
      refine wp_iload_n hX dX4_checkpoint_35 rfl ?_
      refine wp_cv1 hX dX4_checkpoint_36 mlX4_142 ⟨Nat.le_of_ble_eq_true rfl, Nat.le_of_ble_eq_true rfl⟩ (t_blocksFor g3 g4 (by omega)) rfl (Nat.le_of_ble_eq_true rfl) ?_
      refine wp_aload_n hX dX4_checkpoint_39 rfl ?_
      refine wp_get hX dX4_checkpoint_40 flX4_28 rfl rfl ?_
      refine wp_cv0 hX dX4_checkpoint_43 mlX4_146 ⟨Nat.le_of_ble_eq_true rfl, Nat.le_of_ble_eq_true rfl⟩ (t_areaBlocks) rfl (Nat.le_of_ble_eq_true rfl) ?_
      refine wp_icmp_le (tgt := 52) hX dX4_checkpoint_46 (by decide) (fun d => ?_) (fun d => ?_)
      · have d1 := (nI_leI (a := tBl (fan W) M.length) (b := AR B LG) (by omega) (by omega)).mp d
        rw [if_neg (by omega)] at hp
        refine wp_aload_n hX dX4_checkpoint_52 rfl ?_
        refine wp_get hX dX4_checkpoint_53 flX4_10 rfl rfl ?_
        refine wp_iconst (v := 0) hX dX4_checkpoint_56 ic_0 ?_
        refine wp_iconst (v := 3) hX dX4_checkpoint_57 ic_3 ?_
        refine wp_cv2 hX dX4_checkpoint_58 mlX4_68 ⟨Nat.le_of_ble_eq_true rfl, Nat.le_of_ble_eq_true rfl⟩ (d_wordAt rfl rfl g2 g4) rfl (Nat.le_of_ble_eq_true rfl) ?_
        rw [show wA B W q.1 0 3 = q.1 3 from wA_h (i := 3) g2 (by omega) g4 (by omega)]
        have hb := ars_le (B := B) (LG := LG) (ckT q) g7
        have hs1 : 1 ≤ arS B LG (ckT q) := by unfold arS; split <;> omega
        have tail : Wp X Post 69 [some (.ref 0), some (.int (nI M.length)), none, none, none] [.int (ckT q)] (wX 2 0 B W q pf LG jp jr (LG + 1) (AR B LG) C S H τ) := by
          refine wp_istore_n hX dX4_checkpoint_69 (Nat.le_of_ble_eq_true rfl) rfl ?_
          refine wp_aload_n hX dX4_checkpoint_70 rfl ?_
          refine wp_get hX dX4_checkpoint_71 flX4_28 rfl rfl ?_
          refine wp_aload_n hX dX4_checkpoint_74 rfl ?_
          refine wp_get hX dX4_checkpoint_75 flX4_37 rfl rfl ?_
          refine wp_iload_n hX dX4_checkpoint_78 rfl ?_
          refine wp_cv2p hX dX4_checkpoint_79 mlX4_149 ⟨Nat.le_of_ble_eq_true rfl, Nat.le_of_ble_eq_true rfl⟩ (t_save (s := arS B LG (ckT q)) g2 g3 g4 u3 (by omega) rfl (by omega)) rfl (Nat.le_of_ble_eq_true rfl) ?_
          rintro r1 σ1 ⟨pf1, rfl, rfl⟩
          rw [show treW W (arS B LG (ckT q)) M q = ckW B W LG q M from rfl]
          have hoff : ∀ i, i < 6 → (ckW B W LG q M).2.1 i = q.1 i := fun i hi => by
            have := treW_off (W := W) (b := 0) (i := i) (s := arS B LG (ckT q)) (m := M) (q := q) (by omega) (by omega)
            rw [Nat.mul_zero, Nat.zero_add] at this
            exact this
          generalize hz : ckW B W LG q M = zz at hp hoff ⊢
          obtain ⟨zb, z2⟩ := zz
          cases zb with
          | false =>
            rw [if_pos rfl] at hp
            refine wp_if_ne (tgt := 90) hX dX4_checkpoint_82 (by decide) (fun c_ => absurd (rfl) c_) (fun _ => ?_)
            refine wp_aload_n hX dX4_checkpoint_85 rfl ?_
            refine wp_cv0 hX dX4_checkpoint_86 mlX4_82 ⟨Nat.le_of_ble_eq_true rfl, Nat.le_of_ble_eq_true rfl⟩ (b_fail) rfl (Nat.le_of_ble_eq_true rfl) ?_
            refine wp_iret hX dX4_checkpoint_89 rfl rfl ?_
            exact hp _ _ ⟨rfl, 0, _, jp, jr, LG + 1, C, S, H, rfl, fun _ => rfl, fun h => absurd h (by decide)⟩
          | true =>
            rw [if_neg (show ¬ true = false by decide)] at hp
            refine wp_if_ne (tgt := 90) hX dX4_checkpoint_82 (by decide) (fun _ => ?_) (fun c_ => absurd c_ (show ¬ b2i true = 0 by decide))
            refine wp_aload_n hX dX4_checkpoint_90 rfl ?_
            refine wp_get hX dX4_checkpoint_91 flX4_10 rfl rfl ?_
            refine wp_iconst (v := 0) hX dX4_checkpoint_94 ic_0 ?_
            refine wp_iconst (v := 1) hX dX4_checkpoint_95 ic_1 ?_
            refine wp_cv2 hX dX4_checkpoint_96 mlX4_68 ⟨Nat.le_of_ble_eq_true rfl, Nat.le_of_ble_eq_true rfl⟩ (d_wordAt rfl rfl g2 g4) rfl (Nat.le_of_ble_eq_true rfl) ?_
            rw [show wA B W z2.1 0 1 = z2.1 1 from wA_h (i := 1) g2 (by omega) g4 (by omega), show z2.1 1 = q.1 1 from hoff 1 (by decide)]
            refine wp_iconst (v := 1) hX dX4_checkpoint_99 ic_1 ?_
            refine wp_iadd hX dX4_checkpoint_100 ?_
            refine wp_istore_n hX dX4_checkpoint_101 (Nat.le_of_ble_eq_true rfl) rfl ?_
            refine wp_aload_n hX dX4_checkpoint_102 rfl ?_
            refine wp_get hX dX4_checkpoint_103 flX4_10 rfl rfl ?_
            refine wp_iconst (v := 0) hX dX4_checkpoint_106 ic_0 ?_
            refine wp_iconst (v := 2) hX dX4_checkpoint_107 ic_2 ?_
            refine wp_cv2 hX dX4_checkpoint_108 mlX4_68 ⟨Nat.le_of_ble_eq_true rfl, Nat.le_of_ble_eq_true rfl⟩ (d_wordAt rfl rfl g2 g4) rfl (Nat.le_of_ble_eq_true rfl) ?_
            rw [show wA B W z2.1 0 2 = z2.1 2 from wA_h (i := 2) g2 (by omega) g4 (by omega), show z2.1 2 = q.1 2 from hoff 2 (by decide)]
            refine wp_istore hX dX4_checkpoint_111 (Nat.le_of_ble_eq_true rfl) rfl ?_
            refine wp_aload_n hX dX4_checkpoint_113 rfl ?_
            refine wp_iload_n hX dX4_checkpoint_114 rfl ?_
            refine wp_iload hX dX4_checkpoint_115 rfl ?_
            refine wp_iload_n hX dX4_checkpoint_117 rfl ?_
            refine wp_aload_n hX dX4_checkpoint_118 rfl ?_
            refine wp_get hX dX4_checkpoint_119 flX4_28 rfl rfl ?_
            refine wp_iload_n hX dX4_checkpoint_122 rfl ?_
            refine wp_iload_n hX dX4_checkpoint_123 rfl ?_
            refine wp_cv2 hX dX4_checkpoint_124 mlX4_153 ⟨Nat.le_of_ble_eq_true rfl, Nat.le_of_ble_eq_true rfl⟩ (t_rootOf g3 g4 (by omega) (by omega)) rfl (Nat.le_of_ble_eq_true rfl) ?_
            refine wp_iload_n hX dX4_checkpoint_127 rfl ?_
            refine wp_cv5p hX dX4_checkpoint_128 mlX4_85 ⟨Nat.le_of_ble_eq_true rfl, Nat.le_of_ble_eq_true rfl⟩ (b_writeHead g2 (by omega) g3 g4) rfl (Nat.le_of_ble_eq_true rfl) ?_
            rintro r1 σ1 ⟨pf2, rfl, rfl⟩
            rw [show wr1 W z2 0 (hdB (q.1 1 + 1) (q.1 2) (ckT q) (nI (if M.length = 0 then 0 else (if ckT q = 0 then LG + 1 else LG + 1 + AR B LG) + tBl (fan W) M.length - 1)) (nI M.length)) = wr1 W z2 0 (hdB (q.1 1 + 1) (q.1 2) (ckT q) (ckR B W LG q M) (nI M.length)) from rfl]
            generalize hz2 : wr1 W z2 0 (hdB (q.1 1 + 1) (q.1 2) (ckT q) (ckR B W LG q M) (nI M.length)) = z3 at hp ⊢
            obtain ⟨zb, z3⟩ := z3
            cases zb with
            | false =>
              rw [if_pos rfl] at hp
              refine wp_if_ne (tgt := 139) hX dX4_checkpoint_131 (by decide) (fun c_ => absurd (rfl) c_) (fun _ => ?_)
              refine wp_aload_n hX dX4_checkpoint_134 rfl ?_
              refine wp_cv0 hX dX4_checkpoint_135 mlX4_82 ⟨Nat.le_of_ble_eq_true rfl, Nat.le_of_ble_eq_true rfl⟩ (b_fail) rfl (Nat.le_of_ble_eq_true rfl) ?_
              refine wp_iret hX dX4_checkpoint_138 rfl rfl ?_
              exact hp _ _ ⟨rfl, 0, _, jp, jr, LG + 1, C, S, H, rfl, fun _ => rfl, fun h => absurd h (by decide)⟩
            | true =>
              rw [if_neg (show ¬ true = false by decide)] at hp
              refine wp_if_ne (tgt := 139) hX dX4_checkpoint_131 (by decide) (fun _ => ?_) (fun c_ => absurd c_ (show ¬ b2i true = 0 by decide))
              refine wp_aload_n hX dX4_checkpoint_139 rfl ?_
              refine wp_get hX dX4_checkpoint_140 flX4_21 rfl rfl ?_
              refine wp_cv0 hX dX4_checkpoint_143 mlX4_92 ⟨Nat.le_of_ble_eq_true rfl, Nat.le_of_ble_eq_true rfl⟩ (j_restart) rfl (Nat.le_of_ble_eq_true rfl) ?_
              refine wp_iconst (v := 0) hX dX4_checkpoint_146 ic_0 ?_
              refine wp_iret hX dX4_checkpoint_147 rfl rfl ?_
              exact hp _ _ ⟨rfl, 0, _, 0, 0, LG + 1, C, S, H, rfl, fun _ => rfl, fun _ => ⟨rfl, rfl, u3, u4, rfl, u6⟩⟩
        refine wp_if_ne (tgt := 68) hX dX4_checkpoint_61 (by decide) (fun f => ?_) (fun f => ?_)
        · rw [show ckT q = 0 from if_neg f] at tail
          refine wp_iconst (v := 0) hX dX4_checkpoint_68 ic_0 ?_
          exact tail
        · rw [show ckT q = 1 from if_pos f] at tail
          refine wp_iconst (v := 1) hX dX4_checkpoint_64 ic_1 ?_
          refine wp_goto (tgt := 69) hX dX4_checkpoint_65 (by decide) ?_
          exact tail
      · have d1 : AR B LG < tBl (fan W) M.length := Nat.lt_of_not_le (fun z => d (nI_le z (by omega)))
        rw [if_pos d1] at hp
        refine wp_bipush (v := (-6)) hX dX4_checkpoint_49 bp_m6 ?_
        refine wp_iret hX dX4_checkpoint_51 rfl rfl ?_
        exact hp _ _ ⟨rfl, hR0⟩
  · rw [if_pos c] at hp
    refine wp_aload_n hX dX4_checkpoint_8 rfl ?_
    refine wp_cv0 hX dX4_checkpoint_9 mlX4_64 ⟨Nat.le_of_ble_eq_true rfl, Nat.le_of_ble_eq_true rfl⟩ (b_refusal) rfl (Nat.le_of_ble_eq_true rfl) ?_
    refine wp_iret hX dX4_checkpoint_12 rfl rfl ?_
    exact hp _ _ ⟨rfl, hR0⟩
set_option maxHeartbeats 4000000 in
set_option maxRecDepth 100000 in
theorem x_count {w : Int32} (hA : AInv A) (hR : RX A τ σ) : MT mdX4_count [.ref 0, .int w] σ (fun r σ1 => r = some (.int (sCount A w)) ∧ RX A τ σ1) := by
  obtain ⟨st, ⟨B, W, LG⟩, q, pl, rc, M, tx⟩ := A
  have hR0 := hR
  obtain ⟨it, pf, jp, jr, tf, C, S, H, rfl, htf, hup⟩ := hR
  have up : st = 2 → ¬ w = 0 → ¬ w = 1 → ¬ w = 8 → MD1 mdX4_countWhileUp [.ref 0, .int w] (wX st it B W q pf LG jp jr tf (AR B LG) C S H τ) (some (.int (sCount (st, (B, W, LG), q, (pl, rc, M, tx)) w))) (wX st it B W q pf LG jp jr tf (AR B LG) C S H τ) := by
    rintro rfl w0 w1 w8
    obtain ⟨u1, u2, u3, u4, u5⟩ := hup rfl
    subst u1
    subst u2
    have hcap := hA.cap
    have hCl : M.length = C.1 := u3.1
    obtain ⟨⟨g1, g2, g3, g4, g5, g6, g7⟩, hHd⟩ := hA.geo (by decide)
    refine md_of [some (.ref 0), some (.int w)] rfl (Nat.le_of_ble_eq_true rfl) (by decide) (fun X Post hX hp => ?_)
    unfold sCount at hp
    dsimp only at hp
    rw [if_neg w0, if_neg w1, if_neg w8, if_neg (by decide)] at hp
    refine wp_iload_n hX dX4_countWhileUp_0 rfl ?_
    by_cases w2 : w = 2
    · subst w2
      rw [if_pos rfl] at hp
      refine wp_tableIn (off := 39) (tgt := 40) hX dX4_countWhileUp_1 (by decide) (by decide) (by decide) (by decide) ?_
      refine wp_aload_n hX dX4_countWhileUp_40 rfl ?_
      refine wp_get hX dX4_countWhileUp_41 flX4_21 rfl rfl ?_
      refine wp_cv0 hX dX4_countWhileUp_44 mlX4_181 ⟨Nat.le_of_ble_eq_true rfl, Nat.le_of_ble_eq_true rfl⟩ (j_usedBlocks) rfl (Nat.le_of_ble_eq_true rfl) ?_
      refine wp_iret hX dX4_countWhileUp_47 rfl rfl ?_
      exact hp
    · rw [if_neg w2] at hp
      by_cases w3 : w = 3
      · subst w3
        rw [if_pos rfl] at hp
        refine wp_tableIn (off := 47) (tgt := 48) hX dX4_countWhileUp_1 (by decide) (by decide) (by decide) (by decide) ?_
        refine wp_aload_n hX dX4_countWhileUp_48 rfl ?_
        refine wp_get hX dX4_countWhileUp_49 flX4_10 rfl rfl ?_
        refine wp_iconst (v := 0) hX dX4_countWhileUp_52 ic_0 ?_
        refine wp_iconst (v := 1) hX dX4_countWhileUp_53 ic_1 ?_
        refine wp_cv2 hX dX4_countWhileUp_54 mlX4_68 ⟨Nat.le_of_ble_eq_true rfl, Nat.le_of_ble_eq_true rfl⟩ (d_wordAt rfl rfl g2 g4) rfl (Nat.le_of_ble_eq_true rfl) ?_
        rw [show wA B W q.1 0 1 = q.1 1 from wA_h (i := 1) g2 (by omega) g4 (by omega)]
        refine wp_iret hX dX4_countWhileUp_57 rfl rfl ?_
        exact hp
      · rw [if_neg w3] at hp
        by_cases w4 : w = 4
        · subst w4
          rw [if_pos rfl] at hp
          refine wp_tableIn (off := 57) (tgt := 58) hX dX4_countWhileUp_1 (by decide) (by decide) (by decide) (by decide) ?_
          refine wp_aload_n hX dX4_countWhileUp_58 rfl ?_
          refine wp_get hX dX4_countWhileUp_59 flX4_10 rfl rfl ?_
          refine wp_iconst (v := 0) hX dX4_countWhileUp_62 ic_0 ?_
          refine wp_iconst (v := 2) hX dX4_countWhileUp_63 ic_2 ?_
          refine wp_cv2 hX dX4_countWhileUp_64 mlX4_68 ⟨Nat.le_of_ble_eq_true rfl, Nat.le_of_ble_eq_true rfl⟩ (d_wordAt rfl rfl g2 g4) rfl (Nat.le_of_ble_eq_true rfl) ?_
          rw [show wA B W q.1 0 2 = q.1 2 from wA_h (i := 2) g2 (by omega) g4 (by omega)]
          refine wp_iret hX dX4_countWhileUp_67 rfl rfl ?_
          exact hp
        · rw [if_neg w4] at hp
          by_cases w5 : w = 5
          · subst w5
            rw [if_pos rfl] at hp
            refine wp_tableIn (off := 67) (tgt := 68) hX dX4_countWhileUp_1 (by decide) (by decide) (by decide) (by decide) ?_
            refine wp_aload_n hX dX4_countWhileUp_68 rfl ?_
            refine wp_get hX dX4_countWhileUp_69 flX4_21 rfl rfl ?_
            refine wp_cv0 hX dX4_countWhileUp_72 mlX4_184 ⟨Nat.le_of_ble_eq_true rfl, Nat.le_of_ble_eq_true rfl⟩ (j_recordCount) rfl (Nat.le_of_ble_eq_true rfl) ?_
            refine wp_iret hX dX4_countWhileUp_75 rfl rfl ?_
            exact hp
          · rw [if_neg w5] at hp
            by_cases w6 : w = 6
            · subst w6
              rw [if_pos rfl] at hp
              refine wp_tableIn (off := 75) (tgt := 76) hX dX4_countWhileUp_1 (by decide) (by decide) (by decide) (by decide) ?_
              cases tx with
              | none =>
                obtain ⟨u5, u6⟩ := u5
                subst u5
                refine wp_aload_n hX dX4_countWhileUp_76 rfl ?_
                refine wp_get hX dX4_countWhileUp_77 flX4_51 rfl rfl ?_
                refine wp_if_eq (tgt := 93) hX dX4_countWhileUp_80 (by decide) (fun _ => ?_) (fun c_ => absurd (rfl) c_)
                refine wp_bipush (v := (-3)) hX dX4_countWhileUp_93 bp_m3 ?_
                refine wp_iret hX dX4_countWhileUp_95 rfl rfl ?_
                exact hp
              | some CC =>
                obtain ⟨u5, u6⟩ := u5
                subst u5
                have hHl : CC.length = H.1 := by rw [← chK_len]; exact u6.1
                refine wp_aload_n hX dX4_countWhileUp_76 rfl ?_
                refine wp_get hX dX4_countWhileUp_77 flX4_51 rfl rfl ?_
                refine wp_if_eq (tgt := 93) hX dX4_countWhileUp_80 (by decide) (fun c_ => absurd c_ (by decide)) (fun _ => ?_)
                refine wp_aload_n hX dX4_countWhileUp_83 rfl ?_
                refine wp_get hX dX4_countWhileUp_84 flX4_44 rfl rfl ?_
                refine wp_cv0 hX dX4_countWhileUp_87 mlX4_125 ⟨Nat.le_of_ble_eq_true rfl, Nat.le_of_ble_eq_true rfl⟩ (k_entries rfl) rfl (Nat.le_of_ble_eq_true rfl) ?_
                refine wp_goto (tgt := 95) hX dX4_countWhileUp_90 (by decide) ?_
                rw [← hHl]
                refine wp_iret hX dX4_countWhileUp_95 rfl rfl ?_
                exact hp
            · rw [if_neg w6] at hp
              by_cases w7 : w = 7
              · subst w7
                rw [if_pos rfl] at hp
                refine wp_tableIn (off := 95) (tgt := 96) hX dX4_countWhileUp_1 (by decide) (by decide) (by decide) (by decide) ?_
                refine wp_aload_n hX dX4_countWhileUp_96 rfl ?_
                refine wp_get hX dX4_countWhileUp_97 flX4_28 rfl rfl ?_
                refine wp_aload_n hX dX4_countWhileUp_100 rfl ?_
                refine wp_get hX dX4_countWhileUp_101 flX4_37 rfl rfl ?_
                refine wp_cv0 hX dX4_countWhileUp_104 mlX4_125 ⟨Nat.le_of_ble_eq_true rfl, Nat.le_of_ble_eq_true rfl⟩ (k_entries rfl) rfl (Nat.le_of_ble_eq_true rfl) ?_
                rw [← hCl]
                refine wp_cv1 hX dX4_countWhileUp_107 mlX4_142 ⟨Nat.le_of_ble_eq_true rfl, Nat.le_of_ble_eq_true rfl⟩ (t_blocksFor g3 g4 (by omega)) rfl (Nat.le_of_ble_eq_true rfl) ?_
                refine wp_iret hX dX4_countWhileUp_110 rfl rfl ?_
                exact hp
              · rw [if_neg w7] at hp
                have ho : w.toInt < 2 ∨ 7 < w.toInt := by
                  rw [ieq] at w2 w3 w4 w5 w6 w7
                  rw [show (2 : Int32).toInt = 2 from rfl] at w2
                  rw [show (3 : Int32).toInt = 3 from rfl] at w3
                  rw [show (4 : Int32).toInt = 4 from rfl] at w4
                  rw [show (5 : Int32).toInt = 5 from rfl] at w5
                  rw [show (6 : Int32).toInt = 6 from rfl] at w6
                  rw [show (7 : Int32).toInt = 7 from rfl] at w7
                  omega
                refine wp_tableOut (tgt := 111) hX dX4_countWhileUp_1 ho (by decide) ?_
                refine wp_iconst (v := 0) hX dX4_countWhileUp_111 ic_0 ?_
                refine wp_iret hX dX4_countWhileUp_112 rfl rfl ?_
                exact hp
  refine mp_of [some (.ref 0), some (.int w)] rfl (Nat.le_of_ble_eq_true rfl) (by decide) (fun X Post hX hp => ?_)
  refine wp_iload_n hX dX4_count_0 rfl ?_
  by_cases w0 : w = 0
  · subst w0
    unfold sCount at hp
    dsimp only at hp
    rw [if_pos rfl] at hp
    refine wp_lookup (off := 35) (tgt := 36) hX dX4_count_1 (by decide) (by decide) (by decide) ?_
    refine wp_aload_n hX dX4_count_36 rfl ?_
    refine wp_get hX dX4_count_37 flX4_10 rfl rfl ?_
    refine wp_cv0 hX dX4_count_40 mlX4_172 ⟨Nat.le_of_ble_eq_true rfl, Nat.le_of_ble_eq_true rfl⟩ (d_writesDone rfl) rfl (Nat.le_of_ble_eq_true rfl) ?_
    refine wp_iret hX dX4_count_43 rfl rfl ?_
    exact hp _ _ ⟨rfl, hR0⟩
  · by_cases w1 : w = 1
    · subst w1
      unfold sCount at hp
      dsimp only at hp
      rw [if_neg w0, if_pos rfl] at hp
      refine wp_lookup (off := 43) (tgt := 44) hX dX4_count_1 (by decide) (by decide) (by decide) ?_
      refine wp_aload_n hX dX4_count_44 rfl ?_
      refine wp_get hX dX4_count_45 flX4_10 rfl rfl ?_
      refine wp_cv0 hX dX4_count_48 mlX4_175 ⟨Nat.le_of_ble_eq_true rfl, Nat.le_of_ble_eq_true rfl⟩ (d_writesToFailure rfl) rfl (Nat.le_of_ble_eq_true rfl) ?_
      refine wp_iret hX dX4_count_51 rfl rfl ?_
      exact hp _ _ ⟨rfl, hR0⟩
    · by_cases w8 : w = 8
      · subst w8
        unfold sCount at hp
        dsimp only at hp
        rw [if_neg w0, if_neg w1, if_pos rfl] at hp
        refine wp_lookup (off := 51) (tgt := 52) hX dX4_count_1 (by decide) (by decide) (by decide) ?_
        refine wp_aload_n hX dX4_count_52 rfl ?_
        refine wp_get hX dX4_count_53 flX4_28 rfl rfl ?_
        refine wp_cv0 hX dX4_count_56 mlX4_146 ⟨Nat.le_of_ble_eq_true rfl, Nat.le_of_ble_eq_true rfl⟩ (t_areaBlocks) rfl (Nat.le_of_ble_eq_true rfl) ?_
        refine wp_iret hX dX4_count_59 rfl rfl ?_
        exact hp _ _ ⟨rfl, hR0⟩
      · refine wp_lookup (off := 59) (tgt := 60) hX dX4_count_1 (by decide) ((lv_osw (k := 0) w0 rfl).trans ((lv_osw (k := 1) w1 rfl).trans (lv_osw (k := 8) w8 rfl))) (by decide) ?_
        refine wp_aload_n hX dX4_count_60 rfl ?_
        refine wp_get hX dX4_count_61 flX4_47 rfl rfl ?_
        refine wp_iconst (v := 2) hX dX4_count_64 ic_2 ?_
        refine wp_icmp_ne (tgt := 76) hX dX4_count_65 (by decide) (fun c => ?_) (fun c => ?_)
        · unfold sCount at hp
          dsimp only at hp
          rw [if_neg w0, if_neg w1, if_neg w8, if_pos c] at hp
          refine wp_iconst (v := 0) hX dX4_count_76 ic_0 ?_
          refine wp_iret hX dX4_count_77 rfl rfl ?_
          exact hp _ _ ⟨rfl, hR0⟩
        · refine wp_aload_n hX dX4_count_68 rfl ?_
          refine wp_iload_n hX dX4_count_69 rfl ?_
          refine wp_cv1 hX dX4_count_70 mlX4_178 ⟨Nat.le_of_ble_eq_true rfl, Nat.le_of_ble_eq_true rfl⟩ (up c w0 w1 w8) rfl (Nat.le_of_ble_eq_true rfl) ?_
          refine wp_goto (tgt := 77) hX dX4_count_73 (by decide) ?_
          refine wp_iret hX dX4_count_77 rfl rfl ?_
          exact hp _ _ ⟨rfl, hR0⟩
end PB
