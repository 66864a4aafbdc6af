/-! BlockStore: the public methods that write -/
theorem rpl_b {W LG : Nat} {D : Nat → Int32} {e : Int32} (hW : 6 ≤ W) (hW2 : W ≤ 64) (hL : LG ≤ 128) : ∀ (t pl rc : Nat) (m : PM), pl ≤ LG → rc ≤ pl → Srt m → pl ≤ (rpl W LG D e t pl rc m).1 ∧ (rpl W LG D e t pl rc m).1 ≤ LG ∧ (rpl W LG D e t pl rc m).2.1 ≤ (rpl W LG D e t pl rc m).1 ∧ Srt (rpl W LG D e t pl rc m).2.2 ∧ 3 * (rpl W LG D e t pl rc m).2.2.length + (W - 5) * pl ≤ 3 * m.length + (W - 5) * (rpl W LG D e t pl rc m).1
  | 0, pl, rc, m, h1, h2, h3 => ⟨Nat.le_refl _, h1, h2, h3, Nat.le_refl _⟩
  | t + 1, pl, rc, m, h1, h2, h3 => by
    rw [rpl_s]
    by_cases h0 : whl W LG D (1 + pl) e (nI (rc + 1)) = 0
    · rw [if_pos h0]
      exact ⟨Nat.le_refl _, h1, h2, h3, Nat.le_refl _⟩
    · rw [if_neg h0]
      obtain ⟨g1, mm, g2, g3, g4, g5, g6⟩ := whl_pos hW hW2 hL h0
      have g7 : 1 + 3 * mm ≤ rB W mm * (W - 5) := by
        unfold rB
        rw [if_neg (by omega)]
        exact cdv_mul (by omega)
      rw [g5, g2, nI_clamp (by omega)]
      have g10 : 1 ≤ rB W mm := Nat.pos_of_ne_zero (fun z => h0 (by rw [g5]; exact z))
      obtain ⟨i1, i2, i3, i4, i5⟩ := rpl_b (D := D) (e := e) hW hW2 hL t (pl + rB W mm) (rc + 1) (rdo W D (1 + pl) 0 mm m) (by omega) (by omega) (rdo_srt _ _ h3)
      have h8 := rdo_len (W := W) (D := D) (b := 1 + pl) mm 0 h3
      have g8 : (W - 5) * (pl + rB W mm) = (W - 5) * pl + rB W mm * (W - 5) := by rw [Nat.mul_add, Nat.mul_comm (W - 5) (rB W mm)]
      exact ⟨by omega, i2, i3, i4, by omega⟩
theorem fmB_eq {W : Nat} {e : Int32} {pf : Nat → Int32} (hW : W ≤ 64) : ∀ j, j < W - 1 → upd (fun j => if j < 64 then 0 else pf j) 1 e j = fmB e j := by
  intro j hj
  unfold fmB
  by_cases h1 : j = 1
  · rw [h1, pk_us, if_pos rfl]
  · rw [pk_un h1, if_neg h1, if_pos (by omega)]
theorem AInv.geo {st : Int32} {B W LG : Nat} {q : DQ} {u : Nat × Nat × PM × Option CL} (h : AInv (st, (B, W, LG), q, u)) (h0 : ¬ st = 0) : Geo B W LG ∧ HdOK B W LG q.1 := by
  obtain ⟨pl, rc, M, tx⟩ := u
  exact h.2.2.2.1 h0
theorem mark_ne : ¬ MARK = 0 := by decide
section PB
variable {A : Ab} {τ σ : aW}
set_option maxHeartbeats 4000000 in
set_option maxRecDepth 100000 in
theorem x_disk {x y z : Int32} (hA : AInv A) (hR : RX A τ σ) : MT mdX4_disk [.ref 0, .int x, .int y, .int z] σ (fun r σ1 => r = some (.int (b2i (sDisk A x y z).1)) ∧ RX (sDisk A x y z).2 τ σ1) := by
  obtain ⟨st, ⟨B, W, LG⟩, q, pl, rc, M, tx⟩ := A
  have hR0 := hR
  obtain ⟨it, pf, jp, jr, tf, C, S, H, rfl, htf, hup⟩ := hR
  refine mp_of [some (.ref 0), some (.int x), some (.int y), some (.int z)] rfl (Nat.le_of_ble_eq_true rfl) (by decide) (fun X Post hX hp => ?_)
  unfold sDisk at hp
  refine wp_iload_n hX dX4_disk_0 rfl ?_
  refine wp_bipush (v := 16) hX dX4_disk_1 bp_16 ?_
  refine wp_icmp_lt (tgt := 13) hX dX4_disk_3 (by decide) (fun c1 => ?_) (fun c1 => ?_)
  · rw [if_pos (Or.inl c1)] at hp
    refine wp_iconst (v := 0) hX dX4_disk_13 ic_0 ?_
    refine wp_iret hX dX4_disk_14 rfl rfl ?_
    exact hp _ _ ⟨rfl, hR0⟩
  · refine wp_iload_n hX dX4_disk_6 rfl ?_
    refine wp_sipush (v := 512) hX dX4_disk_7 sp_512 ?_
    refine wp_icmp_le (tgt := 15) hX dX4_disk_10 (by decide) (fun c2 => ?_) (fun c2 => ?_)
    · refine wp_iload_n hX dX4_disk_15 rfl ?_
      refine wp_bipush (v := 16) hX dX4_disk_16 bp_16 ?_
      refine wp_icmp_lt (tgt := 27) hX dX4_disk_18 (by decide) (fun c3 => ?_) (fun c3 => ?_)
      · rw [if_pos (Or.inr (Or.inr (Or.inl c3)))] at hp
        refine wp_iconst (v := 0) hX dX4_disk_27 ic_0 ?_
        refine wp_iret hX dX4_disk_28 rfl rfl ?_
        exact hp _ _ ⟨rfl, hR0⟩
      · refine wp_iload_n hX dX4_disk_21 rfl ?_
        refine wp_bipush (v := 64) hX dX4_disk_22 bp_64 ?_
        refine wp_icmp_le (tgt := 29) hX dX4_disk_24 (by decide) (fun c4 => ?_) (fun c4 => ?_)
        · refine wp_iload_n hX dX4_disk_29 rfl ?_
          refine wp_iconst (v := 4) hX dX4_disk_30 ic_4 ?_
          refine wp_icmp_lt (tgt := 50) hX dX4_disk_31 (by decide) (fun c5 => ?_) (fun c5 => ?_)
          · rw [if_pos (Or.inr (Or.inr (Or.inr (Or.inr (Or.inl c5)))))] at hp
            refine wp_iconst (v := 0) hX dX4_disk_50 ic_0 ?_
            refine wp_iret hX dX4_disk_51 rfl rfl ?_
            exact hp _ _ ⟨rfl, hR0⟩
          · refine wp_iload_n hX dX4_disk_34 rfl ?_
            refine wp_sipush (v := 128) hX dX4_disk_35 sp_128 ?_
            refine wp_icmp_gt (tgt := 50) hX dX4_disk_38 (by decide) (fun c6 => ?_) (fun c6 => ?_)
            · rw [if_pos (Or.inr (Or.inr (Or.inr (Or.inr (Or.inr (Or.inl c6))))))] at hp
              refine wp_iconst (v := 0) hX dX4_disk_50 ic_0 ?_
              refine wp_iret hX dX4_disk_51 rfl rfl ?_
              exact hp _ _ ⟨rfl, hR0⟩
            · refine wp_iload_n hX dX4_disk_41 rfl ?_
              refine wp_iconst (v := 1) hX dX4_disk_42 ic_1 ?_
              refine wp_isub hX dX4_disk_43 ?_
              refine wp_iload_n hX dX4_disk_44 rfl ?_
              refine wp_isub hX dX4_disk_45 ?_
              refine wp_iconst (v := 4) hX dX4_disk_46 ic_4 ?_
              refine wp_icmp_ge (tgt := 52) hX dX4_disk_47 (by decide) (fun c7 => ?_) (fun c7 => ?_)
              · rw [if_neg (by
                  rintro (h | h | h | h | h | h | h)
                  · exact c1 h
                  · exact Int32.not_le.mpr h c2
                  · exact c3 h
                  · exact Int32.not_le.mpr h c4
                  · exact c5 h
                  · exact c6 h
                  · exact Int32.not_lt.mpr c7 h)] at hp
                have e16 : (16 : Int32).toInt = 16 := rfl
                have e512 : (512 : Int32).toInt = 512 := rfl
                have e64 : (64 : Int32).toInt = 64 := rfl
                have e4 : (4 : Int32).toInt = 4 := rfl
                have e128 : (128 : Int32).toInt = 128 := rfl
                have e0 : (0 : Int32).toInt = 0 := rfl
                rw [ilt, e16] at c1
                rw [ile, e512] at c2
                rw [ilt, e16] at c3
                rw [ile, e64] at c4
                rw [ilt, e4] at c5
                rw [ilt, e128] at c6
                obtain ⟨b, hb, rfl⟩ := nI_of (x := x) (by rw [ilt, e0]; omega)
                obtain ⟨w, hw, rfl⟩ := nI_of (x := y) (by rw [ilt, e0]; omega)
                obtain ⟨l, hl, rfl⟩ := nI_of (x := z) (by rw [ilt, e0]; omega)
                rw [nT hb] at c1 c2
                rw [nT hw] at c3 c4
                rw [nT hl] at c5 c6
                have eb : nI b - 1 = nI (b - 1) := w1 (by omega)
                rw [eb, ile, e4, pk_sub_toInt (by omega) (by omega)] at c7
                have ebl : nI b - 1 - nI l = nI (b - 1 - l) := by rw [eb]; exact pk_sub (by omega)
                rw [nI_clamp hb, nI_clamp hw, nI_clamp hl] at hp
                refine wp_aload_n hX dX4_disk_52 rfl ?_
                refine wp_get hX dX4_disk_53 flX4_10 rfl rfl ?_
                refine wp_iload_n hX dX4_disk_56 rfl ?_
                refine wp_iload_n hX dX4_disk_57 rfl ?_
                refine wp_cv2 hX dX4_disk_58 mlX4_55 ⟨Nat.le_of_ble_eq_true rfl, Nat.le_of_ble_eq_true rfl⟩ (d_renew rfl rfl) rfl (Nat.le_of_ble_eq_true rfl) ?_
                refine wp_aload_n hX dX4_disk_61 rfl ?_
                refine wp_get hX dX4_disk_62 flX4_21 rfl rfl ?_
                refine wp_iload_n hX dX4_disk_65 rfl ?_
                refine wp_cv1 hX dX4_disk_66 mlX4_59 ⟨Nat.le_of_ble_eq_true rfl, Nat.le_of_ble_eq_true rfl⟩ (j_layOut (q := ((fun j => if j < 32768 then 0 else q.1 j), 0, 0))) rfl (Nat.le_of_ble_eq_true rfl) ?_
                refine wp_aload_n hX dX4_disk_69 rfl ?_
                refine wp_get hX dX4_disk_70 flX4_28 rfl rfl ?_
                refine wp_iload_n hX dX4_disk_73 rfl ?_
                refine wp_iconst (v := 1) hX dX4_disk_74 ic_1 ?_
                refine wp_iadd hX dX4_disk_75 ?_
                refine wp_ti (y := (nI (l + 1))) (nI_1 _) ?_
                refine wp_iload_n hX dX4_disk_76 rfl ?_
                refine wp_iconst (v := 1) hX dX4_disk_77 ic_1 ?_
                refine wp_isub hX dX4_disk_78 ?_
                refine wp_iload_n hX dX4_disk_79 rfl ?_
                refine wp_isub hX dX4_disk_80 ?_
                refine wp_ti (y := nI (b - 1 - l)) ebl ?_
                refine wp_iconst (v := 2) hX dX4_disk_81 ic_2 ?_
                refine wp_idiv hX dX4_disk_82 (by decide) ?_
                refine wp_ti (y := nI ((b - 1 - l) / 2)) (pk_div (a := b - 1 - l) (d := 2) (by omega) (by decide) (by decide)) ?_
                refine wp_cv2 hX dX4_disk_83 mlX4_62 ⟨Nat.le_of_ble_eq_true rfl, Nat.le_of_ble_eq_true rfl⟩ (t_layOut (q := ((fun j => if j < 32768 then 0 else q.1 j), 0, 0))) rfl (Nat.le_of_ble_eq_true rfl) ?_
                have ez : (fun j => if j < 32768 then 0 else q.1 j) = (fun _ => (0 : Int32)) := by
                  funext j
                  by_cases hj : j < 32768
                  · rw [if_pos hj]
                  · rw [if_neg hj, hA.1 j (by omega)]
                rw [ez]
                refine wp_aload_n hX dX4_disk_86 rfl ?_
                refine wp_iconst (v := 1) hX dX4_disk_87 ic_1 ?_
                refine wp_put hX dX4_disk_88 fwX4_47 rfl (Nat.le_of_ble_eq_true rfl) rfl rfl ?_
                refine wp_iconst (v := 1) hX dX4_disk_91 ic_1 ?_
                refine wp_iret hX dX4_disk_92 rfl rfl ?_
                exact hp _ _ ⟨rfl, it, pf, 0, 0, l + 1, C, S, H, rfl, fun _ => rfl, fun h => absurd h (by decide)⟩
              · rw [if_pos (Or.inr (Or.inr (Or.inr (Or.inr (Or.inr (Or.inr (Int32.not_le.mp c7)))))))] at hp
                refine wp_iconst (v := 0) hX dX4_disk_50 ic_0 ?_
                refine wp_iret hX dX4_disk_51 rfl rfl ?_
                exact hp _ _ ⟨rfl, hR0⟩
        · rw [if_pos (Or.inr (Or.inr (Or.inr (Or.inl (Int32.not_le.mp c4)))))] at hp
          refine wp_iconst (v := 0) hX dX4_disk_27 ic_0 ?_
          refine wp_iret hX dX4_disk_28 rfl rfl ?_
          exact hp _ _ ⟨rfl, hR0⟩
    · rw [if_pos (Or.inr (Or.inl (Int32.not_le.mp c2)))] at hp
      refine wp_iconst (v := 0) hX dX4_disk_13 ic_0 ?_
      refine wp_iret hX dX4_disk_14 rfl rfl ?_
      exact hp _ _ ⟨rfl, hR0⟩
set_option maxHeartbeats 4000000 in
set_option maxRecDepth 100000 in
theorem x_format (hA : AInv A) (hR : RX A τ σ) : MT mdX4_format [.ref 0] σ (fun r σ1 => r = some (.int (sFormat A).1) ∧ RX (sFormat A).2 τ σ1) := by
  obtain ⟨st, ⟨B, W, LG⟩, q, pl, rc, M, tx⟩ := A
  have hR0 := hR
  obtain ⟨it, pf, jp, jr, tf, C, S, H, rfl, htf, hup⟩ := hR
  refine mp_of [some (.ref 0), none] rfl (Nat.le_of_ble_eq_true rfl) (by decide) (fun X Post hX hp => ?_)
  have tail : (st = 1 ∨ st = 2) → Wp X Post 21 [some (.ref 0), none] [] (wX st it B W q pf LG jp jr tf (AR B LG) C S H τ) := by
    intro hst
    have hs0 : ¬ st = 0 := by rcases hst with rfl | rfl <;> decide
    obtain ⟨⟨g1, g2, g3, g4, g5, g6, g7⟩, hH⟩ := hA.geo hs0
    unfold sFormat at hp
    dsimp only at hp
    rw [if_neg (fun z => z hst)] at hp
    refine wp_aload_n hX dX4_format_21 rfl ?_
    refine wp_get hX dX4_format_22 flX4_10 rfl rfl ?_
    refine wp_iconst (v := 0) hX dX4_format_25 ic_0 ?_
    refine wp_iconst (v := 1) hX dX4_format_26 ic_1 ?_
    refine wp_cv2 hX dX4_format_27 mlX4_68 ⟨Nat.le_of_ble_eq_true rfl, Nat.le_of_ble_eq_true rfl⟩ (d_wordAt rfl rfl g2 g4) rfl (Nat.le_of_ble_eq_true rfl) ?_
    rw [show wA B W q.1 0 1 = q.1 1 from wA_h (i := 1) g2 (by omega) g4 (by omega)]
    refine wp_iconst (v := 1) hX dX4_format_30 ic_1 ?_
    refine wp_iadd hX dX4_format_31 ?_
    refine wp_istore_n hX dX4_format_32 (Nat.le_of_ble_eq_true rfl) rfl ?_
    refine wp_aload_n hX dX4_format_33 rfl ?_
    refine wp_get hX dX4_format_34 flX4_10 rfl rfl ?_
    refine wp_cv0 hX dX4_format_37 mlX4_72 ⟨Nat.le_of_ble_eq_true rfl, Nat.le_of_ble_eq_true rfl⟩ (d_clearPage rfl rfl) rfl (Nat.le_of_ble_eq_true rfl) ?_
    refine wp_aload_n hX dX4_format_40 rfl ?_
    refine wp_get hX dX4_format_41 flX4_10 rfl rfl ?_
    refine wp_iconst (v := 1) hX dX4_format_44 ic_1 ?_
    refine wp_iload_n hX dX4_format_45 rfl ?_
    refine wp_cv2 hX dX4_format_46 mlX4_75 ⟨Nat.le_of_ble_eq_true rfl, Nat.le_of_ble_eq_true rfl⟩ (d_setPage (i := 1) rfl rfl g4 (by omega)) rfl (Nat.le_of_ble_eq_true rfl) ?_
    by_cases h1 : q.2.2 = 1
    · rw [wr1_no h1] at hp
      rw [if_pos rfl] at hp
      refine wp_aload_n hX dX4_format_49 rfl ?_
      refine wp_get hX dX4_format_50 flX4_10 rfl rfl ?_
      refine wp_iconst (v := 0) hX dX4_format_53 ic_0 ?_
      refine wp_cv1 hX dX4_format_54 mlX4_78 ⟨Nat.le_of_ble_eq_true rfl, Nat.le_of_ble_eq_true rfl⟩ (d_writePage_no (b := 0) rfl g2 g4 (by omega) (by omega) h1) rfl (Nat.le_of_ble_eq_true rfl) ?_
      refine wp_if_ne (tgt := 65) hX dX4_format_57 (by decide) (fun c_ => absurd (rfl) c_) (fun _ => ?_)
      refine wp_eqW (σ1 := wX st it B W (q.1, q.2.1, 0) (upd (fun j => if j < 64 then 0 else pf j) 1 (q.1 1 + 1)) LG jp jr tf (AR B LG) C S H τ) rfl ?_
      refine wp_aload_n hX dX4_format_60 rfl ?_
      refine wp_cv0 hX dX4_format_61 mlX4_82 ⟨Nat.le_of_ble_eq_true rfl, Nat.le_of_ble_eq_true rfl⟩ (b_fail) rfl (Nat.le_of_ble_eq_true rfl) ?_
      refine wp_iret hX dX4_format_64 rfl rfl ?_
      exact hp _ _ ⟨rfl, it, _, jp, jr, tf, C, S, H, rfl, fun _ => htf hs0, fun h => absurd h (by decide)⟩
    · rw [wr1_ok h1] at hp
      rw [if_neg (show ¬ true = false by decide)] at hp
      dsimp only at hp
      refine wp_aload_n hX dX4_format_49 rfl ?_
      refine wp_get hX dX4_format_50 flX4_10 rfl rfl ?_
      refine wp_iconst (v := 0) hX dX4_format_53 ic_0 ?_
      refine wp_cv1 hX dX4_format_54 mlX4_78 ⟨Nat.le_of_ble_eq_true rfl, Nat.le_of_ble_eq_true rfl⟩ (d_writePage_ok (b := 0) rfl rfl rfl g2 g4 (by omega) (by omega) h1) rfl (Nat.le_of_ble_eq_true rfl) ?_
      rw [wrD_congr (fmB_eq g4)]
      refine wp_eqW (σ1 := wX st it B W (wrD q.1 W 0 (fmB (q.1 1 + 1)), q.2.1 + 1, pwd q.2.2) (upd (fun j => if j < 64 then 0 else pf j) 1 (q.1 1 + 1)) LG jp jr tf (AR B LG) C S H τ) rfl ?_
      refine wp_if_ne (tgt := 65) hX dX4_format_57 (by decide) (fun _ => ?_) (fun c_ => absurd c_ (by decide))
      refine wp_aload_n hX dX4_format_65 rfl ?_
      refine wp_iload_n hX dX4_format_66 rfl ?_
      refine wp_iconst (v := 1) hX dX4_format_67 ic_1 ?_
      refine wp_iconst (v := 0) hX dX4_format_68 ic_0 ?_
      refine wp_iconst (v := 0) hX dX4_format_69 ic_0 ?_
      refine wp_iconst (v := 0) hX dX4_format_70 ic_0 ?_
      refine wp_cv5p hX dX4_format_71 mlX4_85 ⟨Nat.le_of_ble_eq_true rfl, Nat.le_of_ble_eq_true rfl⟩ (b_writeHead g2 (by omega) g3 g4) rfl (Nat.le_of_ble_eq_true rfl) ?_
      rintro r1 σ1 ⟨pf1, rfl, rfl⟩
      generalize hz : wr1 W (wrD q.1 W 0 (fmB (q.1 1 + 1)), q.2.1 + 1, pwd q.2.2) 0 (hdB (q.1 1 + 1) 1 0 0 0) = zz at hp ⊢
      obtain ⟨zb, z2⟩ := zz
      cases zb with
      | false =>
        rw [if_pos rfl] at hp
        refine wp_if_ne (tgt := 82) hX dX4_format_74 (by decide) (fun c_ => absurd (rfl) c_) (fun _ => ?_)
        refine wp_aload_n hX dX4_format_77 rfl ?_
        refine wp_cv0 hX dX4_format_78 mlX4_82 ⟨Nat.le_of_ble_eq_true rfl, Nat.le_of_ble_eq_true rfl⟩ (b_fail) rfl (Nat.le_of_ble_eq_true rfl) ?_
        refine wp_iret hX dX4_format_81 rfl rfl ?_
        exact hp _ _ ⟨rfl, it, _, jp, jr, tf, C, S, H, rfl, fun _ => htf hs0, fun h => absurd h (by decide)⟩
      | true =>
        rw [if_neg (show ¬ true = false by decide)] at hp
        refine wp_if_ne (tgt := 82) hX dX4_format_74 (by decide) (fun _ => ?_) (fun c_ => absurd c_ (show ¬ b2i true = 0 by decide))
        refine wp_aload_n hX dX4_format_82 rfl ?_
        refine wp_get hX dX4_format_83 flX4_37 rfl rfl ?_
        refine wp_cv0 hX dX4_format_86 mlX4_89 ⟨Nat.le_of_ble_eq_true rfl, Nat.le_of_ble_eq_true rfl⟩ (k_clear rfl) rfl (Nat.le_of_ble_eq_true rfl) ?_
        refine wp_aload_n hX dX4_format_89 rfl ?_
        refine wp_get hX dX4_format_90 flX4_21 rfl rfl ?_
        refine wp_cv0 hX dX4_format_93 mlX4_92 ⟨Nat.le_of_ble_eq_true rfl, Nat.le_of_ble_eq_true rfl⟩ (j_restart (C := (0, C.2))) rfl (Nat.le_of_ble_eq_true rfl) ?_
        refine wp_aload_n hX dX4_format_96 rfl ?_
        refine wp_cv0 hX dX4_format_97 mlX4_95 ⟨Nat.le_of_ble_eq_true rfl, Nat.le_of_ble_eq_true rfl⟩ (b_comeUp (C := (0, C.2)) (Nat.zero_le _)) rfl (Nat.le_of_ble_eq_true rfl) ?_
        refine wp_iconst (v := 0) hX dX4_format_100 ic_0 ?_
        refine wp_iret hX dX4_format_101 rfl rfl ?_
        exact hp _ _ ⟨rfl, 0, _, 0, 0, tf, (0, C.2), _, _, rfl, fun _ => htf hs0, fun _ => ⟨rfl, rfl, KAm.nil rfl, KAm.nil rfl, rfl, rfl⟩⟩
  refine wp_aload_n hX dX4_format_0 rfl ?_
  refine wp_get hX dX4_format_1 flX4_47 rfl rfl ?_
  refine wp_iconst (v := 1) hX dX4_format_4 ic_1 ?_
  refine wp_icmp_eq (tgt := 21) hX dX4_format_5 (by decide) (fun c => ?_) (fun c => ?_)
  · exact tail (Or.inl c)
  · refine wp_aload_n hX dX4_format_8 rfl ?_
    refine wp_get hX dX4_format_9 flX4_47 rfl rfl ?_
    refine wp_iconst (v := 2) hX dX4_format_12 ic_2 ?_
    refine wp_icmp_eq (tgt := 21) hX dX4_format_13 (by decide) (fun d => ?_) (fun d => ?_)
    · exact tail (Or.inr d)
    · unfold sFormat at hp
      dsimp only at hp
      rw [if_pos (fun z => z.elim c d)] at hp
      refine wp_aload_n hX dX4_format_16 rfl ?_
      refine wp_cv0 hX dX4_format_17 mlX4_64 ⟨Nat.le_of_ble_eq_true rfl, Nat.le_of_ble_eq_true rfl⟩ (b_refusal) rfl (Nat.le_of_ble_eq_true rfl) ?_
      refine wp_iret hX dX4_format_20 rfl rfl ?_
      exact hp _ _ ⟨rfl, hR0⟩
end PB
