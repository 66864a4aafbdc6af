/-! the reference: disk, format, count and what it needs -/
/-- the first words of a head that was written -/
theorem wr1_hd {W : Nat} {q : DQ} {e b1 a r n : Int32} (hW : 16 ≤ W) (h : (wr1 W q 0 (hdB e b1 a r n)).1 = true) : (wr1 W q 0 (hdB e b1 a r n)).2.1 0 = MARK ∧ (wr1 W q 0 (hdB e b1 a r n)).2.1 1 = e ∧ (wr1 W q 0 (hdB e b1 a r n)).2.1 2 = b1 ∧ (wr1 W q 0 (hdB e b1 a r n)).2.1 3 = a ∧ (wr1 W q 0 (hdB e b1 a r n)).2.1 4 = r ∧ (wr1 W q 0 (hdB e b1 a r n)).2.1 5 = n := by
  by_cases hf : q.2.2 = 1
  · rw [wr1_no hf] at h; cases h
  · rw [wr1_ok hf]
    have key : ∀ i, i < 6 → wrD q.1 W 0 (hdB e b1 a r n) i = hdB e b1 a r n i := fun i hi => by
      have := wrD_in (wf := q.1) (pf := hdB e b1 a r n) (W := W) (b := 0) (i := i) (by omega)
      rw [Nat.mul_zero, Nat.zero_add] at this
      exact this
    exact ⟨key 0 (by decide), key 1 (by decide), key 2 (by decide), key 3 (by decide), key 4 (by decide), key 5 (by decide)⟩
section MO
variable {c : Nat → aE} {B W LG : Nat} {q : DQ} {st op : Int32} {pl rc : Nat} {ep bt : Int32} {K : MP} {h : HQ} {bf : Nat → Int32} {z : ZQ} {s : SQ}
theorem cdI {n F : Nat} (hn : n ≤ 20000) (hF : 2 ≤ F) (hF2 : F ≤ 30) : nI (n + F - 1) / nI F = nI (cdv n F) := pk_div (by omega) (by omega) (by omega)
set_option maxHeartbeats 4000000 in
set_option maxRecDepth 100000 in
theorem m_treeBlocks (hW : 16 ≤ W) (hW2 : W ≤ 64) (hn : K.1 ≤ 12000) : MD1 mdX5_treeBlocks [.ref 15] (wM c B W LG q st op pl rc ep bt K h bf z s) (some (.int (nI (tBl (fan W) K.1)))) (wM c B W LG q st op pl rc ep bt K h bf z s) := by
  refine md_of [some (.ref 15), none, none] rfl (Nat.le_of_ble_eq_true rfl) (by decide) (fun X Post hX hp => ?_)
  have hF := fan_2 hW
  have hF2 := fan_le hW2
  have hle := cdv_le (n := K.1) (e := fan W) (by omega)
  have hne : ¬ nI (fan W) = 0 := nI_ne0 (by omega) (by omega)
  have loop : ∀ (k row all : Nat), row ≤ 2 ^ k → row ≤ 20000 → all + 2 * row ≤ 100000 → all + tbl (fan W) k row = tBl (fan W) K.1 → Wp X Post 19 [some (.ref 15), some (.int (nI row)), some (.int (nI all))] [] (wM c B W LG q st op pl rc ep bt K h bf z s) := by
    intro k
    induction k with
    | zero =>
      intro row all hr hr2 ha he
      refine wp_iload_n hX dX5_treeBlocks_19 rfl ?_
      refine wp_iconst (v := 1) hX dX5_treeBlocks_20 ic_1 ?_
      refine wp_icmp_le (tgt := 45) hX dX5_treeBlocks_21 (by decide) (fun _ => ?_) (fun c_ => absurd (nI_le (a := row) (b := 1) (by simpa using hr) (by decide)) c_)
      refine wp_iload_n hX dX5_treeBlocks_45 rfl ?_
      refine wp_iret hX dX5_treeBlocks_46 rfl rfl ?_
      rw [← he] at hp
      exact hp
    | succ k ih =>
      intro row all hr hr2 ha he
      rw [tbl_s] at he
      refine wp_iload_n hX dX5_treeBlocks_19 rfl ?_
      refine wp_iconst (v := 1) hX dX5_treeBlocks_20 ic_1 ?_
      refine wp_icmp_le (tgt := 45) hX dX5_treeBlocks_21 (by decide) (fun d => ?_) (fun d => ?_)
      · have h1 := (nI_leI (a := row) (b := 1) (by omega) (by decide)).mp d
        rw [if_pos h1] at he
        refine wp_iload_n hX dX5_treeBlocks_45 rfl ?_
        refine wp_iret hX dX5_treeBlocks_46 rfl rfl ?_
        rw [← he] at hp
        exact hp
      · have h1 : ¬ row ≤ 1 := fun y => d (nI_le (a := row) (b := 1) y (by decide))
        rw [if_neg h1] at he
        have h2 := cdv_le (n := row) (e := fan W) (by omega)
        have h3 : cdv row (fan W) * 2 ≤ row + 1 := by
          rcases Nat.lt_or_ge (cdv row 2) (cdv row (fan W)) with y | y
          · have h4 := (cdv_lt (n := row) (e := fan W) (k := cdv row 2) (by omega)).mp y
            have h5 := cdv_mul (n := row) (e := 2) (by omega)
            have h6 : cdv row 2 * 2 ≤ cdv row 2 * fan W := Nat.mul_le_mul (Nat.le_refl _) hF
            omega
          · have h7 : cdv row 2 * 2 ≤ row + 1 := by unfold cdv; omega
            omega
        refine wp_iload_n hX dX5_treeBlocks_24 rfl ?_
        refine wp_aload_n hX dX5_treeBlocks_25 rfl ?_
        refine wp_cv0 hX dX5_treeBlocks_26 mlX5_156 ⟨Nat.le_of_ble_eq_true rfl, Nat.le_of_ble_eq_true rfl⟩ (m_fan (by omega) hW2) rfl (Nat.le_of_ble_eq_true rfl) ?_
        refine wp_iadd hX dX5_treeBlocks_29 ?_
        refine wp_iconst (v := 1) hX dX5_treeBlocks_30 ic_1 ?_
        refine wp_isub hX dX5_treeBlocks_31 ?_
        refine wp_ti (y := (nI (row + fan W - 1))) (by rw [nI_add]; exact pk_sub (b := 1) (by omega)) ?_
        refine wp_aload_n hX dX5_treeBlocks_32 rfl ?_
        refine wp_cv0 hX dX5_treeBlocks_33 mlX5_156 ⟨Nat.le_of_ble_eq_true rfl, Nat.le_of_ble_eq_true rfl⟩ (m_fan (by omega) hW2) rfl (Nat.le_of_ble_eq_true rfl) ?_
        refine wp_idiv hX dX5_treeBlocks_36 (hne) ?_
        refine wp_ti (y := nI (cdv row (fan W))) (cdI (by omega) hF hF2) ?_
        refine wp_istore_n hX dX5_treeBlocks_37 (Nat.le_of_ble_eq_true rfl) rfl ?_
        refine wp_iload_n hX dX5_treeBlocks_38 rfl ?_
        refine wp_iload_n hX dX5_treeBlocks_39 rfl ?_
        refine wp_iadd hX dX5_treeBlocks_40 ?_
        refine wp_ti (y := (nI (all + cdv row (fan W)))) (nI_add _ _) ?_
        refine wp_istore_n hX dX5_treeBlocks_41 (Nat.le_of_ble_eq_true rfl) rfl ?_
        refine wp_goto (tgt := 19) hX dX5_treeBlocks_42 (by decide) ?_
        exact ih (cdv row (fan W)) (all + cdv row (fan W)) (cdv_half hF hr) (by omega) (by omega) (by omega)
  refine wp_aload_n hX dX5_treeBlocks_0 rfl ?_
  refine wp_get hX dX5_treeBlocks_1 flX5_97 rfl rfl ?_
  refine wp_aload_n hX dX5_treeBlocks_4 rfl ?_
  refine wp_cv0 hX dX5_treeBlocks_5 mlX5_156 ⟨Nat.le_of_ble_eq_true rfl, Nat.le_of_ble_eq_true rfl⟩ (m_fan (by omega) hW2) rfl (Nat.le_of_ble_eq_true rfl) ?_
  refine wp_iadd hX dX5_treeBlocks_8 ?_
  refine wp_iconst (v := 1) hX dX5_treeBlocks_9 ic_1 ?_
  refine wp_isub hX dX5_treeBlocks_10 ?_
  refine wp_ti (y := (nI (K.1 + fan W - 1))) (by rw [nI_add]; exact pk_sub (b := 1) (by omega)) ?_
  refine wp_aload_n hX dX5_treeBlocks_11 rfl ?_
  refine wp_cv0 hX dX5_treeBlocks_12 mlX5_156 ⟨Nat.le_of_ble_eq_true rfl, Nat.le_of_ble_eq_true rfl⟩ (m_fan (by omega) hW2) rfl (Nat.le_of_ble_eq_true rfl) ?_
  refine wp_idiv hX dX5_treeBlocks_15 (hne) ?_
  refine wp_ti (y := nI (cdv K.1 (fan W))) (cdI (by omega) hF hF2) ?_
  refine wp_istore_n hX dX5_treeBlocks_16 (Nat.le_of_ble_eq_true rfl) rfl ?_
  refine wp_iload_n hX dX5_treeBlocks_17 rfl ?_
  refine wp_istore_n hX dX5_treeBlocks_18 (Nat.le_of_ble_eq_true rfl) rfl ?_
  exact loop 32 (cdv K.1 (fan W)) (cdv K.1 (fan W)) (by omega) (by omega) (by omega) rfl
end MO
section MP
variable {A : Ab} {c : Nat → aE} {σ : aW}
set_option maxHeartbeats 4000000 in
set_option maxRecDepth 100000 in
theorem m_disk {x y w : Int32} (hA : AInv A) (hR : RM A c σ) : MT mdX5_disk [.ref 15, .int x, .int y, .int w] σ (fun r σ1 => r = some (.int (b2i (sDisk A x y w).1)) ∧ RM (sDisk A x y w).2 c σ1) := by
  obtain ⟨st, ⟨B, W, LG⟩, q, pl, rc, M, tx⟩ := A
  have hR0 := hR
  obtain ⟨op, jp, jr, ep, bt, K, h, bf, z, s, rfl, hh, hup⟩ := hR
  refine mp_of [some (.ref 15), some (.int x), some (.int y), some (.int w), none] rfl (Nat.le_of_ble_eq_true rfl) (by decide) (fun X Post hX hp => ?_)
  unfold sDisk at hp
  have bad : (x < 16 ∨ 512 < x ∨ y < 16 ∨ 64 < y ∨ w < 4 ∨ 128 < w ∨ x - 1 - w < 4) → Wp X Post 46 [some (.ref 15), some (.int x), some (.int y), some (.int w), none] [] (wM c B W LG q st op jp jr ep bt K h bf z s) := by
    intro hb
    rw [if_pos hb] at hp
    refine wp_iconst (v := 0) hX dX5_disk_46 ic_0 ?_
    refine wp_iret hX dX5_disk_47 rfl rfl ?_
    exact hp _ _ ⟨rfl, hR0⟩
  refine wp_iload_n hX dX5_disk_0 rfl ?_
  refine wp_bipush (v := 16) hX dX5_disk_1 bp_16 ?_
  refine wp_icmp_lt (tgt := 46) hX dX5_disk_3 (by decide) (fun c1 => ?_) (fun c1 => ?_)
  · exact bad (Or.inl c1)
  · refine wp_iload_n hX dX5_disk_6 rfl ?_
    refine wp_sipush (v := 512) hX dX5_disk_7 sp_512 ?_
    refine wp_icmp_gt (tgt := 46) hX dX5_disk_10 (by decide) (fun c2 => ?_) (fun c2 => ?_)
    · exact bad (Or.inr (Or.inl c2))
    · refine wp_iload_n hX dX5_disk_13 rfl ?_
      refine wp_bipush (v := 16) hX dX5_disk_14 bp_16 ?_
      refine wp_icmp_lt (tgt := 46) hX dX5_disk_16 (by decide) (fun c3 => ?_) (fun c3 => ?_)
      · exact bad (Or.inr (Or.inr (Or.inl c3)))
      · refine wp_iload_n hX dX5_disk_19 rfl ?_
        refine wp_bipush (v := 64) hX dX5_disk_20 bp_64 ?_
        refine wp_icmp_gt (tgt := 46) hX dX5_disk_22 (by decide) (fun c4 => ?_) (fun c4 => ?_)
        · exact bad (Or.inr (Or.inr (Or.inr (Or.inl c4))))
        · refine wp_iload_n hX dX5_disk_25 rfl ?_
          refine wp_iconst (v := 4) hX dX5_disk_26 ic_4 ?_
          refine wp_icmp_lt (tgt := 46) hX dX5_disk_27 (by decide) (fun c5 => ?_) (fun c5 => ?_)
          · exact bad (Or.inr (Or.inr (Or.inr (Or.inr (Or.inl c5)))))
          · refine wp_iload_n hX dX5_disk_30 rfl ?_
            refine wp_sipush (v := 128) hX dX5_disk_31 sp_128 ?_
            refine wp_icmp_gt (tgt := 46) hX dX5_disk_34 (by decide) (fun c6 => ?_) (fun c6 => ?_)
            · exact bad (Or.inr (Or.inr (Or.inr (Or.inr (Or.inr (Or.inl c6))))))
            · refine wp_iload_n hX dX5_disk_37 rfl ?_
              refine wp_iconst (v := 1) hX dX5_disk_38 ic_1 ?_
              refine wp_isub hX dX5_disk_39 ?_
              refine wp_iload_n hX dX5_disk_40 rfl ?_
              refine wp_isub hX dX5_disk_41 ?_
              refine wp_iconst (v := 4) hX dX5_disk_42 ic_4 ?_
              refine wp_icmp_ge (tgt := 48) hX dX5_disk_43 (by decide) (fun c7 => ?_) (fun c7 => ?_)
              · rw [if_neg (by
                  rintro (h | h | h | h | h | h | h)
                  · exact c1 h
                  · exact c2 h
                  · exact c3 h
                  · exact c4 h
                  · exact c5 h
                  · exact c6 h
                  · exact Int32.not_lt.mpr c7 h)] at hp
                have e16 : (16 : Int32).toInt = 16 := rfl
                have e512 : (512 : Int32).toInt = 512 := rfl
                have e64 : (64 : Int32).toInt = 64 := rfl
                have e4 : (4 : Int32).toInt = 4 := rfl
                have e128 : (128 : Int32).toInt = 128 := rfl
                have e0 : (0 : Int32).toInt = 0 := rfl
                rw [ilt, e16] at c1
                rw [ilt, e512] at c2
                rw [ilt, e16] at c3
                rw [ilt, e64] at c4
                rw [ilt, e4] at c5
                rw [ilt, e128] at c6
                obtain ⟨b, hb, rfl⟩ := nI_of (x := x) (by rw [ilt, e0]; omega)
                obtain ⟨d, hw, rfl⟩ := nI_of (x := y) (by rw [ilt, e0]; omega)
                obtain ⟨l, hl, rfl⟩ := nI_of (x := w) (by rw [ilt, e0]; omega)
                rw [nI_clamp hb, nI_clamp hw, nI_clamp hl] at hp
                have loop : ∀ (r i : Nat), i + r = 32768 → Wp X Post 66 [some (.ref 15), some (.int (nI b)), some (.int (nI d)), some (.int (nI l)), some (.int (nI i))] [] (wM c b d l ((fun j => if j < i then 0 else q.1 j), q.2) st op jp jr ep bt K h bf z s) := by
                  intro r
                  induction r with
                  | zero =>
                    intro i hi
                    rw [show i = 32768 by omega]
                    have ez : (fun j => if j < 32768 then 0 else q.1 j) = (fun _ => (0 : Int32)) := by
                      funext j
                      by_cases hj : j < 32768
                      · rw [if_pos hj]
                      · rw [if_neg hj, hA.1 j (by omega)]
                    rw [ez]
                    refine wp_iload hX dX5_disk_66 rfl ?_
                    refine wp_aload_n hX dX5_disk_68 rfl ?_
                    refine wp_get hX dX5_disk_69 flX5_8 rfl rfl ?_
                    refine wp_alen hX dX5_disk_72 rfl ?_
                    refine wp_icmp_ge (tgt := 90) hX dX5_disk_73 (by decide) (fun _ => ?_) (fun c_ => absurd (nI_le (Nat.le_refl 32768) (by decide)) c_)
                    refine wp_aload_n hX dX5_disk_90 rfl ?_
                    refine wp_iconst (v := 1) hX dX5_disk_91 ic_1 ?_
                    refine wp_put hX dX5_disk_92 fwX5_53 rfl (Nat.le_of_ble_eq_true rfl) rfl rfl ?_
                    refine wp_aload_n hX dX5_disk_95 rfl ?_
                    refine wp_iconst (v := 0) hX dX5_disk_96 ic_0 ?_
                    refine wp_put hX dX5_disk_97 fwX5_50 rfl (Nat.le_of_ble_eq_true rfl) rfl rfl ?_
                    refine wp_aload_n hX dX5_disk_100 rfl ?_
                    refine wp_iconst (v := 0) hX dX5_disk_101 ic_0 ?_
                    refine wp_put hX dX5_disk_102 fwX5_60 rfl (Nat.le_of_ble_eq_true rfl) rfl rfl ?_
                    refine wp_aload_n hX dX5_disk_105 rfl ?_
                    refine wp_iconst (v := 0) hX dX5_disk_106 ic_0 ?_
                    refine wp_put hX dX5_disk_107 fwX5_56 rfl (Nat.le_of_ble_eq_true rfl) rfl rfl ?_
                    refine wp_iconst (v := 1) hX dX5_disk_110 ic_1 ?_
                    refine wp_iret hX dX5_disk_111 rfl rfl ?_
                    exact hp _ _ ⟨rfl, 0, jp, jr, ep, bt, K, h, bf, z, s, rfl, hh, fun y => absurd y (by decide)⟩
                  | succ r ih =>
                    intro i hi
                    refine wp_iload hX dX5_disk_66 rfl ?_
                    refine wp_aload_n hX dX5_disk_68 rfl ?_
                    refine wp_get hX dX5_disk_69 flX5_8 rfl rfl ?_
                    refine wp_alen hX dX5_disk_72 rfl ?_
                    refine wp_icmp_ge (tgt := 90) hX dX5_disk_73 (by decide) (fun c_ => absurd c_ (nI_ge (by omega) (by decide))) (fun _ => ?_)
                    refine wp_aload_n hX dX5_disk_76 rfl ?_
                    refine wp_get hX dX5_disk_77 flX5_8 rfl rfl ?_
                    refine wp_iload hX dX5_disk_80 rfl ?_
                    refine wp_iconst (v := 0) hX dX5_disk_82 ic_0 ?_
                    refine wp_iast hX dX5_disk_83 rfl (vp_in_nI (by omega) (by decide)) ?_
                    rw [nI_clamp (by omega)]
                    have e : upd (fun j => if j < i then 0 else q.1 j) i 0 = (fun j => if j < i + 1 then 0 else q.1 j) := by
                      funext j
                      by_cases h1 : j = i
                      · rw [h1, pk_us, if_pos (by omega)]
                      · rw [pk_un h1]
                        by_cases h2 : j < i
                        · rw [if_pos h2, if_pos (by omega)]
                        · rw [if_neg h2, if_neg (by omega)]
                    refine wp_eqW (σ1 := wM c b d l (upd (fun j => if j < i then 0 else q.1 j) i 0, q.2) st op jp jr ep bt K h bf z s) rfl ?_
                    rw [e]
                    refine wp_iinc hX dX5_disk_84 ic_1 rfl (Nat.le_of_ble_eq_true rfl) rfl ?_
                    refine wp_goto (tgt := 66) hX dX5_disk_87 (by decide) ?_
                    rw [nI_1]
                    exact ih (i + 1) (by omega)
                refine wp_aload_n hX dX5_disk_48 rfl ?_
                refine wp_iload_n hX dX5_disk_49 rfl ?_
                refine wp_put hX dX5_disk_50 fwX5_71 rfl (Nat.le_of_ble_eq_true rfl) rfl rfl ?_
                refine wp_aload_n hX dX5_disk_53 rfl ?_
                refine wp_iload_n hX dX5_disk_54 rfl ?_
                refine wp_put hX dX5_disk_55 fwX5_42 rfl (Nat.le_of_ble_eq_true rfl) rfl rfl ?_
                refine wp_aload_n hX dX5_disk_58 rfl ?_
                refine wp_iload_n hX dX5_disk_59 rfl ?_
                refine wp_put hX dX5_disk_60 fwX5_74 rfl (Nat.le_of_ble_eq_true rfl) rfl rfl ?_
                refine wp_iconst (v := 0) hX dX5_disk_63 ic_0 ?_
                refine wp_istore hX dX5_disk_64 (Nat.le_of_ble_eq_true rfl) rfl ?_
                have := loop 32768 0 (by omega)
                have e : (fun j => if j < 0 then 0 else q.1 j) = q.1 := by funext j; simp
                rw [e] at this
                exact this
              · exact bad (Or.inr (Or.inr (Or.inr (Or.inr (Or.inr (Or.inr (Int32.not_le.mp c7)))))))
set_option maxHeartbeats 4000000 in
set_option maxRecDepth 100000 in
theorem m_format (hA : AInv A) (hR : RM A c σ) : MT mdX5_format [.ref 15] σ (fun r σ1 => r = some (.int (sFormat A).1) ∧ RM (sFormat A).2 c σ1) := by
  obtain ⟨st, ⟨B, W, LG⟩, q, pl, rc, M, tx⟩ := A
  have hR0 := hR
  obtain ⟨op, jp, jr, ep, bt, K, h, bf, z, s, rfl, hh, hup⟩ := hR
  refine mp_of [some (.ref 15), none] rfl (Nat.le_of_ble_eq_true rfl) (by decide) (fun X Post hX hp => ?_)
  unfold sFormat at hp
  dsimp only at hp
  have hst := hA.st
  have bad : ¬ (st = 1 ∨ st = 2) → Wp X Post 15 [some (.ref 15), none] [] (wM c B W LG q st op jp jr ep bt K h bf z s) := by
    intro hb
    rw [if_pos hb] at hp
    refine wp_aload_n hX dX5_format_15 rfl ?_
    refine wp_cv0 hX dX5_format_16 mlX5_77 ⟨Nat.le_of_ble_eq_true rfl, Nat.le_of_ble_eq_true rfl⟩ (m_not hst (fun y => hb (Or.inr y))) rfl (Nat.le_of_ble_eq_true rfl) ?_
    refine wp_iret hX dX5_format_19 rfl rfl ?_
    exact hp _ _ ⟨rfl, hR0⟩
  refine wp_aload_n hX dX5_format_0 rfl ?_
  refine wp_get hX dX5_format_1 flX5_53 rfl rfl ?_
  refine wp_if_eq (tgt := 15) hX dX5_format_4 (by decide) (fun d => ?_) (fun d => ?_)
  · exact bad (by rw [d]; decide)
  · refine wp_aload_n hX dX5_format_7 rfl ?_
    refine wp_get hX dX5_format_8 flX5_53 rfl rfl ?_
    refine wp_iconst (v := 3) hX dX5_format_11 ic_3 ?_
    refine wp_icmp_ne (tgt := 20) hX dX5_format_12 (by decide) (fun f => ?_) (fun f => ?_)
    · have hb : st = 1 ∨ st = 2 := by
        rcases hst with e | e | e | e
        · exact absurd e d
        · exact Or.inl e
        · exact Or.inr e
        · exact absurd e f
      obtain ⟨⟨g1, g2, g3, g4, g5, g6, g7⟩, hHd⟩ := hA.geo d
      rw [if_neg (fun y => y hb)] at hp
      refine wp_aload_n hX dX5_format_20 rfl ?_
      refine wp_get hX dX5_format_21 flX5_8 rfl rfl ?_
      refine wp_iconst (v := 1) hX dX5_format_24 ic_1 ?_
      refine wp_iald hX dX5_format_25 rfl (vp_in_nI (n := 1) (by decide) (by decide)) ?_
      refine wp_iconst (v := 1) hX dX5_format_26 ic_1 ?_
      refine wp_iadd hX dX5_format_27 ?_
      refine wp_istore_n hX dX5_format_28 (Nat.le_of_ble_eq_true rfl) rfl ?_
      refine wp_aload_n hX dX5_format_29 rfl ?_
      refine wp_iconst (v := 0) hX dX5_format_30 ic_0 ?_
      refine wp_put hX dX5_format_31 fwX5_56 rfl (Nat.le_of_ble_eq_true rfl) rfl rfl ?_
      refine wp_aload_n hX dX5_format_34 rfl ?_
      refine wp_cv0 hX dX5_format_35 mlX5_63 ⟨Nat.le_of_ble_eq_true rfl, Nat.le_of_ble_eq_true rfl⟩ (m_blank) rfl (Nat.le_of_ble_eq_true rfl) ?_
      refine wp_aload_n hX dX5_format_38 rfl ?_
      refine wp_get hX dX5_format_39 flX5_30 rfl rfl ?_
      refine wp_iconst (v := 1) hX dX5_format_42 ic_1 ?_
      refine wp_iload_n hX dX5_format_43 rfl ?_
      refine wp_iast hX dX5_format_44 rfl (vp_in_nI (n := 1) (by decide) (by decide)) ?_
      refine wp_eqW (σ1 := wM c B W LG q st 0 jp jr ep bt K h (upd (fun j => if j < 64 then 0 else bf j) 1 (q.1 1 + 1)) z s) rfl ?_
      refine wp_eqL (L1 := [some (.ref 15), some (.int (q.1 1 + 1))]) rfl ?_
      by_cases h1 : q.2.2 = 1
      · rw [wr1_no h1] at hp
        rw [if_pos rfl] at hp
        refine wp_aload_n hX dX5_format_45 rfl ?_
        refine wp_iconst (v := 0) hX dX5_format_46 ic_0 ?_
        refine wp_cv1 hX dX5_format_47 mlX5_67 ⟨Nat.le_of_ble_eq_true rfl, Nat.le_of_ble_eq_true rfl⟩ (m_write_no (b := 0) h1) rfl (Nat.le_of_ble_eq_true rfl) ?_
        refine wp_if_ne (tgt := 55) hX dX5_format_50 (by decide) (fun c_ => absurd (rfl) c_) (fun _ => ?_)
        refine wp_iconst (v := (-1)) hX dX5_format_53 ic_m1 ?_
        refine wp_iret hX dX5_format_54 rfl rfl ?_
        exact hp _ _ ⟨rfl, 0, jp, jr, ep, bt, K, h, _, z, s, rfl, hh, fun y => absurd y (by decide)⟩
      · rw [wr1_ok h1] at hp
        rw [if_neg (show ¬ true = false by decide)] at hp
        dsimp only at hp
        refine wp_aload_n hX dX5_format_45 rfl ?_
        refine wp_iconst (v := 0) hX dX5_format_46 ic_0 ?_
        refine wp_cv1 hX dX5_format_47 mlX5_67 ⟨Nat.le_of_ble_eq_true rfl, Nat.le_of_ble_eq_true rfl⟩ (m_write_ok (b := 0) g2 g4 (by omega) (by omega) h1) rfl (Nat.le_of_ble_eq_true rfl) ?_
        rw [wrD_congr (fmB_eq g4)]
        refine wp_if_ne (tgt := 55) hX dX5_format_50 (by decide) (fun _ => ?_) (fun c_ => absurd c_ (by decide))
        refine wp_aload_n hX dX5_format_55 rfl ?_
        refine wp_iload_n hX dX5_format_56 rfl ?_
        refine wp_iconst (v := 1) hX dX5_format_57 ic_1 ?_
        refine wp_iconst (v := 0) hX dX5_format_58 ic_0 ?_
        refine wp_iconst (v := 0) hX dX5_format_59 ic_0 ?_
        refine wp_iconst (v := 0) hX dX5_format_60 ic_0 ?_
        refine wp_cv5p hX dX5_format_61 mlX5_81 ⟨Nat.le_of_ble_eq_true rfl, Nat.le_of_ble_eq_true rfl⟩ (m_writeHead g2 (by omega) g3 g4) rfl (Nat.le_of_ble_eq_true rfl) ?_
        rintro r1 σ1 ⟨bf1, rfl, rfl⟩
        have hz := wr1_hd (W := W) (q := (wrD q.1 W 0 (fmB (q.1 1 + 1)), q.2.1 + 1, pwd q.2.2)) (e := q.1 1 + 1) (b1 := 1) (a := 0) (r := 0) (n := 0) g3
        generalize wr1 W (wrD q.1 W 0 (fmB (q.1 1 + 1)), q.2.1 + 1, pwd q.2.2) 0 (hdB (q.1 1 + 1) 1 0 0 0) = zz at hp hz ⊢
        obtain ⟨zb, z2⟩ := zz
        cases zb with
        | false =>
          rw [if_pos rfl] at hp
          refine wp_if_ne (tgt := 69) hX dX5_format_64 (by decide) (fun c_ => absurd (rfl) c_) (fun _ => ?_)
          refine wp_iconst (v := (-1)) hX dX5_format_67 ic_m1 ?_
          refine wp_iret hX dX5_format_68 rfl rfl ?_
          exact hp _ _ ⟨rfl, 0, jp, jr, ep, bt, K, h, bf1, z, s, rfl, hh, fun y => absurd y (by decide)⟩
        | true =>
          rw [if_neg (show ¬ true = false by decide)] at hp
          obtain ⟨y0, y1, y2, y3, y4, y5⟩ := hz rfl
          refine wp_if_ne (tgt := 69) hX dX5_format_64 (by decide) (fun _ => ?_) (fun c_ => absurd c_ (show ¬ b2i true = 0 by decide))
          refine wp_aload_n hX dX5_format_69 rfl ?_
          refine wp_iconst (v := 2) hX dX5_format_70 ic_2 ?_
          refine wp_put hX dX5_format_71 fwX5_53 rfl (Nat.le_of_ble_eq_true rfl) rfl rfl ?_
          refine wp_aload_n hX dX5_format_74 rfl ?_
          refine wp_iload_n hX dX5_format_75 rfl ?_
          refine wp_put hX dX5_format_76 fwX5_85 rfl (Nat.le_of_ble_eq_true rfl) rfl rfl ?_
          refine wp_aload_n hX dX5_format_79 rfl ?_
          refine wp_iconst (v := 1) hX dX5_format_80 ic_1 ?_
          refine wp_put hX dX5_format_81 fwX5_88 rfl (Nat.le_of_ble_eq_true rfl) rfl rfl ?_
          refine wp_aload_n hX dX5_format_84 rfl ?_
          refine wp_iconst (v := 0) hX dX5_format_85 ic_0 ?_
          refine wp_put hX dX5_format_86 fwX5_91 rfl (Nat.le_of_ble_eq_true rfl) rfl rfl ?_
          refine wp_aload_n hX dX5_format_89 rfl ?_
          refine wp_iconst (v := 0) hX dX5_format_90 ic_0 ?_
          refine wp_put hX dX5_format_91 fwX5_94 rfl (Nat.le_of_ble_eq_true rfl) rfl rfl ?_
          refine wp_aload_n hX dX5_format_94 rfl ?_
          refine wp_iconst (v := 0) hX dX5_format_95 ic_0 ?_
          refine wp_put hX dX5_format_96 fwX5_97 rfl (Nat.le_of_ble_eq_true rfl) rfl rfl ?_
          refine wp_iconst (v := 0) hX dX5_format_99 ic_0 ?_
          refine wp_iret hX dX5_format_100 rfl rfl ?_
          exact hp _ _ ⟨rfl, 0, 0, 0, q.1 1 + 1, 1, (0, K.2), h, bf1, z, s, rfl, hh, fun _ => ⟨rfl, rfl, y1.symm, y2.symm, KAm.nil rfl, rfl⟩⟩
    · exact bad (by rw [show st = 3 from f]; decide)
set_option maxHeartbeats 4000000 in
set_option maxRecDepth 100000 in
theorem m_count {w : Int32} (hA : AInv A) (hR : RM A c σ) : MT mdX5_count [.ref 15, .int w] σ (fun r σ1 => r = some (.int (sCount A w)) ∧ RM A c σ1) := by
  obtain ⟨st, ⟨B, W, LG⟩, q, pl, rc, M, tx⟩ := A
  have hR0 := hR
  obtain ⟨op, jp, jr, ep, bt, K, h, bf, z, s, rfl, hh, hup⟩ := hR
  refine mp_of [some (.ref 15), some (.int w)] rfl (Nat.le_of_ble_eq_true rfl) (by decide) (fun X Post hX hp => ?_)
  unfold sCount at hp
  dsimp only at hp
  refine wp_aload_n hX dX5_count_0 rfl ?_
  refine wp_get hX dX5_count_1 flX5_53 rfl rfl ?_
  refine wp_if_ne (tgt := 9) hX dX5_count_4 (by decide) (fun d => ?_) (fun d => ?_)
  · obtain ⟨⟨g1, g2, g3, g4, g5, g6, g7⟩, hHd⟩ := hA.geo d
    refine wp_iload_n hX dX5_count_9 rfl ?_
    refine wp_if_ne (tgt := 18) hX dX5_count_10 (by decide) (fun w0 => ?_) (fun w0 => ?_)
    · rw [if_neg w0] at hp
      refine wp_iload_n hX dX5_count_18 rfl ?_
      refine wp_iconst (v := 1) hX dX5_count_19 ic_1 ?_
      refine wp_icmp_ne (tgt := 28) hX dX5_count_20 (by decide) (fun w1 => ?_) (fun w1 => ?_)
      · rw [if_neg w1] at hp
        refine wp_iload_n hX dX5_count_28 rfl ?_
        refine wp_bipush (v := 8) hX dX5_count_29 bp_8 ?_
        refine wp_icmp_ne (tgt := 39) hX dX5_count_31 (by decide) (fun w8 => ?_) (fun w8 => ?_)
        · rw [if_neg w8] at hp
          refine wp_aload_n hX dX5_count_39 rfl ?_
          refine wp_get hX dX5_count_40 flX5_53 rfl rfl ?_
          refine wp_iconst (v := 2) hX dX5_count_43 ic_2 ?_
          refine wp_icmp_eq (tgt := 49) hX dX5_count_44 (by decide) (fun e2 => ?_) (fun e2 => ?_)
          · subst e2
            rw [if_neg (by decide)] at hp
            obtain ⟨u1, u2, u3, u4, u5, u6⟩ := hup rfl
            subst u1
            subst u2
            subst u3
            subst u4
            have hcap := hA.cap
            have hKl : M.length = K.1 := u5.1
            refine wp_iload_n hX dX5_count_49 rfl ?_
            by_cases w2 : w = 2
            · subst w2
              rw [if_pos rfl] at hp
              refine wp_tableIn (off := 38) (tgt := 88) hX dX5_count_50 (by decide) (by decide) (by decide) (by decide) ?_
              refine wp_aload_n hX dX5_count_88 rfl ?_
              refine wp_get hX dX5_count_89 flX5_91 rfl rfl ?_
              refine wp_iret hX dX5_count_92 rfl rfl ?_
              exact hp _ _ ⟨rfl, hR0⟩
            · rw [if_neg w2] at hp
              by_cases w3 : w = 3
              · subst w3
                rw [if_pos rfl] at hp
                refine wp_tableIn (off := 43) (tgt := 93) hX dX5_count_50 (by decide) (by decide) (by decide) (by decide) ?_
                refine wp_aload_n hX dX5_count_93 rfl ?_
                refine wp_get hX dX5_count_94 flX5_85 rfl rfl ?_
                refine wp_iret hX dX5_count_97 rfl rfl ?_
                exact hp _ _ ⟨rfl, hR0⟩
              · rw [if_neg w3] at hp
                by_cases w4 : w = 4
                · subst w4
                  rw [if_pos rfl] at hp
                  refine wp_tableIn (off := 48) (tgt := 98) hX dX5_count_50 (by decide) (by decide) (by decide) (by decide) ?_
                  refine wp_aload_n hX dX5_count_98 rfl ?_
                  refine wp_get hX dX5_count_99 flX5_88 rfl rfl ?_
                  refine wp_iret hX dX5_count_102 rfl rfl ?_
                  exact hp _ _ ⟨rfl, hR0⟩
                · rw [if_neg w4] at hp
                  by_cases w5 : w = 5
                  · subst w5
                    rw [if_pos rfl] at hp
                    refine wp_tableIn (off := 53) (tgt := 103) hX dX5_count_50 (by decide) (by decide) (by decide) (by decide) ?_
                    refine wp_aload_n hX dX5_count_103 rfl ?_
                    refine wp_get hX dX5_count_104 flX5_94 rfl rfl ?_
                    refine wp_iret hX dX5_count_107 rfl rfl ?_
                    exact hp _ _ ⟨rfl, hR0⟩
                  · rw [if_neg w5] at hp
                    by_cases w6 : w = 6
                    · subst w6
                      rw [if_pos rfl] at hp
                      refine wp_tableIn (off := 58) (tgt := 108) hX dX5_count_50 (by decide) (by decide) (by decide) (by decide) ?_
                      cases tx with
                      | none =>
                        have u7 : op = 0 := u6
                        subst u7
                        refine wp_aload_n hX dX5_count_108 rfl ?_
                        refine wp_get hX dX5_count_109 flX5_56 rfl rfl ?_
                        refine wp_if_eq (tgt := 122) hX dX5_count_112 (by decide) (fun _ => ?_) (fun c_ => absurd (rfl) c_)
                        refine wp_bipush (v := (-3)) hX dX5_count_122 bp_m3 ?_
                        refine wp_iret hX dX5_count_124 rfl rfl ?_
                        exact hp _ _ ⟨rfl, hR0⟩
                      | some C =>
                        obtain ⟨rfl, hC⟩ := u6
                        refine wp_aload_n hX dX5_count_108 rfl ?_
                        refine wp_get hX dX5_count_109 flX5_56 rfl rfl ?_
                        refine wp_if_eq (tgt := 122) hX dX5_count_112 (by decide) (fun c_ => absurd c_ (by decide)) (fun _ => ?_)
                        refine wp_aload_n hX dX5_count_115 rfl ?_
                        refine wp_get hX dX5_count_116 flX5_104 rfl rfl ?_
                        refine wp_goto (tgt := 124) hX dX5_count_119 (by decide) ?_
                        refine wp_iret hX dX5_count_124 rfl rfl ?_
                        exact hp _ _ ⟨by rw [← hC.1], hR0⟩
                    · rw [if_neg w6] at hp
                      by_cases w7 : w = 7
                      · subst w7
                        rw [if_pos rfl] at hp
                        refine wp_tableIn (off := 75) (tgt := 125) hX dX5_count_50 (by decide) (by decide) (by decide) (by decide) ?_
                        refine wp_aload_n hX dX5_count_125 rfl ?_
                        refine wp_cv0 hX dX5_count_126 mlX5_159 ⟨Nat.le_of_ble_eq_true rfl, Nat.le_of_ble_eq_true rfl⟩ (m_treeBlocks g3 g4 (by omega)) rfl (Nat.le_of_ble_eq_true rfl) ?_
                        refine wp_iret hX dX5_count_129 rfl rfl ?_
                        exact hp _ _ ⟨by rw [← hKl], hR0⟩
                      · rw [if_neg w7] at hp
                        have ho : w.toInt < 2 ∨ 7 < w.toInt := by
                          rw [ieq] at w2 w3 w4 w5 w6 w7
                          rw [show (2 : Int32).toInt = 2 from rfl] at w2
                          rw [show (3 : Int32).toInt = 3 from rfl] at w3
                          rw [show (4 : Int32).toInt = 4 from rfl] at w4
                          rw [show (5 : Int32).toInt = 5 from rfl] at w5
                          rw [show (6 : Int32).toInt = 6 from rfl] at w6
                          rw [show (7 : Int32).toInt = 7 from rfl] at w7
                          omega
                        refine wp_tableOut (tgt := 130) hX dX5_count_50 ho (by decide) ?_
                        refine wp_iconst (v := 0) hX dX5_count_130 ic_0 ?_
                        refine wp_iret hX dX5_count_131 rfl rfl ?_
                        exact hp _ _ ⟨rfl, hR0⟩
          · rw [if_pos e2] at hp
            refine wp_iconst (v := 0) hX dX5_count_47 ic_0 ?_
            refine wp_iret hX dX5_count_48 rfl rfl ?_
            exact hp _ _ ⟨rfl, hR0⟩
        · rw [if_pos w8] at hp
          refine wp_aload_n hX dX5_count_34 rfl ?_
          refine wp_cv0 hX dX5_count_35 mlX5_162 ⟨Nat.le_of_ble_eq_true rfl, Nat.le_of_ble_eq_true rfl⟩ (m_area (by omega) g2) rfl (Nat.le_of_ble_eq_true rfl) ?_
          refine wp_iret hX dX5_count_38 rfl rfl ?_
          exact hp _ _ ⟨rfl, hR0⟩
      · rw [if_pos w1] at hp
        refine wp_aload_n hX dX5_count_23 rfl ?_
        refine wp_get hX dX5_count_24 flX5_50 rfl rfl ?_
        refine wp_iret hX dX5_count_27 rfl rfl ?_
        exact hp _ _ ⟨rfl, hR0⟩
    · rw [if_pos w0] at hp
      refine wp_aload_n hX dX5_count_13 rfl ?_
      refine wp_get hX dX5_count_14 flX5_60 rfl rfl ?_
      refine wp_iret hX dX5_count_17 rfl rfl ?_
      exact hp _ _ ⟨rfl, hR0⟩
  · obtain ⟨rfl, rfl, rfl, rfl⟩ := hA.2.2.1 d
    refine wp_iconst (v := 0) hX dX5_count_7 ic_0 ?_
    refine wp_iret hX dX5_count_8 rfl rfl ?_
    refine hp _ _ ⟨?_, hR0⟩
    subst d
    by_cases w0 : w = 0
    · rw [if_pos w0]
    · rw [if_neg w0]
      by_cases w1 : w = 1
      · rw [if_pos w1]
      · rw [if_neg w1]
        by_cases w8 : w = 8
        · rw [if_pos w8]; rfl
        · rw [if_neg w8, if_pos (by decide)]
end MP
