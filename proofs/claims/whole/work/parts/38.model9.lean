/-! the reference: load and recover -/
section MO
variable {c : Nat → aE} {B W LG : Nat} {q : DQ} {st op : Int32} {pl rc : Nat} {ep bt : Int32} {K : MP} {h : HQ} {bf : Nat → Int32} {z : ZQ} {s : SQ} {m : PM}
theorem chn_lt {W : Nat} {D : Nat → Int32} {s0 : Nat} : ∀ (k b : Nat), chn W D s0 k b → D (W * b) = 1 ∨ D (W * b) = 2
  | 0, _, h => Or.inl h.2
  | _ + 1, _, h => Or.inr h.1
set_option maxHeartbeats 8000000 in
set_option maxRecDepth 100000 in
theorem m_load {s0 n : Nat} (hB : B ≤ 512) (hW : 16 ≤ W) (hW2 : W ≤ 64) (hs1 : 1 ≤ s0) (hsB : s0 + tBl (fan W) n ≤ B) (hn : n ≤ 8000) (hT : TrOK B W LG q.1 s0 n) : MT mdX5_load [.ref 15, .int (nI (if n = 0 then 0 else s0 + tBl (fan W) n - 1)), .int (nI n)] (wM c B W LG q st op pl rc ep bt K h bf z s) (fun r σ1 => ∃ K1, r = none ∧ KAm (ldo W q.1 s0 0 n []) K1 ∧ σ1 = wM c B W LG q st op pl rc ep bt K1 h bf z s) := by
  refine mp_of [some (.ref 15), some (.int (nI (if n = 0 then 0 else s0 + tBl (fan W) n - 1))), some (.int (nI n)), none, none, none] rfl (Nat.le_of_ble_eq_true rfl) (by decide) (fun X Post hX hp => ?_)
  have hF := fan_2 hW
  have hF2 := fan_le hW2
  have hfw := fan_w (W := W)
  obtain ⟨hT1, m, hms, hml, hmi, hlv, hch⟩ := hT
  have hld : ldo W q.1 s0 0 n [] = m := by
    have := ldo_eq (W := W) (D := q.1) (s := s0) hms (fun i hi => hmi i (by omega)) n 0 (by omega)
    rw [List.take_zero] at this
    exact this
  rw [hld] at hp
  have hle := cdv_le (n := n) (e := fan W) (by omega)
  have htb : cdv n (fan W) ≤ tBl (fan W) n := by unfold tBl; omega
  by_cases hn0 : n = 0
  · rw [if_pos hn0]
    refine wp_aload_n hX dX5_load_0 rfl ?_
    refine wp_iconst (v := 0) hX dX5_load_1 ic_0 ?_
    refine wp_put hX dX5_load_2 fwX5_97 rfl (Nat.le_of_ble_eq_true rfl) rfl rfl ?_
    refine wp_iload_n hX dX5_load_5 rfl ?_
    refine wp_if_ne (tgt := 10) hX dX5_load_6 (by decide) (fun c_ => absurd (rfl) c_) (fun _ => ?_)
    refine wp_vret hX dX5_load_9 rfl ?_
    refine hp _ _ ⟨(0, K.2), rfl, ?_, rfl⟩
    rw [List.eq_nil_of_length_eq_zero (show m.length = 0 by omega)]
    exact KAm.nil rfl
  · rw [if_neg hn0]
    obtain ⟨kk, hkk, hchn⟩ := hch (by omega)
    clear hch
    have hcd1 : 0 < cdv n (fan W) := (cdv_lt (by omega)).mpr (by omega)
    generalize hroot : s0 + tBl (fan W) n - 1 = root at hchn
    have leaves : ∀ (r l : Nat) (K1 : MP) (x4 x5 : Option Value), noL [none, none, none, none, x4] 5 = true → l + r = cdv n (fan W) → K1.1 = min n (fan W * l) → KAm (m.take (min n (fan W * l))) K1 → Wp X Post 44 [some (.ref 15), some (.int (nI root)), some (.int (nI n)), some (.int (nI (s0 + l))), x4, x5] [] (wM c B W LG q st op pl rc ep bt K1 h bf z s) := by
      intro r
      induction r with
      | zero =>
        intro l K1 x4 x5 _ hl hk1 hk2
        have : n ≤ fan W * l := by
          have := cdv_mul (n := n) (e := fan W) (by omega)
          rw [show l = cdv n (fan W) by omega, Nat.mul_comm]
          exact this
        rw [Nat.min_eq_left this] at hk1 hk2
        refine wp_aload_n hX dX5_load_44 rfl ?_
        refine wp_get hX dX5_load_45 flX5_97 rfl rfl ?_
        refine wp_iload_n hX dX5_load_48 rfl ?_
        refine wp_icmp_ge (tgt := 145) hX dX5_load_49 (by decide) (fun _ => ?_) (fun c_ => absurd (nI_le (by omega) (by omega)) c_)
        refine wp_vret hX dX5_load_145 rfl ?_
        refine hp _ _ ⟨K1, rfl, ?_, rfl⟩
        rw [List.take_of_length_le (by omega)] at hk2
        exact hk2
      | succ r ih =>
        intro l K1 x4 x5 _ hl hk1 hk2
        have hfl : fan W * l < n := by rw [Nat.mul_comm]; exact (cdv_lt (by omega)).mp (by omega)
        rw [Nat.min_eq_right (by omega)] at hk1 hk2
        obtain ⟨lv1, lv2⟩ := hlv l (by omega)
        have hbl : s0 + l < B := by omega
        have hix1 := ixb (i := 1) hB hW2 hbl (by omega)
        generalize hcnt : min (fan W) (n - fan W * l) = cnt at lv2
        have inner : ∀ (r2 k : Nat) (K2 : MP), k + r2 = cnt → K2.1 = fan W * l + k → KAm (m.take (fan W * l + k)) K2 → Wp X Post 63 [some (.ref 15), some (.int (nI root)), some (.int (nI n)), some (.int (nI (s0 + l))), some (.int (nI (W * (s0 + l)))), some (.int (nI k))] [] (wM c B W LG q st op pl rc ep bt K2 h bf z s) := by
          intro r2
          induction r2 with
          | zero =>
            intro k K2 hk h1 h2
            refine wp_iload hX dX5_load_63 rfl ?_
            refine wp_aload_n hX dX5_load_65 rfl ?_
            refine wp_get hX dX5_load_66 flX5_8 rfl rfl ?_
            refine wp_iload hX dX5_load_69 rfl ?_
            refine wp_iconst (v := 1) hX dX5_load_71 ic_1 ?_
            refine wp_iadd hX dX5_load_72 ?_
            refine wp_ti (y := (nI (W * (s0 + l) + 1))) (nI_1 _) ?_
            refine wp_iald hX dX5_load_73 rfl (vp_in_nI hix1 (by decide)) ?_
            refine wp_ti (y := (nI cnt)) (by rw [nI_clamp (by omega)]; exact lv2) ?_
            refine wp_icmp_ge (tgt := 139) hX dX5_load_74 (by decide) (fun _ => ?_) (fun c_ => absurd (nI_le (by omega) (by omega)) c_)
            refine wp_iinc hX dX5_load_139 ic_1 rfl (Nat.le_of_ble_eq_true rfl) rfl ?_
            refine wp_goto (tgt := 44) hX dX5_load_142 (by decide) ?_
            rw [nI_1]
            have e : fan W * l + k = min n (fan W * (l + 1)) := by rw [Nat.mul_add]; omega
            exact ih (l + 1) K2 (some (.int (nI (W * (s0 + l))))) _ rfl (by omega) (by rw [← e]; exact h1) (by rw [← e]; exact h2)
          | succ r2 ih2 =>
            intro k K2 hk h1 h2
            have hi := hmi (fan W * l + k) (by omega)
            have hkc : k < fan W := by omega
            have hk2w : 2 + 2 * k + 1 < W := by clear hi h2; omega
            have hx1 := ixb (i := 2 + 2 * k) hB hW2 hbl (Nat.lt_of_succ_lt hk2w)
            have hx2 := ixb (i := 2 + 2 * k + 1) hB hW2 hbl hk2w
            have ediv : (fan W * l + k) / fan W = l := by rw [Nat.mul_add_div (by omega), Nat.div_eq_of_lt (by omega)]; rfl
            have emod : (fan W * l + k) % fan W = k := by rw [Nat.mul_add_mod, Nat.mod_eq_of_lt (by omega)]
            unfold prD at hi
            rw [ediv, emod] at hi
            clear ediv emod
            have e2 : (2 : Int32) * nI k = nI (2 * k) := by rw [show (2 : Int32) = nI 2 from rfl, pk_mul]
            obtain ⟨u2, kf2, vf2⟩ := K2
            dsimp only at h1
            subst h1
            refine wp_iload hX dX5_load_63 rfl ?_
            refine wp_aload_n hX dX5_load_65 rfl ?_
            refine wp_get hX dX5_load_66 flX5_8 rfl rfl ?_
            refine wp_iload hX dX5_load_69 rfl ?_
            refine wp_iconst (v := 1) hX dX5_load_71 ic_1 ?_
            refine wp_iadd hX dX5_load_72 ?_
            refine wp_ti (y := (nI (W * (s0 + l) + 1))) (nI_1 _) ?_
            refine wp_iald hX dX5_load_73 rfl (vp_in_nI hix1 (by decide)) ?_
            refine wp_ti (y := (nI cnt)) (by rw [nI_clamp (by omega)]; exact lv2) ?_
            refine wp_icmp_ge (tgt := 139) hX dX5_load_74 (by decide) (fun c_ => absurd c_ (nI_ge (by omega) (by omega))) (fun _ => ?_)
            refine wp_aload_n hX dX5_load_77 rfl ?_
            refine wp_get hX dX5_load_78 flX5_14 rfl rfl ?_
            refine wp_aload_n hX dX5_load_81 rfl ?_
            refine wp_get hX dX5_load_82 flX5_97 rfl rfl ?_
            refine wp_aload_n hX dX5_load_85 rfl ?_
            refine wp_get hX dX5_load_86 flX5_8 rfl rfl ?_
            refine wp_iload hX dX5_load_89 rfl ?_
            refine wp_iconst (v := 2) hX dX5_load_91 ic_2 ?_
            refine wp_iadd hX dX5_load_92 ?_
            refine wp_iconst (v := 2) hX dX5_load_93 ic_2 ?_
            refine wp_iload hX dX5_load_94 rfl ?_
            refine wp_imul hX dX5_load_96 ?_
            refine wp_iadd hX dX5_load_97 ?_
            refine wp_ti (y := (nI (W * (s0 + l) + (2 + 2 * k)))) (by rw [e2, show (2 : Int32) = nI 2 from rfl, nI_add, nI_add, Nat.add_assoc]) ?_
            refine wp_iald hX dX5_load_98 rfl (vp_in_nI hx1 (by decide)) ?_
            refine wp_ti (y := (q.1 (W * (s0 + l) + (2 + 2 * k)))) (by rw [nI_clamp (by omega)]) ?_
            refine wp_iast hX dX5_load_99 rfl (vp_in_nI (n := fan W * l + k) (by omega) (by decide)) ?_
            rw [show ((fan W * l + k, kf2, vf2) : MP).1 = fan W * l + k from rfl, nI_clamp (show fan W * l + k < 2 ^ 31 by omega)]
            refine wp_aload_n hX dX5_load_100 rfl ?_
            refine wp_get hX dX5_load_101 flX5_17 rfl rfl ?_
            refine wp_aload_n hX dX5_load_104 rfl ?_
            refine wp_get hX dX5_load_105 flX5_97 rfl rfl ?_
            refine wp_aload_n hX dX5_load_108 rfl ?_
            refine wp_get hX dX5_load_109 flX5_8 rfl rfl ?_
            refine wp_iload hX dX5_load_112 rfl ?_
            refine wp_iconst (v := 3) hX dX5_load_114 ic_3 ?_
            refine wp_iadd hX dX5_load_115 ?_
            refine wp_iconst (v := 2) hX dX5_load_116 ic_2 ?_
            refine wp_iload hX dX5_load_117 rfl ?_
            refine wp_imul hX dX5_load_119 ?_
            refine wp_iadd hX dX5_load_120 ?_
            refine wp_ti (y := (nI (W * (s0 + l) + (2 + 2 * k + 1)))) (by rw [e2, show (3 : Int32) = nI 3 from rfl, nI_add, nI_add]; congr 1; omega) ?_
            refine wp_iald hX dX5_load_121 rfl (vp_in_nI hx2 (by decide)) ?_
            refine wp_ti (y := (q.1 (W * (s0 + l) + (2 + 2 * k + 1)))) (by rw [nI_clamp (by omega)]) ?_
            refine wp_iast hX dX5_load_122 rfl (vp_in_nI (n := fan W * l + k) (by omega) (by decide)) ?_
            rw [show ((fan W * l + k, kf2, vf2) : MP).1 = fan W * l + k from rfl, nI_clamp (show fan W * l + k < 2 ^ 31 by omega)]
            refine wp_aload_n hX dX5_load_123 rfl ?_
            refine wp_dup hX dX5_load_124 rfl ?_
            refine wp_get hX dX5_load_125 flX5_97 rfl rfl ?_
            refine wp_iconst (v := 1) hX dX5_load_128 ic_1 ?_
            refine wp_iadd hX dX5_load_129 ?_
            refine wp_ti (y := (nI (fan W * l + k + 1))) (nI_1 (fan W * l + k)) ?_
            refine wp_put hX dX5_load_130 fwX5_97 rfl (Nat.le_of_ble_eq_true rfl) rfl rfl ?_
            refine wp_eqW (σ1 := wM c B W LG q st op pl rc ep bt (fan W * l + k + 1, upd kf2 (fan W * l + k) (q.1 (W * (s0 + l) + (2 + 2 * k))), upd vf2 (fan W * l + k) (q.1 (W * (s0 + l) + (2 + 2 * k + 1)))) h bf z s) rfl ?_
            refine wp_iinc hX dX5_load_133 ic_1 rfl (Nat.le_of_ble_eq_true rfl) rfl ?_
            refine wp_goto (tgt := 63) hX dX5_load_136 (by decide) ?_
            rw [nI_1]
            exact ih2 (k + 1) _ (by omega) rfl (KA.take_s h2 hi)
        refine wp_aload_n hX dX5_load_44 rfl ?_
        refine wp_get hX dX5_load_45 flX5_97 rfl rfl ?_
        refine wp_iload_n hX dX5_load_48 rfl ?_
        refine wp_icmp_ge (tgt := 145) hX dX5_load_49 (by decide) (fun c_ => absurd c_ (nI_ge (by omega) (by omega))) (fun _ => ?_)
        refine wp_aload_n hX dX5_load_52 rfl ?_
        refine wp_get hX dX5_load_53 flX5_42 rfl rfl ?_
        refine wp_iload_n hX dX5_load_56 rfl ?_
        refine wp_imul hX dX5_load_57 ?_
        refine wp_ti (y := (nI (W * (s0 + l)))) (pk_mul _ _) ?_
        refine wp_istore hX dX5_load_58 (Nat.le_of_ble_eq_true rfl) rfl ?_
        refine wp_iconst (v := 0) hX dX5_load_60 ic_0 ?_
        refine wp_istore hX dX5_load_61 (Nat.le_of_ble_eq_true rfl) rfl ?_
        exact inner cnt 0 K1 (by omega) hk1 hk2
    have desc : ∀ (k b : Nat), b < 512 → chn W q.1 s0 k b → Wp X Post 12 [some (.ref 15), some (.int (nI root)), some (.int (nI n)), some (.int (nI b)), none, none] [] (wM c B W LG q st op pl rc ep bt (0, K.2) h bf z s) := by
      intro k
      induction k with
      | zero =>
        intro b hb hc
        obtain ⟨rfl, hc2⟩ := hc
        have hx := ixb (i := 0) (b := b) (B := 512) (Nat.le_refl _) hW2 hb (by omega)
        refine wp_aload_n hX dX5_load_12 rfl ?_
        refine wp_get hX dX5_load_13 flX5_8 rfl rfl ?_
        refine wp_aload_n hX dX5_load_16 rfl ?_
        refine wp_get hX dX5_load_17 flX5_42 rfl rfl ?_
        refine wp_iload_n hX dX5_load_20 rfl ?_
        refine wp_imul hX dX5_load_21 ?_
        refine wp_ti (y := (nI (W * b))) (pk_mul _ _) ?_
        refine wp_iald hX dX5_load_22 rfl (vp_in_nI (by omega) (by decide)) ?_
        refine wp_ti (y := (1)) (by rw [nI_clamp (by omega)]; exact hc2) ?_
        refine wp_iconst (v := 2) hX dX5_load_23 ic_2 ?_
        refine wp_icmp_ne (tgt := 44) hX dX5_load_24 (by decide) (fun _ => ?_) (fun c_ => absurd c_ (by decide))
        exact leaves (cdv n (fan W)) 0 (0, K.2) none none rfl (by omega) (by simp) (by rw [Nat.mul_zero, Nat.min_zero, List.take_zero]; exact KAm.nil rfl)
      | succ k ih =>
        intro b hb hc
        obtain ⟨hc1, b1, ⟨hb1, -, -⟩, hc2, hc3⟩ := hc
        have hx := ixb (i := 3) (b := b) (B := 512) (Nat.le_refl _) hW2 hb (by omega)
        refine wp_aload_n hX dX5_load_12 rfl ?_
        refine wp_get hX dX5_load_13 flX5_8 rfl rfl ?_
        refine wp_aload_n hX dX5_load_16 rfl ?_
        refine wp_get hX dX5_load_17 flX5_42 rfl rfl ?_
        refine wp_iload_n hX dX5_load_20 rfl ?_
        refine wp_imul hX dX5_load_21 ?_
        refine wp_ti (y := (nI (W * b))) (pk_mul _ _) ?_
        refine wp_iald hX dX5_load_22 rfl (vp_in_nI (by omega) (by decide)) ?_
        refine wp_ti (y := (2)) (by rw [nI_clamp (by omega)]; exact hc1) ?_
        refine wp_iconst (v := 2) hX dX5_load_23 ic_2 ?_
        refine wp_icmp_ne (tgt := 44) hX dX5_load_24 (by decide) (fun c_ => absurd (rfl) c_) (fun _ => ?_)
        refine wp_aload_n hX dX5_load_27 rfl ?_
        refine wp_get hX dX5_load_28 flX5_8 rfl rfl ?_
        refine wp_aload_n hX dX5_load_31 rfl ?_
        refine wp_get hX dX5_load_32 flX5_42 rfl rfl ?_
        refine wp_iload_n hX dX5_load_35 rfl ?_
        refine wp_imul hX dX5_load_36 ?_
        refine wp_ti (y := (nI (W * b))) (pk_mul _ _) ?_
        refine wp_iconst (v := 3) hX dX5_load_37 ic_3 ?_
        refine wp_iadd hX dX5_load_38 ?_
        refine wp_ti (y := (nI (W * b + 3))) (nI_add _ 3) ?_
        refine wp_iald hX dX5_load_39 rfl (vp_in_nI hx (by decide)) ?_
        refine wp_ti (y := (nI b1)) (by rw [nI_clamp (by omega)]; exact hc2) ?_
        refine wp_istore_n hX dX5_load_40 (Nat.le_of_ble_eq_true rfl) rfl ?_
        refine wp_goto (tgt := 12) hX dX5_load_41 (by decide) ?_
        exact ih b1 hb1 hc3
    have hr1 : 1 ≤ tBl (fan W) n := by omega
    refine wp_aload_n hX dX5_load_0 rfl ?_
    refine wp_iconst (v := 0) hX dX5_load_1 ic_0 ?_
    refine wp_put hX dX5_load_2 fwX5_97 rfl (Nat.le_of_ble_eq_true rfl) rfl rfl ?_
    refine wp_iload_n hX dX5_load_5 rfl ?_
    refine wp_if_ne (tgt := 10) hX dX5_load_6 (by decide) (fun _ => ?_) (fun c_ => absurd c_ (nI_ne0 (by omega) (by omega)))
    refine wp_iload_n hX dX5_load_10 rfl ?_
    refine wp_istore_n hX dX5_load_11 (Nat.le_of_ble_eq_true rfl) rfl ?_
    exact desc kk root (by omega) hchn
end MO
section MP
variable {A : Ab} {c : Nat → aE} {σ : aW}
set_option maxHeartbeats 8000000 in
set_option maxRecDepth 100000 in
theorem m_recover (hA : AInv A) (hR : RM A c σ) : MT mdX5_recover [.ref 15] σ (fun r σ1 => r = some (.int (sRecover A).1) ∧ RM (sRecover A).2 c σ1) := by
  obtain ⟨st, ⟨B, W, LG⟩, q, pl, rc, M, tx⟩ := A
  have hR0 := hR
  obtain ⟨op, jp, jr, ep, bt, K, h, bf, z, s, rfl, hh, hup⟩ := hR
  refine mp_of [some (.ref 15), none] rfl (Nat.le_of_ble_eq_true rfl) (by decide) (fun X Post hX hp => ?_)
  unfold sRecover at hp
  dsimp only at hp
  refine wp_aload_n hX dX5_recover_0 rfl ?_
  refine wp_get hX dX5_recover_1 flX5_53 rfl rfl ?_
  refine wp_if_ne (tgt := 10) hX dX5_recover_4 (by decide) (fun d => ?_) (fun d => ?_)
  · rw [if_neg d] at hp
    obtain ⟨⟨g1, g2, g3, g4, g5, g6, g7⟩, hHd⟩ := hA.geo d
    refine wp_aload_n hX dX5_recover_10 rfl ?_
    refine wp_iconst (v := 0) hX dX5_recover_11 ic_0 ?_
    refine wp_put hX dX5_recover_12 fwX5_56 rfl (Nat.le_of_ble_eq_true rfl) rfl rfl ?_
    refine wp_aload_n hX dX5_recover_15 rfl ?_
    refine wp_iconst (v := 0) hX dX5_recover_16 ic_0 ?_
    refine wp_cv1 hX dX5_recover_17 mlX5_110 ⟨Nat.le_of_ble_eq_true rfl, Nat.le_of_ble_eq_true rfl⟩ (m_isGood (b := 0) g2 g4 (by omega) (by omega)) rfl (Nat.le_of_ble_eq_true rfl) ?_
    rw [Nat.mul_zero, Nat.zero_add]
    have bad : (¬ (q.1 (W - 1) = sumD q.1 0 (W - 1) ∧ q.1 0 = MARK)) → Wp X Post 34 [some (.ref 15), none] [] (wM c B W LG q st 0 jp jr ep bt K h bf z s) := by
      intro hb
      rw [if_pos hb] at hp
      refine wp_aload_n hX dX5_recover_34 rfl ?_
      refine wp_iconst (v := 1) hX dX5_recover_35 ic_1 ?_
      refine wp_put hX dX5_recover_36 fwX5_53 rfl (Nat.le_of_ble_eq_true rfl) rfl rfl ?_
      refine wp_bipush (v := (-2)) hX dX5_recover_39 bp_m2 ?_
      refine wp_iret hX dX5_recover_41 rfl rfl ?_
      exact hp _ _ ⟨rfl, 0, jp, jr, ep, bt, K, h, bf, z, s, rfl, hh, fun y => absurd y (by decide)⟩
    by_cases hg : q.1 (W - 1) = sumD q.1 0 (W - 1)
    · rw [decide_eq_true hg]
      refine wp_if_eq (tgt := 34) hX dX5_recover_20 (by decide) (fun c_ => absurd c_ (by decide)) (fun _ => ?_)
      refine wp_aload_n hX dX5_recover_23 rfl ?_
      refine wp_get hX dX5_recover_24 flX5_8 rfl rfl ?_
      refine wp_iconst (v := 0) hX dX5_recover_27 ic_0 ?_
      refine wp_iald hX dX5_recover_28 rfl (vp_in_nI (n := 0) (by decide) (by decide)) ?_
      refine wp_ldc hX dX5_recover_29 lcX5_66 ?_
      refine wp_icmp_eq (tgt := 42) hX dX5_recover_31 (by decide) (fun f => ?_) (fun f => ?_)
      · have hmk : q.1 0 = MARK := f
        rw [if_neg (fun y => y ⟨hg, hmk⟩)] at hp
        rcases hHd with h0 | ⟨-, n, hn3, hn5, hn4, hT⟩
        · rw [h0] at hmk
          exact absurd hmk.symm mark_ne
        have hT1 := hT.1
        have h6 := tBl_cap g3 g4 (by unfold AR; omega) hT1
        have hb := ars_le (B := B) (LG := LG) (q.1 3) g7
        have hs1 : 1 ≤ arS B LG (q.1 3) := by unfold arS; split <;> omega
        have har : AR B LG ≤ 253 := by unfold AR; omega
        have harx : 2 * AR B LG + LG ≤ 511 := by unfold AR; omega
        have hn : n ≤ 8000 := by omega
        have hmc : rcM B W LG q.1 = rpl W LG q.1 (q.1 1) LG 0 0 (ldo W q.1 (arS B LG (q.1 3)) 0 n []) := by
          unfold rcM
          rw [hn5, nI_clamp (by omega)]
        rw [hmc, hn5, hn4] at hp
        have hld := ldo_len (W := W) (D := q.1) (s := arS B LG (q.1 3)) n 0 (m := []) List.Pairwise.nil
        have hlds := ldo_srt (W := W) (D := q.1) (s := arS B LG (q.1 3)) n 0 (m := []) List.Pairwise.nil
        have hwl : (W - 5) * LG ≤ 59 * LG := Nat.mul_le_mul (by omega) (Nat.le_refl _)
        simp only [List.length_nil, Nat.zero_add] at hld
        generalize hM0 : ldo W q.1 (arS B LG (q.1 3)) 0 n [] = M0 at hp hld hlds
        generalize hroot : (nI (if n = 0 then 0 else arS B LG (q.1 3) + tBl (fan W) n - 1)) = root at hp hn4
        have ld := m_load (c := c) (LG := LG) (st := st) (op := 0) (pl := jp) (rc := jr) (ep := q.1 1) (bt := q.1 2 + 1) (K := K) (h := h) (bf := bf) (z := z) (s := s) g2 g3 g4 hs1 (by omega) hn hT
        rw [hroot, hM0] at ld
        refine wp_aload_n hX dX5_recover_42 rfl ?_
        refine wp_aload_n hX dX5_recover_43 rfl ?_
        refine wp_get hX dX5_recover_44 flX5_8 rfl rfl ?_
        refine wp_iconst (v := 1) hX dX5_recover_47 ic_1 ?_
        refine wp_iald hX dX5_recover_48 rfl (vp_in_nI (n := 1) (by decide) (by decide)) ?_
        refine wp_put hX dX5_recover_49 fwX5_85 rfl (Nat.le_of_ble_eq_true rfl) rfl rfl ?_
        refine wp_aload_n hX dX5_recover_52 rfl ?_
        refine wp_aload_n hX dX5_recover_53 rfl ?_
        refine wp_get hX dX5_recover_54 flX5_8 rfl rfl ?_
        refine wp_iconst (v := 2) hX dX5_recover_57 ic_2 ?_
        refine wp_iald hX dX5_recover_58 rfl (vp_in_nI (n := 2) (by decide) (by decide)) ?_
        refine wp_iconst (v := 1) hX dX5_recover_59 ic_1 ?_
        refine wp_iadd hX dX5_recover_60 ?_
        refine wp_put hX dX5_recover_61 fwX5_88 rfl (Nat.le_of_ble_eq_true rfl) rfl rfl ?_
        refine wp_aload_n hX dX5_recover_64 rfl ?_
        refine wp_aload_n hX dX5_recover_65 rfl ?_
        refine wp_get hX dX5_recover_66 flX5_8 rfl rfl ?_
        refine wp_iconst (v := 4) hX dX5_recover_69 ic_4 ?_
        refine wp_iald hX dX5_recover_70 rfl (vp_in_nI (n := 4) (by decide) (by decide)) ?_
        refine wp_ti (y := (root)) (hn4) ?_
        refine wp_aload_n hX dX5_recover_71 rfl ?_
        refine wp_get hX dX5_recover_72 flX5_8 rfl rfl ?_
        refine wp_iconst (v := 5) hX dX5_recover_75 ic_5 ?_
        refine wp_iald hX dX5_recover_76 rfl (vp_in_nI (n := 5) (by decide) (by decide)) ?_
        refine wp_ti (y := nI n) hn5 ?_
        refine wp_cv2p hX dX5_recover_77 mlX5_140 ⟨Nat.le_of_ble_eq_true rfl, Nat.le_of_ble_eq_true rfl⟩ (ld) rfl (Nat.le_of_ble_eq_true rfl) ?_
        rintro r1 σ1 ⟨K1, rfl, hk1, rfl⟩
        have finish : ∀ (pl rc : Nat) (m : PM) (K2 : MP) (x1 : Option Value), rpl W LG q.1 (q.1 1) LG 0 0 M0 = (pl, rc, m) → KAm m K2 → Wp X Post 141 [some (.ref 15), x1] [] (wM c B W LG q st 0 pl rc (q.1 1) (q.1 2 + 1) K2 h bf z s) := by
          intro pl rc m K2 x1 hr hk2
          rw [hr] at hp
          refine wp_aload_n hX dX5_recover_141 rfl ?_
          refine wp_aload_n hX dX5_recover_142 rfl ?_
          refine wp_get hX dX5_recover_143 flX5_85 rfl rfl ?_
          refine wp_aload_n hX dX5_recover_146 rfl ?_
          refine wp_get hX dX5_recover_147 flX5_88 rfl rfl ?_
          refine wp_aload_n hX dX5_recover_150 rfl ?_
          refine wp_get hX dX5_recover_151 flX5_8 rfl rfl ?_
          refine wp_iconst (v := 3) hX dX5_recover_154 ic_3 ?_
          refine wp_iald hX dX5_recover_155 rfl (vp_in_nI (n := 3) (by decide) (by decide)) ?_
          refine wp_aload_n hX dX5_recover_156 rfl ?_
          refine wp_get hX dX5_recover_157 flX5_8 rfl rfl ?_
          refine wp_iconst (v := 4) hX dX5_recover_160 ic_4 ?_
          refine wp_iald hX dX5_recover_161 rfl (vp_in_nI (n := 4) (by decide) (by decide)) ?_
          refine wp_ti (y := (root)) (hn4) ?_
          refine wp_aload_n hX dX5_recover_162 rfl ?_
          refine wp_get hX dX5_recover_163 flX5_8 rfl rfl ?_
          refine wp_iconst (v := 5) hX dX5_recover_166 ic_5 ?_
          refine wp_iald hX dX5_recover_167 rfl (vp_in_nI (n := 5) (by decide) (by decide)) ?_
          refine wp_ti (y := (nI n)) (hn5) ?_
          refine wp_cv5p hX dX5_recover_168 mlX5_81 ⟨Nat.le_of_ble_eq_true rfl, Nat.le_of_ble_eq_true rfl⟩ (m_writeHead g2 (by omega) g3 g4) rfl (Nat.le_of_ble_eq_true rfl) ?_
          rw [show (3 : Int32).toNatClampNeg = 3 from rfl]
          rintro r1 σ1 ⟨bf1, rfl, rfl⟩
          have hz := wr1_hd (W := W) (q := q) (e := q.1 1) (b1 := q.1 2 + 1) (a := q.1 3) (r := root) (n := nI n) g3
          generalize wr1 W q 0 (hdB (q.1 1) (q.1 2 + 1) (q.1 3) root (nI n)) = zz at hp hz ⊢
          obtain ⟨zb, z2⟩ := zz
          cases zb with
          | false =>
            rw [if_pos rfl] at hp
            refine wp_if_ne (tgt := 176) hX dX5_recover_171 (by decide) (fun c_ => absurd (rfl) c_) (fun _ => ?_)
            refine wp_iconst (v := (-1)) hX dX5_recover_174 ic_m1 ?_
            refine wp_iret hX dX5_recover_175 rfl rfl ?_
            exact hp _ _ ⟨rfl, 0, pl, rc, q.1 1, q.1 2 + 1, K2, h, bf1, z, s, rfl, hh, fun y => absurd y (by decide)⟩
          | true =>
            rw [if_neg (show ¬ true = false by decide)] at hp
            obtain ⟨y0, y1, y2, y3, y4, y5⟩ := hz rfl
            refine wp_if_ne (tgt := 176) hX dX5_recover_171 (by decide) (fun _ => ?_) (fun c_ => absurd c_ (show ¬ b2i true = 0 by decide))
            refine wp_aload_n hX dX5_recover_176 rfl ?_
            refine wp_iconst (v := 2) hX dX5_recover_177 ic_2 ?_
            refine wp_put hX dX5_recover_178 fwX5_53 rfl (Nat.le_of_ble_eq_true rfl) rfl rfl ?_
            refine wp_iconst (v := 0) hX dX5_recover_181 ic_0 ?_
            refine wp_iret hX dX5_recover_182 rfl rfl ?_
            exact hp _ _ ⟨rfl, 0, pl, rc, q.1 1, q.1 2 + 1, K2, h, bf1, z, s, rfl, hh, fun _ => ⟨rfl, rfl, y1.symm, y2.symm, hk2, rfl⟩⟩
        have loop : ∀ (t pl rc : Nat) (m : PM) (K2 : MP), LG ≤ t + pl → pl ≤ LG → rc ≤ pl → Srt m → 3 * m.length + (W - 5) * LG ≤ 26100 + (W - 5) * pl → rpl W LG q.1 (q.1 1) t pl rc m = rpl W LG q.1 (q.1 1) LG 0 0 M0 → KAm (if whl W LG q.1 (1 + pl) (q.1 1) (nI (rc + 1)) = 0 then m else rdo W q.1 (1 + pl) 0 (q.1 (W * (1 + pl) + 4)).toNatClampNeg m) K2 → Wp X Post 97 [some (.ref 15), some (.int (nI (whl W LG q.1 (1 + pl) (q.1 1) (nI (rc + 1)))))] [] (wM c B W LG q st 0 pl rc (q.1 1) (q.1 2 + 1) K2 h bf z s) := by
          intro t
          induction t with
          | zero =>
            intro pl rc m K2 h1 h2 h3 h4 h5 h6 h7
            have hw0 : whl W LG q.1 (1 + pl) (q.1 1) (nI (rc + 1)) = 0 := by
              unfold whl
              rw [if_pos (by omega)]
            rw [hw0] at h7 ⊢
            rw [if_pos rfl] at h7
            refine wp_iload_n hX dX5_recover_97 rfl ?_
            refine wp_if_le (tgt := 141) hX dX5_recover_98 (by decide) (fun _ => ?_) (fun c_ => absurd (by decide) c_)
            exact finish pl rc m K2 _ h6.symm h7
          | succ t ih =>
            intro pl rc m K2 h1 h2 h3 h4 h5 h6 h7
            rw [rpl_s] at h6
            by_cases hw0 : whl W LG q.1 (1 + pl) (q.1 1) (nI (rc + 1)) = 0
            · rw [if_pos hw0] at h6 h7
              rw [hw0]
              refine wp_iload_n hX dX5_recover_97 rfl ?_
              refine wp_if_le (tgt := 141) hX dX5_recover_98 (by decide) (fun _ => ?_) (fun c_ => absurd (by decide) c_)
              exact finish pl rc m K2 _ h6.symm h7
            · rw [if_neg hw0] at h6 h7
              obtain ⟨k1, mm, k2, k3, k4, k5, k6⟩ := whl_pos (by omega) g4 g6 hw0
              have k7 : 1 + 3 * mm ≤ rB W mm * (W - 5) := by
                unfold rB
                rw [if_neg (by omega)]
                exact cdv_mul (by omega)
              have k10 : 1 ≤ rB W mm := Nat.pos_of_ne_zero (fun y => hw0 (by rw [k5]; exact y))
              rw [k5] at h6 ⊢
              rw [k2, nI_clamp (by omega)] at h6 h7
              have k8 : (W - 5) * (pl + rB W mm) = (W - 5) * pl + rB W mm * (W - 5) := by rw [Nat.mul_add, Nat.mul_comm (W - 5) (rB W mm)]
              have k9 := rdo_len (W := W) (D := q.1) (b := 1 + pl) mm 0 h4
              have k11 := rdo_srt (W := W) (D := q.1) (b := 1 + pl) mm 0 h4
              have k12 : (LG + 1 - (1 + (pl + rB W mm))) * (W - 5) = (W - 5) * LG - (W - 5) * (pl + rB W mm) := by rw [Nat.mul_comm, ← Nat.mul_sub]; congr 1; omega
              have k13 : (W - 5) * (pl + rB W mm) ≤ (W - 5) * LG := Nat.mul_le_mul (Nat.le_refl _) (by omega)
              refine wp_iload_n hX dX5_recover_97 rfl ?_
              refine wp_if_le (tgt := 141) hX dX5_recover_98 (by decide) (fun c_ => absurd c_ (nI_nle k10 (by omega))) (fun _ => ?_)
              refine wp_aload_n hX dX5_recover_101 rfl ?_
              refine wp_dup hX dX5_recover_102 rfl ?_
              refine wp_get hX dX5_recover_103 flX5_91 rfl rfl ?_
              refine wp_iload_n hX dX5_recover_106 rfl ?_
              refine wp_iadd hX dX5_recover_107 ?_
              refine wp_ti (y := (nI (pl + rB W mm))) (nI_add _ _) ?_
              refine wp_put hX dX5_recover_108 fwX5_91 rfl (Nat.le_of_ble_eq_true rfl) rfl rfl ?_
              refine wp_aload_n hX dX5_recover_111 rfl ?_
              refine wp_dup hX dX5_recover_112 rfl ?_
              refine wp_get hX dX5_recover_113 flX5_94 rfl rfl ?_
              refine wp_iconst (v := 1) hX dX5_recover_116 ic_1 ?_
              refine wp_iadd hX dX5_recover_117 ?_
              refine wp_ti (y := (nI (rc + 1))) (nI_1 _) ?_
              refine wp_put hX dX5_recover_118 fwX5_94 rfl (Nat.le_of_ble_eq_true rfl) rfl rfl ?_
              refine wp_aload_n hX dX5_recover_121 rfl ?_
              refine wp_iconst (v := 1) hX dX5_recover_122 ic_1 ?_
              refine wp_aload_n hX dX5_recover_123 rfl ?_
              refine wp_get hX dX5_recover_124 flX5_91 rfl rfl ?_
              refine wp_iadd hX dX5_recover_127 ?_
              refine wp_ti (y := (nI (1 + (pl + rB W mm)))) (nI_add 1 _) ?_
              refine wp_aload_n hX dX5_recover_128 rfl ?_
              refine wp_get hX dX5_recover_129 flX5_94 rfl rfl ?_
              refine wp_iconst (v := 1) hX dX5_recover_132 ic_1 ?_
              refine wp_iadd hX dX5_recover_133 ?_
              refine wp_eqW (σ1 := wM c B W LG q st 0 (pl + rB W mm) (rc + 1) (q.1 1) (q.1 2 + 1) K2 h bf z s) rfl ?_
              refine wp_ti (y := nI (rc + 1 + 1)) (nI_1 (rc + 1)) ?_
              refine wp_cv2p hX dX5_recover_134 mlX5_143 ⟨Nat.le_of_ble_eq_true rfl, Nat.le_of_ble_eq_true rfl⟩ (m_redo g2 (by omega) g4 (by omega) (by omega) g6 h7 k11 (by omega)) rfl (Nat.le_of_ble_eq_true rfl) ?_
              rintro r1 σ1 ⟨K3, rfl, hk3, rfl⟩
              refine wp_istore_n hX dX5_recover_137 (Nat.le_of_ble_eq_true rfl) rfl ?_
              refine wp_goto (tgt := 97) hX dX5_recover_138 (by decide) ?_
              exact ih (pl + rB W mm) (rc + 1) _ K3 (by omega) (by omega) (by omega) k11 (by omega) h6 hk3
        have hl0 : (LG + 1 - 1) * (W - 5) = (W - 5) * LG := by rw [Nat.add_sub_cancel, Nat.mul_comm]
        refine wp_aload_n hX dX5_recover_80 rfl ?_
        refine wp_iconst (v := 0) hX dX5_recover_81 ic_0 ?_
        refine wp_put hX dX5_recover_82 fwX5_91 rfl (Nat.le_of_ble_eq_true rfl) rfl rfl ?_
        refine wp_aload_n hX dX5_recover_85 rfl ?_
        refine wp_iconst (v := 0) hX dX5_recover_86 ic_0 ?_
        refine wp_put hX dX5_recover_87 fwX5_94 rfl (Nat.le_of_ble_eq_true rfl) rfl rfl ?_
        refine wp_aload_n hX dX5_recover_90 rfl ?_
        refine wp_iconst (v := 1) hX dX5_recover_91 ic_1 ?_
        refine wp_iconst (v := 1) hX dX5_recover_92 ic_1 ?_
        refine wp_cv2p hX dX5_recover_93 mlX5_143 ⟨Nat.le_of_ble_eq_true rfl, Nat.le_of_ble_eq_true rfl⟩ (m_redo (b := 1) g2 (by omega) g4 (by omega) (by omega) g6 hk1 hlds (by omega)) rfl (Nat.le_of_ble_eq_true rfl) ?_
        rintro r1 σ1 ⟨K3, rfl, hk3, rfl⟩
        refine wp_istore_n hX dX5_recover_96 (Nat.le_of_ble_eq_true rfl) rfl ?_
        exact loop LG 0 0 M0 K3 (by omega) (by omega) (by omega) hlds (by omega) rfl hk3
      · exact bad (fun y => f y.2)
    · rw [decide_eq_false hg]
      refine wp_if_eq (tgt := 34) hX dX5_recover_20 (by decide) (fun _ => ?_) (fun c_ => absurd (rfl) c_)
      exact bad (fun y => hg y.1)
  · rw [if_pos d] at hp
    refine wp_bipush (v := (-7)) hX dX5_recover_7 bp_m7 ?_
    refine wp_iret hX dX5_recover_9 rfl rfl ?_
    exact hp _ _ ⟨rfl, hR0⟩
end MP
