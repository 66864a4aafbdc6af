/-! the class's cells and the reference's in one world -/
theorem jX {A B A' : Ab} {τ σ σ1 : aW} {c : Nat → aE} (h1 : RX A τ σ) (h2 : RM B c σ) (h3 : RX A' τ σ1) : ∃ c1, RM B c1 σ1 := by
  obtain ⟨st, ⟨B0, W0, LG0⟩, q, pl, rc, M, tx⟩ := A
  obtain ⟨st1, ⟨B1, W1, LG1⟩, q1, pl1, rc1, M1, tx1⟩ := B
  obtain ⟨st2, ⟨B2, W2, LG2⟩, q2, pl2, rc2, M2, tx2⟩ := A'
  obtain ⟨it, pf, jp, jr, tf, C, S, H, rfl, -⟩ := h1
  obtain ⟨op, jp1, jr1, ep, bt, K, h, bf, z, s, e, hh⟩ := h2
  obtain ⟨it2, pf2, jp2, jr2, tf2, C2, S2, H2, rfl, -⟩ := h3
  have e1 : τ = List.drop 15 (wM c B1 W1 LG1 q1 st1 op jp1 jr1 ep bt K h bf z s) := congrArg (List.drop 15) e
  subst e1
  refine ⟨fun k => ((wX st2 it2 B2 W2 q2 pf2 LG2 jp2 jr2 tf2 (AR B2 LG2) C2 S2 H2 [])[k]?).getD (ear 0 (fun _ => 0)), op, jp1, jr1, ep, bt, K, h, bf, z, s, rfl, hh⟩
theorem jM {A B B' : Ab} {τ σ σ1 : aW} {c : Nat → aE} (h1 : RX A τ σ) (h2 : RM B c σ) (h3 : RM B' c σ1) : ∃ τ1, RX A τ1 σ1 := by
  obtain ⟨st, ⟨B0, W0, LG0⟩, q, pl, rc, M, tx⟩ := A
  obtain ⟨st1, ⟨B1, W1, LG1⟩, q1, pl1, rc1, M1, tx1⟩ := B
  obtain ⟨st2, ⟨B2, W2, LG2⟩, q2, pl2, rc2, M2, tx2⟩ := B'
  obtain ⟨it, pf, jp, jr, tf, C, S, H, rfl, hX⟩ := h1
  obtain ⟨op, jp1, jr1, ep, bt, K, h, bf, z, s, e, -⟩ := h2
  obtain ⟨op2, jp2, jr2, ep2, bt2, K2, hh2, bf2, z2, s2, rfl, -⟩ := h3
  have e1 : List.take 15 (wX st it B0 W0 q pf LG0 jp jr tf (AR B0 LG0) C S H τ) = List.take 15 (wM c B1 W1 LG1 q1 st1 op jp1 jr1 ep bt K h bf z s) := congrArg (List.take 15) e
  have e2 : wM c B2 W2 LG2 q2 st2 op2 jp2 jr2 ep2 bt2 K2 hh2 bf2 z2 s2 = List.take 15 (wM c B1 W1 LG1 q1 st1 op jp1 jr1 ep bt K h bf z s) ++ List.drop 15 (wM c B2 W2 LG2 q2 st2 op2 jp2 jr2 ep2 bt2 K2 hh2 bf2 z2 s2) := rfl
  rw [← e1] at e2
  exact ⟨List.drop 15 (wM c B2 W2 LG2 q2 st2 op2 jp2 jr2 ep2 bt2 K2 hh2 bf2 z2 s2), it, pf, jp, jr, tf, C, S, H, e2, hX⟩
theorem RM_len {A : Ab} {c : Nat → aE} {σ : aW} (h : RM A c σ) : σ.length = 26 := by
  obtain ⟨st, ⟨B0, W0, LG0⟩, q, pl, rc, M, tx⟩ := A
  obtain ⟨op, jp1, jr1, ep, bt, K, h, bf, z, s, rfl, -⟩ := h
  rfl
theorem RX_0 {A : Ab} {τ σ : aW} (h : RX A τ σ) : ∃ fs, σ[0]? = some (.inr (4, fs)) := by
  obtain ⟨st, ⟨B0, W0, LG0⟩, q, pl, rc, M, tx⟩ := A
  obtain ⟨it, pf, jp, jr, tf, C, S, H, rfl, -⟩ := h
  exact ⟨_, rfl⟩
theorem RM_15 {A : Ab} {c : Nat → aE} {σ : aW} (h : RM A c σ) : ∃ fs, σ[15]? = some (.inr (5, fs)) := by
  obtain ⟨st, ⟨B0, W0, LG0⟩, q, pl, rc, M, tx⟩ := A
  obtain ⟨op, jp1, jr1, ep, bt, K, h, bf, z, s, rfl, -⟩ := h
  exact ⟨_, rfl⟩
theorem cmp_self (x : Int64) : lg_cmp x x = 0 := by
  unfold lg_cmp
  rw [if_neg (show ¬ x > x from fun h => by have := Int64.lt_iff_toInt_lt.mp h; omega), if_pos rfl]
section LW
variable {X : CQ} {N cs sl i : Nat} {xs : Nat → Int32} {A : Ab} {τ σ : aW} {c : Nat → aE}
set_option maxHeartbeats 4000000 in
theorem lw_c0 (hX : Gq X cL_law RL 4 room_1 0) (hB : SX X N xs) (hN : N ≤ 2048) (hc : cs ≤ room_1.cells ∧ sl ≤ room_1.slots) (hi : i + 4 ≤ N) (hA : AInv A) (hR : RX A τ σ) (hM : RM A c σ) (hn : ∀ (A : Ab) (τ : aW) (c : Nat → aE) (σ : aW), AInv A → RX A τ σ → RM A c σ → Wq X cs sl 515 [some (.ref 1000), some (.ref 0), some (.ref 15), some (.int (nI i))] [] σ) : Wq X cs sl 120 [some (.ref 1000), some (.ref 0), some (.ref 15), some (.int (nI i))] [] σ := by
  obtain ⟨fs, hq⟩ := RX_0 hR
  refine wq_aload_n hX dL_law_120 rfl ?_
  refine wq_aload_n hX dL_law_121 rfl ?_
  refine wq_iload_n hX dL_law_122 rfl ?_
  refine wq_iconst (v := 1) hX dL_law_123 ic_1 ?_
  refine wq_iadd hX dL_law_124 ?_
  refine wq_ti (y := nI (i + 1)) (nI_add i 1) ?_
  refine wq_sld hX dL_law_125 hB (vp_in_nI (by omega) (by omega)) ?_
  refine wq_aload_n hX dL_law_126 rfl ?_
  refine wq_iload_n hX dL_law_127 rfl ?_
  refine wq_iconst (v := 2) hX dL_law_128 ic_2 ?_
  refine wq_iadd hX dL_law_129 ?_
  refine wq_ti (y := nI (i + 2)) (nI_add i 2) ?_
  refine wq_sld hX dL_law_130 hB (vp_in_nI (by omega) (by omega)) ?_
  refine wq_aload_n hX dL_law_131 rfl ?_
  refine wq_iload_n hX dL_law_132 rfl ?_
  refine wq_iconst (v := 3) hX dL_law_133 ic_3 ?_
  refine wq_iadd hX dL_law_134 ?_
  refine wq_ti (y := nI (i + 3)) (nI_add i 3) ?_
  refine wq_sld hX dL_law_135 hB (vp_in_nI (by omega) (by omega)) ?_
  refine wq_cv3 hX dL_law_136 mlL_13 ⟨(Nat.le_of_ble_eq_true rfl), (Nat.le_of_ble_eq_true rfl)⟩ (x_disk hA hR) hq (by rw [RM_len hM]; decide) (Nat.le_of_ble_eq_true rfl) hc ?_
  rintro r σ1 ⟨rfl, hR1⟩ -
  obtain ⟨c1, hM1⟩ := jX hR hM hR1
  obtain ⟨fs1, hq1⟩ := RM_15 hM1
  refine wq_aload_n hX dL_law_139 rfl ?_
  refine wq_aload_n hX dL_law_140 rfl ?_
  refine wq_iload_n hX dL_law_141 rfl ?_
  refine wq_iconst (v := 1) hX dL_law_142 ic_1 ?_
  refine wq_iadd hX dL_law_143 ?_
  refine wq_ti (y := nI (i + 1)) (nI_add i 1) ?_
  refine wq_sld hX dL_law_144 hB (vp_in_nI (by omega) (by omega)) ?_
  refine wq_aload_n hX dL_law_145 rfl ?_
  refine wq_iload_n hX dL_law_146 rfl ?_
  refine wq_iconst (v := 2) hX dL_law_147 ic_2 ?_
  refine wq_iadd hX dL_law_148 ?_
  refine wq_ti (y := nI (i + 2)) (nI_add i 2) ?_
  refine wq_sld hX dL_law_149 hB (vp_in_nI (by omega) (by omega)) ?_
  refine wq_aload_n hX dL_law_150 rfl ?_
  refine wq_iload_n hX dL_law_151 rfl ?_
  refine wq_iconst (v := 3) hX dL_law_152 ic_3 ?_
  refine wq_iadd hX dL_law_153 ?_
  refine wq_ti (y := nI (i + 3)) (nI_add i 3) ?_
  refine wq_sld hX dL_law_154 hB (vp_in_nI (by omega) (by omega)) ?_
  refine wq_cv3 hX dL_law_155 mlL_17 ⟨(Nat.le_of_ble_eq_true rfl), (Nat.le_of_ble_eq_true rfl)⟩ (m_disk hA hM1) hq1 (by rw [RM_len hM1]; decide) (Nat.le_of_ble_eq_true rfl) hc ?_
  rintro r σ2 ⟨rfl, hM2⟩ -
  obtain ⟨τ2, hR2⟩ := jM hR1 hM1 hM2
  refine wq_icmp_eq (tgt := 515) hX dL_law_158 (by decide) (fun _ => ?_) (fun h => absurd rfl h)
  exact hn _ _ _ _ (ai_disk hA _ _ _) hR2 hM2
set_option maxHeartbeats 4000000 in
theorem lw_c1 (hX : Gq X cL_law RL 4 room_1 0) (hB : SX X N xs) (hN : N ≤ 2048) (hc : cs ≤ room_1.cells ∧ sl ≤ room_1.slots) (hi : i + 4 ≤ N) (hA : AInv A) (hR : RX A τ σ) (hM : RM A c σ) (hn : ∀ (A : Ab) (τ : aW) (c : Nat → aE) (σ : aW), AInv A → RX A τ σ → RM A c σ → Wq X cs sl 515 [some (.ref 1000), some (.ref 0), some (.ref 15), some (.int (nI i))] [] σ) : Wq X cs sl 163 [some (.ref 1000), some (.ref 0), some (.ref 15), some (.int (nI i))] [] σ := by
  obtain ⟨fs, hq⟩ := RX_0 hR
  refine wq_aload_n hX dL_law_163 rfl ?_
  refine wq_cv0 hX dL_law_164 mlL_18 ⟨(Nat.le_of_ble_eq_true rfl), (Nat.le_of_ble_eq_true rfl)⟩ (x_format hA hR) hq (by rw [RM_len hM]; decide) (Nat.le_of_ble_eq_true rfl) hc ?_
  rintro r σ1 ⟨rfl, hR1⟩ -
  obtain ⟨c1, hM1⟩ := jX hR hM hR1
  obtain ⟨fs1, hq1⟩ := RM_15 hM1
  refine wq_aload_n hX dL_law_167 rfl ?_
  refine wq_cv0 hX dL_law_168 mlL_22 ⟨(Nat.le_of_ble_eq_true rfl), (Nat.le_of_ble_eq_true rfl)⟩ (m_format hA hM1) hq1 (by rw [RM_len hM1]; decide) (Nat.le_of_ble_eq_true rfl) hc ?_
  rintro r σ2 ⟨rfl, hM2⟩ -
  obtain ⟨τ2, hR2⟩ := jM hR1 hM1 hM2
  refine wq_icmp_eq (tgt := 515) hX dL_law_171 (by decide) (fun _ => ?_) (fun h => absurd rfl h)
  exact hn _ _ _ _ (ai_format hA) hR2 hM2
set_option maxHeartbeats 4000000 in
theorem lw_c2 (hX : Gq X cL_law RL 4 room_1 0) (hB : SX X N xs) (hN : N ≤ 2048) (hc : cs ≤ room_1.cells ∧ sl ≤ room_1.slots) (hi : i + 4 ≤ N) (hA : AInv A) (hR : RX A τ σ) (hM : RM A c σ) (hn : ∀ (A : Ab) (τ : aW) (c : Nat → aE) (σ : aW), AInv A → RX A τ σ → RM A c σ → Wq X cs sl 515 [some (.ref 1000), some (.ref 0), some (.ref 15), some (.int (nI i))] [] σ) : Wq X cs sl 176 [some (.ref 1000), some (.ref 0), some (.ref 15), some (.int (nI i))] [] σ := by
  obtain ⟨fs, hq⟩ := RX_0 hR
  refine wq_aload_n hX dL_law_176 rfl ?_
  refine wq_aload_n hX dL_law_177 rfl ?_
  refine wq_iload_n hX dL_law_178 rfl ?_
  refine wq_iconst (v := 1) hX dL_law_179 ic_1 ?_
  refine wq_iadd hX dL_law_180 ?_
  refine wq_ti (y := nI (i + 1)) (nI_add i 1) ?_
  refine wq_sld hX dL_law_181 hB (vp_in_nI (by omega) (by omega)) ?_
  refine wq_cv1 hX dL_law_182 mlL_23 ⟨(Nat.le_of_ble_eq_true rfl), (Nat.le_of_ble_eq_true rfl)⟩ (x_power hR) hq (by rw [RM_len hM]; decide) (Nat.le_of_ble_eq_true rfl) hc ?_
  rintro r σ1 ⟨rfl, hR1⟩ -
  obtain ⟨c1, hM1⟩ := jX hR hM hR1
  obtain ⟨fs1, hq1⟩ := RM_15 hM1
  refine wq_aload_n hX dL_law_185 rfl ?_
  refine wq_aload_n hX dL_law_186 rfl ?_
  refine wq_iload_n hX dL_law_187 rfl ?_
  refine wq_iconst (v := 1) hX dL_law_188 ic_1 ?_
  refine wq_iadd hX dL_law_189 ?_
  refine wq_ti (y := nI (i + 1)) (nI_add i 1) ?_
  refine wq_sld hX dL_law_190 hB (vp_in_nI (by omega) (by omega)) ?_
  refine wq_cv1 hX dL_law_191 mlL_27 ⟨(Nat.le_of_ble_eq_true rfl), (Nat.le_of_ble_eq_true rfl)⟩ (m_power hM1) hq1 (by rw [RM_len hM1]; decide) (Nat.le_of_ble_eq_true rfl) hc ?_
  rintro r σ2 ⟨rfl, hM2⟩ -
  obtain ⟨τ2, hR2⟩ := jM hR1 hM1 hM2
  refine wq_icmp_eq (tgt := 515) hX dL_law_194 (by decide) (fun _ => ?_) (fun h => absurd rfl h)
  exact hn _ _ _ _ (ai_power hA _) hR2 hM2
set_option maxHeartbeats 4000000 in
theorem lw_c3 (hX : Gq X cL_law RL 4 room_1 0) (hB : SX X N xs) (hN : N ≤ 2048) (hc : cs ≤ room_1.cells ∧ sl ≤ room_1.slots) (hi : i + 4 ≤ N) (hA : AInv A) (hR : RX A τ σ) (hM : RM A c σ) (hn : ∀ (A : Ab) (τ : aW) (c : Nat → aE) (σ : aW), AInv A → RX A τ σ → RM A c σ → Wq X cs sl 515 [some (.ref 1000), some (.ref 0), some (.ref 15), some (.int (nI i))] [] σ) : Wq X cs sl 199 [some (.ref 1000), some (.ref 0), some (.ref 15), some (.int (nI i))] [] σ := by
  obtain ⟨fs, hq⟩ := RX_0 hR
  refine wq_aload_n hX dL_law_199 rfl ?_
  refine wq_cv0 hX dL_law_200 mlL_28 ⟨(Nat.le_of_ble_eq_true rfl), (Nat.le_of_ble_eq_true rfl)⟩ (x_recover hA hR) hq (by rw [RM_len hM]; decide) (Nat.le_of_ble_eq_true rfl) hc ?_
  rintro r σ1 ⟨rfl, hR1⟩ -
  obtain ⟨c1, hM1⟩ := jX hR hM hR1
  obtain ⟨fs1, hq1⟩ := RM_15 hM1
  refine wq_aload_n hX dL_law_203 rfl ?_
  refine wq_cv0 hX dL_law_204 mlL_31 ⟨(Nat.le_of_ble_eq_true rfl), (Nat.le_of_ble_eq_true rfl)⟩ (m_recover hA hM1) hq1 (by rw [RM_len hM1]; decide) (Nat.le_of_ble_eq_true rfl) hc ?_
  rintro r σ2 ⟨rfl, hM2⟩ -
  obtain ⟨τ2, hR2⟩ := jM hR1 hM1 hM2
  refine wq_icmp_eq (tgt := 515) hX dL_law_207 (by decide) (fun _ => ?_) (fun h => absurd rfl h)
  exact hn _ _ _ _ (ai_recover hA) hR2 hM2
set_option maxHeartbeats 4000000 in
theorem lw_c4 (hX : Gq X cL_law RL 4 room_1 0) (hB : SX X N xs) (hN : N ≤ 2048) (hc : cs ≤ room_1.cells ∧ sl ≤ room_1.slots) (hi : i + 4 ≤ N) (hA : AInv A) (hR : RX A τ σ) (hM : RM A c σ) (hn : ∀ (A : Ab) (τ : aW) (c : Nat → aE) (σ : aW), AInv A → RX A τ σ → RM A c σ → Wq X cs sl 515 [some (.ref 1000), some (.ref 0), some (.ref 15), some (.int (nI i))] [] σ) : Wq X cs sl 212 [some (.ref 1000), some (.ref 0), some (.ref 15), some (.int (nI i))] [] σ := by
  obtain ⟨fs, hq⟩ := RX_0 hR
  refine wq_aload_n hX dL_law_212 rfl ?_
  refine wq_cv0 hX dL_law_213 mlL_32 ⟨(Nat.le_of_ble_eq_true rfl), (Nat.le_of_ble_eq_true rfl)⟩ (x_begin hR) hq (by rw [RM_len hM]; decide) (Nat.le_of_ble_eq_true rfl) hc ?_
  rintro r σ1 ⟨rfl, hR1⟩ -
  obtain ⟨c1, hM1⟩ := jX hR hM hR1
  obtain ⟨fs1, hq1⟩ := RM_15 hM1
  refine wq_aload_n hX dL_law_216 rfl ?_
  refine wq_cv0 hX dL_law_217 mlL_35 ⟨(Nat.le_of_ble_eq_true rfl), (Nat.le_of_ble_eq_true rfl)⟩ (m_begin hA hM1) hq1 (by rw [RM_len hM1]; decide) (Nat.le_of_ble_eq_true rfl) hc ?_
  rintro r σ2 ⟨rfl, hM2⟩ -
  obtain ⟨τ2, hR2⟩ := jM hR1 hM1 hM2
  refine wq_icmp_eq (tgt := 515) hX dL_law_220 (by decide) (fun _ => ?_) (fun h => absurd rfl h)
  exact hn _ _ _ _ (ai_begin hA) hR2 hM2
set_option maxHeartbeats 4000000 in
theorem lw_c5 (hX : Gq X cL_law RL 4 room_1 0) (hB : SX X N xs) (hN : N ≤ 2048) (hc : cs ≤ room_1.cells ∧ sl ≤ room_1.slots) (hi : i + 4 ≤ N) (hA : AInv A) (hR : RX A τ σ) (hM : RM A c σ) (hn : ∀ (A : Ab) (τ : aW) (c : Nat → aE) (σ : aW), AInv A → RX A τ σ → RM A c σ → Wq X cs sl 515 [some (.ref 1000), some (.ref 0), some (.ref 15), some (.int (nI i))] [] σ) : Wq X cs sl 225 [some (.ref 1000), some (.ref 0), some (.ref 15), some (.int (nI i))] [] σ := by
  obtain ⟨fs, hq⟩ := RX_0 hR
  refine wq_aload_n hX dL_law_225 rfl ?_
  refine wq_aload_n hX dL_law_226 rfl ?_
  refine wq_iload_n hX dL_law_227 rfl ?_
  refine wq_iconst (v := 1) hX dL_law_228 ic_1 ?_
  refine wq_iadd hX dL_law_229 ?_
  refine wq_ti (y := nI (i + 1)) (nI_add i 1) ?_
  refine wq_sld hX dL_law_230 hB (vp_in_nI (by omega) (by omega)) ?_
  refine wq_aload_n hX dL_law_231 rfl ?_
  refine wq_iload_n hX dL_law_232 rfl ?_
  refine wq_iconst (v := 2) hX dL_law_233 ic_2 ?_
  refine wq_iadd hX dL_law_234 ?_
  refine wq_ti (y := nI (i + 2)) (nI_add i 2) ?_
  refine wq_sld hX dL_law_235 hB (vp_in_nI (by omega) (by omega)) ?_
  refine wq_cv2 hX dL_law_236 mlL_36 ⟨(Nat.le_of_ble_eq_true rfl), (Nat.le_of_ble_eq_true rfl)⟩ (x_put hA hR) hq (by rw [RM_len hM]; decide) (Nat.le_of_ble_eq_true rfl) hc ?_
  rintro r σ1 ⟨rfl, hR1⟩ -
  obtain ⟨c1, hM1⟩ := jX hR hM hR1
  obtain ⟨fs1, hq1⟩ := RM_15 hM1
  refine wq_aload_n hX dL_law_239 rfl ?_
  refine wq_aload_n hX dL_law_240 rfl ?_
  refine wq_iload_n hX dL_law_241 rfl ?_
  refine wq_iconst (v := 1) hX dL_law_242 ic_1 ?_
  refine wq_iadd hX dL_law_243 ?_
  refine wq_ti (y := nI (i + 1)) (nI_add i 1) ?_
  refine wq_sld hX dL_law_244 hB (vp_in_nI (by omega) (by omega)) ?_
  refine wq_aload_n hX dL_law_245 rfl ?_
  refine wq_iload_n hX dL_law_246 rfl ?_
  refine wq_iconst (v := 2) hX dL_law_247 ic_2 ?_
  refine wq_iadd hX dL_law_248 ?_
  refine wq_ti (y := nI (i + 2)) (nI_add i 2) ?_
  refine wq_sld hX dL_law_249 hB (vp_in_nI (by omega) (by omega)) ?_
  refine wq_cv2 hX dL_law_250 mlL_40 ⟨(Nat.le_of_ble_eq_true rfl), (Nat.le_of_ble_eq_true rfl)⟩ (m_put hA hM1) hq1 (by rw [RM_len hM1]; decide) (Nat.le_of_ble_eq_true rfl) hc ?_
  rintro r σ2 ⟨rfl, hM2⟩ -
  obtain ⟨τ2, hR2⟩ := jM hR1 hM1 hM2
  refine wq_icmp_eq (tgt := 515) hX dL_law_253 (by decide) (fun _ => ?_) (fun h => absurd rfl h)
  exact hn _ _ _ _ (ai_put hA _ _) hR2 hM2
set_option maxHeartbeats 4000000 in
theorem lw_c6 (hX : Gq X cL_law RL 4 room_1 0) (hB : SX X N xs) (hN : N ≤ 2048) (hc : cs ≤ room_1.cells ∧ sl ≤ room_1.slots) (hi : i + 4 ≤ N) (hA : AInv A) (hR : RX A τ σ) (hM : RM A c σ) (hn : ∀ (A : Ab) (τ : aW) (c : Nat → aE) (σ : aW), AInv A → RX A τ σ → RM A c σ → Wq X cs sl 515 [some (.ref 1000), some (.ref 0), some (.ref 15), some (.int (nI i))] [] σ) : Wq X cs sl 258 [some (.ref 1000), some (.ref 0), some (.ref 15), some (.int (nI i))] [] σ := by
  obtain ⟨fs, hq⟩ := RX_0 hR
  refine wq_aload_n hX dL_law_258 rfl ?_
  refine wq_aload_n hX dL_law_259 rfl ?_
  refine wq_iload_n hX dL_law_260 rfl ?_
  refine wq_iconst (v := 1) hX dL_law_261 ic_1 ?_
  refine wq_iadd hX dL_law_262 ?_
  refine wq_ti (y := nI (i + 1)) (nI_add i 1) ?_
  refine wq_sld hX dL_law_263 hB (vp_in_nI (by omega) (by omega)) ?_
  refine wq_cv1 hX dL_law_264 mlL_41 ⟨(Nat.le_of_ble_eq_true rfl), (Nat.le_of_ble_eq_true rfl)⟩ (x_remove hA hR) hq (by rw [RM_len hM]; decide) (Nat.le_of_ble_eq_true rfl) hc ?_
  rintro r σ1 ⟨rfl, hR1⟩ -
  obtain ⟨c1, hM1⟩ := jX hR hM hR1
  obtain ⟨fs1, hq1⟩ := RM_15 hM1
  refine wq_aload_n hX dL_law_267 rfl ?_
  refine wq_aload_n hX dL_law_268 rfl ?_
  refine wq_iload_n hX dL_law_269 rfl ?_
  refine wq_iconst (v := 1) hX dL_law_270 ic_1 ?_
  refine wq_iadd hX dL_law_271 ?_
  refine wq_ti (y := nI (i + 1)) (nI_add i 1) ?_
  refine wq_sld hX dL_law_272 hB (vp_in_nI (by omega) (by omega)) ?_
  refine wq_cv1 hX dL_law_273 mlL_44 ⟨(Nat.le_of_ble_eq_true rfl), (Nat.le_of_ble_eq_true rfl)⟩ (m_remove hA hM1) hq1 (by rw [RM_len hM1]; decide) (Nat.le_of_ble_eq_true rfl) hc ?_
  rintro r σ2 ⟨rfl, hM2⟩ -
  obtain ⟨τ2, hR2⟩ := jM hR1 hM1 hM2
  refine wq_icmp_eq (tgt := 515) hX dL_law_276 (by decide) (fun _ => ?_) (fun h => absurd rfl h)
  exact hn _ _ _ _ (ai_remove hA _) hR2 hM2
set_option maxHeartbeats 4000000 in
theorem lw_c7 (hX : Gq X cL_law RL 4 room_1 0) (hB : SX X N xs) (hN : N ≤ 2048) (hc : cs ≤ room_1.cells ∧ sl ≤ room_1.slots) (hi : i + 4 ≤ N) (hA : AInv A) (hR : RX A τ σ) (hM : RM A c σ) (hn : ∀ (A : Ab) (τ : aW) (c : Nat → aE) (σ : aW), AInv A → RX A τ σ → RM A c σ → Wq X cs sl 515 [some (.ref 1000), some (.ref 0), some (.ref 15), some (.int (nI i))] [] σ) : Wq X cs sl 281 [some (.ref 1000), some (.ref 0), some (.ref 15), some (.int (nI i))] [] σ := by
  obtain ⟨fs, hq⟩ := RX_0 hR
  refine wq_aload_n hX dL_law_281 rfl ?_
  refine wq_cv0 hX dL_law_282 mlL_45 ⟨(Nat.le_of_ble_eq_true rfl), (Nat.le_of_ble_eq_true rfl)⟩ (x_commit hA hR) hq (by rw [RM_len hM]; decide) (Nat.le_of_ble_eq_true rfl) hc ?_
  rintro r σ1 ⟨rfl, hR1⟩ -
  obtain ⟨c1, hM1⟩ := jX hR hM hR1
  obtain ⟨fs1, hq1⟩ := RM_15 hM1
  refine wq_aload_n hX dL_law_285 rfl ?_
  refine wq_cv0 hX dL_law_286 mlL_48 ⟨(Nat.le_of_ble_eq_true rfl), (Nat.le_of_ble_eq_true rfl)⟩ (m_commit hA hM1) hq1 (by rw [RM_len hM1]; decide) (Nat.le_of_ble_eq_true rfl) hc ?_
  rintro r σ2 ⟨rfl, hM2⟩ -
  obtain ⟨τ2, hR2⟩ := jM hR1 hM1 hM2
  refine wq_icmp_eq (tgt := 515) hX dL_law_289 (by decide) (fun _ => ?_) (fun h => absurd rfl h)
  exact hn _ _ _ _ (ai_commit hA) hR2 hM2
set_option maxHeartbeats 4000000 in
theorem lw_c8 (hX : Gq X cL_law RL 4 room_1 0) (hB : SX X N xs) (hN : N ≤ 2048) (hc : cs ≤ room_1.cells ∧ sl ≤ room_1.slots) (hi : i + 4 ≤ N) (hA : AInv A) (hR : RX A τ σ) (hM : RM A c σ) (hn : ∀ (A : Ab) (τ : aW) (c : Nat → aE) (σ : aW), AInv A → RX A τ σ → RM A c σ → Wq X cs sl 515 [some (.ref 1000), some (.ref 0), some (.ref 15), some (.int (nI i))] [] σ) : Wq X cs sl 294 [some (.ref 1000), some (.ref 0), some (.ref 15), some (.int (nI i))] [] σ := by
  obtain ⟨fs, hq⟩ := RX_0 hR
  refine wq_aload_n hX dL_law_294 rfl ?_
  refine wq_cv0 hX dL_law_295 mlL_49 ⟨(Nat.le_of_ble_eq_true rfl), (Nat.le_of_ble_eq_true rfl)⟩ (x_abort hA hR) hq (by rw [RM_len hM]; decide) (Nat.le_of_ble_eq_true rfl) hc ?_
  rintro r σ1 ⟨rfl, hR1⟩ -
  obtain ⟨c1, hM1⟩ := jX hR hM hR1
  obtain ⟨fs1, hq1⟩ := RM_15 hM1
  refine wq_aload_n hX dL_law_298 rfl ?_
  refine wq_cv0 hX dL_law_299 mlL_52 ⟨(Nat.le_of_ble_eq_true rfl), (Nat.le_of_ble_eq_true rfl)⟩ (m_abort hA hM1) hq1 (by rw [RM_len hM1]; decide) (Nat.le_of_ble_eq_true rfl) hc ?_
  rintro r σ2 ⟨rfl, hM2⟩ -
  obtain ⟨τ2, hR2⟩ := jM hR1 hM1 hM2
  refine wq_icmp_eq (tgt := 515) hX dL_law_302 (by decide) (fun _ => ?_) (fun h => absurd rfl h)
  exact hn _ _ _ _ (ai_abort hA) hR2 hM2
set_option maxHeartbeats 4000000 in
theorem lw_c9 (hX : Gq X cL_law RL 4 room_1 0) (hB : SX X N xs) (hN : N ≤ 2048) (hc : cs ≤ room_1.cells ∧ sl ≤ room_1.slots) (hi : i + 4 ≤ N) (hA : AInv A) (hR : RX A τ σ) (hM : RM A c σ) (hn : ∀ (A : Ab) (τ : aW) (c : Nat → aE) (σ : aW), AInv A → RX A τ σ → RM A c σ → Wq X cs sl 515 [some (.ref 1000), some (.ref 0), some (.ref 15), some (.int (nI i))] [] σ) : Wq X cs sl 307 [some (.ref 1000), some (.ref 0), some (.ref 15), some (.int (nI i))] [] σ := by
  obtain ⟨fs, hq⟩ := RX_0 hR
  refine wq_aload_n hX dL_law_307 rfl ?_
  refine wq_cv0 hX dL_law_308 mlL_53 ⟨(Nat.le_of_ble_eq_true rfl), (Nat.le_of_ble_eq_true rfl)⟩ (x_checkpoint hA hR) hq (by rw [RM_len hM]; decide) (Nat.le_of_ble_eq_true rfl) hc ?_
  rintro r σ1 ⟨rfl, hR1⟩ -
  obtain ⟨c1, hM1⟩ := jX hR hM hR1
  obtain ⟨fs1, hq1⟩ := RM_15 hM1
  refine wq_aload_n hX dL_law_311 rfl ?_
  refine wq_cv0 hX dL_law_312 mlL_56 ⟨(Nat.le_of_ble_eq_true rfl), (Nat.le_of_ble_eq_true rfl)⟩ (m_checkpoint hA hM1) hq1 (by rw [RM_len hM1]; decide) (Nat.le_of_ble_eq_true rfl) hc ?_
  rintro r σ2 ⟨rfl, hM2⟩ -
  obtain ⟨τ2, hR2⟩ := jM hR1 hM1 hM2
  refine wq_icmp_eq (tgt := 515) hX dL_law_315 (by decide) (fun _ => ?_) (fun h => absurd rfl h)
  exact hn _ _ _ _ (ai_check hA) hR2 hM2
set_option maxHeartbeats 4000000 in
theorem lw_c10 (hX : Gq X cL_law RL 4 room_1 0) (hB : SX X N xs) (hN : N ≤ 2048) (hc : cs ≤ room_1.cells ∧ sl ≤ room_1.slots) (hi : i + 4 ≤ N) (hA : AInv A) (hR : RX A τ σ) (hM : RM A c σ) (hn : ∀ (A : Ab) (τ : aW) (c : Nat → aE) (σ : aW), AInv A → RX A τ σ → RM A c σ → Wq X cs sl 515 [some (.ref 1000), some (.ref 0), some (.ref 15), some (.int (nI i))] [] σ) : Wq X cs sl 320 [some (.ref 1000), some (.ref 0), some (.ref 15), some (.int (nI i))] [] σ := by
  obtain ⟨fs, hq⟩ := RX_0 hR
  refine wq_aload_n hX dL_law_320 rfl ?_
  refine wq_aload_n hX dL_law_321 rfl ?_
  refine wq_iload_n hX dL_law_322 rfl ?_
  refine wq_iconst (v := 1) hX dL_law_323 ic_1 ?_
  refine wq_iadd hX dL_law_324 ?_
  refine wq_ti (y := nI (i + 1)) (nI_add i 1) ?_
  refine wq_sld hX dL_law_325 hB (vp_in_nI (by omega) (by omega)) ?_
  refine wq_cv1 hX dL_law_326 mlL_57 ⟨(Nat.le_of_ble_eq_true rfl), (Nat.le_of_ble_eq_true rfl)⟩ (x_get hA hR) hq (by rw [RM_len hM]; decide) (Nat.le_of_ble_eq_true rfl) hc ?_
  rintro r σ1 ⟨rfl, hR1⟩ -
  obtain ⟨c1, hM1⟩ := jX hR hM hR1
  obtain ⟨fs1, hq1⟩ := RM_15 hM1
  refine wq_aload_n hX dL_law_329 rfl ?_
  refine wq_aload_n hX dL_law_330 rfl ?_
  refine wq_iload_n hX dL_law_331 rfl ?_
  refine wq_iconst (v := 1) hX dL_law_332 ic_1 ?_
  refine wq_iadd hX dL_law_333 ?_
  refine wq_ti (y := nI (i + 1)) (nI_add i 1) ?_
  refine wq_sld hX dL_law_334 hB (vp_in_nI (by omega) (by omega)) ?_
  refine wq_cv1 hX dL_law_335 mlL_60 ⟨(Nat.le_of_ble_eq_true rfl), (Nat.le_of_ble_eq_true rfl)⟩ (m_get hA hM1) hq1 (by rw [RM_len hM1]; decide) (Nat.le_of_ble_eq_true rfl) hc ?_
  rintro r σ2 ⟨rfl, hM2⟩ -
  obtain ⟨τ2, hR2⟩ := jM hR1 hM1 hM2
  refine wq_icmp_eq (tgt := 515) hX dL_law_338 (by decide) (fun _ => ?_) (fun h => absurd rfl h)
  exact hn _ _ _ _ hA hR2 hM2
set_option maxHeartbeats 4000000 in
theorem lw_c11 (hX : Gq X cL_law RL 4 room_1 0) (hB : SX X N xs) (hN : N ≤ 2048) (hc : cs ≤ room_1.cells ∧ sl ≤ room_1.slots) (hi : i + 4 ≤ N) (hA : AInv A) (hR : RX A τ σ) (hM : RM A c σ) (hn : ∀ (A : Ab) (τ : aW) (c : Nat → aE) (σ : aW), AInv A → RX A τ σ → RM A c σ → Wq X cs sl 515 [some (.ref 1000), some (.ref 0), some (.ref 15), some (.int (nI i))] [] σ) : Wq X cs sl 343 [some (.ref 1000), some (.ref 0), some (.ref 15), some (.int (nI i))] [] σ := by
  obtain ⟨fs, hq⟩ := RX_0 hR
  refine wq_aload_n hX dL_law_343 rfl ?_
  refine wq_aload_n hX dL_law_344 rfl ?_
  refine wq_iload_n hX dL_law_345 rfl ?_
  refine wq_iconst (v := 1) hX dL_law_346 ic_1 ?_
  refine wq_iadd hX dL_law_347 ?_
  refine wq_ti (y := nI (i + 1)) (nI_add i 1) ?_
  refine wq_sld hX dL_law_348 hB (vp_in_nI (by omega) (by omega)) ?_
  refine wq_cv1 hX dL_law_349 mlL_61 ⟨(Nat.le_of_ble_eq_true rfl), (Nat.le_of_ble_eq_true rfl)⟩ (x_has hA hR) hq (by rw [RM_len hM]; decide) (Nat.le_of_ble_eq_true rfl) hc ?_
  rintro r σ1 ⟨rfl, hR1⟩ -
  obtain ⟨c1, hM1⟩ := jX hR hM hR1
  obtain ⟨fs1, hq1⟩ := RM_15 hM1
  refine wq_aload_n hX dL_law_352 rfl ?_
  refine wq_aload_n hX dL_law_353 rfl ?_
  refine wq_iload_n hX dL_law_354 rfl ?_
  refine wq_iconst (v := 1) hX dL_law_355 ic_1 ?_
  refine wq_iadd hX dL_law_356 ?_
  refine wq_ti (y := nI (i + 1)) (nI_add i 1) ?_
  refine wq_sld hX dL_law_357 hB (vp_in_nI (by omega) (by omega)) ?_
  refine wq_cv1 hX dL_law_358 mlL_65 ⟨(Nat.le_of_ble_eq_true rfl), (Nat.le_of_ble_eq_true rfl)⟩ (m_has hA hM1) hq1 (by rw [RM_len hM1]; decide) (Nat.le_of_ble_eq_true rfl) hc ?_
  rintro r σ2 ⟨rfl, hM2⟩ -
  obtain ⟨τ2, hR2⟩ := jM hR1 hM1 hM2
  refine wq_icmp_eq (tgt := 515) hX dL_law_361 (by decide) (fun _ => ?_) (fun h => absurd rfl h)
  exact hn _ _ _ _ hA hR2 hM2
set_option maxHeartbeats 4000000 in
theorem lw_c12 (hX : Gq X cL_law RL 4 room_1 0) (hB : SX X N xs) (hN : N ≤ 2048) (hc : cs ≤ room_1.cells ∧ sl ≤ room_1.slots) (hi : i + 4 ≤ N) (hA : AInv A) (hR : RX A τ σ) (hM : RM A c σ) (hn : ∀ (A : Ab) (τ : aW) (c : Nat → aE) (σ : aW), AInv A → RX A τ σ → RM A c σ → Wq X cs sl 515 [some (.ref 1000), some (.ref 0), some (.ref 15), some (.int (nI i))] [] σ) : Wq X cs sl 366 [some (.ref 1000), some (.ref 0), some (.ref 15), some (.int (nI i))] [] σ := by
  obtain ⟨fs, hq⟩ := RX_0 hR
  refine wq_aload_n hX dL_law_366 rfl ?_
  refine wq_cv0 hX dL_law_367 mlL_66 ⟨(Nat.le_of_ble_eq_true rfl), (Nat.le_of_ble_eq_true rfl)⟩ (x_size hA hR) hq (by rw [RM_len hM]; decide) (Nat.le_of_ble_eq_true rfl) hc ?_
  rintro r σ1 ⟨rfl, hR1⟩ -
  obtain ⟨c1, hM1⟩ := jX hR hM hR1
  obtain ⟨fs1, hq1⟩ := RM_15 hM1
  refine wq_aload_n hX dL_law_370 rfl ?_
  refine wq_cv0 hX dL_law_371 mlL_69 ⟨(Nat.le_of_ble_eq_true rfl), (Nat.le_of_ble_eq_true rfl)⟩ (m_size hA hM1) hq1 (by rw [RM_len hM1]; decide) (Nat.le_of_ble_eq_true rfl) hc ?_
  rintro r σ2 ⟨rfl, hM2⟩ -
  obtain ⟨τ2, hR2⟩ := jM hR1 hM1 hM2
  refine wq_icmp_eq (tgt := 515) hX dL_law_374 (by decide) (fun _ => ?_) (fun h => absurd rfl h)
  exact hn _ _ _ _ hA hR2 hM2
set_option maxHeartbeats 4000000 in
theorem lw_c13 (hX : Gq X cL_law RL 4 room_1 0) (hB : SX X N xs) (hN : N ≤ 2048) (hc : cs ≤ room_1.cells ∧ sl ≤ room_1.slots) (hi : i + 4 ≤ N) (hA : AInv A) (hR : RX A τ σ) (hM : RM A c σ) (hn : ∀ (A : Ab) (τ : aW) (c : Nat → aE) (σ : aW), AInv A → RX A τ σ → RM A c σ → Wq X cs sl 515 [some (.ref 1000), some (.ref 0), some (.ref 15), some (.int (nI i))] [] σ) : Wq X cs sl 379 [some (.ref 1000), some (.ref 0), some (.ref 15), some (.int (nI i))] [] σ := by
  obtain ⟨fs, hq⟩ := RX_0 hR
  refine wq_aload_n hX dL_law_379 rfl ?_
  refine wq_aload_n hX dL_law_380 rfl ?_
  refine wq_iload_n hX dL_law_381 rfl ?_
  refine wq_iconst (v := 1) hX dL_law_382 ic_1 ?_
  refine wq_iadd hX dL_law_383 ?_
  refine wq_ti (y := nI (i + 1)) (nI_add i 1) ?_
  refine wq_sld hX dL_law_384 hB (vp_in_nI (by omega) (by omega)) ?_
  refine wq_cv1 hX dL_law_385 mlL_70 ⟨(Nat.le_of_ble_eq_true rfl), (Nat.le_of_ble_eq_true rfl)⟩ (x_key hA hR) hq (by rw [RM_len hM]; decide) (Nat.le_of_ble_eq_true rfl) hc ?_
  rintro r σ1 ⟨rfl, hR1⟩ -
  obtain ⟨c1, hM1⟩ := jX hR hM hR1
  obtain ⟨fs1, hq1⟩ := RM_15 hM1
  refine wq_aload_n hX dL_law_388 rfl ?_
  refine wq_aload_n hX dL_law_389 rfl ?_
  refine wq_iload_n hX dL_law_390 rfl ?_
  refine wq_iconst (v := 1) hX dL_law_391 ic_1 ?_
  refine wq_iadd hX dL_law_392 ?_
  refine wq_ti (y := nI (i + 1)) (nI_add i 1) ?_
  refine wq_sld hX dL_law_393 hB (vp_in_nI (by omega) (by omega)) ?_
  refine wq_cv1 hX dL_law_394 mlL_73 ⟨(Nat.le_of_ble_eq_true rfl), (Nat.le_of_ble_eq_true rfl)⟩ (m_key hA hM1) hq1 (by rw [RM_len hM1]; decide) (Nat.le_of_ble_eq_true rfl) hc ?_
  rintro r σ2 ⟨rfl, hM2⟩ -
  obtain ⟨τ2, hR2⟩ := jM hR1 hM1 hM2
  refine wq_icmp_eq (tgt := 515) hX dL_law_397 (by decide) (fun _ => ?_) (fun h => absurd rfl h)
  exact hn _ _ _ _ hA hR2 hM2
set_option maxHeartbeats 4000000 in
theorem lw_c14 (hX : Gq X cL_law RL 4 room_1 0) (hB : SX X N xs) (hN : N ≤ 2048) (hc : cs ≤ room_1.cells ∧ sl ≤ room_1.slots) (hi : i + 4 ≤ N) (hA : AInv A) (hR : RX A τ σ) (hM : RM A c σ) (hn : ∀ (A : Ab) (τ : aW) (c : Nat → aE) (σ : aW), AInv A → RX A τ σ → RM A c σ → Wq X cs sl 515 [some (.ref 1000), some (.ref 0), some (.ref 15), some (.int (nI i))] [] σ) : Wq X cs sl 402 [some (.ref 1000), some (.ref 0), some (.ref 15), some (.int (nI i))] [] σ := by
  obtain ⟨fs, hq⟩ := RX_0 hR
  refine wq_aload_n hX dL_law_402 rfl ?_
  refine wq_aload_n hX dL_law_403 rfl ?_
  refine wq_iload_n hX dL_law_404 rfl ?_
  refine wq_iconst (v := 1) hX dL_law_405 ic_1 ?_
  refine wq_iadd hX dL_law_406 ?_
  refine wq_ti (y := nI (i + 1)) (nI_add i 1) ?_
  refine wq_sld hX dL_law_407 hB (vp_in_nI (by omega) (by omega)) ?_
  refine wq_aload_n hX dL_law_408 rfl ?_
  refine wq_iload_n hX dL_law_409 rfl ?_
  refine wq_iconst (v := 2) hX dL_law_410 ic_2 ?_
  refine wq_iadd hX dL_law_411 ?_
  refine wq_ti (y := nI (i + 2)) (nI_add i 2) ?_
  refine wq_sld hX dL_law_412 hB (vp_in_nI (by omega) (by omega)) ?_
  refine wq_aload_n hX dL_law_413 rfl ?_
  refine wq_iload_n hX dL_law_414 rfl ?_
  refine wq_iconst (v := 3) hX dL_law_415 ic_3 ?_
  refine wq_iadd hX dL_law_416 ?_
  refine wq_ti (y := nI (i + 3)) (nI_add i 3) ?_
  refine wq_sld hX dL_law_417 hB (vp_in_nI (by omega) (by omega)) ?_
  refine wq_cv3 hX dL_law_418 mlL_74 ⟨(Nat.le_of_ble_eq_true rfl), (Nat.le_of_ble_eq_true rfl)⟩ (x_sum hA hR) hq (by rw [RM_len hM]; decide) (Nat.le_of_ble_eq_true rfl) hc ?_
  rintro r σ1 ⟨rfl, hR1⟩ -
  obtain ⟨c1, hM1⟩ := jX hR hM hR1
  obtain ⟨fs1, hq1⟩ := RM_15 hM1
  refine wq_aload_n hX dL_law_421 rfl ?_
  refine wq_aload_n hX dL_law_422 rfl ?_
  refine wq_iload_n hX dL_law_423 rfl ?_
  refine wq_iconst (v := 1) hX dL_law_424 ic_1 ?_
  refine wq_iadd hX dL_law_425 ?_
  refine wq_ti (y := nI (i + 1)) (nI_add i 1) ?_
  refine wq_sld hX dL_law_426 hB (vp_in_nI (by omega) (by omega)) ?_
  refine wq_aload_n hX dL_law_427 rfl ?_
  refine wq_iload_n hX dL_law_428 rfl ?_
  refine wq_iconst (v := 2) hX dL_law_429 ic_2 ?_
  refine wq_iadd hX dL_law_430 ?_
  refine wq_ti (y := nI (i + 2)) (nI_add i 2) ?_
  refine wq_sld hX dL_law_431 hB (vp_in_nI (by omega) (by omega)) ?_
  refine wq_aload_n hX dL_law_432 rfl ?_
  refine wq_iload_n hX dL_law_433 rfl ?_
  refine wq_iconst (v := 3) hX dL_law_434 ic_3 ?_
  refine wq_iadd hX dL_law_435 ?_
  refine wq_ti (y := nI (i + 3)) (nI_add i 3) ?_
  refine wq_sld hX dL_law_436 hB (vp_in_nI (by omega) (by omega)) ?_
  refine wq_cv3 hX dL_law_437 mlL_78 ⟨(Nat.le_of_ble_eq_true rfl), (Nat.le_of_ble_eq_true rfl)⟩ (m_sum hA hM1) hq1 (by rw [RM_len hM1]; decide) (Nat.le_of_ble_eq_true rfl) hc ?_
  rintro r σ2 ⟨rfl, hM2⟩ -
  obtain ⟨τ2, hR2⟩ := jM hR1 hM1 hM2
  refine wq_lcmp hX dL_law_440 ?_
  refine wq_if_eq (tgt := 515) hX dL_law_441 (by decide) (fun _ => ?_) (fun h => absurd (cmp_self _) h)
  exact hn _ _ _ _ hA hR2 hM2
set_option maxHeartbeats 4000000 in
theorem lw_c15 (hX : Gq X cL_law RL 4 room_1 0) (hB : SX X N xs) (hN : N ≤ 2048) (hc : cs ≤ room_1.cells ∧ sl ≤ room_1.slots) (hi : i + 4 ≤ N) (hA : AInv A) (hR : RX A τ σ) (hM : RM A c σ) (hn : ∀ (A : Ab) (τ : aW) (c : Nat → aE) (σ : aW), AInv A → RX A τ σ → RM A c σ → Wq X cs sl 515 [some (.ref 1000), some (.ref 0), some (.ref 15), some (.int (nI i))] [] σ) : Wq X cs sl 446 [some (.ref 1000), some (.ref 0), some (.ref 15), some (.int (nI i))] [] σ := by
  obtain ⟨fs, hq⟩ := RX_0 hR
  refine wq_aload_n hX dL_law_446 rfl ?_
  refine wq_aload_n hX dL_law_447 rfl ?_
  refine wq_iload_n hX dL_law_448 rfl ?_
  refine wq_iconst (v := 1) hX dL_law_449 ic_1 ?_
  refine wq_iadd hX dL_law_450 ?_
  refine wq_ti (y := nI (i + 1)) (nI_add i 1) ?_
  refine wq_sld hX dL_law_451 hB (vp_in_nI (by omega) (by omega)) ?_
  refine wq_aload_n hX dL_law_452 rfl ?_
  refine wq_iload_n hX dL_law_453 rfl ?_
  refine wq_iconst (v := 2) hX dL_law_454 ic_2 ?_
  refine wq_iadd hX dL_law_455 ?_
  refine wq_ti (y := nI (i + 2)) (nI_add i 2) ?_
  refine wq_sld hX dL_law_456 hB (vp_in_nI (by omega) (by omega)) ?_
  refine wq_cv2 hX dL_law_457 mlL_79 ⟨(Nat.le_of_ble_eq_true rfl), (Nat.le_of_ble_eq_true rfl)⟩ (x_word hA hR) hq (by rw [RM_len hM]; decide) (Nat.le_of_ble_eq_true rfl) hc ?_
  rintro r σ1 ⟨rfl, hR1⟩ -
  obtain ⟨c1, hM1⟩ := jX hR hM hR1
  obtain ⟨fs1, hq1⟩ := RM_15 hM1
  refine wq_aload_n hX dL_law_460 rfl ?_
  refine wq_aload_n hX dL_law_461 rfl ?_
  refine wq_iload_n hX dL_law_462 rfl ?_
  refine wq_iconst (v := 1) hX dL_law_463 ic_1 ?_
  refine wq_iadd hX dL_law_464 ?_
  refine wq_ti (y := nI (i + 1)) (nI_add i 1) ?_
  refine wq_sld hX dL_law_465 hB (vp_in_nI (by omega) (by omega)) ?_
  refine wq_aload_n hX dL_law_466 rfl ?_
  refine wq_iload_n hX dL_law_467 rfl ?_
  refine wq_iconst (v := 2) hX dL_law_468 ic_2 ?_
  refine wq_iadd hX dL_law_469 ?_
  refine wq_ti (y := nI (i + 2)) (nI_add i 2) ?_
  refine wq_sld hX dL_law_470 hB (vp_in_nI (by omega) (by omega)) ?_
  refine wq_cv2 hX dL_law_471 mlL_82 ⟨(Nat.le_of_ble_eq_true rfl), (Nat.le_of_ble_eq_true rfl)⟩ (m_word hA hM1) hq1 (by rw [RM_len hM1]; decide) (Nat.le_of_ble_eq_true rfl) hc ?_
  rintro r σ2 ⟨rfl, hM2⟩ -
  obtain ⟨τ2, hR2⟩ := jM hR1 hM1 hM2
  refine wq_icmp_eq (tgt := 515) hX dL_law_474 (by decide) (fun _ => ?_) (fun h => absurd rfl h)
  exact hn _ _ _ _ hA hR2 hM2
set_option maxHeartbeats 4000000 in
theorem lw_c16 (hX : Gq X cL_law RL 4 room_1 0) (hB : SX X N xs) (hN : N ≤ 2048) (hc : cs ≤ room_1.cells ∧ sl ≤ room_1.slots) (hi : i + 4 ≤ N) (hA : AInv A) (hR : RX A τ σ) (hM : RM A c σ) (hn : ∀ (A : Ab) (τ : aW) (c : Nat → aE) (σ : aW), AInv A → RX A τ σ → RM A c σ → Wq X cs sl 515 [some (.ref 1000), some (.ref 0), some (.ref 15), some (.int (nI i))] [] σ) : Wq X cs sl 479 [some (.ref 1000), some (.ref 0), some (.ref 15), some (.int (nI i))] [] σ := by
  obtain ⟨fs, hq⟩ := RX_0 hR
  refine wq_aload_n hX dL_law_479 rfl ?_
  refine wq_cv0 hX dL_law_480 mlL_83 ⟨(Nat.le_of_ble_eq_true rfl), (Nat.le_of_ble_eq_true rfl)⟩ (x_state hR) hq (by rw [RM_len hM]; decide) (Nat.le_of_ble_eq_true rfl) hc ?_
  rintro r σ1 ⟨rfl, hR1⟩ -
  obtain ⟨c1, hM1⟩ := jX hR hM hR1
  obtain ⟨fs1, hq1⟩ := RM_15 hM1
  refine wq_aload_n hX dL_law_483 rfl ?_
  refine wq_cv0 hX dL_law_484 mlL_86 ⟨(Nat.le_of_ble_eq_true rfl), (Nat.le_of_ble_eq_true rfl)⟩ (m_state hM1) hq1 (by rw [RM_len hM1]; decide) (Nat.le_of_ble_eq_true rfl) hc ?_
  rintro r σ2 ⟨rfl, hM2⟩ -
  obtain ⟨τ2, hR2⟩ := jM hR1 hM1 hM2
  refine wq_icmp_eq (tgt := 515) hX dL_law_487 (by decide) (fun _ => ?_) (fun h => absurd rfl h)
  exact hn _ _ _ _ hA hR2 hM2
set_option maxHeartbeats 4000000 in
theorem lw_c17 (hX : Gq X cL_law RL 4 room_1 0) (hB : SX X N xs) (hN : N ≤ 2048) (hc : cs ≤ room_1.cells ∧ sl ≤ room_1.slots) (hi : i + 4 ≤ N) (hA : AInv A) (hR : RX A τ σ) (hM : RM A c σ) (hn : ∀ (A : Ab) (τ : aW) (c : Nat → aE) (σ : aW), AInv A → RX A τ σ → RM A c σ → Wq X cs sl 515 [some (.ref 1000), some (.ref 0), some (.ref 15), some (.int (nI i))] [] σ) : Wq X cs sl 492 [some (.ref 1000), some (.ref 0), some (.ref 15), some (.int (nI i))] [] σ := by
  obtain ⟨fs, hq⟩ := RX_0 hR
  refine wq_aload_n hX dL_law_492 rfl ?_
  refine wq_aload_n hX dL_law_493 rfl ?_
  refine wq_iload_n hX dL_law_494 rfl ?_
  refine wq_iconst (v := 1) hX dL_law_495 ic_1 ?_
  refine wq_iadd hX dL_law_496 ?_
  refine wq_ti (y := nI (i + 1)) (nI_add i 1) ?_
  refine wq_sld hX dL_law_497 hB (vp_in_nI (by omega) (by omega)) ?_
  refine wq_cv1 hX dL_law_498 mlL_87 ⟨(Nat.le_of_ble_eq_true rfl), (Nat.le_of_ble_eq_true rfl)⟩ (x_count hA hR) hq (by rw [RM_len hM]; decide) (Nat.le_of_ble_eq_true rfl) hc ?_
  rintro r σ1 ⟨rfl, hR1⟩ -
  obtain ⟨c1, hM1⟩ := jX hR hM hR1
  obtain ⟨fs1, hq1⟩ := RM_15 hM1
  refine wq_aload_n hX dL_law_501 rfl ?_
  refine wq_aload_n hX dL_law_502 rfl ?_
  refine wq_iload_n hX dL_law_503 rfl ?_
  refine wq_iconst (v := 1) hX dL_law_504 ic_1 ?_
  refine wq_iadd hX dL_law_505 ?_
  refine wq_ti (y := nI (i + 1)) (nI_add i 1) ?_
  refine wq_sld hX dL_law_506 hB (vp_in_nI (by omega) (by omega)) ?_
  refine wq_cv1 hX dL_law_507 mlL_90 ⟨(Nat.le_of_ble_eq_true rfl), (Nat.le_of_ble_eq_true rfl)⟩ (m_count hA hM1) hq1 (by rw [RM_len hM1]; decide) (Nat.le_of_ble_eq_true rfl) hc ?_
  rintro r σ2 ⟨rfl, hM2⟩ -
  obtain ⟨τ2, hR2⟩ := jM hR1 hM1 hM2
  refine wq_icmp_eq (tgt := 515) hX dL_law_510 (by decide) (fun _ => ?_) (fun h => absurd rfl h)
  exact hn _ _ _ _ hA hR2 hM2
end LW
