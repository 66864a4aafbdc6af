/-! the reference: commit -/
theorem recC_at {C : CL} {h : HQ} (hC : HA C h) {k : Nat} (hk : k < h.1) : recC C (1 + 3 * k) = (if h.2.2.2 k = 0 then 1 else 2) ∧ recC C (1 + 3 * k + 1) = h.2.1 k ∧ recC C (1 + 3 * k + 2) = h.2.2.1 k := by
  obtain ⟨g, e1, e2⟩ := hC.2 k hk
  have eg : C.getD k (0, false, 0) = (h.2.1 k, g, h.2.2.1 k) := by rw [List.getD_eq_getElem?_getD, e1]; rfl
  unfold recC
  rw [if_neg (show ¬ 1 + 3 * k = 0 by omega), if_neg (show ¬ 1 + 3 * k + 1 = 0 by omega), if_neg (show ¬ 1 + 3 * k + 2 = 0 by omega)]
  rw [show (1 + 3 * k - 1) / 3 = k by omega, show (1 + 3 * k + 1 - 1) / 3 = k by omega, show (1 + 3 * k + 2 - 1) / 3 = k by omega, eg, e2]
  rw [if_pos (show (1 + 3 * k - 1) % 3 = 0 by omega), if_neg (show ¬ (1 + 3 * k + 1 - 1) % 3 = 0 by omega), if_pos (show (1 + 3 * k + 1 - 1) % 3 = 1 by omega), if_neg (show ¬ (1 + 3 * k + 2 - 1) % 3 = 0 by omega), if_neg (show ¬ (1 + 3 * k + 2 - 1) % 3 = 1 by omega)]
  cases g <;> exact ⟨rfl, rfl, rfl⟩
theorem HA.cdrop {C : CL} {h : HQ} (hC : HA C h) {k : Nat} (hk : k < h.1) : ∃ g : Bool, C.drop k = (h.2.1 k, g, h.2.2.1 k) :: C.drop (k + 1) ∧ h.2.2.2 k = b2i g := by
  obtain ⟨g, e1, e2⟩ := hC.2 k hk
  have hl : k < C.length := by rw [hC.1]; exact hk
  rw [List.getElem?_eq_getElem hl] at e1
  exact ⟨g, by rw [List.drop_eq_getElem_cons hl, Option.some.inj e1], e2⟩
section MP
variable {A : Ab} {c : Nat → aE} {σ : aW}
set_option maxHeartbeats 8000000 in
set_option maxRecDepth 100000 in
theorem m_commit (hA : AInv A) (hR : RM A c σ) : MT mdX5_commit [.ref 15] σ (fun r σ1 => r = some (.int (sCommit A).1) ∧ RM (sCommit A).2 c σ1) := by
  obtain ⟨st, ⟨B, W, LG⟩, q, pl, rc, M, tx⟩ := A
  have hR0 := hR
  obtain ⟨op, jp, jr, ep, bt, K, h, bf, z, s, rfl, hh, hup⟩ := hR
  refine mp_of [some (.ref 15), none, none, none, none] rfl (Nat.le_of_ble_eq_true rfl) (by decide) (fun X Post hX hp => ?_)
  unfold sCommit at hp
  dsimp only at hp
  refine wp_aload_n hX dX5_commit_0 rfl ?_
  refine wp_get hX dX5_commit_1 flX5_53 rfl rfl ?_
  refine wp_iconst (v := 2) hX dX5_commit_4 ic_2 ?_
  refine wp_icmp_eq (tgt := 13) hX dX5_commit_5 (by decide) (fun d => ?_) (fun d => ?_)
  · subst d
    rw [if_neg (by decide)] at hp
    obtain ⟨u1, u2, u3, u4, u5, u6⟩ := hup rfl
    subst u1
    subst u2
    obtain ⟨hMs, hO⟩ := hA.tx
    have hcap := hA.cap
    have hKl : M.length = K.1 := u5.1
    obtain ⟨⟨g1, g2, g3, g4, g5, g6, g7⟩, hHd⟩ := hA.geo (by decide)
    obtain ⟨-, hpl, hrc, -, -, -⟩ := hA.2.2.2.2 rfl
    cases tx with
    | none =>
      have u7 : op = 0 := u6
      subst u7
      refine wp_aload_n hX dX5_commit_13 rfl ?_
      refine wp_get hX dX5_commit_14 flX5_56 rfl rfl ?_
      refine wp_if_ne (tgt := 23) hX dX5_commit_17 (by decide) (fun c_ => absurd (rfl) c_) (fun _ => ?_)
      refine wp_bipush (v := (-3)) hX dX5_commit_20 bp_m3 ?_
      refine wp_iret hX dX5_commit_22 rfl rfl ?_
      exact hp _ _ ⟨rfl, hR0⟩
    | some C =>
      obtain ⟨rfl, hC⟩ := u6
      obtain ⟨hs, hl⟩ := hO
      have hCl : C.length = h.1 := hC.1
      dsimp only at hp
      have hcd : cdv (1 + 3 * C.length) (W - 5) ≤ 200 := by
        refine Nat.le_of_not_lt (fun y => ?_)
        have h1 := (cdv_lt (n := 1 + 3 * C.length) (e := W - 5) (k := 200) (by omega)).mp y
        have h2 : 200 * 11 ≤ 200 * (W - 5) := Nat.mul_le_mul (Nat.le_refl _) (by omega)
        omega
      generalize hrb : rB W C.length = rb at hp
      have hrbl : rb ≤ 200 := by
        rw [← hrb]
        unfold rB
        split
        · omega
        · exact hcd
      have hrz : rb = 0 ↔ C.length = 0 := by
        rw [← hrb]
        unfold rB
        constructor
        · intro y
          by_cases e : C.length = 0
          · exact e
          · rw [if_neg e] at y
            have : 0 < cdv (1 + 3 * C.length) (W - 5) := (cdv_lt (by omega)).mpr (by omega)
            omega
        · intro y
          rw [if_pos y]
      have body : Wp X Post 43 [some (.ref 15), none, none, none, none] [.int (nI rb)] (wM c B W LG q 2 1 jp jr ep bt K h bf z s) := by
        refine wp_istore_n hX dX5_commit_43 (Nat.le_of_ble_eq_true rfl) rfl ?_
        refine wp_aload_n hX dX5_commit_44 rfl ?_
        refine wp_get hX dX5_commit_45 flX5_91 rfl rfl ?_
        refine wp_iload_n hX dX5_commit_48 rfl ?_
        refine wp_iadd hX dX5_commit_49 ?_
        refine wp_ti (y := (nI (jp + rb))) (nI_add _ _) ?_
        refine wp_aload_n hX dX5_commit_50 rfl ?_
        refine wp_get hX dX5_commit_51 flX5_74 rfl rfl ?_
        refine wp_icmp_le (tgt := 60) hX dX5_commit_54 (by decide) (fun e0 => ?_) (fun e0 => ?_)
        · have e1 := (nI_leI (a := jp + rb) (b := LG) (by omega) (by omega)).mp e0
          rw [if_neg (by omega)] at hp
          have fin : ∀ (r k : Nat) (m1 : PM) (K1 : MP) (jp1 jr1 : Nat) (q1 : DQ) (bf1 : Nat → Int32) (z1 : ZQ) (v2 : Int32) (x4 : Option Value), k + r = C.length → KAm m1 K1 → Srt m1 → m1.length + r ≤ 9000 → ov m1 (C.drop k) = ov M C → (∀ K2 bf1, KAm (ov M C) K2 → Post (some (.int 0)) (wM c B W LG q1 2 0 jp1 jr1 ep bt K2 h bf1 z1 s)) → Wp X Post 295 [some (.ref 15), some (.int (nI rb)), some (.int v2), some (.int (nI k)), x4] [] (wM c B W LG q1 2 1 jp1 jr1 ep bt K1 h bf1 z1 s) := by
            intro r
            induction r with
            | zero =>
              intro k m1 K1 jp1 jr1 q1 bf1 z1 v2 x4 hk hk1 hs1 hl1 he hpost
              refine wp_iload_n hX dX5_commit_295 rfl ?_
              refine wp_aload_n hX dX5_commit_296 rfl ?_
              refine wp_get hX dX5_commit_297 flX5_104 rfl rfl ?_
              refine wp_icmp_ge (tgt := 347) hX dX5_commit_300 (by decide) (fun _ => ?_) (fun c_ => absurd (nI_le (by omega) (by omega)) c_)
              refine wp_aload_n hX dX5_commit_347 rfl ?_
              refine wp_iconst (v := 0) hX dX5_commit_348 ic_0 ?_
              refine wp_put hX dX5_commit_349 fwX5_56 rfl (Nat.le_of_ble_eq_true rfl) rfl rfl ?_
              refine wp_iconst (v := 0) hX dX5_commit_352 ic_0 ?_
              refine wp_iret hX dX5_commit_353 rfl rfl ?_
              refine hpost K1 bf1 ?_
              rw [← he, List.drop_eq_nil_of_le (by omega)]
              exact hk1
            | succ r ih =>
              intro k m1 K1 jp1 jr1 q1 bf1 z1 v2 x4 hk hk1 hs1 hl1 he hpost
              have hku : K1.1 = m1.length := hk1.1.symm
              obtain ⟨g, cd, ge⟩ := hC.cdrop (k := k) (by omega)
              rw [cd] at he
              have he2 : ov (stepC m1 (h.2.1 k, g, h.2.2.1 k)) (C.drop (k + 1)) = ov M C := he
              refine wp_iload_n hX dX5_commit_295 rfl ?_
              refine wp_aload_n hX dX5_commit_296 rfl ?_
              refine wp_get hX dX5_commit_297 flX5_104 rfl rfl ?_
              refine wp_icmp_ge (tgt := 347) hX dX5_commit_300 (by decide) (fun c_ => absurd c_ (nI_ge (by omega) (by omega))) (fun _ => ?_)
              refine wp_aload_n hX dX5_commit_303 rfl ?_
              refine wp_get hX dX5_commit_304 flX5_26 rfl rfl ?_
              refine wp_iload_n hX dX5_commit_307 rfl ?_
              refine wp_zald hX dX5_commit_308 rfl (vp_in_nI (by omega) (by decide)) ?_
              refine wp_ti (y := b2i g) (by rw [nI_clamp (by omega)]; exact ge) ?_
              cases g with
              | true =>
                refine wp_if_eq (tgt := 325) hX dX5_commit_309 (by decide) (fun c_ => absurd c_ (by decide)) (fun _ => ?_)
                refine wp_aload_n hX dX5_commit_312 rfl ?_
                refine wp_aload_n hX dX5_commit_313 rfl ?_
                refine wp_get hX dX5_commit_314 flX5_20 rfl rfl ?_
                refine wp_iload_n hX dX5_commit_317 rfl ?_
                refine wp_iald hX dX5_commit_318 rfl (vp_in_nI (by omega) (by decide)) ?_
                refine wp_ti (y := (h.2.1 k)) (by rw [nI_clamp (by omega)]) ?_
                refine wp_cv1p hX dX5_commit_319 mlX5_136 ⟨Nat.le_of_ble_eq_true rfl, Nat.le_of_ble_eq_true rfl⟩ (m_unbind hk1 hs1 (by omega)) rfl (Nat.le_of_ble_eq_true rfl) ?_
                rintro r1 σ1 ⟨K2, rfl, hk2, rfl⟩
                refine wp_goto (tgt := 341) hX dX5_commit_322 (by decide) ?_
                refine wp_iinc hX dX5_commit_341 ic_1 rfl (Nat.le_of_ble_eq_true rfl) rfl ?_
                refine wp_goto (tgt := 295) hX dX5_commit_344 (by decide) ?_
                rw [nI_1]
                exact ih (k + 1) _ K2 jp1 jr1 q1 bf1 z1 v2 x4 (by omega) hk2 (del_srt hs1 _) (by have := del_len_le m1 (h.2.1 k); omega) he2 hpost
              | false =>
                refine wp_if_eq (tgt := 325) hX dX5_commit_309 (by decide) (fun _ => ?_) (fun c_ => absurd (rfl) c_)
                refine wp_aload_n hX dX5_commit_325 rfl ?_
                refine wp_aload_n hX dX5_commit_326 rfl ?_
                refine wp_get hX dX5_commit_327 flX5_20 rfl rfl ?_
                refine wp_iload_n hX dX5_commit_330 rfl ?_
                refine wp_iald hX dX5_commit_331 rfl (vp_in_nI (by omega) (by decide)) ?_
                refine wp_ti (y := (h.2.1 k)) (by rw [nI_clamp (by omega)]) ?_
                refine wp_aload_n hX dX5_commit_332 rfl ?_
                refine wp_get hX dX5_commit_333 flX5_23 rfl rfl ?_
                refine wp_iload_n hX dX5_commit_336 rfl ?_
                refine wp_iald hX dX5_commit_337 rfl (vp_in_nI (by omega) (by decide)) ?_
                refine wp_ti (y := (h.2.2.1 k)) (by rw [nI_clamp (by omega)]) ?_
                refine wp_cv2p hX dX5_commit_338 mlX5_132 ⟨Nat.le_of_ble_eq_true rfl, Nat.le_of_ble_eq_true rfl⟩ (m_bind hk1 hs1 (by omega)) rfl (Nat.le_of_ble_eq_true rfl) ?_
                rintro r1 σ1 ⟨K2, rfl, hk2, rfl⟩
                refine wp_iinc hX dX5_commit_341 ic_1 rfl (Nat.le_of_ble_eq_true rfl) rfl ?_
                refine wp_goto (tgt := 295) hX dX5_commit_344 (by decide) ?_
                rw [nI_1]
                exact ih (k + 1) _ K2 jp1 jr1 q1 bf1 z1 v2 x4 (by omega) hk2 (ins_srt hs1 _ _) (by have := ins_len_le m1 (h.2.1 k) (h.2.2.1 k) hs1; omega) he2 hpost
          have parts : ∀ (nf : Nat → Int32), (∀ i, i < 1 + 3 * C.length → nf i = recC C i) → ∀ (n k : Nat) (q1 : DQ) (bf1 : Nat → Int32) (x4 : Option Value), k + n = rb → wrN W (fun p => (1 + jp + p, recB W (recC C) (1 + 3 * C.length) (q.1 1) (nI (jr + 1)) (q.1 2) p)) k n q1 = cmW W jp jr q C → Wp X Post 144 [some (.ref 15), some (.int (nI rb)), some (.int (nI (1 + 3 * C.length))), some (.int (nI k)), x4] [] (wM c B W LG q1 2 1 jp jr ep bt K h bf1 (z.1, z.2.1, nf) s) := by
            intro nf hnf
            generalize hf : (fun p => (1 + jp + p, recB W (recC C) (1 + 3 * C.length) (q.1 1) (nI (jr + 1)) (q.1 2) p)) = f
            intro n
            induction n with
            | zero =>
              intro k q1 bf1 x4 hk he
              have he : (true, q1) = cmW W jp jr q C := he
              rw [← he, if_neg (show ¬ true = false by decide)] at hp
              dsimp only at hp
              have hw12 : q1.1 1 = q.1 1 ∧ q1.1 2 = q.1 2 := by
                have key : ∀ i, i < W → (cmW W jp jr q C).2.1 (W * 0 + i) = q.1 (W * 0 + i) := fun i hi => wrN_off hi _ _ _ (fun j _ _ => by show ¬ 0 = 1 + jp + j; omega)
                have k1 := key 1 (by omega)
                have k2 := key 2 (by omega)
                rw [← he] at k1 k2
                rw [Nat.mul_zero, Nat.zero_add] at k1 k2
                exact ⟨k1, k2⟩
              refine wp_iload_n hX dX5_commit_144 rfl ?_
              refine wp_iload_n hX dX5_commit_145 rfl ?_
              refine wp_icmp_ge (tgt := 269) hX dX5_commit_146 (by decide) (fun _ => ?_) (fun c_ => absurd (nI_le (by omega) (by omega)) c_)
              refine wp_aload_n hX dX5_commit_269 rfl ?_
              refine wp_dup hX dX5_commit_270 rfl ?_
              refine wp_get hX dX5_commit_271 flX5_91 rfl rfl ?_
              refine wp_iload_n hX dX5_commit_274 rfl ?_
              refine wp_iadd hX dX5_commit_275 ?_
              refine wp_ti (y := (nI (jp + rb))) (nI_add _ _) ?_
              refine wp_put hX dX5_commit_276 fwX5_91 rfl (Nat.le_of_ble_eq_true rfl) rfl rfl ?_
              refine wp_iload_n hX dX5_commit_279 rfl ?_
              refine wp_eqW (σ1 := wM c B W LG q1 2 1 (jp + rb) jr ep bt K h bf1 (z.1, z.2.1, nf) s) rfl ?_
              by_cases hz : C.length = 0
              · have hz0 := hrz.mpr hz
                rw [if_pos hz] at hp
                rw [hz0]
                rw [hz0] at hp
                refine wp_if_le (tgt := 293) hX dX5_commit_280 (by decide) (fun _ => ?_) (fun c_ => absurd (by decide) c_)
                refine wp_iconst (v := 0) hX dX5_commit_293 ic_0 ?_
                refine wp_istore_n hX dX5_commit_294 (Nat.le_of_ble_eq_true rfl) rfl ?_
                have := fin C.length 0 M K (jp + 0) jr q1 bf1 (z.1, z.2.1, nf) (nI (1 + 3 * C.length)) x4 (by omega) u5 hMs (by omega) rfl (fun K2 bf2 hk2 => hp _ _ ⟨rfl, 0, jp + 0, jr, ep, bt, K2, h, bf2, _, s, rfl, hh, fun _ => ⟨rfl, rfl, by rw [u3, hw12.1], by rw [u4, hw12.2], hk2, rfl⟩⟩)
                rw [hz0] at this
                exact this
              · have hz0 : 1 ≤ rb := by
                  rcases Nat.eq_zero_or_pos rb with y | y
                  · exact absurd (hrz.mp y) hz
                  · exact y
                rw [if_neg hz] at hp
                refine wp_if_le (tgt := 293) hX dX5_commit_280 (by decide) (fun c_ => absurd c_ (nI_nle hz0 (by omega))) (fun _ => ?_)
                refine wp_aload_n hX dX5_commit_283 rfl ?_
                refine wp_dup hX dX5_commit_284 rfl ?_
                refine wp_get hX dX5_commit_285 flX5_94 rfl rfl ?_
                refine wp_iconst (v := 1) hX dX5_commit_288 ic_1 ?_
                refine wp_iadd hX dX5_commit_289 ?_
                refine wp_ti (y := (nI (jr + 1))) (nI_1 _) ?_
                refine wp_put hX dX5_commit_290 fwX5_94 rfl (Nat.le_of_ble_eq_true rfl) rfl rfl ?_
                refine wp_eqW (σ1 := wM c B W LG q1 2 1 (jp + rb) (jr + 1) ep bt K h bf1 (z.1, z.2.1, nf) s) rfl ?_
                refine wp_iconst (v := 0) hX dX5_commit_293 ic_0 ?_
                refine wp_istore_n hX dX5_commit_294 (Nat.le_of_ble_eq_true rfl) rfl ?_
                exact fin C.length 0 M K (jp + rb) (jr + 1) q1 bf1 (z.1, z.2.1, nf) (nI (1 + 3 * C.length)) x4 (by omega) u5 hMs (by omega) rfl (fun K2 bf2 hk2 => hp _ _ ⟨rfl, 0, jp + rb, jr + 1, ep, bt, K2, h, bf2, _, s, rfl, hh, fun _ => ⟨rfl, rfl, by rw [u3, hw12.1], by rw [u4, hw12.2], hk2, rfl⟩⟩)
            | succ n ih =>
              intro k q1 bf1 x4 hk he
              have hrbe : rb = cdv (1 + 3 * C.length) (W - 5) := by
                rw [← hrb]
                unfold rB
                rw [if_neg (fun y => by have := hrz.mpr y; omega)]
              have hfr : (W - 5) * k < 1 + 3 * C.length := by rw [Nat.mul_comm]; exact (cdv_lt (by omega)).mp (by omega)
              have hfi : (f k).2 = recB W (recC C) (1 + 3 * C.length) (q.1 1) (nI (jr + 1)) (q.1 2) k := by rw [← hf]
              have hfb : (f k).1 = 1 + jp + k := by rw [← hf]
              refine wp_iload_n hX dX5_commit_144 rfl ?_
              refine wp_iload_n hX dX5_commit_145 rfl ?_
              refine wp_icmp_ge (tgt := 269) hX dX5_commit_146 (by decide) (fun c_ => absurd c_ (nI_ge (by omega) (by omega))) (fun _ => ?_)
              refine wp_aload_n hX dX5_commit_149 rfl ?_
              refine wp_cv0 hX dX5_commit_150 mlX5_63 ⟨Nat.le_of_ble_eq_true rfl, Nat.le_of_ble_eq_true rfl⟩ (m_blank) rfl (Nat.le_of_ble_eq_true rfl) ?_
              refine wp_aload_n hX dX5_commit_153 rfl ?_
              refine wp_get hX dX5_commit_154 flX5_30 rfl rfl ?_
              refine wp_iconst (v := 0) hX dX5_commit_157 ic_0 ?_
              refine wp_aload_n hX dX5_commit_158 rfl ?_
              refine wp_get hX dX5_commit_159 flX5_85 rfl rfl ?_
              refine wp_iast hX dX5_commit_162 rfl (vp_in_nI (n := 0) (by decide) (by decide)) ?_
              refine wp_aload_n hX dX5_commit_163 rfl ?_
              refine wp_get hX dX5_commit_164 flX5_30 rfl rfl ?_
              refine wp_iconst (v := 1) hX dX5_commit_167 ic_1 ?_
              refine wp_aload_n hX dX5_commit_168 rfl ?_
              refine wp_get hX dX5_commit_169 flX5_94 rfl rfl ?_
              refine wp_iconst (v := 1) hX dX5_commit_172 ic_1 ?_
              refine wp_iadd hX dX5_commit_173 ?_
              refine wp_ti (y := (nI (jr + 1))) (nI_1 _) ?_
              refine wp_iast hX dX5_commit_174 rfl (vp_in_nI (n := 1) (by decide) (by decide)) ?_
              refine wp_aload_n hX dX5_commit_175 rfl ?_
              refine wp_get hX dX5_commit_176 flX5_30 rfl rfl ?_
              refine wp_iconst (v := 2) hX dX5_commit_179 ic_2 ?_
              refine wp_iload_n hX dX5_commit_180 rfl ?_
              refine wp_iast hX dX5_commit_181 rfl (vp_in_nI (n := 2) (by decide) (by decide)) ?_
              refine wp_aload_n hX dX5_commit_182 rfl ?_
              refine wp_get hX dX5_commit_183 flX5_30 rfl rfl ?_
              refine wp_iconst (v := 3) hX dX5_commit_186 ic_3 ?_
              refine wp_aload_n hX dX5_commit_187 rfl ?_
              refine wp_get hX dX5_commit_188 flX5_88 rfl rfl ?_
              refine wp_iast hX dX5_commit_191 rfl (vp_in_nI (n := 3) (by decide) (by decide)) ?_
              refine wp_eqW (σ1 := wM c B W LG q1 2 1 jp jr ep bt K h (upd (upd (upd (upd (fun j => if j < 64 then 0 else bf1 j) 0 ep) 1 (nI (jr + 1))) 2 (nI k)) 3 bt) (z.1, z.2.1, nf) s) rfl ?_
              generalize hbase : (upd (upd (upd (upd (fun j => if j < 64 then 0 else bf1 j) 0 ep) 1 (nI (jr + 1))) 2 (nI k)) 3 bt) = base
              have wrt : Wp X Post 246 [some (.ref 15), some (.int (nI rb)), some (.int (nI (1 + 3 * C.length))), some (.int (nI k)), some (.int (nI (min (W - 5) (1 + 3 * C.length - (W - 5) * k))))] [] (wM c B W LG q1 2 1 jp jr ep bt K h (flP base (fun i => nf ((W - 5) * k + i)) (min (W - 5) (1 + 3 * C.length - (W - 5) * k))) (z.1, z.2.1, nf) s) := by
                by_cases h1 : q1.2.2 = 1
                · rw [wrN_s, if_pos h1] at he
                  rw [← he, if_pos rfl] at hp
                  refine wp_aload_n hX dX5_commit_246 rfl ?_
                  refine wp_iconst (v := 1) hX dX5_commit_247 ic_1 ?_
                  refine wp_aload_n hX dX5_commit_248 rfl ?_
                  refine wp_get hX dX5_commit_249 flX5_91 rfl rfl ?_
                  refine wp_iadd hX dX5_commit_252 ?_
                  refine wp_iload_n hX dX5_commit_253 rfl ?_
                  refine wp_iadd hX dX5_commit_254 ?_
                  refine wp_ti (y := (nI (1 + jp + k))) (by rw [show (1 : Int32) = nI 1 from rfl, nI_add, nI_add]) ?_
                  refine wp_cv1 hX dX5_commit_255 mlX5_67 ⟨Nat.le_of_ble_eq_true rfl, Nat.le_of_ble_eq_true rfl⟩ (m_write_no h1) rfl (Nat.le_of_ble_eq_true rfl) ?_
                  refine wp_if_ne (tgt := 263) hX dX5_commit_258 (by decide) (fun c_ => absurd (rfl) c_) (fun _ => ?_)
                  refine wp_iconst (v := (-1)) hX dX5_commit_261 ic_m1 ?_
                  refine wp_iret hX dX5_commit_262 rfl rfl ?_
                  exact hp _ _ ⟨rfl, 0, jp, jr, ep, bt, K, h, _, _, s, rfl, hh, fun y => absurd y (by decide)⟩
                · rw [wrN_s, if_neg h1] at he
                  refine wp_aload_n hX dX5_commit_246 rfl ?_
                  refine wp_iconst (v := 1) hX dX5_commit_247 ic_1 ?_
                  refine wp_aload_n hX dX5_commit_248 rfl ?_
                  refine wp_get hX dX5_commit_249 flX5_91 rfl rfl ?_
                  refine wp_iadd hX dX5_commit_252 ?_
                  refine wp_iload_n hX dX5_commit_253 rfl ?_
                  refine wp_iadd hX dX5_commit_254 ?_
                  refine wp_ti (y := (nI (1 + jp + k))) (by rw [show (1 : Int32) = nI 1 from rfl, nI_add, nI_add]) ?_
                  refine wp_cv1 hX dX5_commit_255 mlX5_67 ⟨Nat.le_of_ble_eq_true rfl, Nat.le_of_ble_eq_true rfl⟩ (m_write_ok g2 g4 (by omega) (by omega) h1) rfl (Nat.le_of_ble_eq_true rfl) ?_
                  refine wp_if_ne (tgt := 263) hX dX5_commit_258 (by decide) (fun _ => ?_) (fun c_ => absurd c_ (by decide))
                  have e2 : wrD q1.1 W (1 + jp + k) (flP base (fun i => nf ((W - 5) * k + i)) (min (W - 5) (1 + 3 * C.length - (W - 5) * k))) = wrD q1.1 W (f k).1 (f k).2 := by
                    rw [hfi, hfb, ← hbase, wrD_congr (recB_eq g4), recB_congr hnf, u3, u4]
                  rw [e2]
                  refine wp_iinc hX dX5_commit_263 ic_1 rfl (Nat.le_of_ble_eq_true rfl) rfl ?_
                  refine wp_goto (tgt := 144) hX dX5_commit_266 (by decide) ?_
                  rw [nI_1]
                  exact ih (k + 1) (wrD q1.1 W (f k).1 (f k).2, q1.2.1 + 1, pwd q1.2.2) _ _ (by omega) he
              have inner : ∀ (r i : Nat), i + r = min (W - 5) (1 + 3 * C.length - (W - 5) * k) → Wp X Post 195 [some (.ref 15), some (.int (nI rb)), some (.int (nI (1 + 3 * C.length))), some (.int (nI k)), some (.int (nI i))] [] (wM c B W LG q1 2 1 jp jr ep bt K h (flP base (fun i => nf ((W - 5) * k + i)) i) (z.1, z.2.1, nf) s) := by
                intro r
                induction r with
                | zero =>
                  intro i hi
                  have hi2 : i = min (W - 5) (1 + 3 * C.length - (W - 5) * k) := by omega
                  rw [← hi2] at wrt
                  refine wp_iload hX dX5_commit_195 rfl ?_
                  refine wp_aload_n hX dX5_commit_197 rfl ?_
                  refine wp_cv0 hX dX5_commit_198 mlX5_115 ⟨Nat.le_of_ble_eq_true rfl, Nat.le_of_ble_eq_true rfl⟩ (m_part (by omega)) rfl (Nat.le_of_ble_eq_true rfl) ?_
                  refine wp_icmp_ge (tgt := 246) hX dX5_commit_201 (by decide) (fun y1 => ?_) (fun y1 => ?_)
                  · exact wrt
                  · have y2 : i < W - 5 := Nat.lt_of_not_le (fun y => y1 (nI_le y (by omega)))
                    refine wp_aload_n hX dX5_commit_204 rfl ?_
                    refine wp_cv0 hX dX5_commit_205 mlX5_115 ⟨Nat.le_of_ble_eq_true rfl, Nat.le_of_ble_eq_true rfl⟩ (m_part (by omega)) rfl (Nat.le_of_ble_eq_true rfl) ?_
                    refine wp_iload_n hX dX5_commit_208 rfl ?_
                    refine wp_imul hX dX5_commit_209 ?_
                    refine wp_iload hX dX5_commit_210 rfl ?_
                    refine wp_iadd hX dX5_commit_212 ?_
                    refine wp_ti (y := (nI ((W - 5) * k + i))) (by rw [pk_mul, nI_add]) ?_
                    refine wp_iload_n hX dX5_commit_213 rfl ?_
                    refine wp_icmp_ge (tgt := 246) hX dX5_commit_214 (by decide) (fun _ => ?_) (fun c_ => absurd (nI_le (by omega) (by omega)) c_)
                    exact wrt
                | succ r ih2 =>
                  intro i hi
                  refine wp_iload hX dX5_commit_195 rfl ?_
                  refine wp_aload_n hX dX5_commit_197 rfl ?_
                  refine wp_cv0 hX dX5_commit_198 mlX5_115 ⟨Nat.le_of_ble_eq_true rfl, Nat.le_of_ble_eq_true rfl⟩ (m_part (by omega)) rfl (Nat.le_of_ble_eq_true rfl) ?_
                  refine wp_icmp_ge (tgt := 246) hX dX5_commit_201 (by decide) (fun c_ => absurd c_ (nI_ge (by omega) (by omega))) (fun _ => ?_)
                  refine wp_aload_n hX dX5_commit_204 rfl ?_
                  refine wp_cv0 hX dX5_commit_205 mlX5_115 ⟨Nat.le_of_ble_eq_true rfl, Nat.le_of_ble_eq_true rfl⟩ (m_part (by omega)) rfl (Nat.le_of_ble_eq_true rfl) ?_
                  refine wp_iload_n hX dX5_commit_208 rfl ?_
                  refine wp_imul hX dX5_commit_209 ?_
                  refine wp_iload hX dX5_commit_210 rfl ?_
                  refine wp_iadd hX dX5_commit_212 ?_
                  refine wp_ti (y := (nI ((W - 5) * k + i))) (by rw [pk_mul, nI_add]) ?_
                  refine wp_iload_n hX dX5_commit_213 rfl ?_
                  refine wp_icmp_ge (tgt := 246) hX dX5_commit_214 (by decide) (fun c_ => absurd c_ (nI_ge (by omega) (by omega))) (fun _ => ?_)
                  refine wp_aload_n hX dX5_commit_217 rfl ?_
                  refine wp_get hX dX5_commit_218 flX5_30 rfl rfl ?_
                  refine wp_iconst (v := 4) hX dX5_commit_221 ic_4 ?_
                  refine wp_iload hX dX5_commit_222 rfl ?_
                  refine wp_iadd hX dX5_commit_224 ?_
                  refine wp_ti (y := (nI (4 + i))) (nI_add 4 i) ?_
                  refine wp_aload_n hX dX5_commit_225 rfl ?_
                  refine wp_get hX dX5_commit_226 flX5_39 rfl rfl ?_
                  refine wp_aload_n hX dX5_commit_229 rfl ?_
                  refine wp_cv0 hX dX5_commit_230 mlX5_115 ⟨Nat.le_of_ble_eq_true rfl, Nat.le_of_ble_eq_true rfl⟩ (m_part (by omega)) rfl (Nat.le_of_ble_eq_true rfl) ?_
                  refine wp_iload_n hX dX5_commit_233 rfl ?_
                  refine wp_imul hX dX5_commit_234 ?_
                  refine wp_iload hX dX5_commit_235 rfl ?_
                  refine wp_iadd hX dX5_commit_237 ?_
                  refine wp_ti (y := (nI ((W - 5) * k + i))) (by rw [pk_mul, nI_add]) ?_
                  refine wp_iald hX dX5_commit_238 rfl (vp_in_nI (by omega) (by decide)) ?_
                  refine wp_ti (y := nf ((W - 5) * k + i)) (by rw [nI_clamp (by omega)]) ?_
                  refine wp_iast hX dX5_commit_239 rfl (vp_in_nI (by omega) (by decide)) ?_
                  rw [nI_clamp (show 4 + i < 2 ^ 31 by omega)]
                  refine wp_eqW (σ1 := wM c B W LG q1 2 1 jp jr ep bt K h (upd (flP base (fun i => nf ((W - 5) * k + i)) i) (4 + i) (nf ((W - 5) * k + i))) (z.1, z.2.1, nf) s) rfl ?_
                  rw [flP_s (g := fun i => nf ((W - 5) * k + i))]
                  refine wp_iinc hX dX5_commit_240 ic_1 rfl (Nat.le_of_ble_eq_true rfl) rfl ?_
                  refine wp_goto (tgt := 195) hX dX5_commit_243 (by decide) ?_
                  rw [nI_1]
                  exact ih2 (i + 1) (by omega)
              have e0 : flP base (fun i => nf ((W - 5) * k + i)) 0 = base := by
                funext j
                unfold flP
                rw [if_neg (by omega)]
              have := inner (min (W - 5) (1 + 3 * C.length - (W - 5) * k)) 0 (by omega)
              rw [e0] at this
              refine wp_iconst (v := 0) hX dX5_commit_192 ic_0 ?_
              refine wp_istore hX dX5_commit_193 (Nat.le_of_ble_eq_true rfl) rfl ?_
              exact this
          have mk : ∀ (r k : Nat) (nf : Nat → Int32), k + r = C.length → (∀ i, i < 1 + 3 * k → nf i = recC C i) → Wp X Post 77 [some (.ref 15), some (.int (nI rb)), some (.int (nI (1 + 3 * k))), some (.int (nI k)), none] [] (wM c B W LG q 2 1 jp jr ep bt K h bf (z.1, z.2.1, nf) s) := by
            intro r
            induction r with
            | zero =>
              intro k nf hk hn
              rw [show k = C.length by omega] at hn ⊢
              refine wp_iload_n hX dX5_commit_77 rfl ?_
              refine wp_aload_n hX dX5_commit_78 rfl ?_
              refine wp_get hX dX5_commit_79 flX5_104 rfl rfl ?_
              refine wp_icmp_ge (tgt := 142) hX dX5_commit_82 (by decide) (fun _ => ?_) (fun c_ => absurd (nI_le (by omega) (by omega)) c_)
              refine wp_iconst (v := 0) hX dX5_commit_142 ic_0 ?_
              refine wp_istore_n hX dX5_commit_143 (Nat.le_of_ble_eq_true rfl) rfl ?_
              exact parts nf hn rb 0 q bf none (by omega) (by unfold cmW; rw [hrb])
            | succ r ih =>
              intro k nf hk hn
              obtain ⟨a1, a2, a3⟩ := recC_at hC (k := k) (by omega)
              have wr : ∀ v, v = recC C (1 + 3 * k) → Wp X Post 104 [some (.ref 15), some (.int (nI rb)), some (.int (nI (1 + 3 * k))), some (.int (nI k)), none] [.int v, .int (nI (1 + 3 * k)), .ref 25] (wM c B W LG q 2 1 jp jr ep bt K h bf (z.1, z.2.1, nf) s) := by
                intro v hv
                refine wp_iast hX dX5_commit_104 rfl (vp_in_nI (by omega) (by decide)) ?_
                rw [nI_clamp (show 1 + 3 * k < 2 ^ 31 by omega)]
                refine wp_aload_n hX dX5_commit_105 rfl ?_
                refine wp_get hX dX5_commit_106 flX5_39 rfl rfl ?_
                refine wp_iload_n hX dX5_commit_109 rfl ?_
                refine wp_iconst (v := 1) hX dX5_commit_110 ic_1 ?_
                refine wp_iadd hX dX5_commit_111 ?_
                refine wp_ti (y := (nI (1 + 3 * k + 1))) (nI_1 _) ?_
                refine wp_aload_n hX dX5_commit_112 rfl ?_
                refine wp_get hX dX5_commit_113 flX5_20 rfl rfl ?_
                refine wp_iload_n hX dX5_commit_116 rfl ?_
                refine wp_iald hX dX5_commit_117 rfl (vp_in_nI (by omega) (by decide)) ?_
                refine wp_ti (y := (h.2.1 k)) (by rw [nI_clamp (by omega)]) ?_
                refine wp_iast hX dX5_commit_118 rfl (vp_in_nI (by omega) (by decide)) ?_
                rw [nI_clamp (show 1 + 3 * k + 1 < 2 ^ 31 by omega)]
                refine wp_aload_n hX dX5_commit_119 rfl ?_
                refine wp_get hX dX5_commit_120 flX5_39 rfl rfl ?_
                refine wp_iload_n hX dX5_commit_123 rfl ?_
                refine wp_iconst (v := 2) hX dX5_commit_124 ic_2 ?_
                refine wp_iadd hX dX5_commit_125 ?_
                refine wp_ti (y := (nI (1 + 3 * k + 2))) (nI_add _ 2) ?_
                refine wp_aload_n hX dX5_commit_126 rfl ?_
                refine wp_get hX dX5_commit_127 flX5_23 rfl rfl ?_
                refine wp_iload_n hX dX5_commit_130 rfl ?_
                refine wp_iald hX dX5_commit_131 rfl (vp_in_nI (by omega) (by decide)) ?_
                refine wp_ti (y := (h.2.2.1 k)) (by rw [nI_clamp (by omega)]) ?_
                refine wp_iast hX dX5_commit_132 rfl (vp_in_nI (by omega) (by decide)) ?_
                rw [nI_clamp (show 1 + 3 * k + 2 < 2 ^ 31 by omega)]
                refine wp_eqW (σ1 := wM c B W LG q 2 1 jp jr ep bt K h bf (z.1, z.2.1, upd (upd (upd nf (1 + 3 * k) v) (1 + 3 * k + 1) (h.2.1 k)) (1 + 3 * k + 2) (h.2.2.1 k)) s) rfl ?_
                refine wp_iinc hX dX5_commit_133 ic_3 rfl (Nat.le_of_ble_eq_true rfl) rfl ?_
                refine wp_iinc hX dX5_commit_136 ic_1 rfl (Nat.le_of_ble_eq_true rfl) rfl ?_
                refine wp_goto (tgt := 77) hX dX5_commit_139 (by decide) ?_
                rw [show nI (1 + 3 * k) + 3 = nI (1 + 3 * (k + 1)) from (nI_add _ 3).trans (by congr 1), nI_1]
                refine ih (k + 1) _ (by omega) (fun i hi => ?_)
                by_cases c2 : i = 1 + 3 * k + 2
                · rw [c2, pk_us, a3]
                · rw [pk_un c2]
                  by_cases c1 : i = 1 + 3 * k + 1
                  · rw [c1, pk_us, a2]
                  · rw [pk_un c1]
                    by_cases c0 : i = 1 + 3 * k
                    · rw [c0, pk_us, hv]
                    · rw [pk_un c0]
                      exact hn i (by omega)
              refine wp_iload_n hX dX5_commit_77 rfl ?_
              refine wp_aload_n hX dX5_commit_78 rfl ?_
              refine wp_get hX dX5_commit_79 flX5_104 rfl rfl ?_
              refine wp_icmp_ge (tgt := 142) hX dX5_commit_82 (by decide) (fun c_ => absurd c_ (nI_ge (by omega) (by omega))) (fun _ => ?_)
              refine wp_aload_n hX dX5_commit_85 rfl ?_
              refine wp_get hX dX5_commit_86 flX5_39 rfl rfl ?_
              refine wp_iload_n hX dX5_commit_89 rfl ?_
              refine wp_aload_n hX dX5_commit_90 rfl ?_
              refine wp_get hX dX5_commit_91 flX5_26 rfl rfl ?_
              refine wp_iload_n hX dX5_commit_94 rfl ?_
              refine wp_zald hX dX5_commit_95 rfl (vp_in_nI (by omega) (by decide)) ?_
              refine wp_ti (y := h.2.2.2 k) (by rw [nI_clamp (by omega)]) ?_
              refine wp_if_eq (tgt := 103) hX dX5_commit_96 (by decide) (fun y => ?_) (fun y => ?_)
              · rw [if_pos y] at a1
                refine wp_iconst (v := 1) hX dX5_commit_103 ic_1 ?_
                exact wr 1 a1.symm
              · rw [if_neg y] at a1
                refine wp_iconst (v := 2) hX dX5_commit_99 ic_2 ?_
                refine wp_goto (tgt := 104) hX dX5_commit_100 (by decide) ?_
                exact wr 2 a1.symm
          refine wp_iconst (v := 0) hX dX5_commit_60 ic_0 ?_
          refine wp_istore_n hX dX5_commit_61 (Nat.le_of_ble_eq_true rfl) rfl ?_
          refine wp_aload_n hX dX5_commit_62 rfl ?_
          refine wp_get hX dX5_commit_63 flX5_39 rfl rfl ?_
          refine wp_iconst (v := 0) hX dX5_commit_66 ic_0 ?_
          refine wp_aload_n hX dX5_commit_67 rfl ?_
          refine wp_get hX dX5_commit_68 flX5_104 rfl rfl ?_
          refine wp_iast hX dX5_commit_71 rfl (vp_in_nI (n := 0) (by decide) (by decide)) ?_
          refine wp_iinc hX dX5_commit_72 ic_1 rfl (Nat.le_of_ble_eq_true rfl) rfl ?_
          refine wp_iconst (v := 0) hX dX5_commit_75 ic_0 ?_
          refine wp_istore_n hX dX5_commit_76 (Nat.le_of_ble_eq_true rfl) rfl ?_
          refine mk C.length 0 (upd z.2.2 0 (nI h.1)) (by omega) (fun i hi => ?_)
          have : i = 0 := by omega
          subst this
          rw [pk_us]
          unfold recC
          rw [if_pos rfl, hCl]
        · have e1 : LG < jp + rb := Nat.lt_of_not_le (fun y => e0 (nI_le y (by omega)))
          rw [if_pos e1] at hp
          refine wp_bipush (v := (-6)) hX dX5_commit_57 bp_m6 ?_
          refine wp_iret hX dX5_commit_59 rfl rfl ?_
          exact hp _ _ ⟨rfl, hR0⟩
      refine wp_aload_n hX dX5_commit_13 rfl ?_
      refine wp_get hX dX5_commit_14 flX5_56 rfl rfl ?_
      refine wp_if_ne (tgt := 23) hX dX5_commit_17 (by decide) (fun _ => ?_) (fun c_ => absurd c_ (by decide))
      refine wp_aload_n hX dX5_commit_23 rfl ?_
      refine wp_get hX dX5_commit_24 flX5_104 rfl rfl ?_
      refine wp_if_ne (tgt := 34) hX dX5_commit_27 (by decide) (fun y => ?_) (fun y => ?_)
      · have hne : ¬ C.length = 0 := fun e => y (by rw [← hCl, e]; rfl)
        have hrbe : min 1000 (cdv (1 + 3 * h.1) (W - 5)) = rb := by
          rw [← hrb, ← hCl]
          unfold rB
          rw [if_neg hne]
          omega
        refine wp_aload_n hX dX5_commit_34 rfl ?_
        refine wp_aload_n hX dX5_commit_35 rfl ?_
        refine wp_get hX dX5_commit_36 flX5_104 rfl rfl ?_
        refine wp_i2l hX dX5_commit_39 ?_
        rw [nI_l (by omega)]
        refine wp_cv1 hX dX5_commit_40 mlX5_124 ⟨Nat.le_of_ble_eq_true rfl, Nat.le_of_ble_eq_true rfl⟩ (m_needed (by omega) g4 (by omega)) rfl (Nat.le_of_ble_eq_true rfl) ?_
        rw [hrbe]
        exact body
      · have h0 : h.1 = 0 := (nI_eq (a := h.1) (b := 0) (by omega) (by decide)).mp y
        have := hrz.mpr (by omega)
        rw [this] at body
        refine wp_iconst (v := 0) hX dX5_commit_30 ic_0 ?_
        refine wp_goto (tgt := 43) hX dX5_commit_31 (by decide) ?_
        exact body
  · rw [if_pos d] at hp
    refine wp_aload_n hX dX5_commit_8 rfl ?_
    refine wp_cv0 hX dX5_commit_9 mlX5_77 ⟨Nat.le_of_ble_eq_true rfl, Nat.le_of_ble_eq_true rfl⟩ (m_not hA.st d) rfl (Nat.le_of_ble_eq_true rfl) ?_
    refine wp_iret hX dX5_commit_12 rfl rfl ?_
    exact hp _ _ ⟨rfl, hR0⟩
end MP
