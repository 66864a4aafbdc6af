/-! the reference: checkpoint -/
theorem n_minC {a b : Nat} : (if a ≤ b then a else b) = min b a := by
  by_cases h : a ≤ b
  · rw [if_pos h]; omega
  · rw [if_neg h]; omega
section MP
variable {A : Ab} {c : Nat → aE} {σ : aW}
set_option maxHeartbeats 16000000 in
set_option maxRecDepth 100000 in
theorem m_checkpoint (hA : AInv A) (hR : RM A c σ) : MT mdX5_checkpoint [.ref 15] σ (fun r σ1 => r = some (.int (sCheck A).1) ∧ RM (sCheck A).2 c σ1) := by
  obtain ⟨st, ⟨B, W, LG⟩, q, pl, rc, M, tx⟩ := A
  have hR0 := hR
  obtain ⟨op, jp, jr, ep, bt, K, h, bf, z, s, rfl, hh, hup⟩ := hR
  refine mp_of [some (.ref 15), none, none, none, none, none, none, none] rfl (Nat.le_of_ble_eq_true rfl) (by decide) (fun X Post hX hp => ?_)
  unfold sCheck at hp
  dsimp only at hp
  refine wp_aload_n hX dX5_checkpoint_0 rfl ?_
  refine wp_get hX dX5_checkpoint_1 flX5_53 rfl rfl ?_
  refine wp_iconst (v := 2) hX dX5_checkpoint_4 ic_2 ?_
  refine wp_icmp_eq (tgt := 13) hX dX5_checkpoint_5 (by decide) (fun d => ?_) (fun d => ?_)
  · subst d
    rw [if_neg (by decide)] at hp
    obtain ⟨u1, u2, u3, u4, u5, u6⟩ := hup rfl
    subst u1
    subst u2
    obtain ⟨hMs, hO⟩ := hA.tx
    have hcap := hA.cap
    have hKl : M.length = K.1 := u5.1
    obtain ⟨⟨g1, g2, g3, g4, g5, g6, g7⟩, hHd⟩ := hA.geo (by decide)
    obtain ⟨hmk, -, -, -, -, -⟩ := hA.2.2.2.2 rfl
    have hF := fan_2 g3
    have hF2 := fan_le g4
    have hfw := fan_w (W := W)
    cases tx with
    | some C =>
      obtain ⟨rfl, hC⟩ := u6
      refine wp_aload_n hX dX5_checkpoint_13 rfl ?_
      refine wp_get hX dX5_checkpoint_14 flX5_56 rfl rfl ?_
      refine wp_if_eq (tgt := 23) hX dX5_checkpoint_17 (by decide) (fun c_ => absurd c_ (by decide)) (fun _ => ?_)
      refine wp_bipush (v := (-4)) hX dX5_checkpoint_20 bp_m4 ?_
      refine wp_iret hX dX5_checkpoint_22 rfl rfl ?_
      exact hp _ _ ⟨rfl, hR0⟩
    | none =>
      have u7 : op = 0 := u6
      subst u7
      dsimp only at hp
      have har : AR B LG ≤ 253 := by unfold AR; omega
      have htb : tBl (fan W) M.length ≤ 100000 := by
        unfold tBl
        have h1 := cdv_le (n := M.length) (e := fan W) (by omega)
        have h2 := tbl_le hF 32 (cdv M.length (fan W))
        omega
      refine wp_aload_n hX dX5_checkpoint_13 rfl ?_
      refine wp_get hX dX5_checkpoint_14 flX5_56 rfl rfl ?_
      refine wp_if_eq (tgt := 23) hX dX5_checkpoint_17 (by decide) (fun _ => ?_) (fun c_ => absurd (rfl) c_)
      refine wp_aload_n hX dX5_checkpoint_23 rfl ?_
      refine wp_cv0 hX dX5_checkpoint_24 mlX5_159 ⟨Nat.le_of_ble_eq_true rfl, Nat.le_of_ble_eq_true rfl⟩ (m_treeBlocks g3 g4 (by omega)) rfl (Nat.le_of_ble_eq_true rfl) ?_
      refine wp_aload_n hX dX5_checkpoint_27 rfl ?_
      refine wp_cv0 hX dX5_checkpoint_28 mlX5_162 ⟨Nat.le_of_ble_eq_true rfl, Nat.le_of_ble_eq_true rfl⟩ (m_area (by omega) g2) rfl (Nat.le_of_ble_eq_true rfl) ?_
      rw [← hKl]
      refine wp_icmp_le (tgt := 37) hX dX5_checkpoint_31 (by decide) (fun e => ?_) (fun e => ?_)
      · have e1 := (nI_leI (a := tBl (fan W) M.length) (b := AR B LG) (by omega) (by omega)).mp e
        rw [if_neg (by omega)] at hp
        have hn3 : q.1 3 = 0 ∨ q.1 3 = 1 := by
          rcases hHd with h0 | ⟨-, n, hn3, -⟩
          · rw [h0] at hmk
            exact absurd hmk.symm mark_ne
          · exact hn3
        have hto : (1 : Int32) - q.1 3 = ckT q := by
          unfold ckT
          rcases hn3 with y | y
          · rw [y, if_pos rfl]; decide
          · rw [y, if_neg (by decide)]; decide
        have hnx : nI LG + 1 + ckT q * nI (AR B LG) = nI (arS B LG (ckT q)) := by
          unfold arS ckT
          rcases hn3 with y | y
          · rw [if_pos y, if_neg (by decide), show (1 : Int32) = nI 1 from rfl, pk_mul, nI_add, nI_add, Nat.one_mul]
          · rw [if_neg (by rw [y]; decide), if_pos rfl, show (0 : Int32) = nI 0 from rfl, show (1 : Int32) = nI 1 from rfl, pk_mul, nI_add, nI_add, Nat.zero_mul]
        have hbb := ars_le (B := B) (LG := LG) (ckT q) g7
        have hs1 : 1 ≤ arS B LG (ckT q) := by unfold arS; split <;> omega
        have ckWe : ckW B W LG q M = treW W (arS B LG (ckT q)) M q := rfl
        have ckRe : ckR B W LG q M = nI (if M.length = 0 then 0 else arS B LG (ckT q) + tBl (fan W) M.length - 1) := rfl
        have hw012 : ∀ i, i < 6 → (ckW B W LG q M).2.1 i = q.1 i := fun i hi => by
          have := treW_off (W := W) (b := 0) (i := i) (s := arS B LG (ckT q)) (m := M) (q := q) (by omega) (by omega)
          rw [Nat.mul_zero, Nat.zero_add] at this
          exact this
        generalize hs0 : arS B LG (ckT q) = s0 at hnx hbb hs1 ckWe ckRe
        generalize hto2 : ckT q = to at hto hnx hp
        have htBl : tBl (fan W) M.length = cdv M.length (fan W) + tbl (fan W) 32 (cdv M.length (fan W)) := rfl
        obtain ⟨u, kf, vf⟩ := K
        dsimp only at hKl
        have hkv : ∀ i, i < u → M.getD i (0, 0) = (kf i, vf i) := fun i hi => KA.getD u5 hi
        have dn : ∀ (q1 : DQ) (bf1 : Nat → Int32) (z1 : ZQ), (false, q1) = ckW B W LG q M → Post (some (.int (-1))) (wM c B W LG q1 3 0 jp jr ep bt (u, kf, vf) h bf1 z1 s) := by
          intro q1 bf1 z1 he
          rw [← he, if_pos rfl] at hp
          exact hp _ _ ⟨rfl, 0, jp, jr, ep, bt, (u, kf, vf), h, bf1, z1, s, rfl, hh, fun y => absurd y (by decide)⟩
        -- the end: the head
        have fin : ∀ (q1 : DQ) (bf1 : Nat → Int32) (lf wf nf : Nat → Int32) (row x2 : Nat) (x4 x5 x6 x7 : Option Value), (true, q1) = ckW B W LG q M → (row = 0 ↔ M.length = 0) → row ≤ 1 → (row = 1 → wf 0 = ckR B W LG q M) → Wp X Post 403 [some (.ref 15), some (.int to), some (.int (nI x2)), some (.int (nI row)), x4, x5, x6, x7] [] (wM c B W LG q1 2 0 jp jr ep bt (u, kf, vf) h bf1 (lf, wf, nf) s) := by
          intro q1 bf1 lf wf nf row x2 x4 x5 x6 x7 he hr0 hr1 hr2
          rw [← he, if_neg (show ¬ true = false by decide)] at hp
          dsimp only at hp
          have tail : Wp X Post 429 [some (.ref 15), some (.int to), some (.int (nI x2)), some (.int (nI row)), x4, x5, x6, x7] [.int (ckR B W LG q M), .int to, .int bt, .int (ep + 1), .ref 15] (wM c B W LG q1 2 0 jp jr ep bt (u, kf, vf) h bf1 (lf, wf, nf) s) := by
            refine wp_aload_n hX dX5_checkpoint_429 rfl ?_
            refine wp_get hX dX5_checkpoint_430 flX5_97 rfl rfl ?_
            refine wp_cv5p hX dX5_checkpoint_433 mlX5_81 ⟨Nat.le_of_ble_eq_true rfl, Nat.le_of_ble_eq_true rfl⟩ (m_writeHead g2 (by omega) g3 g4) rfl (Nat.le_of_ble_eq_true rfl) ?_
            rw [u3, u4]
            rw [hKl] at hp
            rintro r1 σ1 ⟨bf2, rfl, rfl⟩
            have hz := wr1_hd (W := W) (q := q1) (e := q.1 1 + 1) (b1 := q.1 2) (a := to) (r := ckR B W LG q M) (n := nI u) g3
            generalize wr1 W q1 0 (hdB (q.1 1 + 1) (q.1 2) to (ckR B W LG q M) (nI u)) = zz at hp hz ⊢
            obtain ⟨zb, z2⟩ := zz
            cases zb with
            | false =>
              rw [if_pos rfl] at hp
              refine wp_if_ne (tgt := 441) hX dX5_checkpoint_436 (by decide) (fun c_ => absurd (rfl) c_) (fun _ => ?_)
              refine wp_iconst (v := (-1)) hX dX5_checkpoint_439 ic_m1 ?_
              refine wp_iret hX dX5_checkpoint_440 rfl rfl ?_
              exact hp _ _ ⟨rfl, 0, jp, jr, q.1 1, q.1 2, (u, kf, vf), h, bf2, (lf, wf, nf), s, rfl, hh, fun y => absurd y (by decide)⟩
            | true =>
              rw [if_neg (show ¬ true = false by decide)] at hp
              obtain ⟨y0, y1, y2, y3, y4, y5⟩ := hz rfl
              refine wp_if_ne (tgt := 441) hX dX5_checkpoint_436 (by decide) (fun _ => ?_) (fun c_ => absurd c_ (show ¬ b2i true = 0 by decide))
              refine wp_aload_n hX dX5_checkpoint_441 rfl ?_
              refine wp_dup hX dX5_checkpoint_442 rfl ?_
              refine wp_get hX dX5_checkpoint_443 flX5_85 rfl rfl ?_
              refine wp_iconst (v := 1) hX dX5_checkpoint_446 ic_1 ?_
              refine wp_iadd hX dX5_checkpoint_447 ?_
              refine wp_put hX dX5_checkpoint_448 fwX5_85 rfl (Nat.le_of_ble_eq_true rfl) rfl rfl ?_
              refine wp_aload_n hX dX5_checkpoint_451 rfl ?_
              refine wp_iconst (v := 0) hX dX5_checkpoint_452 ic_0 ?_
              refine wp_put hX dX5_checkpoint_453 fwX5_91 rfl (Nat.le_of_ble_eq_true rfl) rfl rfl ?_
              refine wp_aload_n hX dX5_checkpoint_456 rfl ?_
              refine wp_iconst (v := 0) hX dX5_checkpoint_457 ic_0 ?_
              refine wp_put hX dX5_checkpoint_458 fwX5_94 rfl (Nat.le_of_ble_eq_true rfl) rfl rfl ?_
              refine wp_iconst (v := 0) hX dX5_checkpoint_461 ic_0 ?_
              refine wp_iret hX dX5_checkpoint_462 rfl rfl ?_
              exact hp _ _ ⟨rfl, 0, 0, 0, q.1 1 + 1, q.1 2, (u, kf, vf), h, bf2, (lf, wf, nf), s, rfl, hh, fun _ => ⟨rfl, rfl, y1.symm, y2.symm, u5, rfl⟩⟩
          refine wp_aload_n hX dX5_checkpoint_403 rfl ?_
          refine wp_aload_n hX dX5_checkpoint_404 rfl ?_
          refine wp_get hX dX5_checkpoint_405 flX5_85 rfl rfl ?_
          refine wp_iconst (v := 1) hX dX5_checkpoint_408 ic_1 ?_
          refine wp_iadd hX dX5_checkpoint_409 ?_
          refine wp_aload_n hX dX5_checkpoint_410 rfl ?_
          refine wp_get hX dX5_checkpoint_411 flX5_88 rfl rfl ?_
          refine wp_iload_n hX dX5_checkpoint_414 rfl ?_
          refine wp_iload_n hX dX5_checkpoint_415 rfl ?_
          refine wp_if_ne (tgt := 423) hX dX5_checkpoint_416 (by decide) (fun y => ?_) (fun y => ?_)
          · have y1 : row = 1 := by
              have : ¬ row = 0 := fun e => y (by rw [e]; rfl)
              omega
            refine wp_aload_n hX dX5_checkpoint_423 rfl ?_
            refine wp_get hX dX5_checkpoint_424 flX5_36 rfl rfl ?_
            refine wp_iconst (v := 0) hX dX5_checkpoint_427 ic_0 ?_
            refine wp_iald hX dX5_checkpoint_428 rfl (vp_in_nI (n := 0) (by decide) (by decide)) ?_
            refine wp_ti (y := ckR B W LG q M) (hr2 y1) ?_
            exact tail
          · have y1 : row = 0 := (nI_eq (a := row) (b := 0) (by omega) (by decide)).mp y
            have : ckR B W LG q M = 0 := by rw [ckRe, if_pos (hr0.mp y1)]; rfl
            rw [this] at tail
            refine wp_iconst (v := 0) hX dX5_checkpoint_419 ic_0 ?_
            refine wp_goto (tgt := 429) hX dX5_checkpoint_420 (by decide) ?_
            exact tail
        -- the rows of nodes
        have nodes : ∀ (k s1 row : Nat) (ls : Nat → Int32) (q1 : DQ) (bf1 lf wf nf : Nat → Int32) (x4 x5 x6 x7 : Option Value), noL [none, none, none, none, x4] 5 = true → noL [none, none, none, none, none, x5] 6 = true → noL [none, none, none, none, none, none, x6] 7 = true → row ≤ 2 ^ k → row ≤ 300 → (row = 0 ↔ M.length = 0) → s1 + row + tbl (fan W) k row = s0 + tBl (fan W) M.length → (∀ i, i < row → lf i = ls i ∧ wf i = nI (s1 + i)) → nodW W k s1 row ls q1 = ckW B W LG q M → Wp X Post 229 [some (.ref 15), some (.int to), some (.int (nI (s1 + row))), some (.int (nI row)), x4, x5, x6, x7] [] (wM c B W LG q1 2 0 jp jr ep bt (u, kf, vf) h bf1 (lf, wf, nf) s) := by
          intro k
          induction k with
          | zero =>
            intro s1 row ls q1 bf1 lf wf nf x4 x5 x6 x7 _ _ _ hr hr3 hr0 htt hlw he
            have hr' : row ≤ 1 := by simpa using hr
            refine wp_iload_n hX dX5_checkpoint_229 rfl ?_
            refine wp_iconst (v := 1) hX dX5_checkpoint_230 ic_1 ?_
            refine wp_icmp_le (tgt := 403) hX dX5_checkpoint_231 (by decide) (fun _ => ?_) (fun c_ => absurd (nI_le (a := row) (b := 1) hr' (by decide)) c_)
            refine fin q1 bf1 lf wf nf row _ _ _ _ _ he hr0 hr' (fun y => ?_)
            rw [(hlw 0 (by omega)).2, ckRe, if_neg (fun e => by have := hr0.mpr e; omega)]
            have : tbl (fan W) 0 row = 0 := rfl
            congr 1
            omega
          | succ k ih =>
            intro s1 row ls q1 bf1 lf wf nf x4 x5 x6 x7 hx4 hx5 hx6 hr hr3 hr0 htt hlw he
            rw [nodW_s] at he
            rw [tbl_s] at htt
            refine wp_iload_n hX dX5_checkpoint_229 rfl ?_
            refine wp_iconst (v := 1) hX dX5_checkpoint_230 ic_1 ?_
            refine wp_icmp_le (tgt := 403) hX dX5_checkpoint_231 (by decide) (fun y => ?_) (fun y => ?_)
            · have hr' := (nI_leI (a := row) (b := 1) (by omega) (by decide)).mp y
              rw [if_pos hr'] at he htt
              refine fin q1 bf1 lf wf nf row _ _ _ _ _ he hr0 hr' (fun y => ?_)
              rw [(hlw 0 (by omega)).2, ckRe, if_neg (fun e => by have := hr0.mpr e; omega)]
              congr 1
              omega
            · have hr' : ¬ row ≤ 1 := fun e => y (nI_le (a := row) (b := 1) e (by decide))
              rw [if_neg hr'] at he htt
              have hcle := cdv_le (n := row) (e := fan W) (by omega)
              have hc1 : 0 < cdv row (fan W) := (cdv_lt (by omega)).mpr (by omega)
              generalize hf : (fun j => (s1 + row + j, rowB (fan W) 2 row (fun i => (ls i, nI (s1 + i))) j)) = f at he
              have loop : ∀ (n j : Nat) (q2 : DQ) (bf2 lf2 wf2 : Nat → Int32) (x6 x7 : Option Value), noL [none, none, none, none, none, none, x6] 7 = true → j + n = cdv row (fan W) → (∀ i, i < j → lf2 i = ls (fan W * i) ∧ wf2 i = nI (s1 + row + i)) → (∀ i, fan W * j ≤ i → i < row → lf2 i = ls i ∧ wf2 i = nI (s1 + i)) → wrN W f j n q2 = wrN W f 0 (cdv row (fan W)) q1 → Wp X Post 240 [some (.ref 15), some (.int to), some (.int (nI (s1 + row + j))), some (.int (nI row)), some (.int (nI j)), some (.int (nI (fan W * j))), x6, x7] [] (wM c B W LG q2 2 0 jp jr ep bt (u, kf, vf) h bf2 (lf2, wf2, nf) s) := by
                intro n
                induction n with
                | zero =>
                  intro j q2 bf2 lf2 wf2 x6 x7 hx6 hj hl1 hl2 hw
                  have hj2 : j = cdv row (fan W) := by omega
                  have hge : row ≤ fan W * j := by rw [hj2, Nat.mul_comm]; exact cdv_mul (by omega)
                  have hle2 : fan W * j ≤ 30 * 300 := Nat.mul_le_mul hF2 (by omega)
                  rw [← hw] at he
                  have he2 : nodW W k (s1 + row) (cdv row (fan W)) (fun j => ls (fan W * j)) q2 = ckW B W LG q M := he
                  refine wp_iload hX dX5_checkpoint_240 rfl ?_
                  refine wp_iload_n hX dX5_checkpoint_242 rfl ?_
                  refine wp_icmp_ge (tgt := 397) hX dX5_checkpoint_243 (by decide) (fun _ => ?_) (fun c_ => absurd (nI_le hge (by omega)) c_)
                  refine wp_iload hX dX5_checkpoint_397 rfl ?_
                  refine wp_istore_n hX dX5_checkpoint_399 (Nat.le_of_ble_eq_true rfl) rfl ?_
                  refine wp_goto (tgt := 229) hX dX5_checkpoint_400 (by decide) ?_
                  rw [hj2] at hl1 ⊢
                  exact ih (s1 + row) (cdv row (fan W)) (fun j => ls (fan W * j)) q2 bf2 lf2 wf2 nf _ _ x6 x7 rfl rfl hx6 (cdv_half hF hr) (by omega) ⟨fun e => by omega, fun e => by have := hr0.mpr e; omega⟩ (by omega) hl1 he2
                | succ n ih2 =>
                  intro j q2 bf2 lf2 wf2 x6 x7 hx6 hj hl1 hl2 hw
                  have hfl : fan W * j < row := by rw [Nat.mul_comm]; exact (cdv_lt (by omega)).mp (by omega)
                  have h2j : 2 * j ≤ fan W * j := Nat.mul_le_mul hF (Nat.le_refl _)
                  have hfi : (f j).2 = rowB (fan W) 2 row (fun i => (ls i, nI (s1 + i))) j := by rw [← hf]
                  have hfb : (f j).1 = s1 + row + j := by rw [← hf]
                  generalize hcnt : min (fan W) (row - fan W * j) = cnt
                  have mid : ∀ x7, Wp X Post 268 [some (.ref 15), some (.int to), some (.int (nI (s1 + row + j))), some (.int (nI row)), some (.int (nI j)), some (.int (nI (fan W * j))), x6, x7] [.int (nI cnt)] (wM c B W LG q2 2 0 jp jr ep bt (u, kf, vf) h bf2 (lf2, wf2, nf) s) := by
                    intro x7
                    refine wp_istore hX dX5_checkpoint_268 (Nat.le_of_ble_eq_true rfl) rfl ?_
                    refine wp_aload_n hX dX5_checkpoint_270 rfl ?_
                    refine wp_cv0 hX dX5_checkpoint_271 mlX5_63 ⟨Nat.le_of_ble_eq_true rfl, Nat.le_of_ble_eq_true rfl⟩ (m_blank) rfl (Nat.le_of_ble_eq_true rfl) ?_
                    refine wp_aload_n hX dX5_checkpoint_274 rfl ?_
                    refine wp_get hX dX5_checkpoint_275 flX5_30 rfl rfl ?_
                    refine wp_iconst (v := 0) hX dX5_checkpoint_278 ic_0 ?_
                    refine wp_iconst (v := 2) hX dX5_checkpoint_279 ic_2 ?_
                    refine wp_iast hX dX5_checkpoint_280 rfl (vp_in_nI (n := 0) (by decide) (by decide)) ?_
                    refine wp_aload_n hX dX5_checkpoint_281 rfl ?_
                    refine wp_get hX dX5_checkpoint_282 flX5_30 rfl rfl ?_
                    refine wp_iconst (v := 1) hX dX5_checkpoint_285 ic_1 ?_
                    refine wp_iload hX dX5_checkpoint_286 rfl ?_
                    refine wp_iast hX dX5_checkpoint_288 rfl (vp_in_nI (n := 1) (by decide) (by decide)) ?_
                    refine wp_eqW (σ1 := wM c B W LG q2 2 0 jp jr ep bt (u, kf, vf) h (upd (upd (fun j => if j < 64 then 0 else bf2 j) 0 2) 1 (nI cnt)) (lf2, wf2, nf) s) rfl ?_
                    have inner : ∀ (r i : Nat), i + r = cnt → Wp X Post 292 [some (.ref 15), some (.int to), some (.int (nI (s1 + row + j))), some (.int (nI row)), some (.int (nI j)), some (.int (nI (fan W * j))), some (.int (nI cnt)), some (.int (nI i))] [] (wM c B W LG q2 2 0 jp jr ep bt (u, kf, vf) h (prP (upd (upd (fun j => if j < 64 then 0 else bf2 j) 0 2) 1 (nI cnt)) (fun i => (ls (fan W * j + i), nI (s1 + (fan W * j + i)))) i) (lf2, wf2, nf) s) := by
                      intro r
                      induction r with
                      | zero =>
                        intro i hi
                        rw [show i = cnt by omega]
                        by_cases h1 : q2.2.2 = 1
                        · rw [wrN_s, if_pos h1] at hw
                          rw [← hw, if_neg (show ¬ false = true by decide)] at he
                          refine wp_iload hX dX5_checkpoint_292 rfl ?_
                          refine wp_iload hX dX5_checkpoint_294 rfl ?_
                          refine wp_icmp_ge (tgt := 347) hX dX5_checkpoint_296 (by decide) (fun _ => ?_) (fun c_ => absurd (nI_le (Nat.le_refl _) (by omega)) c_)
                          refine wp_aload_n hX dX5_checkpoint_347 rfl ?_
                          refine wp_iload_n hX dX5_checkpoint_348 rfl ?_
                          refine wp_cv1 hX dX5_checkpoint_349 mlX5_67 ⟨Nat.le_of_ble_eq_true rfl, Nat.le_of_ble_eq_true rfl⟩ (m_write_no h1) rfl (Nat.le_of_ble_eq_true rfl) ?_
                          refine wp_if_ne (tgt := 357) hX dX5_checkpoint_352 (by decide) (fun c_ => absurd (rfl) c_) (fun _ => ?_)
                          refine wp_iconst (v := (-1)) hX dX5_checkpoint_355 ic_m1 ?_
                          refine wp_iret hX dX5_checkpoint_356 rfl rfl ?_
                          exact dn _ _ _ he
                        · rw [wrN_s, if_neg h1] at hw
                          have e2 : pgB 2 cnt (fun i => (ls (fan W * j + i), nI (s1 + (fan W * j + i)))) = (f j).2 := by rw [hfi]; unfold rowB; rw [hcnt]
                          refine wp_iload hX dX5_checkpoint_292 rfl ?_
                          refine wp_iload hX dX5_checkpoint_294 rfl ?_
                          refine wp_icmp_ge (tgt := 347) hX dX5_checkpoint_296 (by decide) (fun _ => ?_) (fun c_ => absurd (nI_le (Nat.le_refl _) (by omega)) c_)
                          refine wp_aload_n hX dX5_checkpoint_347 rfl ?_
                          refine wp_iload_n hX dX5_checkpoint_348 rfl ?_
                          refine wp_cv1 hX dX5_checkpoint_349 mlX5_67 ⟨Nat.le_of_ble_eq_true rfl, Nat.le_of_ble_eq_true rfl⟩ (m_write_ok g2 g4 (by omega) (by omega) h1) rfl (Nat.le_of_ble_eq_true rfl) ?_
                          refine wp_if_ne (tgt := 357) hX dX5_checkpoint_352 (by decide) (fun _ => ?_) (fun c_ => absurd c_ (by decide))
                          rw [wrD_congr (pgB_eq g4), e2, ← hfb]
                          obtain ⟨l1, l2⟩ := hl2 (fan W * j) (Nat.le_refl _) hfl
                          refine wp_aload_n hX dX5_checkpoint_357 rfl ?_
                          refine wp_get hX dX5_checkpoint_358 flX5_33 rfl rfl ?_
                          refine wp_iload hX dX5_checkpoint_361 rfl ?_
                          refine wp_aload_n hX dX5_checkpoint_363 rfl ?_
                          refine wp_get hX dX5_checkpoint_364 flX5_33 rfl rfl ?_
                          refine wp_iload hX dX5_checkpoint_367 rfl ?_
                          refine wp_iald hX dX5_checkpoint_369 rfl (vp_in_nI (by omega) (by decide)) ?_
                          refine wp_ti (y := (ls (fan W * j))) (show lf2 (nI (fan W * j)).toNatClampNeg = ls (fan W * j) by rw [nI_clamp (by omega)]; exact l1) ?_
                          refine wp_iast hX dX5_checkpoint_370 rfl (vp_in_nI (by omega) (by decide)) ?_
                          rw [nI_clamp (show j < 2 ^ 31 by omega)]
                          refine wp_aload_n hX dX5_checkpoint_371 rfl ?_
                          refine wp_get hX dX5_checkpoint_372 flX5_36 rfl rfl ?_
                          refine wp_iload hX dX5_checkpoint_375 rfl ?_
                          refine wp_iload_n hX dX5_checkpoint_377 rfl ?_
                          refine wp_iast hX dX5_checkpoint_378 rfl (vp_in_nI (by omega) (by decide)) ?_
                          rw [nI_clamp (show j < 2 ^ 31 by omega)]
                          rw [hfb] at hw ⊢
                          refine wp_eqW (σ1 := wM c B W LG (wrD q2.1 W (s1 + row + j) (f j).2, q2.2.1 + 1, pwd q2.2.2) 2 0 jp jr ep bt (u, kf, vf) h (upd (prP (upd (upd (fun j => if j < 64 then 0 else bf2 j) 0 2) 1 (nI cnt)) (fun i => (ls (fan W * j + i), nI (s1 + (fan W * j + i)))) cnt) (W - 1) (sumD (prP (upd (upd (fun j => if j < 64 then 0 else bf2 j) 0 2) 1 (nI cnt)) (fun i => (ls (fan W * j + i), nI (s1 + (fan W * j + i)))) cnt) 0 (W - 1))) (upd lf2 j (ls (fan W * j)), upd wf2 j (nI (s1 + row + j)), nf) s) rfl ?_
                          refine wp_iinc hX dX5_checkpoint_379 ic_1 rfl (Nat.le_of_ble_eq_true rfl) rfl ?_
                          refine wp_iinc hX dX5_checkpoint_382 ic_1 rfl (Nat.le_of_ble_eq_true rfl) rfl ?_
                          refine wp_iload hX dX5_checkpoint_385 rfl ?_
                          refine wp_aload_n hX dX5_checkpoint_387 rfl ?_
                          refine wp_cv0 hX dX5_checkpoint_388 mlX5_156 ⟨Nat.le_of_ble_eq_true rfl, Nat.le_of_ble_eq_true rfl⟩ (m_fan (by omega) g4) rfl (Nat.le_of_ble_eq_true rfl) ?_
                          refine wp_iadd hX dX5_checkpoint_391 ?_
                          refine wp_ti (y := (nI (fan W * (j + 1)))) (by rw [nI_add, Nat.mul_add, Nat.mul_one]) ?_
                          refine wp_istore hX dX5_checkpoint_392 (Nat.le_of_ble_eq_true rfl) rfl ?_
                          refine wp_goto (tgt := 240) hX dX5_checkpoint_394 (by decide) ?_
                          rw [nI_1, nI_1]
                          refine ih2 (j + 1) (wrD q2.1 W (s1 + row + j) (f j).2, q2.2.1 + 1, pwd q2.2.2) _ (upd lf2 j (ls (fan W * j))) (upd wf2 j (nI (s1 + row + j))) (some (.int (nI cnt))) _ rfl (by omega) (fun i hi => ?_) (fun i h1 h2 => ?_) hw
                          · by_cases e3 : i = j
                            · rw [e3, pk_us, pk_us]
                              exact ⟨rfl, rfl⟩
                            · rw [pk_un e3, pk_un e3]
                              exact hl1 i (by omega)
                          · rw [Nat.mul_add] at h1
                            have e3 : ¬ i = j := by omega
                            rw [pk_un e3, pk_un e3]
                            exact hl2 i (by omega) h2
                      | succ r ih3 =>
                        intro i hi
                        have hki : fan W * j + i < row := by omega
                        obtain ⟨l1, l2⟩ := hl2 (fan W * j + i) (by omega) hki
                        have e1 : (2 : Int32) + 2 * nI i = nI (2 + 2 * i) := by rw [show (2 : Int32) = nI 2 from rfl, pk_mul, nI_add]
                        have e3 : (3 : Int32) + 2 * nI i = nI (2 + 2 * i + 1) := by rw [show (3 : Int32) = nI 3 from rfl, show (2 : Int32) = nI 2 from rfl, pk_mul, nI_add]; congr 1; omega
                        refine wp_iload hX dX5_checkpoint_292 rfl ?_
                        refine wp_iload hX dX5_checkpoint_294 rfl ?_
                        refine wp_icmp_ge (tgt := 347) hX dX5_checkpoint_296 (by decide) (fun c_ => absurd c_ (nI_ge (by omega) (by omega))) (fun _ => ?_)
                        refine wp_aload_n hX dX5_checkpoint_299 rfl ?_
                        refine wp_get hX dX5_checkpoint_300 flX5_30 rfl rfl ?_
                        refine wp_iconst (v := 2) hX dX5_checkpoint_303 ic_2 ?_
                        refine wp_iconst (v := 2) hX dX5_checkpoint_304 ic_2 ?_
                        refine wp_iload hX dX5_checkpoint_305 rfl ?_
                        refine wp_imul hX dX5_checkpoint_307 ?_
                        refine wp_iadd hX dX5_checkpoint_308 ?_
                        refine wp_ti (y := (nI (2 + 2 * i))) (e1) ?_
                        refine wp_aload_n hX dX5_checkpoint_309 rfl ?_
                        refine wp_get hX dX5_checkpoint_310 flX5_33 rfl rfl ?_
                        refine wp_iload hX dX5_checkpoint_313 rfl ?_
                        refine wp_iload hX dX5_checkpoint_315 rfl ?_
                        refine wp_iadd hX dX5_checkpoint_317 ?_
                        refine wp_ti (y := (nI (fan W * j + i))) (nI_add _ _) ?_
                        refine wp_iald hX dX5_checkpoint_318 rfl (vp_in_nI (by omega) (by decide)) ?_
                        refine wp_ti (y := (ls (fan W * j + i))) (show lf2 (nI (fan W * j + i)).toNatClampNeg = _ by rw [nI_clamp (by omega)]; exact l1) ?_
                        refine wp_iast hX dX5_checkpoint_319 rfl (vp_in_nI (by omega) (by decide)) ?_
                        rw [nI_clamp (show 2 + 2 * i < 2 ^ 31 by omega)]
                        refine wp_aload_n hX dX5_checkpoint_320 rfl ?_
                        refine wp_get hX dX5_checkpoint_321 flX5_30 rfl rfl ?_
                        refine wp_iconst (v := 3) hX dX5_checkpoint_324 ic_3 ?_
                        refine wp_iconst (v := 2) hX dX5_checkpoint_325 ic_2 ?_
                        refine wp_iload hX dX5_checkpoint_326 rfl ?_
                        refine wp_imul hX dX5_checkpoint_328 ?_
                        refine wp_iadd hX dX5_checkpoint_329 ?_
                        refine wp_ti (y := (nI (2 + 2 * i + 1))) (e3) ?_
                        refine wp_aload_n hX dX5_checkpoint_330 rfl ?_
                        refine wp_get hX dX5_checkpoint_331 flX5_36 rfl rfl ?_
                        refine wp_iload hX dX5_checkpoint_334 rfl ?_
                        refine wp_iload hX dX5_checkpoint_336 rfl ?_
                        refine wp_iadd hX dX5_checkpoint_338 ?_
                        refine wp_ti (y := (nI (fan W * j + i))) (nI_add _ _) ?_
                        refine wp_iald hX dX5_checkpoint_339 rfl (vp_in_nI (by omega) (by decide)) ?_
                        refine wp_ti (y := (nI (s1 + (fan W * j + i)))) (show wf2 (nI (fan W * j + i)).toNatClampNeg = _ by rw [nI_clamp (by omega)]; exact l2) ?_
                        refine wp_iast hX dX5_checkpoint_340 rfl (vp_in_nI (by omega) (by decide)) ?_
                        rw [nI_clamp (show 2 + 2 * i + 1 < 2 ^ 31 by omega)]
                        have e := prP_s (upd (upd (fun j => if j < 64 then 0 else bf2 j) 0 2) 1 (nI cnt)) (fun i => (ls (fan W * j + i), nI (s1 + (fan W * j + i)))) i
                        refine wp_eqW (σ1 := wM c B W LG q2 2 0 jp jr ep bt (u, kf, vf) h (upd (upd (prP (upd (upd (fun j => if j < 64 then 0 else bf2 j) 0 2) 1 (nI cnt)) (fun i => (ls (fan W * j + i), nI (s1 + (fan W * j + i)))) i) (2 + 2 * i) (ls (fan W * j + i))) (2 + 2 * i + 1) (nI (s1 + (fan W * j + i)))) (lf2, wf2, nf) s) rfl ?_
                        rw [e]
                        refine wp_iinc hX dX5_checkpoint_341 ic_1 rfl (Nat.le_of_ble_eq_true rfl) rfl ?_
                        refine wp_goto (tgt := 292) hX dX5_checkpoint_344 (by decide) ?_
                        rw [nI_1]
                        exact ih3 (i + 1) (by omega)
                    refine wp_iconst (v := 0) hX dX5_checkpoint_289 ic_0 ?_
                    refine wp_istore hX dX5_checkpoint_290 (Nat.le_of_ble_eq_true rfl) rfl ?_
                    have z0 := inner cnt 0 (by omega)
                    rw [prP_0] at z0
                    exact z0
                  refine wp_iload hX dX5_checkpoint_240 rfl ?_
                  refine wp_iload_n hX dX5_checkpoint_242 rfl ?_
                  refine wp_icmp_ge (tgt := 397) hX dX5_checkpoint_243 (by decide) (fun c_ => absurd c_ (nI_ge hfl (by omega))) (fun _ => ?_)
                  refine wp_iload_n hX dX5_checkpoint_246 rfl ?_
                  refine wp_iload hX dX5_checkpoint_247 rfl ?_
                  refine wp_isub hX dX5_checkpoint_249 ?_
                  refine wp_ti (y := (nI (row - fan W * j))) (pk_sub (by omega)) ?_
                  refine wp_aload_n hX dX5_checkpoint_250 rfl ?_
                  refine wp_cv0 hX dX5_checkpoint_251 mlX5_156 ⟨Nat.le_of_ble_eq_true rfl, Nat.le_of_ble_eq_true rfl⟩ (m_fan (by omega) g4) rfl (Nat.le_of_ble_eq_true rfl) ?_
                  refine wp_icmp_ge (tgt := 264) hX dX5_checkpoint_254 (by decide) (fun e4 => ?_) (fun e4 => ?_)
                  · have e5 := (nI_leI (a := fan W) (b := row - fan W * j) (by omega) (by omega)).mp e4
                    refine wp_aload_n hX dX5_checkpoint_264 rfl ?_
                    refine wp_cv0 hX dX5_checkpoint_265 mlX5_156 ⟨Nat.le_of_ble_eq_true rfl, Nat.le_of_ble_eq_true rfl⟩ (m_fan (by omega) g4) rfl (Nat.le_of_ble_eq_true rfl) ?_
                    rw [show cnt = fan W by omega] at mid
                    exact mid x7
                  · have e5 : row - fan W * j < fan W := Nat.lt_of_not_le (fun e => e4 (nI_le e (by omega)))
                    refine wp_iload_n hX dX5_checkpoint_257 rfl ?_
                    refine wp_iload hX dX5_checkpoint_258 rfl ?_
                    refine wp_isub hX dX5_checkpoint_260 ?_
                    refine wp_ti (y := (nI (row - fan W * j))) (pk_sub (by omega)) ?_
                    refine wp_goto (tgt := 268) hX dX5_checkpoint_261 (by decide) ?_
                    rw [show cnt = row - fan W * j by omega] at mid
                    exact mid x7
              refine wp_iconst (v := 0) hX dX5_checkpoint_234 ic_0 ?_
              refine wp_istore hX dX5_checkpoint_235 (Nat.le_of_ble_eq_true rfl) rfl ?_
              refine wp_iconst (v := 0) hX dX5_checkpoint_237 ic_0 ?_
              refine wp_istore hX dX5_checkpoint_238 (Nat.le_of_ble_eq_true rfl) rfl ?_
              exact loop (cdv row (fan W)) 0 q1 bf1 lf wf x6 x7 hx6 (by omega) (fun i hi => by omega) (fun i _ hi => hlw i hi) rfl
        -- the leaves
        generalize hfL : (fun k => (s0 + k, rowB (fan W) 1 M.length (fun i => M.getD i (0, 0)) k)) = f
        have hlea : leaW W s0 M q = wrN W f 0 (cdv M.length (fan W)) q := by unfold leaW; rw [hfL]
        have htre : ckW B W LG q M = if (leaW W s0 M q).1 then nodW W 32 s0 (cdv M.length (fan W)) (fun k => (M.getD (fan W * k) (0, 0)).1) (leaW W s0 M q).2 else (false, (leaW W s0 M q).2) := by rw [ckWe]; rfl
        rw [hlea] at htre
        have hcle := cdv_le (n := M.length) (e := fan W) (by omega)
        have leaves : ∀ (n l : Nat) (q1 : DQ) (bf1 lf wf : Nat → Int32) (x5 x6 x7 : Option Value), noL [none, none, none, none, none, x5] 6 = true → noL [none, none, none, none, none, none, x6] 7 = true → l + n = cdv M.length (fan W) → (∀ i, i < l → lf i = (M.getD (fan W * i) (0, 0)).1 ∧ wf i = nI (s0 + i)) → wrN W f l n q1 = wrN W f 0 (cdv M.length (fan W)) q → Wp X Post 65 [some (.ref 15), some (.int to), some (.int (nI (s0 + l))), some (.int (nI l)), some (.int (nI (fan W * l))), x5, x6, x7] [] (wM c B W LG q1 2 0 jp jr ep bt (u, kf, vf) h bf1 (lf, wf, z.2.2) s) := by
          intro n
          induction n with
          | zero =>
            intro l q1 bf1 lf wf x5 x6 x7 hx5 hx6 hl hlw hw
            have hl2 : l = cdv M.length (fan W) := by omega
            have hge : M.length ≤ fan W * l := by rw [hl2, Nat.mul_comm]; exact cdv_mul (by omega)
            have hle2 : fan W * l ≤ 30 * 300 := Nat.mul_le_mul hF2 (by omega)
            rw [← hw] at htre
            have he2 : nodW W 32 s0 (cdv M.length (fan W)) (fun k => (M.getD (fan W * k) (0, 0)).1) q1 = ckW B W LG q M := htre.symm
            refine wp_iload hX dX5_checkpoint_65 rfl ?_
            refine wp_aload_n hX dX5_checkpoint_67 rfl ?_
            refine wp_get hX dX5_checkpoint_68 flX5_97 rfl rfl ?_
            refine wp_icmp_ge (tgt := 229) hX dX5_checkpoint_71 (by decide) (fun _ => ?_) (fun c_ => absurd (nI_le (a := u) (b := fan W * l) (by omega) (by omega)) c_)
            rw [hl2] at hlw ⊢
            exact nodes 32 s0 (cdv M.length (fan W)) _ q1 bf1 lf wf z.2.2 _ x5 x6 x7 rfl hx5 hx6 (by omega) (by omega) ⟨fun e => by
              rcases Nat.eq_zero_or_pos M.length with y | y
              · exact y
              · have : 0 < cdv M.length (fan W) := (cdv_lt (by omega)).mpr (by omega)
                omega, fun e => by rw [e, cdv_0 (by omega)]⟩ (by omega) hlw he2
          | succ n ih =>
            intro l q1 bf1 lf wf x5 x6 x7 hx5 hx6 hl hlw hw
            have hfl : fan W * l < M.length := by rw [Nat.mul_comm]; exact (cdv_lt (by omega)).mp (by omega)
            have hfi : (f l).2 = rowB (fan W) 1 M.length (fun i => M.getD i (0, 0)) l := by rw [← hfL]
            have hfb : (f l).1 = s0 + l := by rw [← hfL]
            generalize hcnt : min (fan W) (M.length - fan W * l) = cnt
            have mid : Wp X Post 102 [some (.ref 15), some (.int to), some (.int (nI (s0 + l))), some (.int (nI l)), some (.int (nI (fan W * l))), x5, x6, x7] [.int (nI cnt)] (wM c B W LG q1 2 0 jp jr ep bt (u, kf, vf) h bf1 (lf, wf, z.2.2) s) := by
              refine wp_istore hX dX5_checkpoint_102 (Nat.le_of_ble_eq_true rfl) rfl ?_
              refine wp_aload_n hX dX5_checkpoint_104 rfl ?_
              refine wp_cv0 hX dX5_checkpoint_105 mlX5_63 ⟨Nat.le_of_ble_eq_true rfl, Nat.le_of_ble_eq_true rfl⟩ (m_blank) rfl (Nat.le_of_ble_eq_true rfl) ?_
              refine wp_aload_n hX dX5_checkpoint_108 rfl ?_
              refine wp_get hX dX5_checkpoint_109 flX5_30 rfl rfl ?_
              refine wp_iconst (v := 0) hX dX5_checkpoint_112 ic_0 ?_
              refine wp_iconst (v := 1) hX dX5_checkpoint_113 ic_1 ?_
              refine wp_iast hX dX5_checkpoint_114 rfl (vp_in_nI (n := 0) (by decide) (by decide)) ?_
              refine wp_aload_n hX dX5_checkpoint_115 rfl ?_
              refine wp_get hX dX5_checkpoint_116 flX5_30 rfl rfl ?_
              refine wp_iconst (v := 1) hX dX5_checkpoint_119 ic_1 ?_
              refine wp_iload hX dX5_checkpoint_120 rfl ?_
              refine wp_iast hX dX5_checkpoint_122 rfl (vp_in_nI (n := 1) (by decide) (by decide)) ?_
              refine wp_eqW (σ1 := wM c B W LG q1 2 0 jp jr ep bt (u, kf, vf) h (upd (upd (fun j => if j < 64 then 0 else bf1 j) 0 1) 1 (nI cnt)) (lf, wf, z.2.2) s) rfl ?_
              have inner : ∀ (r i : Nat), i + r = cnt → Wp X Post 126 [some (.ref 15), some (.int to), some (.int (nI (s0 + l))), some (.int (nI l)), some (.int (nI (fan W * l))), some (.int (nI cnt)), some (.int (nI i)), x7] [] (wM c B W LG q1 2 0 jp jr ep bt (u, kf, vf) h (prP (upd (upd (fun j => if j < 64 then 0 else bf1 j) 0 1) 1 (nI cnt)) (fun i => M.getD (fan W * l + i) (0, 0)) i) (lf, wf, z.2.2) s) := by
                intro r
                induction r with
                | zero =>
                  intro i hi
                  rw [show i = cnt by omega]
                  by_cases h1 : q1.2.2 = 1
                  · rw [wrN_s, if_pos h1] at hw
                    rw [← hw, if_neg (show ¬ false = true by decide)] at htre
                    refine wp_iload hX dX5_checkpoint_126 rfl ?_
                    refine wp_iload hX dX5_checkpoint_128 rfl ?_
                    refine wp_icmp_ge (tgt := 181) hX dX5_checkpoint_130 (by decide) (fun _ => ?_) (fun c_ => absurd (nI_le (Nat.le_refl _) (by omega)) c_)
                    refine wp_aload_n hX dX5_checkpoint_181 rfl ?_
                    refine wp_iload_n hX dX5_checkpoint_182 rfl ?_
                    refine wp_cv1 hX dX5_checkpoint_183 mlX5_67 ⟨Nat.le_of_ble_eq_true rfl, Nat.le_of_ble_eq_true rfl⟩ (m_write_no h1) rfl (Nat.le_of_ble_eq_true rfl) ?_
                    refine wp_if_ne (tgt := 191) hX dX5_checkpoint_186 (by decide) (fun c_ => absurd (rfl) c_) (fun _ => ?_)
                    refine wp_iconst (v := (-1)) hX dX5_checkpoint_189 ic_m1 ?_
                    refine wp_iret hX dX5_checkpoint_190 rfl rfl ?_
                    exact dn _ _ _ htre.symm
                  · rw [wrN_s, if_neg h1] at hw
                    have e2 : pgB 1 cnt (fun i => M.getD (fan W * l + i) (0, 0)) = (f l).2 := by rw [hfi]; unfold rowB; rw [hcnt]
                    refine wp_iload hX dX5_checkpoint_126 rfl ?_
                    refine wp_iload hX dX5_checkpoint_128 rfl ?_
                    refine wp_icmp_ge (tgt := 181) hX dX5_checkpoint_130 (by decide) (fun _ => ?_) (fun c_ => absurd (nI_le (Nat.le_refl _) (by omega)) c_)
                    refine wp_aload_n hX dX5_checkpoint_181 rfl ?_
                    refine wp_iload_n hX dX5_checkpoint_182 rfl ?_
                    refine wp_cv1 hX dX5_checkpoint_183 mlX5_67 ⟨Nat.le_of_ble_eq_true rfl, Nat.le_of_ble_eq_true rfl⟩ (m_write_ok g2 g4 (by omega) (by omega) h1) rfl (Nat.le_of_ble_eq_true rfl) ?_
                    refine wp_if_ne (tgt := 191) hX dX5_checkpoint_186 (by decide) (fun _ => ?_) (fun c_ => absurd c_ (by decide))
                    rw [wrD_congr (pgB_eq g4), e2, ← hfb]
                    refine wp_aload_n hX dX5_checkpoint_191 rfl ?_
                    refine wp_get hX dX5_checkpoint_192 flX5_33 rfl rfl ?_
                    refine wp_iload_n hX dX5_checkpoint_195 rfl ?_
                    refine wp_aload_n hX dX5_checkpoint_196 rfl ?_
                    refine wp_get hX dX5_checkpoint_197 flX5_14 rfl rfl ?_
                    refine wp_iload hX dX5_checkpoint_200 rfl ?_
                    refine wp_iald hX dX5_checkpoint_202 rfl (vp_in_nI (by omega) (by decide)) ?_
                    refine wp_ti (y := (kf (fan W * l))) (show kf (nI (fan W * l)).toNatClampNeg = _ by rw [nI_clamp (by omega)]) ?_
                    refine wp_iast hX dX5_checkpoint_203 rfl (vp_in_nI (by omega) (by decide)) ?_
                    rw [nI_clamp (show l < 2 ^ 31 by omega)]
                    refine wp_aload_n hX dX5_checkpoint_204 rfl ?_
                    refine wp_get hX dX5_checkpoint_205 flX5_36 rfl rfl ?_
                    refine wp_iload_n hX dX5_checkpoint_208 rfl ?_
                    refine wp_iload_n hX dX5_checkpoint_209 rfl ?_
                    refine wp_iast hX dX5_checkpoint_210 rfl (vp_in_nI (by omega) (by decide)) ?_
                    rw [nI_clamp (show l < 2 ^ 31 by omega)]
                    rw [hfb] at hw ⊢
                    refine wp_eqW (σ1 := wM c B W LG (wrD q1.1 W (s0 + l) (f l).2, q1.2.1 + 1, pwd q1.2.2) 2 0 jp jr ep bt (u, kf, vf) h (upd (prP (upd (upd (fun j => if j < 64 then 0 else bf1 j) 0 1) 1 (nI cnt)) (fun i => M.getD (fan W * l + i) (0, 0)) cnt) (W - 1) (sumD (prP (upd (upd (fun j => if j < 64 then 0 else bf1 j) 0 1) 1 (nI cnt)) (fun i => M.getD (fan W * l + i) (0, 0)) cnt) 0 (W - 1))) (upd lf l (kf (fan W * l)), upd wf l (nI (s0 + l)), z.2.2) s) rfl ?_
                    refine wp_iinc hX dX5_checkpoint_211 ic_1 rfl (Nat.le_of_ble_eq_true rfl) rfl ?_
                    refine wp_iinc hX dX5_checkpoint_214 ic_1 rfl (Nat.le_of_ble_eq_true rfl) rfl ?_
                    refine wp_iload hX dX5_checkpoint_217 rfl ?_
                    refine wp_aload_n hX dX5_checkpoint_219 rfl ?_
                    refine wp_cv0 hX dX5_checkpoint_220 mlX5_156 ⟨Nat.le_of_ble_eq_true rfl, Nat.le_of_ble_eq_true rfl⟩ (m_fan (by omega) g4) rfl (Nat.le_of_ble_eq_true rfl) ?_
                    refine wp_iadd hX dX5_checkpoint_223 ?_
                    refine wp_ti (y := (nI (fan W * (l + 1)))) (by rw [nI_add, Nat.mul_add, Nat.mul_one]) ?_
                    refine wp_istore hX dX5_checkpoint_224 (Nat.le_of_ble_eq_true rfl) rfl ?_
                    refine wp_goto (tgt := 65) hX dX5_checkpoint_226 (by decide) ?_
                    rw [nI_1, nI_1]
                    refine ih (l + 1) (wrD q1.1 W (s0 + l) (f l).2, q1.2.1 + 1, pwd q1.2.2) _ (upd lf l (kf (fan W * l))) (upd wf l (nI (s0 + l))) (some (.int (nI cnt))) (some (.int (nI cnt))) _ rfl rfl (by omega) (fun i hi => ?_) hw
                    by_cases e3 : i = l
                    · rw [e3, pk_us, pk_us, hkv _ (by omega)]
                      exact ⟨rfl, rfl⟩
                    · rw [pk_un e3, pk_un e3]
                      exact hlw i (by omega)
                | succ r ih3 =>
                  intro i hi
                  have hki : fan W * l + i < u := by omega
                  have e1 : (2 : Int32) + 2 * nI i = nI (2 + 2 * i) := by rw [show (2 : Int32) = nI 2 from rfl, pk_mul, nI_add]
                  have e3 : (3 : Int32) + 2 * nI i = nI (2 + 2 * i + 1) := by rw [show (3 : Int32) = nI 3 from rfl, show (2 : Int32) = nI 2 from rfl, pk_mul, nI_add]; congr 1; omega
                  refine wp_iload hX dX5_checkpoint_126 rfl ?_
                  refine wp_iload hX dX5_checkpoint_128 rfl ?_
                  refine wp_icmp_ge (tgt := 181) hX dX5_checkpoint_130 (by decide) (fun c_ => absurd c_ (nI_ge (by omega) (by omega))) (fun _ => ?_)
                  refine wp_aload_n hX dX5_checkpoint_133 rfl ?_
                  refine wp_get hX dX5_checkpoint_134 flX5_30 rfl rfl ?_
                  refine wp_iconst (v := 2) hX dX5_checkpoint_137 ic_2 ?_
                  refine wp_iconst (v := 2) hX dX5_checkpoint_138 ic_2 ?_
                  refine wp_iload hX dX5_checkpoint_139 rfl ?_
                  refine wp_imul hX dX5_checkpoint_141 ?_
                  refine wp_iadd hX dX5_checkpoint_142 ?_
                  refine wp_ti (y := (nI (2 + 2 * i))) (e1) ?_
                  refine wp_aload_n hX dX5_checkpoint_143 rfl ?_
                  refine wp_get hX dX5_checkpoint_144 flX5_14 rfl rfl ?_
                  refine wp_iload hX dX5_checkpoint_147 rfl ?_
                  refine wp_iload hX dX5_checkpoint_149 rfl ?_
                  refine wp_iadd hX dX5_checkpoint_151 ?_
                  refine wp_ti (y := (nI (fan W * l + i))) (nI_add _ _) ?_
                  refine wp_iald hX dX5_checkpoint_152 rfl (vp_in_nI (by omega) (by decide)) ?_
                  refine wp_ti (y := (kf (fan W * l + i))) (show kf (nI (fan W * l + i)).toNatClampNeg = _ by rw [nI_clamp (by omega)]) ?_
                  refine wp_iast hX dX5_checkpoint_153 rfl (vp_in_nI (by omega) (by decide)) ?_
                  rw [nI_clamp (show 2 + 2 * i < 2 ^ 31 by omega)]
                  refine wp_aload_n hX dX5_checkpoint_154 rfl ?_
                  refine wp_get hX dX5_checkpoint_155 flX5_30 rfl rfl ?_
                  refine wp_iconst (v := 3) hX dX5_checkpoint_158 ic_3 ?_
                  refine wp_iconst (v := 2) hX dX5_checkpoint_159 ic_2 ?_
                  refine wp_iload hX dX5_checkpoint_160 rfl ?_
                  refine wp_imul hX dX5_checkpoint_162 ?_
                  refine wp_iadd hX dX5_checkpoint_163 ?_
                  refine wp_ti (y := (nI (2 + 2 * i + 1))) (e3) ?_
                  refine wp_aload_n hX dX5_checkpoint_164 rfl ?_
                  refine wp_get hX dX5_checkpoint_165 flX5_17 rfl rfl ?_
                  refine wp_iload hX dX5_checkpoint_168 rfl ?_
                  refine wp_iload hX dX5_checkpoint_170 rfl ?_
                  refine wp_iadd hX dX5_checkpoint_172 ?_
                  refine wp_ti (y := (nI (fan W * l + i))) (nI_add _ _) ?_
                  refine wp_iald hX dX5_checkpoint_173 rfl (vp_in_nI (by omega) (by decide)) ?_
                  refine wp_ti (y := (vf (fan W * l + i))) (show vf (nI (fan W * l + i)).toNatClampNeg = _ by rw [nI_clamp (by omega)]) ?_
                  refine wp_iast hX dX5_checkpoint_174 rfl (vp_in_nI (by omega) (by decide)) ?_
                  rw [nI_clamp (show 2 + 2 * i + 1 < 2 ^ 31 by omega)]
                  have e := prP_s (upd (upd (fun j => if j < 64 then 0 else bf1 j) 0 1) 1 (nI cnt)) (fun i => M.getD (fan W * l + i) (0, 0)) i
                  rw [show M.getD (fan W * l + i) (0, 0) = (kf (fan W * l + i), vf (fan W * l + i)) from hkv _ hki] at e
                  refine wp_eqW (σ1 := wM c B W LG q1 2 0 jp jr ep bt (u, kf, vf) h (upd (upd (prP (upd (upd (fun j => if j < 64 then 0 else bf1 j) 0 1) 1 (nI cnt)) (fun i => M.getD (fan W * l + i) (0, 0)) i) (2 + 2 * i) (kf (fan W * l + i))) (2 + 2 * i + 1) (vf (fan W * l + i))) (lf, wf, z.2.2) s) rfl ?_
                  rw [e]
                  refine wp_iinc hX dX5_checkpoint_175 ic_1 rfl (Nat.le_of_ble_eq_true rfl) rfl ?_
                  refine wp_goto (tgt := 126) hX dX5_checkpoint_178 (by decide) ?_
                  rw [nI_1]
                  exact ih3 (i + 1) (by omega)
              refine wp_iconst (v := 0) hX dX5_checkpoint_123 ic_0 ?_
              refine wp_istore hX dX5_checkpoint_124 (Nat.le_of_ble_eq_true rfl) rfl ?_
              have z0 := inner cnt 0 (by omega)
              rw [prP_0] at z0
              exact z0
            refine wp_iload hX dX5_checkpoint_65 rfl ?_
            refine wp_aload_n hX dX5_checkpoint_67 rfl ?_
            refine wp_get hX dX5_checkpoint_68 flX5_97 rfl rfl ?_
            refine wp_icmp_ge (tgt := 229) hX dX5_checkpoint_71 (by decide) (fun c_ => absurd c_ (nI_ge (a := fan W * l) (b := u) (by omega) (by omega))) (fun _ => ?_)
            refine wp_aload_n hX dX5_checkpoint_74 rfl ?_
            refine wp_get hX dX5_checkpoint_75 flX5_97 rfl rfl ?_
            refine wp_iload hX dX5_checkpoint_78 rfl ?_
            refine wp_isub hX dX5_checkpoint_80 ?_
            refine wp_ti (y := (nI (u - fan W * l))) (pk_sub (a := u) (by omega)) ?_
            refine wp_aload_n hX dX5_checkpoint_81 rfl ?_
            refine wp_cv0 hX dX5_checkpoint_82 mlX5_156 ⟨Nat.le_of_ble_eq_true rfl, Nat.le_of_ble_eq_true rfl⟩ (m_fan (by omega) g4) rfl (Nat.le_of_ble_eq_true rfl) ?_
            refine wp_icmp_ge (tgt := 98) hX dX5_checkpoint_85 (by decide) (fun e4 => ?_) (fun e4 => ?_)
            · have e5 := (nI_leI (a := fan W) (b := u - fan W * l) (by omega) (by omega)).mp e4
              refine wp_aload_n hX dX5_checkpoint_98 rfl ?_
              refine wp_cv0 hX dX5_checkpoint_99 mlX5_156 ⟨Nat.le_of_ble_eq_true rfl, Nat.le_of_ble_eq_true rfl⟩ (m_fan (by omega) g4) rfl (Nat.le_of_ble_eq_true rfl) ?_
              rw [show cnt = fan W by omega] at mid
              exact mid
            · have e5 : u - fan W * l < fan W := Nat.lt_of_not_le (fun e => e4 (nI_le e (by omega)))
              refine wp_aload_n hX dX5_checkpoint_88 rfl ?_
              refine wp_get hX dX5_checkpoint_89 flX5_97 rfl rfl ?_
              refine wp_iload hX dX5_checkpoint_92 rfl ?_
              refine wp_isub hX dX5_checkpoint_94 ?_
              refine wp_ti (y := (nI (u - fan W * l))) (pk_sub (a := u) (by omega)) ?_
              refine wp_goto (tgt := 102) hX dX5_checkpoint_95 (by decide) ?_
              rw [show cnt = u - fan W * l by omega] at mid
              exact mid
        refine wp_iconst (v := 1) hX dX5_checkpoint_37 ic_1 ?_
        refine wp_aload_n hX dX5_checkpoint_38 rfl ?_
        refine wp_get hX dX5_checkpoint_39 flX5_8 rfl rfl ?_
        refine wp_iconst (v := 3) hX dX5_checkpoint_42 ic_3 ?_
        refine wp_iald hX dX5_checkpoint_43 rfl (vp_in_nI (n := 3) (by decide) (by decide)) ?_
        refine wp_isub hX dX5_checkpoint_44 ?_
        refine wp_ti (y := to) hto ?_
        refine wp_istore_n hX dX5_checkpoint_45 (Nat.le_of_ble_eq_true rfl) rfl ?_
        refine wp_aload_n hX dX5_checkpoint_46 rfl ?_
        refine wp_get hX dX5_checkpoint_47 flX5_74 rfl rfl ?_
        refine wp_iconst (v := 1) hX dX5_checkpoint_50 ic_1 ?_
        refine wp_iadd hX dX5_checkpoint_51 ?_
        refine wp_iload_n hX dX5_checkpoint_52 rfl ?_
        refine wp_aload_n hX dX5_checkpoint_53 rfl ?_
        refine wp_cv0 hX dX5_checkpoint_54 mlX5_162 ⟨Nat.le_of_ble_eq_true rfl, Nat.le_of_ble_eq_true rfl⟩ (m_area (by omega) g2) rfl (Nat.le_of_ble_eq_true rfl) ?_
        refine wp_imul hX dX5_checkpoint_57 ?_
        refine wp_iadd hX dX5_checkpoint_58 ?_
        refine wp_ti (y := nI s0) hnx ?_
        refine wp_istore_n hX dX5_checkpoint_59 (Nat.le_of_ble_eq_true rfl) rfl ?_
        refine wp_iconst (v := 0) hX dX5_checkpoint_60 ic_0 ?_
        refine wp_istore_n hX dX5_checkpoint_61 (Nat.le_of_ble_eq_true rfl) rfl ?_
        refine wp_iconst (v := 0) hX dX5_checkpoint_62 ic_0 ?_
        refine wp_istore hX dX5_checkpoint_63 (Nat.le_of_ble_eq_true rfl) rfl ?_
        exact leaves (cdv M.length (fan W)) 0 q bf z.1 z.2.1 none none none rfl rfl (by omega) (fun i hi => by omega) rfl
      · have e1 : AR B LG < tBl (fan W) M.length := Nat.lt_of_not_le (fun y => e (nI_le y (by omega)))
        rw [if_pos e1] at hp
        refine wp_bipush (v := (-6)) hX dX5_checkpoint_34 bp_m6 ?_
        refine wp_iret hX dX5_checkpoint_36 rfl rfl ?_
        exact hp _ _ ⟨rfl, hR0⟩
  · rw [if_pos d] at hp
    refine wp_aload_n hX dX5_checkpoint_8 rfl ?_
    refine wp_cv0 hX dX5_checkpoint_9 mlX5_77 ⟨Nat.le_of_ble_eq_true rfl, Nat.le_of_ble_eq_true rfl⟩ (m_not hA.st d) rfl (Nat.le_of_ble_eq_true rfl) ?_
    refine wp_iret hX dX5_checkpoint_12 rfl rfl ?_
    exact hp _ _ ⟨rfl, hR0⟩
end MP
