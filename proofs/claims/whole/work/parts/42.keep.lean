/-! what holds of the store is kept by every call -/
theorem ai_1 {B W LG : Nat} {q : DQ} {u : Nat × Nat × PM × Option CL} (h1 : ∀ j, 32768 ≤ j → q.1 j = 0) (h2 : Geo B W LG) (h3 : HdOK B W LG q.1) : AInv (1, (B, W, LG), q, u) := by
  obtain ⟨pl, rc, M, tx⟩ := u
  exact ⟨h1, Or.inr (Or.inl rfl), fun e => absurd e (by decide), fun _ => ⟨h2, h3⟩, fun e => absurd e (by decide)⟩
theorem ai_3 {B W LG : Nat} {q : DQ} {u : Nat × Nat × PM × Option CL} (h1 : ∀ j, 32768 ≤ j → q.1 j = 0) (h2 : Geo B W LG) (h3 : HdOK B W LG q.1) : AInv (3, (B, W, LG), q, u) := by
  obtain ⟨pl, rc, M, tx⟩ := u
  exact ⟨h1, Or.inr (Or.inr (Or.inr rfl)), fun e => absurd e (by decide), fun _ => ⟨h2, h3⟩, fun e => absurd e (by decide)⟩
theorem ai_2 {B W LG : Nat} {q : DQ} {pl rc : Nat} {M : PM} {tx : Option CL} (h1 : ∀ j, 32768 ≤ j → q.1 j = 0) (h2 : Geo B W LG) (h3 : HdOK B W LG q.1) (h4 : q.1 0 = MARK ∧ pl ≤ LG ∧ rc ≤ pl ∧ Srt M ∧ (∃ n, q.1 5 = nI n ∧ tBl (fan W) n ≤ AR B LG ∧ 3 * M.length ≤ 3 * n + (W - 5) * pl) ∧ TxOK tx) : AInv (2, (B, W, LG), q, (pl, rc, M, tx)) :=
  ⟨h1, Or.inr (Or.inr (Or.inl rfl)), fun e => absurd e (by decide), fun _ => ⟨h2, h3⟩, fun _ => h4⟩
theorem AInv.far {st : Int32} {g : Nat × Nat × Nat} {q : DQ} {u : Nat × Nat × PM × Option CL} (h : AInv (st, g, q, u)) : ∀ j, 32768 ≤ j → q.1 j = 0 := by
  obtain ⟨B, W, LG⟩ := g
  obtain ⟨pl, rc, M, tx⟩ := u
  exact h.1
theorem ai_0 : AInv (0, (0, 0, 0), (fun _ => 0, 0, 0), (0, 0, [], none)) :=
  ⟨fun _ _ => rfl, Or.inl rfl, fun _ => ⟨rfl, rfl, rfl, rfl⟩, fun e => absurd rfl e, fun e => absurd e (by decide)⟩
theorem ai_disk {A : Ab} (hA : AInv A) (x y z : Int32) : AInv (sDisk A x y z).2 := by
  obtain ⟨st, ⟨B, W, LG⟩, q, u⟩ := A
  unfold sDisk
  by_cases c : x < 16 ∨ 512 < x ∨ y < 16 ∨ 64 < y ∨ z < 4 ∨ 128 < z ∨ x - 1 - z < 4
  · rw [if_pos c]; exact hA
  · rw [if_neg c]
    have e16 : (16 : Int32).toInt = 16 := rfl
    have e512 : (512 : Int32).toInt = 512 := rfl
    have e64 : (64 : Int32).toInt = 64 := rfl
    have e4 : (4 : Int32).toInt = 4 := rfl
    have e128 : (128 : Int32).toInt = 128 := rfl
    have e0 : (0 : Int32).toInt = 0 := rfl
    simp only [not_or] at c
    obtain ⟨c1, c2, c3, c4, c5, c6, c7⟩ := c
    rw [ilt, e16] at c1
    rw [ilt, e512] at c2
    rw [ilt, e16] at c3
    rw [ilt, e64] at c4
    rw [ilt, e4] at c5
    rw [ilt, e128] at c6
    obtain ⟨b, hb, rfl⟩ := nI_of (x := x) (by rw [ilt, e0]; omega)
    obtain ⟨w, hw, rfl⟩ := nI_of (x := y) (by rw [ilt, e0]; omega)
    obtain ⟨l, hl, rfl⟩ := nI_of (x := z) (by rw [ilt, e0]; omega)
    rw [nT hb] at c1 c2
    rw [nT hw] at c3 c4
    rw [nT hl] at c5 c6
    have eb : nI b - 1 = nI (b - 1) := w1 (by omega)
    rw [eb, ilt, e4, pk_sub_toInt (by omega) (by omega)] at c7
    show AInv (1, ((nI b).toNatClampNeg, (nI w).toNatClampNeg, (nI l).toNatClampNeg), (fun _ => 0, 0, 0), u)
    rw [nI_clamp hb, nI_clamp hw, nI_clamp hl]
    exact ai_1 (fun _ _ => rfl) ⟨by omega, by omega, by omega, by omega, by omega, by omega, by omega⟩ (Or.inl rfl)
theorem ai_power {A : Ab} (hA : AInv A) (x : Int32) : AInv (sPower A x).2 := by
  obtain ⟨st, ⟨B, W, LG⟩, q, pl, rc, M, tx⟩ := A
  unfold sPower
  dsimp only
  by_cases c : st = 0
  · rw [if_pos c]; exact hA
  · rw [if_neg c]
    obtain ⟨h1, h2, h3, h4, h5⟩ := hA
    exact ⟨h1, h2, fun e => absurd e c, h4, h5⟩
theorem ai_begin {A : Ab} (hA : AInv A) : AInv (sBegin A).2 := by
  obtain ⟨st, ⟨B, W, LG⟩, q, pl, rc, M, tx⟩ := A
  unfold sBegin
  dsimp only
  by_cases c : st = 2
  · rw [if_neg (fun z => z c)]
    cases tx with
    | some C => exact hA
    | none =>
      obtain ⟨h1, h2, h3, h4, h5⟩ := hA
      exact ⟨h1, h2, h3, h4, fun e => by
        obtain ⟨k1, k2, k3, k4, k5, k6⟩ := h5 e
        exact ⟨k1, k2, k3, k4, k5, List.Pairwise.nil, Nat.zero_le _⟩⟩
  · rw [if_pos c]; exact hA
theorem ai_abort {A : Ab} (hA : AInv A) : AInv (sAbort A).2 := by
  obtain ⟨st, ⟨B, W, LG⟩, q, pl, rc, M, tx⟩ := A
  unfold sAbort
  dsimp only
  by_cases c : st = 2
  · rw [if_neg (fun z => z c)]
    cases tx with
    | none => exact hA
    | some C =>
      obtain ⟨h1, h2, h3, h4, h5⟩ := hA
      exact ⟨h1, h2, h3, h4, fun e => by
        obtain ⟨k1, k2, k3, k4, k5, k6⟩ := h5 e
        exact ⟨k1, k2, k3, k4, k5, trivial⟩⟩
  · rw [if_pos c]; exact hA
theorem ai_insC {C : CL} (h : Srt C ∧ C.length ≤ 600) {k : Int32} (v : Bool × Int32) (c : ¬ ((lk C k).isSome = false ∧ C.length = 600)) : Srt (ins C k v) ∧ (ins C k v).length ≤ 600 := by
  obtain ⟨h1, h2⟩ := h
  refine ⟨ins_srt h1 _ _, ?_⟩
  rw [ins_len _ _ _ h1]
  split
  · exact h2
  · rename_i e
    have : ¬ C.length = 600 := fun z => c ⟨by simpa using e, z⟩
    omega
theorem ai_put {A : Ab} (hA : AInv A) (k v : Int32) : AInv (sPut A k v).2 := by
  obtain ⟨st, ⟨B, W, LG⟩, q, pl, rc, M, tx⟩ := A
  unfold sPut
  dsimp only
  by_cases c : st = 2
  · rw [if_neg (fun z => z c)]
    cases tx with
    | none => exact hA
    | some C =>
      dsimp only
      by_cases d : (lk C k).isSome = false ∧ C.length = 600
      · rw [if_pos d]; exact hA
      · rw [if_neg d]
        obtain ⟨h1, h2, h3, h4, h5⟩ := hA
        exact ⟨h1, h2, h3, h4, fun e => by
          obtain ⟨k1, k2, k3, k4, k5, k6⟩ := h5 e
          exact ⟨k1, k2, k3, k4, k5, ai_insC k6 _ d⟩⟩
  · rw [if_pos c]; exact hA
theorem ai_remove {A : Ab} (hA : AInv A) (k : Int32) : AInv (sRemove A k).2 := by
  obtain ⟨st, ⟨B, W, LG⟩, q, pl, rc, M, tx⟩ := A
  unfold sRemove
  dsimp only
  by_cases c : st = 2
  · rw [if_neg (fun z => z c)]
    cases tx with
    | none => exact hA
    | some C =>
      dsimp only
      by_cases d0 : (lk (ov M C) k).isSome = false
      · rw [if_pos d0]; exact hA
      · rw [if_neg d0]
        by_cases d : (lk C k).isSome = false ∧ C.length = 600
        · rw [if_pos d]; exact hA
        · rw [if_neg d]
          obtain ⟨h1, h2, h3, h4, h5⟩ := hA
          exact ⟨h1, h2, h3, h4, fun e => by
            obtain ⟨k1, k2, k3, k4, k5, k6⟩ := h5 e
            exact ⟨k1, k2, k3, k4, k5, ai_insC k6 _ d⟩⟩
  · rw [if_pos c]; exact hA
theorem tBl_0 {W : Nat} (hW : 16 ≤ W) : tBl (fan W) 0 = 0 := by
  have hF := fan_2 hW
  unfold tBl
  rw [cdv_0 (by omega), tbl_0]
theorem ai_format {A : Ab} (hA : AInv A) : AInv (sFormat A).2 := by
  obtain ⟨st, ⟨B, W, LG⟩, q, u⟩ := A
  unfold sFormat
  dsimp only
  by_cases c : st = 1 ∨ st = 2
  · rw [if_neg (fun z => z c)]
    have hfar := hA.far
    obtain ⟨hg, hH⟩ := hA.geo (by rcases c with e | e <;> (rw [e]; decide))
    have hg0 := hg
    obtain ⟨g1, g2, g3, g4, g5, g6, g7⟩ := hg
    by_cases hf : q.2.2 = 1
    · rw [wr1_no hf, if_pos rfl]
      exact ai_3 hfar hg0 hH
    · rw [wr1_ok hf, if_neg (show ¬ true = false by decide)]
      dsimp only
      have hfar1 : ∀ j, 32768 ≤ j → (wrD q.1 W 0 (fmB (q.1 1 + 1))) j = 0 := hi_kp g4 g2 _ _ _ (by omega) (by omega) hfar
      have h0 : wrD q.1 W 0 (fmB (q.1 1 + 1)) 0 = 0 := by
        have := wrD_in (wf := q.1) (pf := fmB (q.1 1 + 1)) (W := W) (b := 0) (i := 0) (by omega)
        rw [Nat.mul_zero] at this
        exact this
      by_cases hf2 : pwd q.2.2 = 1
      · rw [wr1_no hf2, if_pos rfl]
        exact ai_3 hfar1 hg0 (Or.inl h0)
      · have hok := wr1_ok (W := W) (q := (wrD q.1 W 0 (fmB (q.1 1 + 1)), q.2.1 + 1, pwd q.2.2)) (b := 0) (c := hdB (q.1 1 + 1) 1 0 0 0) hf2
        have hhd := wr1_hd (W := W) (q := (wrD q.1 W 0 (fmB (q.1 1 + 1)), q.2.1 + 1, pwd q.2.2)) (e := q.1 1 + 1) (b1 := 1) (a := 0) (r := 0) (n := 0) g3 (by rw [hok])
        rw [hok] at hhd ⊢
        rw [if_neg (show ¬ true = false by decide)]
        obtain ⟨w0, w1, w2, w3, w4, w5⟩ := hhd
        refine ai_2 (hi_kp g4 g2 _ _ _ (by omega) (by omega) hfar1) hg0 (Or.inr ⟨w0, 0, Or.inl w3, w5, w4, ?_⟩) ⟨w0, Nat.zero_le _, Nat.le_refl _, List.Pairwise.nil, ⟨0, w5, by rw [tBl_0 g3]; omega, by simp⟩, trivial⟩
        refine ⟨by rw [tBl_0 g3]; omega, [], List.Pairwise.nil, rfl, fun i hi => by omega, fun l hl => ?_, fun e => by omega⟩
        rw [cdv_0 (by have := fan_2 g3; omega)] at hl
        omega
  · rw [if_pos c]; exact hA
theorem ai_recover {A : Ab} (hA : AInv A) : AInv (sRecover A).2 := by
  obtain ⟨st, ⟨B, W, LG⟩, q, u⟩ := A
  unfold sRecover
  dsimp only
  by_cases c : st = 0
  · rw [if_pos c]; exact hA
  · rw [if_neg c]
    have hfar := hA.far
    obtain ⟨hg, hH⟩ := hA.geo c
    have hg0 := hg
    obtain ⟨g1, g2, g3, g4, g5, g6, g7⟩ := hg
    by_cases d : q.1 (W - 1) = sumD q.1 0 (W - 1) ∧ q.1 0 = MARK
    · rw [if_neg (fun z => z d)]
      by_cases hf : q.2.2 = 1
      · rw [wr1_no hf, if_pos rfl]
        exact ai_3 hfar hg0 hH
      · have hok := wr1_ok (W := W) (q := q) (b := 0) (c := hdB (q.1 1) (q.1 2 + 1) (q.1 3) (q.1 4) (q.1 5)) hf
        have hhd := wr1_hd (W := W) (q := q) (e := q.1 1) (b1 := q.1 2 + 1) (a := q.1 3) (r := q.1 4) (n := q.1 5) g3 (by rw [hok])
        rw [hok] at hhd ⊢
        rw [if_neg (show ¬ true = false by decide)]
        obtain ⟨w0, w1, w2, w3, w4, w5⟩ := hhd
        have hH2 := hH
        rcases hH2 with e | ⟨e1, n, e2, e3, e4, e5⟩
        · rw [e] at d
          exact absurd d.2.symm mark_ne
        · have hs1 : 1 ≤ arS B LG (q.1 3) := by unfold arS; split <;> omega
          have hcap := tBl_cap g3 g4 (by unfold AR; omega) e5.1
          have har : AR B LG ≤ 253 := by unfold AR; omega
          have hn : (q.1 5).toNatClampNeg = n := by rw [e3, nI_clamp (by omega)]
          have hr := rpl_b (W := W) (LG := LG) (D := q.1) (e := q.1 1) (by omega) g4 g6 LG 0 0 (ldo W q.1 (arS B LG (q.1 3)) 0 (q.1 5).toNatClampNeg []) (Nat.zero_le _) (Nat.le_refl _) (ldo_srt _ _ List.Pairwise.nil)
          have hl := ldo_len (W := W) (D := q.1) (s := arS B LG (q.1 3)) (q.1 5).toNatClampNeg 0 (m := []) List.Pairwise.nil
          rw [hn] at hl
          simp only [List.length_nil, Nat.zero_add] at hl
          refine ai_2 (hi_kp g4 g2 _ _ _ (by omega) (by omega) hfar) hg0 (HdOK_off g3 ⟨w0.trans e1.symm, w3, w4, w5⟩ (fun b i b1 b2 b3 => wrD_off (by omega) b3) hH) ⟨w0, hr.2.1, hr.2.2.1, hr.2.2.2.1, ⟨n, w5.trans e3, e5.1, ?_⟩, trivial⟩
          have hr5 := hr.2.2.2.2
          show 3 * (rcM B W LG q.1).2.2.length ≤ 3 * n + (W - 5) * (rcM B W LG q.1).1
          unfold rcM
          rw [Nat.mul_zero, Nat.add_zero] at hr5
          rw [hn] at hr5 ⊢
          omega
    · rw [if_pos d]
      exact ai_1 hfar hg0 hH
theorem ai_commit {A : Ab} (hA : AInv A) : AInv (sCommit A).2 := by
  obtain ⟨st, ⟨B, W, LG⟩, q, pl, rc, M, tx⟩ := A
  unfold sCommit
  dsimp only
  by_cases c : st = 2
  · rw [if_neg (fun z => z c)]
    subst c
    cases tx with
    | none => exact hA
    | some C =>
      dsimp only
      by_cases d : LG < pl + rB W C.length
      · rw [if_pos d]; exact hA
      · rw [if_neg d]
        have hfar := hA.far
        obtain ⟨hg, hH⟩ := hA.geo (by decide)
        have hg0 := hg
        obtain ⟨g1, g2, g3, g4, g5, g6, g7⟩ := hg
        obtain ⟨k1, k2, k3, k4, ⟨n, k5, k6, k7⟩, k8⟩ := hA.2.2.2.2 rfl
        have hs1 : LG + 1 ≤ arS B LG (q.1 3) := by unfold arS; split <;> omega
        have hwf : ∀ P, KpW W 1 (LG + 1) P → P q.1 → P (cmW W pl rc q C).2.1 := fun P hP hq => wrN_kp hP _ _ _ (fun j _ a2 => by show 1 ≤ 1 + pl + j ∧ 1 + pl + j < LG + 1; omega) hq
        have hfar1 := hwf _ ((hi_kp g4 g2).mono (by omega) (by omega)) hfar
        have ho0 := hwf _ (off_kp (W := W) (lo1 := 0) (hi1 := 1) q.1 (Or.inr (Nat.le_refl _))) (fun _ _ _ _ _ => rfl)
        have hw : ∀ i, i < 6 → (cmW W pl rc q C).2.1 i = q.1 i := fun i hi => by
          have := ho0 0 i (by omega) (by omega) (by omega)
          rw [Nat.mul_zero, Nat.zero_add] at this
          exact this
        have ho1 := hwf _ (off_kp (W := W) (lo1 := LG + 1) (hi1 := B) q.1 (Or.inl (Nat.le_refl _))) (fun _ _ _ _ _ => rfl)
        have hle := ars_le (B := B) (LG := LG) (q.1 3) g7
        have hH1 : HdOK B W LG (cmW W pl rc q C).2.1 := HdOK_off g3 ⟨hw 0 (by omega), hw 3 (by omega), hw 4 (by omega), hw 5 (by omega)⟩ (fun b i b1 b2 b3 => ho1 b i (by omega) (by omega) b3) hH
        by_cases e : (cmW W pl rc q C).1 = false
        · rw [if_pos e]
          exact ai_3 hfar1 hg0 hH1
        · rw [if_neg e]
          have hol := ov_len (M := M) C k4
          have hrB : 3 * C.length ≤ (W - 5) * rB W C.length ∧ (¬ C.length = 0 → 1 ≤ rB W C.length) := by
            unfold rB
            by_cases h0 : C.length = 0
            · rw [if_pos h0]; exact ⟨by omega, fun z => absurd h0 z⟩
            · rw [if_neg h0]
              have h1 := cdv_mul (n := 1 + 3 * C.length) (e := W - 5) (by omega)
              rw [Nat.mul_comm _ (W - 5)] at h1
              have h2 : 0 < cdv (1 + 3 * C.length) (W - 5) := (cdv_lt (by omega)).mpr (by omega)
              exact ⟨by omega, fun _ => h2⟩
          refine ai_2 hfar1 hg0 hH1 ⟨(hw 0 (by omega)).trans k1, by omega, ?_, ov_srt _ k4, ⟨n, (hw 5 (by omega)).trans k5, k6, ?_⟩, trivial⟩
          · split
            · omega
            · have := hrB.2 (by assumption)
              omega
          · rw [Nat.mul_add]
            have := hrB.1
            omega
  · rw [if_pos c]; exact hA
theorem ai_check {A : Ab} (hA : AInv A) : AInv (sCheck A).2 := by
  obtain ⟨st, ⟨B, W, LG⟩, q, pl, rc, M, tx⟩ := A
  unfold sCheck
  dsimp only
  by_cases c : st = 2
  · rw [if_neg (fun z => z c)]
    subst c
    cases tx with
    | some C => exact hA
    | none =>
      dsimp only
      by_cases d : AR B LG < tBl (fan W) M.length
      · rw [if_pos d]; exact hA
      · rw [if_neg d]
        have hfar := hA.far
        have hcap := hA.cap
        obtain ⟨hg, hH⟩ := hA.geo (by decide)
        have hg0 := hg
        obtain ⟨g1, g2, g3, g4, g5, g6, g7⟩ := hg
        obtain ⟨k1, k2, k3, k4, -, k8⟩ := hA.2.2.2.2 rfl
        have hD3 : q.1 3 = 0 ∨ q.1 3 = 1 := by
          rcases hH with e | ⟨-, n, e2, -⟩
          · rw [e] at k1
            exact absurd k1.symm mark_ne
          · exact e2
        have hdis : arS B LG (ckT q) + AR B LG ≤ arS B LG (q.1 3) ∨ arS B LG (q.1 3) + AR B LG ≤ arS B LG (ckT q) := by
          rcases hD3 with e | e
          · have e2 : ckT q = 1 := by unfold ckT; rw [e]; rfl
            rw [e, e2]
            show LG + 1 + AR B LG + AR B LG ≤ LG + 1 ∨ LG + 1 + AR B LG ≤ LG + 1 + AR B LG
            omega
          · have e2 : ckT q = 0 := by unfold ckT; rw [e]; rfl
            rw [e, e2]
            show LG + 1 + AR B LG ≤ LG + 1 + AR B LG ∨ LG + 1 + AR B LG + AR B LG ≤ LG + 1
            omega
        have hle := ars_le (B := B) (LG := LG) (ckT q) g7
        have hs1 : 1 ≤ arS B LG (ckT q) := by unfold arS; split <;> omega
        have hs2 : 1 ≤ arS B LG (q.1 3) := by unfold arS; split <;> omega
        have htr : (ckW B W LG q M).1 = true → TrOK B W LG (ckW B W LG q M).2.1 (arS B LG (ckT q)) M.length := treW_tr (B := B) (W := W) (LG := LG) (s := arS B LG (ckT q)) (m := M) (q := q) g3 k4 (by omega) (by omega)
        have hwf : ∀ P, KpW W (arS B LG (ckT q)) (arS B LG (ckT q) + AR B LG) P → P q.1 → P (ckW B W LG q M).2.1 := fun P hP hq => treW_kp (hP.mono (Nat.le_refl _) (by omega)) hq
        generalize hsT : arS B LG (ckT q) = sT at hdis hle hs1 htr hwf
        have hfar1 := hwf _ ((hi_kp g4 g2).mono (by omega) (by omega)) hfar
        have ho0 := hwf _ (off_kp (W := W) (lo1 := 0) (hi1 := 1) q.1 (Or.inr (by omega))) (fun _ _ _ _ _ => rfl)
        have ho1 := hwf _ (off_kp (W := W) (lo1 := arS B LG (q.1 3)) (hi1 := arS B LG (q.1 3) + AR B LG) q.1 (by omega)) (fun _ _ _ _ _ => rfl)
        generalize hqq : ckW B W LG q M = qq at htr hfar1 ho0 ho1 ⊢
        obtain ⟨qb, q1⟩ := qq
        have hw : ∀ i, i < 6 → q1.1 i = q.1 i := fun i hi => by
          have := ho0 0 i (by omega) (by omega) (by omega)
          rw [Nat.mul_zero, Nat.zero_add] at this
          exact this
        have hH1 : HdOK B W LG q1.1 := HdOK_off g3 ⟨hw 0 (by omega), hw 3 (by omega), hw 4 (by omega), hw 5 (by omega)⟩ ho1 hH
        cases qb with
        | false =>
          rw [if_pos rfl]
          exact ai_3 hfar1 hg0 hH1
        | true =>
          rw [if_neg (show ¬ true = false by decide)]
          dsimp only
          have htr1 := htr rfl
          by_cases hf : q1.2.2 = 1
          · rw [wr1_no hf, if_pos rfl]
            exact ai_3 hfar1 hg0 hH1
          · have hok := wr1_ok (W := W) (q := q1) (b := 0) (c := hdB (q.1 1 + 1) (q.1 2) (ckT q) (ckR B W LG q M) (nI M.length)) hf
            have hhd := wr1_hd (W := W) (q := q1) (e := q.1 1 + 1) (b1 := q.1 2) (a := ckT q) (r := ckR B W LG q M) (n := nI M.length) g3 (by rw [hok])
            rw [hok] at hhd ⊢
            rw [if_neg (show ¬ true = false by decide)]
            obtain ⟨w0, w1, w2, w3, w4, w5⟩ := hhd
            have hck : ckT q = 0 ∨ ckT q = 1 := by
              unfold ckT
              split
              · exact Or.inr rfl
              · exact Or.inl rfl
            have hfar2 := hi_kp g4 g2 q1.1 0 (hdB (q.1 1 + 1) (q.1 2) (ckT q) (ckR B W LG q M) (nI M.length)) (by omega) (by omega) hfar1
            refine ai_2 hfar2 hg0 (Or.inr ⟨w0, M.length, ?_, w5, ?_, ?_⟩) ⟨w0, Nat.zero_le _, Nat.le_refl _, k4, ⟨M.length, w5, by omega, by omega⟩, trivial⟩
            · rw [w3]; exact hck
            · rw [w3, w4]; rfl
            · rw [w3, hsT]
              exact TrOK_off g3 (fun b i b1 b2 b3 => wrD_off (by omega) b3) htr1
  · rw [if_pos c]; exact hA
