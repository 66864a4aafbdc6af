/-! what holds of the store is kept: the disk's writes -/
/-- what each write in blocks lo .. hi - 1 keeps -/
def KpW (W lo hi : Nat) (P : (Nat → Int32) → Prop) : Prop := ∀ D b c, lo ≤ b → b < hi → P D → P (wrD D W b c)
theorem KpW.mono {W lo hi lo1 hi1 : Nat} {P : (Nat → Int32) → Prop} (h : KpW W lo hi P) (h1 : lo ≤ lo1) (h2 : hi1 ≤ hi) : KpW W lo1 hi1 P := fun D b c a1 a2 a3 => h D b c (by omega) (by omega) a3
theorem wrN_kp {W lo hi : Nat} {P : (Nat → Int32) → Prop} (h : KpW W lo hi P) {f : Nat → Nat × (Nat → Int32)} : ∀ (n k : Nat) (q : DQ), (∀ j, k ≤ j → j < k + n → lo ≤ (f j).1 ∧ (f j).1 < hi) → P q.1 → P (wrN W f k n q).2.1
  | 0, _, _, _, hq => hq
  | n + 1, k, q, hf, hq => by
    rw [wrN_s]
    split
    · exact hq
    · obtain ⟨h1, h2⟩ := hf k (Nat.le_refl _) (by omega)
      exact wrN_kp h n (k + 1) _ (fun j a1 a2 => hf j (by omega) (by omega)) (h _ _ _ h1 h2 hq)
theorem wr1_kp {W : Nat} {P : (Nat → Int32) → Prop} {b : Nat} (h : KpW W b (b + 1) P) {c : Nat → Int32} {q : DQ} (hq : P q.1) : P (wr1 W q b c).2.1 := wrN_kp h 1 0 q (fun _ _ _ => ⟨Nat.le_refl _, Nat.lt_succ_self _⟩) hq
theorem nodW_kp {W lo hi : Nat} {P : (Nat → Int32) → Prop} (h : KpW W lo hi P) : ∀ (k s row : Nat) (ls : Nat → Int32) (q : DQ), lo ≤ s + row → s + row + tbl (fan W) k row ≤ hi → P q.1 → P (nodW W k s row ls q).2.1
  | 0, _, _, _, _, _, _, hq => hq
  | k + 1, s, row, ls, q, h1, h2, hq => by
    rw [nodW_s]
    rw [tbl_s] at h2
    by_cases hr : row ≤ 1
    · rw [if_pos hr]; exact hq
    · rw [if_neg hr] at h2 ⊢
      have hP := wrN_kp (f := fun j => (s + row + j, rowB (fan W) 2 row (fun i => (ls i, nI (s + i))) j)) h (cdv row (fan W)) 0 q (fun j _ a2 => by show lo ≤ s + row + j ∧ s + row + j < hi; omega) hq
      split
      · exact nodW_kp h k (s + row) (cdv row (fan W)) _ _ (by omega) (by omega) hP
      · exact hP
theorem treW_kp {W s : Nat} {m : PM} {q : DQ} {P : (Nat → Int32) → Prop} (h : KpW W s (s + tBl (fan W) m.length) P) (hq : P q.1) : P (treW W s m q).2.1 := by
  have h0 : tBl (fan W) m.length = cdv m.length (fan W) + tbl (fan W) 32 (cdv m.length (fan W)) := rfl
  have hP : P (leaW W s m q).2.1 := wrN_kp h _ _ _ (fun j _ a2 => by show s ≤ s + j ∧ s + j < s + tBl (fan W) m.length; omega) hq
  unfold treW
  split
  · exact nodW_kp h _ _ _ _ _ (by omega) (by omega) hP
  · exact hP
/-- far words -/
theorem hi_kp {W B : Nat} (hW : W ≤ 64) (hB : B ≤ 512) : KpW W 0 B (fun D => ∀ j, 32768 ≤ j → D j = 0) := by
  intro D b c _ hb hD j hj
  unfold wrD
  rw [if_neg]
  · exact hD j hj
  · rintro ⟨_, h2⟩
    have : W * (b + 1) ≤ 64 * 512 := Nat.mul_le_mul hW (by omega)
    rw [Nat.mul_add] at this
    omega
theorem off_kp {W lo hi lo1 hi1 : Nat} (D0 : Nat → Int32) (h : hi ≤ lo1 ∨ hi1 ≤ lo) : KpW W lo hi (fun D => ∀ b i, lo1 ≤ b → b < hi1 → i < W → D (W * b + i) = D0 (W * b + i)) := by
  intro D b c h1 h2 hD b1 i a1 a2 a3
  rw [wrD_off (by omega) a3]
  exact hD b1 i a1 a2 a3
/-! the tree in other words -/
theorem chn_off {W s : Nat} {D D1 : Nat → Int32} (hW : 16 ≤ W) : ∀ (k b : Nat), s ≤ b → (∀ b' i, s ≤ b' → b' < b + 1 → i < W → D1 (W * b' + i) = D (W * b' + i)) → chn W D s k b → chn W D1 s k b
  | 0, b, hs, h, hc => by
    obtain ⟨h1, h2⟩ := hc
    refine ⟨h1, ?_⟩
    have := h b 0 hs (by omega) (by omega)
    rw [Nat.add_zero] at this
    rw [this, h2]
  | k + 1, b, hs, h, hc => by
    obtain ⟨h1, b1, ⟨h2, h3, h4⟩, h5, h6⟩ := hc
    have := h b 0 hs (by omega) (by omega)
    rw [Nat.add_zero] at this
    exact ⟨by rw [this, h1], b1, ⟨h2, h3, h4⟩, by rw [h b 3 hs (by omega) (by omega), h5], chn_off hW k b1 h3 (fun b' i a1 a2 a3 => h b' i a1 (by omega) a3) h6⟩
theorem TrOK_off {B W LG s n : Nat} {D D1 : Nat → Int32} (hW : 16 ≤ W) (h : ∀ b i, s ≤ b → b < s + AR B LG → i < W → D1 (W * b + i) = D (W * b + i)) (hT : TrOK B W LG D s n) : TrOK B W LG D1 s n := by
  obtain ⟨h1, m, h2, h3, h4, h5, h6⟩ := hT
  have hF := fan_2 hW
  have hfw := fan_w (W := W)
  have h0 : tBl (fan W) n = cdv n (fan W) + tbl (fan W) 32 (cdv n (fan W)) := rfl
  refine ⟨h1, m, h2, h3, fun i hi => ?_, fun l hl => ?_, fun hn => ?_⟩
  · rw [h4 i hi]
    have hi2 : i / fan W < cdv n (fan W) := (cdv_lt (by omega)).mpr (by have := Nat.div_mul_le_self i (fan W); omega)
    have hi3 : i % fan W < fan W := Nat.mod_lt _ (by omega)
    unfold prD
    generalize i / fan W = d at hi2 ⊢
    generalize i % fan W = e at hi3 ⊢
    rw [h _ _ (by omega) (by omega) (by omega), h _ _ (by omega) (by omega) (by omega)]
  · obtain ⟨e1, e2⟩ := h5 l hl
    have := h (s + l) 0 (by omega) (by omega) (by omega)
    rw [Nat.add_zero] at this
    exact ⟨by rw [this, e1], by rw [h (s + l) 1 (by omega) (by omega) (by omega), e2]⟩
  · obtain ⟨k, hk, hc⟩ := h6 hn
    have : 0 < cdv n (fan W) := (cdv_lt (by omega)).mpr (by omega)
    exact ⟨k, hk, chn_off hW k _ (by omega) (fun b' i a1 a2 a3 => h b' i a1 (by omega) a3) hc⟩
theorem HdOK_off {B W LG : Nat} {D D1 : Nat → Int32} (hW : 16 ≤ W) (h0 : D1 0 = D 0 ∧ D1 3 = D 3 ∧ D1 4 = D 4 ∧ D1 5 = D 5) (h : ∀ b i, arS B LG (D 3) ≤ b → b < arS B LG (D 3) + AR B LG → i < W → D1 (W * b + i) = D (W * b + i)) (hH : HdOK B W LG D) : HdOK B W LG D1 := by
  unfold HdOK
  obtain ⟨w0, w3, w4, w5⟩ := h0
  rw [w0, w3, w4, w5]
  rcases hH with e | ⟨e1, n, e2, e3, e4, e5⟩
  · exact Or.inl e
  · exact Or.inr ⟨e1, n, e2, e3, e4, TrOK_off hW h e5⟩
/-! the tree as it is written -/
theorem nodW_ch {W s : Nat} (hW : 16 ≤ W) : ∀ (k s1 row kk : Nat) (ls : Nat → Int32) (q : DQ), (nodW W k s1 row ls q).1 = true → 1 ≤ row → row ≤ 2 ^ k → s ≤ s1 → s1 + row + tbl (fan W) k row ≤ 512 → chn W q.1 s kk s1 → ∃ k1, k1 ≤ kk + k ∧ chn W (nodW W k s1 row ls q).2.1 s k1 (s1 + row + tbl (fan W) k row - 1)
  | 0, s1, row, kk, ls, q, _, h1, h2, h3, h4, hc => by
    have : row = 1 := by have : row ≤ 1 := h2; omega
    subst this
    exact ⟨kk, by omega, hc⟩
  | k + 1, s1, row, kk, ls, q, h0, h1, h2, h3, h4, hc => by
    have hF := fan_2 hW
    have hfw := fan_w (W := W)
    rw [nodW_s] at h0 ⊢
    rw [tbl_s] at h4 ⊢
    by_cases hr : row ≤ 1
    · rw [if_pos hr] at h4 ⊢
      rw [if_pos hr]
      have : row = 1 := by omega
      subst this
      exact ⟨kk, by omega, hc⟩
    · rw [if_neg hr] at h0 h4 ⊢
      rw [if_neg hr]
      have hc1 : 0 < cdv row (fan W) := (cdv_lt (by omega)).mpr (by omega)
      generalize hf : (fun j => (s1 + row + j, rowB (fan W) 2 row (fun i => (ls i, nI (s1 + i))) j)) = f at h0 ⊢
      have hf1 : ∀ j, (f j).1 = s1 + row + j := fun j => by rw [← hf]
      by_cases hw : (wrN W f 0 (cdv row (fan W)) q).1 = true
      · rw [if_pos hw] at h0 ⊢
        have hat : ∀ i, i < W - 1 → (wrN W f 0 (cdv row (fan W)) q).2.1 (W * (s1 + row) + i) = rowB (fan W) 2 row (fun i => (ls i, nI (s1 + i))) 0 i := fun i hi => by
          have := wrN_at (f := f) hi (cdv row (fan W)) 0 q 0 hw (by omega) (by omega) (fun a b _ a2 _ => by rw [hf1, hf1]; omega)
          rw [hf1, ← hf] at this
          rw [← hf]
          exact this
        have hoff := wrN_kp (off_kp (W := W) (lo := s1 + row) (hi := s1 + row + cdv row (fan W)) (lo1 := s) (hi1 := s1 + 1) q.1 (Or.inr (by omega))) (f := f) (cdv row (fan W)) 0 q (fun j _ a2 => by rw [hf1]; omega) (fun _ _ _ _ _ => rfl)
        have hch := chn_off hW kk s1 h3 hoff hc
        have hcn : chn W (wrN W f 0 (cdv row (fan W)) q).2.1 s (kk + 1) (s1 + row) := by
          refine ⟨?_, s1, ⟨by omega, h3, by omega⟩, ?_, hch⟩
          · have := hat 0 (by omega)
            rw [Nat.add_zero] at this
            rw [this]
            rfl
          · rw [hat 3 (by omega)]
            unfold rowB pgB
            rw [if_neg (by decide), if_neg (by decide), if_pos (by omega), if_neg (by decide)]
            show nI (s1 + (fan W * 0 + (3 - 2) / 2)) = nI s1
            rw [Nat.mul_zero]
            rfl
        obtain ⟨k1, hk1, hk2⟩ := nodW_ch hW k (s1 + row) (cdv row (fan W)) (kk + 1) _ _ h0 hc1 (cdv_half hF h2) (by omega) (by omega) hcn
        refine ⟨k1, by omega, ?_⟩
        rw [← Nat.add_assoc]
        exact hk2
      · rw [if_neg hw] at h0
        cases h0
theorem treW_tr {B W LG s : Nat} {m : PM} {q : DQ} (hW : 16 ≤ W) (hm : Srt m) (hAR : tBl (fan W) m.length ≤ AR B LG) (hB : s + tBl (fan W) m.length ≤ 512) (h : (treW W s m q).1 = true) : TrOK B W LG (treW W s m q).2.1 s m.length := by
  have hF := fan_2 hW
  have hfw := fan_w (W := W)
  have h0 : tBl (fan W) m.length = cdv m.length (fan W) + tbl (fan W) 32 (cdv m.length (fan W)) := rfl
  unfold treW at h ⊢
  by_cases hl : (leaW W s m q).1 = true
  · rw [if_pos hl] at h ⊢
    have hat : ∀ l i, l < cdv m.length (fan W) → i < W - 1 → (leaW W s m q).2.1 (W * (s + l) + i) = rowB (fan W) 1 m.length (fun i => m.getD i (0, 0)) l i := fun l i hl2 hi =>
      wrN_at (f := fun k => (s + k, rowB (fan W) 1 m.length (fun i => m.getD i (0, 0)) k)) hi (cdv m.length (fan W)) 0 q l hl (by omega) (by omega) (fun a b _ a2 _ => by show ¬ s + a = s + b; omega)
    have hat2 : ∀ l i, l < cdv m.length (fan W) → i < W - 1 → (nodW W 32 s (cdv m.length (fan W)) (fun k => (m.getD (fan W * k) (0, 0)).1) (leaW W s m q).2).2.1 (W * (s + l) + i) = rowB (fan W) 1 m.length (fun i => m.getD i (0, 0)) l i := fun l i hl2 hi => by
      rw [nodW_off (by omega) _ _ _ _ _ (by omega)]
      exact hat l i hl2 hi
    refine ⟨hAR, m, hm, rfl, fun i hi => ?_, fun l hl2 => ?_, fun hn => ?_⟩
    · have hi2 : i / fan W < cdv m.length (fan W) := (cdv_lt (by omega)).mpr (by have := Nat.div_mul_le_self i (fan W); omega)
      have hi3 : i % fan W < fan W := Nat.mod_lt _ (by omega)
      have hi4 : fan W * (i / fan W) + i % fan W = i := Nat.div_add_mod i (fan W)
      unfold prD
      rw [hat2 _ _ hi2 (by omega), hat2 _ _ hi2 (by omega)]
      unfold rowB pgB
      have hmn : i % fan W < min (fan W) (m.length - fan W * (i / fan W)) := by omega
      rw [if_neg (by omega), if_neg (by omega), if_pos (by omega), if_pos (by omega), if_neg (by omega), if_neg (by omega), if_pos (by omega), if_neg (by omega)]
      rw [show (2 + 2 * (i % fan W) - 2) / 2 = i % fan W by omega, show (2 + 2 * (i % fan W) + 1 - 2) / 2 = i % fan W by omega]
      dsimp only
      rw [hi4]
      rw [List.getD_eq_getElem?_getD, List.getElem?_eq_getElem hi]
      rfl
    · have e0 := hat2 l 0 hl2 (by omega)
      rw [Nat.add_zero] at e0
      exact ⟨by rw [e0]; rfl, by rw [hat2 l 1 hl2 (by omega)]; rfl⟩
    · have hc1 : 0 < cdv m.length (fan W) := (cdv_lt (by omega)).mpr (by omega)
      have hc : chn W (leaW W s m q).2.1 s 0 s := ⟨rfl, by
        have := hat 0 0 hc1 (by omega)
        rw [Nat.add_zero, Nat.add_zero] at this
        rw [this]
        rfl⟩
      obtain ⟨k1, hk1, hk2⟩ := nodW_ch hW 32 s (cdv m.length (fan W)) 0 _ _ h hc1 (by omega) (Nat.le_refl _) (by omega) hc
      exact ⟨k1, by omega, by rw [h0, ← Nat.add_assoc]; exact hk2⟩
  · rw [if_neg hl] at h
    cases h
