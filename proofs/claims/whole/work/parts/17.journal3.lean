/-! Journal: what is read of the log -/
def isP (W : Nat) (D : Nat → Int32) (b : Nat) (e n p bt : Int32) : Bool := decide (D (W * b + (W - 1)) = sumD D (W * b) (W - 1) ∧ D (W * b + 0) = e ∧ D (W * b + 1) = n ∧ D (W * b + 2) = p ∧ D (W * b + 3) = bt)
/-- blocks k, k + 1, .. of the record that begins at block b: r of them -/
def allP (W : Nat) (D : Nat → Int32) (b : Nat) (e n bt : Int32) : Nat → Nat → Bool
  | _, 0 => true
  | k, r + 1 => isP W D (b + k) e n (nI k) bt && allP W D b e n bt (k + 1) r
/-- how many blocks the record has that begins at block b; 0 if it isn't whole -/
def whl (W LG : Nat) (D : Nat → Int32) (b : Nat) (e n : Int32) : Nat :=
  if LG < b then 0 else if isP W D b e n 0 (D (W * b + 3)) = false then 0 else
  if D (W * b + 4) < 1 ∨ nI ((1 + LG - b) * (W - 5)) < D (W * b + 4) then 0 else
  if 1 + LG - b < rB W (D (W * b + 4)).toNatClampNeg then 0 else
  if allP W D b e n (D (W * b + 3)) 1 (rB W (D (W * b + 4)).toNatClampNeg - 1) then rB W (D (W * b + 4)).toNatClampNeg else 0
/-- int i of the record that begins at block b -/
def sI (W : Nat) (D : Nat → Int32) (b i : Nat) : Int32 := D (W * (b + i / (W - 5)) + (4 + i % (W - 5)))
/-- changes c, c + 1, .. of the record that begins at block b: r of them -/
def rdo (W : Nat) (D : Nat → Int32) (b : Nat) : Nat → Nat → PM → PM
  | _, 0, m => m
  | c, r + 1, m => rdo W D b (c + 1) r (if sI W D b (1 + 3 * c) = 1 then ins m (sI W D b (1 + 3 * c + 1)) (sI W D b (1 + 3 * c + 2)) else del m (sI W D b (1 + 3 * c + 1)))
/-- the records behind place pl, number rc + 1 first, at most t -/
def rpl (W LG : Nat) (D : Nat → Int32) (e : Int32) : Nat → Nat → Nat → PM → Nat × Nat × PM
  | 0, pl, rc, m => (pl, rc, m)
  | t + 1, pl, rc, m => if whl W LG D (1 + pl) e (nI (rc + 1)) = 0 then (pl, rc, m) else rpl W LG D e t (pl + whl W LG D (1 + pl) e (nI (rc + 1))) (rc + 1) (rdo W D (1 + pl) 0 (D (W * (1 + pl) + 4)).toNatClampNeg m)
theorem allP_s (W : Nat) (D : Nat → Int32) (b : Nat) (e n bt : Int32) (k r : Nat) : allP W D b e n bt k (r + 1) = (isP W D (b + k) e n (nI k) bt && allP W D b e n bt (k + 1) r) := rfl
theorem rdo_s (W : Nat) (D : Nat → Int32) (b c r : Nat) (m : PM) : rdo W D b c (r + 1) m = rdo W D b (c + 1) r (if sI W D b (1 + 3 * c) = 1 then ins m (sI W D b (1 + 3 * c + 1)) (sI W D b (1 + 3 * c + 2)) else del m (sI W D b (1 + 3 * c + 1))) := rfl
theorem rpl_s (W LG : Nat) (D : Nat → Int32) (e : Int32) (t pl rc : Nat) (m : PM) : rpl W LG D e (t + 1) pl rc m = if whl W LG D (1 + pl) e (nI (rc + 1)) = 0 then (pl, rc, m) else rpl W LG D e t (pl + whl W LG D (1 + pl) e (nI (rc + 1))) (rc + 1) (rdo W D (1 + pl) 0 (D (W * (1 + pl) + 4)).toNatClampNeg m) := rfl
theorem rdo_srt {W : Nat} {D : Nat → Int32} {b : Nat} : ∀ (r c : Nat) {m : PM}, Srt m → Srt (rdo W D b c r m)
  | 0, _, _, h => h
  | r + 1, c, m, h => by
    unfold rdo
    refine rdo_srt r (c + 1) ?_
    split
    · exact ins_srt h _ _
    · exact del_srt h _
theorem ins_len_le (m : PM) (k v : Int32) (h : Srt m) : (ins m k v).length ≤ m.length + 1 := by
  rw [ins_len m k v h]
  split <;> omega
theorem del_len_le (m : PM) (k : Int32) : (del m k).length ≤ m.length := by
  induction m with
  | nil => exact Nat.le_refl _
  | cons b m ih =>
    unfold del
    split
    · simp
    · simp; exact ih
theorem rdo_len {W : Nat} {D : Nat → Int32} {b : Nat} : ∀ (r c : Nat) {m : PM}, Srt m → (rdo W D b c r m).length ≤ m.length + r
  | 0, _, _, _ => Nat.le_refl _
  | r + 1, c, m, h => by
    unfold rdo
    split
    · have := rdo_len (W := W) (D := D) (b := b) r (c + 1) (ins_srt h (sI W D b (1 + 3 * c + 1)) (sI W D b (1 + 3 * c + 2)))
      have := ins_len_le m (sI W D b (1 + 3 * c + 1)) (sI W D b (1 + 3 * c + 2)) h
      omega
    · have := rdo_len (W := W) (D := D) (b := b) r (c + 1) (del_srt h (sI W D b (1 + 3 * c + 1)))
      have := del_len_le m (sI W D b (1 + 3 * c + 1))
      omega
/-- what a whole record has -/
theorem whl_pos {W LG : Nat} {D : Nat → Int32} {b : Nat} {e n : Int32} (hW : 6 ≤ W) (hW2 : W ≤ 64) (hL : LG ≤ 128) (h : ¬ whl W LG D b e n = 0) : b ≤ LG ∧ ∃ mm : Nat, D (W * b + 4) = nI mm ∧ 1 ≤ mm ∧ mm ≤ 7611 ∧ whl W LG D b e n = rB W mm ∧ b + rB W mm ≤ LG + 1 := by
  unfold whl at h ⊢
  by_cases h1 : LG < b
  · rw [if_pos h1] at h; exact absurd rfl h
  · rw [if_neg h1] at h ⊢
    by_cases h2 : isP W D b e n 0 (D (W * b + 3)) = false
    · rw [if_pos h2] at h; exact absurd rfl h
    · rw [if_neg h2] at h ⊢
      by_cases h3 : D (W * b + 4) < 1 ∨ nI ((1 + LG - b) * (W - 5)) < D (W * b + 4)
      · rw [if_pos h3] at h; exact absurd rfl h
      · rw [if_neg h3] at h ⊢
        have hm : (1 + LG - b) * (W - 5) ≤ 129 * 59 := Nat.mul_le_mul (by omega) (by omega)
        have hnn : ¬ D (W * b + 4) < 0 := fun z => h3 (Or.inl (by rw [ilt] at z ⊢; simp at z; show _ < (1 : Int); omega))
        obtain ⟨mm, hmm, he⟩ := nI_of hnn
        have hge : 1 ≤ mm := Nat.pos_of_ne_zero (fun z => h3 (Or.inl (by rw [he, z]; decide)))
        have hle : mm ≤ (1 + LG - b) * (W - 5) := Nat.le_of_not_lt (fun z => h3 (Or.inr (by rw [he]; exact nI_lt z hmm)))
        rw [he, nI_clamp hmm] at h ⊢
        by_cases h4 : 1 + LG - b < rB W mm
        · rw [if_pos h4] at h; exact absurd rfl h
        · rw [if_neg h4] at h ⊢
          by_cases h5 : allP W D b e n (D (W * b + 3)) 1 (rB W mm - 1) = true
          · rw [if_pos h5] at h ⊢
            exact ⟨by omega, mm, rfl, hge, by omega, rfl, by omega⟩
          · rw [if_neg h5] at h; exact absurd rfl h
section JN
variable {st it : Int32} {B W : Nat} {q : DQ} {pf : Nat → Int32} {jb jp jr tf te : Nat} {C S H : MP} {τ : aW} {Cm : PM}
set_option maxHeartbeats 4000000 in
set_option maxRecDepth 100000 in
theorem j_isPart {b : Nat} {e n p bt : Int32} (hB : B ≤ 512) (hW : 6 ≤ W) (hW2 : W ≤ 64) (hb : b < B) : MD1 mdX1_isPart [.ref 4, .int (nI b), .int e, .int n, .int p, .int bt] (wX st it B W q pf jb jp jr tf te C S H τ) (some (.int (b2i (isP W q.1 b e n p bt)))) (wX st it B W q pf jb jp jr tf te C S H τ) := by
  refine md_of [some (.ref 4), some (.int (nI b)), some (.int e), some (.int n), some (.int p), some (.int bt)] rfl (Nat.le_of_ble_eq_true rfl) (by decide) (fun X Post hX hp => ?_)
  unfold isP at hp
  have wa : ∀ i, i < 6 → wA B W q.1 (nI b) (nI i) = q.1 (W * b + i) := fun i hi => wA_in hB hW2 hb (by omega)
  refine wp_aload_n hX dX1_isPart_0 rfl ?_
  refine wp_get hX dX1_isPart_1 flX1_19 rfl rfl ?_
  refine wp_iload_n hX dX1_isPart_4 rfl ?_
  refine wp_cv1 hX dX1_isPart_5 mlX1_93 ⟨Nat.le_of_ble_eq_true rfl, Nat.le_of_ble_eq_true rfl⟩ (d_isGood rfl rfl hB hW2 (by omega) hb) rfl (Nat.le_of_ble_eq_true rfl) ?_
  by_cases g : q.1 (W * b + (W - 1)) = sumD q.1 (W * b) (W - 1)
  · rw [decide_eq_true g]
    refine wp_if_eq (tgt := 69) hX dX1_isPart_8 (by decide) (fun c => absurd c (by decide)) (fun _ => ?_)
    refine wp_aload_n hX dX1_isPart_11 rfl ?_
    refine wp_get hX dX1_isPart_12 flX1_19 rfl rfl ?_
    refine wp_iload_n hX dX1_isPart_15 rfl ?_
    refine wp_iconst (v := 0) hX dX1_isPart_16 ic_0 ?_
    refine wp_cv2 hX dX1_isPart_17 mlX1_86 ⟨Nat.le_of_ble_eq_true rfl, Nat.le_of_ble_eq_true rfl⟩ (d_wordAt rfl rfl hB hW2) rfl (Nat.le_of_ble_eq_true rfl) ?_
    rw [show wA B W q.1 (nI b) 0 = _ from wa 0 (by decide)]
    refine wp_iload_n hX dX1_isPart_20 rfl ?_
    refine wp_icmp_ne (tgt := 69) hX dX1_isPart_21 (by decide) (fun c0 => ?_) (fun c0 => ?_)
    · refine wp_iconst (v := 0) hX dX1_isPart_69 ic_0 ?_
      refine wp_iret hX dX1_isPart_70 rfl rfl ?_
      rw [decide_eq_false (fun z => c0 z.2.1)] at hp
      exact hp
    · refine wp_aload_n hX dX1_isPart_24 rfl ?_
      refine wp_get hX dX1_isPart_25 flX1_19 rfl rfl ?_
      refine wp_iload_n hX dX1_isPart_28 rfl ?_
      refine wp_iconst (v := 1) hX dX1_isPart_29 ic_1 ?_
      refine wp_cv2 hX dX1_isPart_30 mlX1_86 ⟨Nat.le_of_ble_eq_true rfl, Nat.le_of_ble_eq_true rfl⟩ (d_wordAt rfl rfl hB hW2) rfl (Nat.le_of_ble_eq_true rfl) ?_
      rw [show wA B W q.1 (nI b) 1 = _ from wa 1 (by decide)]
      refine wp_iload_n hX dX1_isPart_33 rfl ?_
      refine wp_icmp_ne (tgt := 69) hX dX1_isPart_34 (by decide) (fun c1 => ?_) (fun c1 => ?_)
      · refine wp_iconst (v := 0) hX dX1_isPart_69 ic_0 ?_
        refine wp_iret hX dX1_isPart_70 rfl rfl ?_
        rw [decide_eq_false (fun z => c1 z.2.2.1)] at hp
        exact hp
      · refine wp_aload_n hX dX1_isPart_37 rfl ?_
        refine wp_get hX dX1_isPart_38 flX1_19 rfl rfl ?_
        refine wp_iload_n hX dX1_isPart_41 rfl ?_
        refine wp_iconst (v := 2) hX dX1_isPart_42 ic_2 ?_
        refine wp_cv2 hX dX1_isPart_43 mlX1_86 ⟨Nat.le_of_ble_eq_true rfl, Nat.le_of_ble_eq_true rfl⟩ (d_wordAt rfl rfl hB hW2) rfl (Nat.le_of_ble_eq_true rfl) ?_
        rw [show wA B W q.1 (nI b) 2 = _ from wa 2 (by decide)]
        refine wp_iload hX dX1_isPart_46 rfl ?_
        refine wp_icmp_ne (tgt := 69) hX dX1_isPart_48 (by decide) (fun c2 => ?_) (fun c2 => ?_)
        · refine wp_iconst (v := 0) hX dX1_isPart_69 ic_0 ?_
          refine wp_iret hX dX1_isPart_70 rfl rfl ?_
          rw [decide_eq_false (fun z => c2 z.2.2.2.1)] at hp
          exact hp
        · refine wp_aload_n hX dX1_isPart_51 rfl ?_
          refine wp_get hX dX1_isPart_52 flX1_19 rfl rfl ?_
          refine wp_iload_n hX dX1_isPart_55 rfl ?_
          refine wp_iconst (v := 3) hX dX1_isPart_56 ic_3 ?_
          refine wp_cv2 hX dX1_isPart_57 mlX1_86 ⟨Nat.le_of_ble_eq_true rfl, Nat.le_of_ble_eq_true rfl⟩ (d_wordAt rfl rfl hB hW2) rfl (Nat.le_of_ble_eq_true rfl) ?_
          rw [show wA B W q.1 (nI b) 3 = _ from wa 3 (by decide)]
          refine wp_iload hX dX1_isPart_60 rfl ?_
          refine wp_icmp_ne (tgt := 69) hX dX1_isPart_62 (by decide) (fun c3 => ?_) (fun c3 => ?_)
          · refine wp_iconst (v := 0) hX dX1_isPart_69 ic_0 ?_
            refine wp_iret hX dX1_isPart_70 rfl rfl ?_
            rw [decide_eq_false (fun z => c3 z.2.2.2.2)] at hp
            exact hp
          · refine wp_iconst (v := 1) hX dX1_isPart_65 ic_1 ?_
            refine wp_goto (tgt := 70) hX dX1_isPart_66 (by decide) ?_
            refine wp_iret hX dX1_isPart_70 rfl rfl ?_
            rw [decide_eq_true ⟨g, c0, c1, c2, c3⟩] at hp
            exact hp
  · rw [decide_eq_false g]
    refine wp_if_eq (tgt := 69) hX dX1_isPart_8 (by decide) (fun _ => ?_) (fun c => absurd (rfl) c)
    refine wp_iconst (v := 0) hX dX1_isPart_69 ic_0 ?_
    refine wp_iret hX dX1_isPart_70 rfl rfl ?_
    rw [decide_eq_false (fun z => g z.1)] at hp
    exact hp
set_option maxHeartbeats 4000000 in
set_option maxRecDepth 100000 in
theorem j_wholeParts {b : Nat} {e n : Int32} (hB : B ≤ 512) (hW : 6 ≤ W) (hW2 : W ≤ 64) (hb : b ≤ jb + 1) (hjb : jb + 1 < B) (hjb2 : jb ≤ 128) : MD1 mdX1_wholeParts [.ref 4, .int (nI b), .int e, .int n] (wX st it B W q pf jb jp jr tf te C S H τ) (some (.int (nI (whl W jb q.1 b e n)))) (wX st it B W q pf jb jp jr tf te C S H τ) := by
  refine md_of [some (.ref 4), some (.int (nI b)), some (.int e), some (.int n), none, none, none, none, none] rfl (Nat.le_of_ble_eq_true rfl) (by decide) (fun X Post hX hp => ?_)
  unfold whl at hp
  have hcu : (2 : Nat) ^ 29 = 536870912 := by decide
  have wa : ∀ i, i < 6 → wA B W q.1 (nI b) (nI i) = q.1 (W * b + i) := fun i hi => wA_in hB hW2 (by omega) (by omega)
  refine wp_iconst (v := 1) hX dX1_wholeParts_0 ic_1 ?_
  refine wp_aload_n hX dX1_wholeParts_1 rfl ?_
  refine wp_get hX dX1_wholeParts_2 flX1_7 rfl rfl ?_
  refine wp_iadd hX dX1_wholeParts_5 ?_
  refine wp_iload_n hX dX1_wholeParts_6 rfl ?_
  refine wp_isub hX dX1_wholeParts_7 ?_
  refine wp_ti (y := (nI (1 + jb - b))) (by rw [show (1 : Int32) = nI 1 from rfl, nI_add]; exact pk_sub (by omega)) ?_
  refine wp_istore hX dX1_wholeParts_8 (Nat.le_of_ble_eq_true rfl) rfl ?_
  refine wp_aload_n hX dX1_wholeParts_10 rfl ?_
  refine wp_get hX dX1_wholeParts_11 flX1_19 rfl rfl ?_
  refine wp_iload_n hX dX1_wholeParts_14 rfl ?_
  refine wp_iconst (v := 3) hX dX1_wholeParts_15 ic_3 ?_
  refine wp_cv2 hX dX1_wholeParts_16 mlX1_86 ⟨Nat.le_of_ble_eq_true rfl, Nat.le_of_ble_eq_true rfl⟩ (d_wordAt rfl rfl hB hW2) rfl (Nat.le_of_ble_eq_true rfl) ?_
  rw [show wA B W q.1 (nI b) 3 = _ from wa 3 (by decide)]
  refine wp_istore hX dX1_wholeParts_19 (Nat.le_of_ble_eq_true rfl) rfl ?_
  refine wp_iload hX dX1_wholeParts_21 rfl ?_
  refine wp_iconst (v := 1) hX dX1_wholeParts_23 ic_1 ?_
  refine wp_icmp_lt (tgt := 40) hX dX1_wholeParts_24 (by decide) (fun c => ?_) (fun c => ?_)
  · have h1 : jb < b := by
      have := (nI_ltI (a := 1 + jb - b) (b := 1) (by omega) (by decide)).mp c
      omega
    refine wp_iconst (v := 0) hX dX1_wholeParts_40 ic_0 ?_
    refine wp_iret hX dX1_wholeParts_41 rfl rfl ?_
    rw [if_pos h1] at hp
    exact hp
  · have h1 : ¬ jb < b := fun z => c (nI_lt (a := 1 + jb - b) (b := 1) (by omega) (by decide))
    rw [if_neg h1] at hp
    refine wp_aload_n hX dX1_wholeParts_27 rfl ?_
    refine wp_iload_n hX dX1_wholeParts_28 rfl ?_
    refine wp_iload_n hX dX1_wholeParts_29 rfl ?_
    refine wp_iload_n hX dX1_wholeParts_30 rfl ?_
    refine wp_iconst (v := 0) hX dX1_wholeParts_31 ic_0 ?_
    refine wp_iload hX dX1_wholeParts_32 rfl ?_
    refine wp_cv5 hX dX1_wholeParts_34 mlX1_89 ⟨Nat.le_of_ble_eq_true rfl, Nat.le_of_ble_eq_true rfl⟩ (j_isPart hB hW hW2 (by omega)) rfl (Nat.le_of_ble_eq_true rfl) ?_
    cases h2 : isP W q.1 b e n 0 (q.1 (W * b + 3)) with
    | false =>
      rw [if_pos h2] at hp
      refine wp_if_ne (tgt := 42) hX dX1_wholeParts_37 (by decide) (fun c => absurd (rfl) c) (fun _ => ?_)
      refine wp_iconst (v := 0) hX dX1_wholeParts_40 ic_0 ?_
      refine wp_iret hX dX1_wholeParts_41 rfl rfl ?_
      exact hp
    | true =>
      rw [if_neg (by rw [h2]; decide)] at hp
      refine wp_if_ne (tgt := 42) hX dX1_wholeParts_37 (by decide) (fun _ => ?_) (fun c => absurd c (by decide))
      refine wp_aload_n hX dX1_wholeParts_42 rfl ?_
      refine wp_get hX dX1_wholeParts_43 flX1_19 rfl rfl ?_
      refine wp_iload_n hX dX1_wholeParts_46 rfl ?_
      refine wp_iconst (v := 4) hX dX1_wholeParts_47 ic_4 ?_
      refine wp_cv2 hX dX1_wholeParts_48 mlX1_86 ⟨Nat.le_of_ble_eq_true rfl, Nat.le_of_ble_eq_true rfl⟩ (d_wordAt rfl rfl hB hW2) rfl (Nat.le_of_ble_eq_true rfl) ?_
      rw [show wA B W q.1 (nI b) 4 = _ from wa 4 (by decide)]
      have hm : (1 + jb - b) * (W - 5) ≤ 129 * 59 := Nat.mul_le_mul (by omega) (by omega)
      refine wp_istore hX dX1_wholeParts_51 (Nat.le_of_ble_eq_true rfl) rfl ?_
      refine wp_iload hX dX1_wholeParts_53 rfl ?_
      refine wp_iconst (v := 1) hX dX1_wholeParts_55 ic_1 ?_
      refine wp_icmp_lt (tgt := 71) hX dX1_wholeParts_56 (by decide) (fun c3 => ?_) (fun c3 => ?_)
      · refine wp_iconst (v := 0) hX dX1_wholeParts_71 ic_0 ?_
        refine wp_iret hX dX1_wholeParts_72 rfl rfl ?_
        rw [if_pos (Or.inl c3)] at hp
        exact hp
      · refine wp_iload hX dX1_wholeParts_59 rfl ?_
        refine wp_iload hX dX1_wholeParts_61 rfl ?_
        refine wp_aload_n hX dX1_wholeParts_63 rfl ?_
        refine wp_cv0 hX dX1_wholeParts_64 mlX1_45 ⟨Nat.le_of_ble_eq_true rfl, Nat.le_of_ble_eq_true rfl⟩ (j_partInts (by omega)) rfl (Nat.le_of_ble_eq_true rfl) ?_
        refine wp_imul hX dX1_wholeParts_67 ?_
        refine wp_ti (y := nI ((1 + jb - b) * (W - 5))) (pk_mul _ _) ?_
        refine wp_icmp_le (tgt := 73) hX dX1_wholeParts_68 (by decide) (fun c4 => ?_) (fun c4 => ?_)
        · rw [if_neg (fun z => z.elim c3 (Int32.not_lt.mpr c4))] at hp
          have hnn : ¬ q.1 (W * b + 4) < 0 := fun z => c3 (by rw [ilt] at z ⊢; simp at z; show _ < (1 : Int); omega)
          obtain ⟨mm, hmm, he⟩ := nI_of hnn
          rw [he] at c4 c3 hp ⊢
          rw [nI_clamp hmm] at hp
          have hmle := (nI_leI hmm (by omega)).mp c4
          have hrb : rB W mm ≤ 1 + 3 * mm := by
            unfold rB
            split
            · omega
            · exact cdv_le (by omega)
          refine wp_aload_n hX dX1_wholeParts_73 rfl ?_
          refine wp_iload hX dX1_wholeParts_74 rfl ?_
          refine wp_cv1 hX dX1_wholeParts_76 mlX1_26 ⟨Nat.le_of_ble_eq_true rfl, Nat.le_of_ble_eq_true rfl⟩ (j_blocksFor hW hW2 (by omega)) rfl (Nat.le_of_ble_eq_true rfl) ?_
          refine wp_istore hX dX1_wholeParts_79 (Nat.le_of_ble_eq_true rfl) rfl ?_
          refine wp_iload hX dX1_wholeParts_81 rfl ?_
          refine wp_iload hX dX1_wholeParts_83 rfl ?_
          refine wp_icmp_le (tgt := 90) hX dX1_wholeParts_85 (by decide) (fun c5 => ?_) (fun c5 => ?_)
          · have h5 := (nI_leI (a := rB W mm) (b := 1 + jb - b) (by omega) (by omega)).mp c5
            rw [if_neg (by omega)] at hp
            have hrb1 : 1 ≤ rB W mm := by
              unfold rB
              rw [if_neg (fun z => c3 (by rw [z]; decide))]
              exact (cdv_lt (by omega)).mpr (by omega)
            have loop : ∀ (r k : Nat), k + r = rB W mm → allP W q.1 b e n (q.1 (W * b + 3)) k r = allP W q.1 b e n (q.1 (W * b + 3)) 1 (rB W mm - 1) → Wp X Post 93 [some (.ref 4), some (.int (nI b)), some (.int e), some (.int n), some (.int (nI (1 + jb - b))), some (.int (q.1 (W * b + 3))), some (.int (nI mm)), some (.int (nI (rB W mm))), some (.int (nI k))] [] (wX st it B W q pf jb jp jr tf te C S H τ) := by
              intro r
              induction r with
              | zero =>
                intro k hk ha
                rw [← ha] at hp
                refine wp_iload hX dX1_wholeParts_93 rfl ?_
                refine wp_iload hX dX1_wholeParts_95 rfl ?_
                refine wp_icmp_ge (tgt := 125) hX dX1_wholeParts_97 (by decide) (fun _ => ?_) (fun c => absurd (nI_le (by omega) (by omega)) c)
                refine wp_iload hX dX1_wholeParts_125 rfl ?_
                refine wp_iret hX dX1_wholeParts_127 rfl rfl ?_
                exact hp
              | succ r ih =>
                intro k hk ha
                refine wp_iload hX dX1_wholeParts_93 rfl ?_
                refine wp_iload hX dX1_wholeParts_95 rfl ?_
                refine wp_icmp_ge (tgt := 125) hX dX1_wholeParts_97 (by decide) (fun c => absurd c (nI_ge (by omega) (by omega))) (fun _ => ?_)
                refine wp_aload_n hX dX1_wholeParts_100 rfl ?_
                refine wp_iload_n hX dX1_wholeParts_101 rfl ?_
                refine wp_iload hX dX1_wholeParts_102 rfl ?_
                refine wp_iadd hX dX1_wholeParts_104 ?_
                refine wp_ti (y := (nI (b + k))) (nI_add _ _) ?_
                refine wp_iload_n hX dX1_wholeParts_105 rfl ?_
                refine wp_iload_n hX dX1_wholeParts_106 rfl ?_
                refine wp_iload hX dX1_wholeParts_107 rfl ?_
                refine wp_iload hX dX1_wholeParts_109 rfl ?_
                refine wp_cv5 hX dX1_wholeParts_111 mlX1_89 ⟨Nat.le_of_ble_eq_true rfl, Nat.le_of_ble_eq_true rfl⟩ (j_isPart hB hW hW2 (by omega)) rfl (Nat.le_of_ble_eq_true rfl) ?_
                rw [allP_s] at ha
                cases h6 : isP W q.1 (b + k) e n (nI k) (q.1 (W * b + 3)) with
                | false =>
                  rw [h6, Bool.false_and] at ha
                  rw [← ha] at hp
                  refine wp_if_ne (tgt := 119) hX dX1_wholeParts_114 (by decide) (fun c => absurd (rfl) c) (fun _ => ?_)
                  refine wp_iconst (v := 0) hX dX1_wholeParts_117 ic_0 ?_
                  refine wp_iret hX dX1_wholeParts_118 rfl rfl ?_
                  exact hp
                | true =>
                  rw [h6, Bool.true_and] at ha
                  refine wp_if_ne (tgt := 119) hX dX1_wholeParts_114 (by decide) (fun _ => ?_) (fun c => absurd c (by decide))
                  refine wp_iinc hX dX1_wholeParts_119 ic_1 rfl (Nat.le_of_ble_eq_true rfl) rfl ?_
                  refine wp_goto (tgt := 93) hX dX1_wholeParts_122 (by decide) ?_
                  rw [nI_1]
                  exact ih (k + 1) (by omega) ha
            refine wp_iconst (v := 1) hX dX1_wholeParts_90 ic_1 ?_
            refine wp_istore hX dX1_wholeParts_91 (Nat.le_of_ble_eq_true rfl) rfl ?_
            exact loop (rB W mm - 1) 1 (by omega) rfl
          · have h5 : 1 + jb - b < rB W mm := Nat.lt_of_not_le (fun z => c5 (nI_le z (by omega)))
            refine wp_iconst (v := 0) hX dX1_wholeParts_88 ic_0 ?_
            refine wp_iret hX dX1_wholeParts_89 rfl rfl ?_
            rw [if_pos h5] at hp
            exact hp
        · refine wp_iconst (v := 0) hX dX1_wholeParts_71 ic_0 ?_
          refine wp_iret hX dX1_wholeParts_72 rfl rfl ?_
          rw [if_pos (Or.inr (Int32.not_le.mp c4))] at hp
          exact hp
set_option maxHeartbeats 4000000 in
set_option maxRecDepth 100000 in
theorem j_storedInt {b i : Nat} (hB : B ≤ 512) (hW : 6 ≤ W) (hW2 : W ≤ 64) (hi : i < 2 ^ 29) (hb : b + i / (W - 5) < B) : MD1 mdX1_storedInt [.ref 4, .int (nI b), .int (nI i)] (wX st it B W q pf jb jp jr tf te C S H τ) (some (.int (sI W q.1 b i))) (wX st it B W q pf jb jp jr tf te C S H τ) := by
  refine md_of [some (.ref 4), some (.int (nI b)), some (.int (nI i)), none] rfl (Nat.le_of_ble_eq_true rfl) (by decide) (fun X Post hX hp => ?_)
  have hcu : (2 : Nat) ^ 29 = 536870912 := by decide
  have hne : ¬ nI (W - 5) = 0 := nI_ne0 (by omega) (by omega)
  have hmod : i % (W - 5) < W - 5 := Nat.mod_lt _ (by omega)
  refine wp_aload_n hX dX1_storedInt_0 rfl ?_
  refine wp_cv0 hX dX1_storedInt_1 mlX1_45 ⟨Nat.le_of_ble_eq_true rfl, Nat.le_of_ble_eq_true rfl⟩ (j_partInts (by omega)) rfl (Nat.le_of_ble_eq_true rfl) ?_
  refine wp_istore_n hX dX1_storedInt_4 (Nat.le_of_ble_eq_true rfl) rfl ?_
  refine wp_iload_n hX dX1_storedInt_5 rfl ?_
  refine wp_iconst (v := 1) hX dX1_storedInt_6 ic_1 ?_
  refine wp_icmp_ge (tgt := 12) hX dX1_storedInt_7 (by decide) (fun _ => ?_) (fun c => absurd (nI_le (a := 1) (b := W - 5) (by omega) (by omega)) c)
  refine wp_aload_n hX dX1_storedInt_12 rfl ?_
  refine wp_get hX dX1_storedInt_13 flX1_19 rfl rfl ?_
  refine wp_iload_n hX dX1_storedInt_16 rfl ?_
  refine wp_iload_n hX dX1_storedInt_17 rfl ?_
  refine wp_iload_n hX dX1_storedInt_18 rfl ?_
  refine wp_idiv hX dX1_storedInt_19 (hne) ?_
  refine wp_ti (y := (nI (i / (W - 5)))) (pk_div (by omega) (by omega) (by omega)) ?_
  refine wp_iadd hX dX1_storedInt_20 ?_
  refine wp_ti (y := (nI (b + i / (W - 5)))) (nI_add _ _) ?_
  refine wp_iconst (v := 4) hX dX1_storedInt_21 ic_4 ?_
  refine wp_iload_n hX dX1_storedInt_22 rfl ?_
  refine wp_iload_n hX dX1_storedInt_23 rfl ?_
  refine wp_irem hX dX1_storedInt_24 (hne) ?_
  refine wp_ti (y := (nI (i % (W - 5)))) (pk_rem (by omega) (by omega) (by omega)) ?_
  refine wp_iadd hX dX1_storedInt_25 ?_
  refine wp_ti (y := nI (4 + i % (W - 5))) (nI_add 4 _) ?_
  refine wp_cv2 hX dX1_storedInt_26 mlX1_86 ⟨Nat.le_of_ble_eq_true rfl, Nat.le_of_ble_eq_true rfl⟩ (d_wordAt rfl rfl hB hW2) rfl (Nat.le_of_ble_eq_true rfl) ?_
  rw [wA_in hB hW2 hb (by omega)]
  refine wp_iret hX dX1_storedInt_29 rfl rfl ?_
  exact hp
set_option maxHeartbeats 4000000 in
set_option maxRecDepth 100000 in
theorem j_redo {b mm : Nat} (hB : B ≤ 512) (hW : 6 ≤ W) (hW2 : W ≤ 64) (hmm : q.1 (W * b + 4) = nI mm) (hm2 : mm ≤ 7611) (hbb : b + rB W mm ≤ B) (hb1 : b < B) (hC : KAm Cm C) (hCs : Srt Cm) (hlen : Cm.length + mm ≤ 8700) :
    MT mdX1_redo [.ref 4, .ref 6, .int (nI b)] (wX st it B W q pf jb jp jr tf te C S H τ) (fun r σ1 => ∃ C1, r = none ∧ KAm (rdo W q.1 b 0 mm Cm) C1 ∧ σ1 = wX st it B W q pf jb jp jr tf te C1 S H τ) := by
  refine mp_of [some (.ref 4), some (.ref 6), some (.int (nI b)), none, none, none, none] rfl (Nat.le_of_ble_eq_true rfl) (by decide) (fun X Post hX hp => ?_)
  have hcu : (2 : Nat) ^ 29 = 536870912 := by decide
  have hpos : 1 ≤ W - 5 := by omega
  have hin : ∀ i, i < 1 + 3 * mm → 1 ≤ mm → b + i / (W - 5) < B := fun i hi hm1 => by
    have h1 : i / (W - 5) < rB W mm := by
      unfold rB
      rw [if_neg (by omega)]
      refine (cdv_lt hpos).mpr ?_
      have := Nat.div_mul_le_self i (W - 5)
      omega
    omega
  have loop : ∀ (r c : Nat) (m : PM) (C1 : MP) (x5 x6 : Option Value), noL [none, none, none, none, none, x5] 6 = true → c + r = mm → KAm m C1 → Srt m → m.length + r ≤ 8700 → rdo W q.1 b c r m = rdo W q.1 b 0 mm Cm → Wp X Post 10 [some (.ref 4), some (.ref 6), some (.int (nI b)), some (.int (nI mm)), some (.int (nI c)), x5, x6] [] (wX st it B W q pf jb jp jr tf te C1 S H τ) := by
    intro r
    induction r with
    | zero =>
      intro c m C1 x5 x6 _ hc hk hs hl he
      refine wp_iload hX dX1_redo_10 rfl ?_
      refine wp_iload_n hX dX1_redo_12 rfl ?_
      refine wp_icmp_ge (tgt := 76) hX dX1_redo_13 (by decide) (fun _ => ?_) (fun c => absurd (nI_le (by omega) (by omega)) c)
      refine wp_vret hX dX1_redo_76 rfl ?_
      exact hp _ _ ⟨C1, rfl, by rw [← he]; exact hk, rfl⟩
    | succ r ih =>
      intro c m C1 x5 x6 _ hc hk hs hl he
      have hku : C1.1 = m.length := hk.1.symm
      have e1 : (1 : Int32) + 3 * nI c = nI (1 + 3 * c) := by rw [show (3 : Int32) = nI 3 from rfl, show (1 : Int32) = nI 1 from rfl, pk_mul, nI_add]
      rw [rdo_s] at he
      refine wp_iload hX dX1_redo_10 rfl ?_
      refine wp_iload_n hX dX1_redo_12 rfl ?_
      refine wp_icmp_ge (tgt := 76) hX dX1_redo_13 (by decide) (fun c => absurd c (nI_ge (by omega) (by omega))) (fun _ => ?_)
      refine wp_iconst (v := 1) hX dX1_redo_16 ic_1 ?_
      refine wp_iconst (v := 3) hX dX1_redo_17 ic_3 ?_
      refine wp_iload hX dX1_redo_18 rfl ?_
      refine wp_imul hX dX1_redo_20 ?_
      refine wp_iadd hX dX1_redo_21 ?_
      refine wp_ti (y := (nI (1 + 3 * c))) (e1) ?_
      refine wp_istore hX dX1_redo_22 (Nat.le_of_ble_eq_true rfl) rfl ?_
      refine wp_aload_n hX dX1_redo_24 rfl ?_
      refine wp_iload_n hX dX1_redo_25 rfl ?_
      refine wp_iload hX dX1_redo_26 rfl ?_
      refine wp_iconst (v := 1) hX dX1_redo_28 ic_1 ?_
      refine wp_iadd hX dX1_redo_29 ?_
      refine wp_ti (y := (nI (1 + 3 * c + 1))) (nI_1 _) ?_
      refine wp_cv2 hX dX1_redo_30 mlX1_96 ⟨Nat.le_of_ble_eq_true rfl, Nat.le_of_ble_eq_true rfl⟩ (j_storedInt hB hW hW2 (by omega) (hin _ (by omega) (by omega))) rfl (Nat.le_of_ble_eq_true rfl) ?_
      refine wp_istore hX dX1_redo_33 (Nat.le_of_ble_eq_true rfl) rfl ?_
      refine wp_aload_n hX dX1_redo_35 rfl ?_
      refine wp_iload_n hX dX1_redo_36 rfl ?_
      refine wp_iload hX dX1_redo_37 rfl ?_
      refine wp_cv2 hX dX1_redo_39 mlX1_96 ⟨Nat.le_of_ble_eq_true rfl, Nat.le_of_ble_eq_true rfl⟩ (j_storedInt hB hW hW2 (by omega) (hin _ (by omega) (by omega))) rfl (Nat.le_of_ble_eq_true rfl) ?_
      refine wp_iconst (v := 1) hX dX1_redo_42 ic_1 ?_
      refine wp_icmp_ne (tgt := 64) hX dX1_redo_43 (by decide) (fun d => ?_) (fun d => ?_)
      · rw [if_neg d] at he
        refine wp_eqW (σ1 := wX st it B W q pf jb jp jr tf te C1 S H τ) rfl ?_
        refine wp_aload_n hX dX1_redo_64 rfl ?_
        refine wp_iload hX dX1_redo_65 rfl ?_
        refine wp_cv1p hX dX1_redo_67 mlX1_102 ⟨Nat.le_of_ble_eq_true rfl, Nat.le_of_ble_eq_true rfl⟩ (k_drop (by decide) rfl rfl rfl (by omega) (by decide) hk hs) rfl (Nat.le_of_ble_eq_true rfl) ?_
        rintro r1 σ1 ⟨rfl, u1, kf1, vf1, hk1, rfl⟩
        refine wp_eqW (σ1 := wX st it B W q pf jb jp jr tf te (u1, kf1, vf1) S H τ) rfl ?_
        refine wp_iinc hX dX1_redo_70 ic_1 rfl (Nat.le_of_ble_eq_true rfl) rfl ?_
        refine wp_goto (tgt := 10) hX dX1_redo_73 (by decide) ?_
        rw [nI_1]
        exact ih (c + 1) _ (u1, kf1, vf1) _ _ rfl (by omega) hk1 (del_srt hs _) (by have := del_len_le m (sI W q.1 b (1 + 3 * c + 1)); omega) he
      · rw [if_pos d] at he
        refine wp_aload_n hX dX1_redo_46 rfl ?_
        refine wp_iload hX dX1_redo_47 rfl ?_
        refine wp_aload_n hX dX1_redo_49 rfl ?_
        refine wp_iload_n hX dX1_redo_50 rfl ?_
        refine wp_iload hX dX1_redo_51 rfl ?_
        refine wp_iconst (v := 2) hX dX1_redo_53 ic_2 ?_
        refine wp_iadd hX dX1_redo_54 ?_
        refine wp_ti (y := (nI (1 + 3 * c + 2))) (nI_add (1 + 3 * c) 2) ?_
        refine wp_cv2 hX dX1_redo_55 mlX1_96 ⟨Nat.le_of_ble_eq_true rfl, Nat.le_of_ble_eq_true rfl⟩ (j_storedInt hB hW hW2 (by omega) (hin _ (by omega) (by omega))) rfl (Nat.le_of_ble_eq_true rfl) ?_
        refine wp_cv2p hX dX1_redo_58 mlX1_99 ⟨Nat.le_of_ble_eq_true rfl, Nat.le_of_ble_eq_true rfl⟩ (k_enter (by decide) rfl rfl rfl (by omega) (by decide) hk hs) rfl (Nat.le_of_ble_eq_true rfl) ?_
        rintro r1 σ1 ⟨rfl, u1, kf1, vf1, hk1, rfl⟩
        refine wp_eqW (σ1 := wX st it B W q pf jb jp jr tf te (u1, kf1, vf1) S H τ) rfl ?_
        refine wp_goto (tgt := 70) hX dX1_redo_61 (by decide) ?_
        refine wp_iinc hX dX1_redo_70 ic_1 rfl (Nat.le_of_ble_eq_true rfl) rfl ?_
        refine wp_goto (tgt := 10) hX dX1_redo_73 (by decide) ?_
        rw [nI_1]
        exact ih (c + 1) _ (u1, kf1, vf1) _ _ rfl (by omega) hk1 (ins_srt hs _ _) (by have := ins_len_le m (sI W q.1 b (1 + 3 * c + 1)) (sI W q.1 b (1 + 3 * c + 2)) hs; omega) he
  refine wp_aload_n hX dX1_redo_0 rfl ?_
  refine wp_iload_n hX dX1_redo_1 rfl ?_
  refine wp_iconst (v := 0) hX dX1_redo_2 ic_0 ?_
  refine wp_cv2 hX dX1_redo_3 mlX1_96 ⟨Nat.le_of_ble_eq_true rfl, Nat.le_of_ble_eq_true rfl⟩ (j_storedInt (i := 0) hB hW hW2 (by decide) (by rw [Nat.zero_div]; exact hb1)) rfl (Nat.le_of_ble_eq_true rfl) ?_
  have e0 : sI W q.1 b 0 = nI mm := by unfold sI; rw [Nat.zero_div, Nat.zero_mod]; exact hmm
  rw [e0]
  refine wp_istore_n hX dX1_redo_6 (Nat.le_of_ble_eq_true rfl) rfl ?_
  refine wp_iconst (v := 0) hX dX1_redo_7 ic_0 ?_
  refine wp_istore hX dX1_redo_8 (Nat.le_of_ble_eq_true rfl) rfl ?_
  exact loop mm 0 Cm C none none rfl (by omega) hC hCs hlen rfl
set_option maxHeartbeats 4000000 in
set_option maxRecDepth 100000 in
theorem j_replay {e : Int32} (hB : B ≤ 512) (hW : 6 ≤ W) (hW2 : W ≤ 64) (hjb : jb + 1 < B) (hjb2 : jb ≤ 128) (hC : KAm Cm C) (hCs : Srt Cm) (hlen : 3 * Cm.length + (W - 5) * jb ≤ 26100) :
    MT mdX1_replay [.ref 4, .ref 6, .int e] (wX st it B W q pf jb jp jr tf te C S H τ) (fun r σ1 => ∃ C1, r = none ∧ KAm (rpl W jb q.1 e jb 0 0 Cm).2.2 C1 ∧ σ1 = wX st it B W q pf jb (rpl W jb q.1 e jb 0 0 Cm).1 (rpl W jb q.1 e jb 0 0 Cm).2.1 tf te C1 S H τ) := by
  refine mp_of [some (.ref 4), some (.ref 6), some (.int e), none, none, none] rfl (Nat.le_of_ble_eq_true rfl) (by decide) (fun X Post hX hp => ?_)
  have loop : ∀ (t i pl rc : Nat) (m : PM) (C1 : MP) (x4 x5 : Option Value), noL [none, none, none, none, x4] 5 = true → i + t = jb → pl ≤ jb → rc ≤ pl → KAm m C1 → Srt m → 3 * m.length + (W - 5) * jb ≤ 26100 + (W - 5) * pl → rpl W jb q.1 e t pl rc m = rpl W jb q.1 e jb 0 0 Cm → Wp X Post 6 [some (.ref 4), some (.ref 6), some (.int e), some (.int (nI i)), x4, x5] [] (wX st it B W q pf jb pl rc tf te C1 S H τ) := by
    intro t
    induction t with
    | zero =>
      intro i pl rc m C1 x4 x5 _ hi hpl hrc hk hs hl he
      refine wp_iload_n hX dX1_replay_6 rfl ?_
      refine wp_aload_n hX dX1_replay_7 rfl ?_
      refine wp_get hX dX1_replay_8 flX1_7 rfl rfl ?_
      refine wp_icmp_ge (tgt := 77) hX dX1_replay_11 (by decide) (fun _ => ?_) (fun c => absurd (nI_le (by omega) (by omega)) c)
      refine wp_vret hX dX1_replay_77 rfl ?_
      exact hp _ _ ⟨C1, rfl, by rw [← he]; exact hk, by rw [← he]; try rfl⟩
    | succ t ih =>
      intro i pl rc m C1 x4 x5 _ hi hpl hrc hk hs hl he
      rw [rpl_s] at he
      refine wp_iload_n hX dX1_replay_6 rfl ?_
      refine wp_aload_n hX dX1_replay_7 rfl ?_
      refine wp_get hX dX1_replay_8 flX1_7 rfl rfl ?_
      refine wp_icmp_ge (tgt := 77) hX dX1_replay_11 (by decide) (fun c => absurd c (nI_ge (by omega) (by omega))) (fun _ => ?_)
      refine wp_iconst (v := 1) hX dX1_replay_14 ic_1 ?_
      refine wp_aload_n hX dX1_replay_15 rfl ?_
      refine wp_get hX dX1_replay_16 flX1_13 rfl rfl ?_
      refine wp_iadd hX dX1_replay_19 ?_
      refine wp_ti (y := (nI (1 + pl))) (nI_add 1 pl) ?_
      refine wp_istore hX dX1_replay_20 (Nat.le_of_ble_eq_true rfl) rfl ?_
      refine wp_aload_n hX dX1_replay_22 rfl ?_
      refine wp_iload hX dX1_replay_23 rfl ?_
      refine wp_iload_n hX dX1_replay_25 rfl ?_
      refine wp_aload_n hX dX1_replay_26 rfl ?_
      refine wp_get hX dX1_replay_27 flX1_16 rfl rfl ?_
      refine wp_iconst (v := 1) hX dX1_replay_30 ic_1 ?_
      refine wp_iadd hX dX1_replay_31 ?_
      refine wp_ti (y := (nI (rc + 1))) (nI_1 _) ?_
      refine wp_cv3 hX dX1_replay_32 mlX1_56 ⟨Nat.le_of_ble_eq_true rfl, Nat.le_of_ble_eq_true rfl⟩ (j_wholeParts hB hW hW2 (by omega) hjb hjb2) rfl (Nat.le_of_ble_eq_true rfl) ?_
      by_cases h0 : whl W jb q.1 (1 + pl) e (nI (rc + 1)) = 0
      · rw [if_pos h0] at he
        rw [h0]
        refine wp_istore hX dX1_replay_35 (Nat.le_of_ble_eq_true rfl) rfl ?_
        refine wp_iload hX dX1_replay_37 rfl ?_
        refine wp_if_ne (tgt := 43) hX dX1_replay_39 (by decide) (fun c => absurd (rfl) c) (fun _ => ?_)
        refine wp_vret hX dX1_replay_42 rfl ?_
        exact hp _ _ ⟨C1, rfl, by rw [← he]; exact hk, by rw [← he]; try rfl⟩
      · rw [if_neg h0] at he
        obtain ⟨g1, mm, g2, g3, g4, g5, g6⟩ := whl_pos hW hW2 hjb2 h0
        rw [g5] at he ⊢
        rw [g2, nI_clamp (by omega)] at he
        have g7 : 1 + 3 * mm ≤ rB W mm * (W - 5) := by
          unfold rB
          rw [if_neg (by omega)]
          exact cdv_mul (by omega)
        have g8 : (W - 5) * (pl + rB W mm) = (W - 5) * pl + rB W mm * (W - 5) := by rw [Nat.mul_add, Nat.mul_comm (W - 5) (rB W mm)]
        have g9 : (W - 5) * (pl + rB W mm) ≤ (W - 5) * jb := Nat.mul_le_mul (Nat.le_refl _) (by omega)
        have g10 : 1 ≤ rB W mm := Nat.pos_of_ne_zero (fun z => h0 (by rw [g5]; exact z))
        have hml : m.length = C1.1 := hk.1
        refine wp_istore hX dX1_replay_35 (Nat.le_of_ble_eq_true rfl) rfl ?_
        refine wp_iload hX dX1_replay_37 rfl ?_
        refine wp_if_ne (tgt := 43) hX dX1_replay_39 (by decide) (fun _ => ?_) (fun c => absurd c (nI_ne0 g10 (by omega)))
        refine wp_aload_n hX dX1_replay_43 rfl ?_
        refine wp_aload_n hX dX1_replay_44 rfl ?_
        refine wp_iload hX dX1_replay_45 rfl ?_
        refine wp_cv2p hX dX1_replay_47 mlX1_60 ⟨Nat.le_of_ble_eq_true rfl, Nat.le_of_ble_eq_true rfl⟩ (j_redo hB hW hW2 g2 g4 (by omega) (by omega) hk hs (by omega)) rfl (Nat.le_of_ble_eq_true rfl) ?_
        rintro r1 σ1 ⟨C2, rfl, hk2, rfl⟩
        refine wp_aload_n hX dX1_replay_50 rfl ?_
        refine wp_dup hX dX1_replay_51 rfl ?_
        refine wp_get hX dX1_replay_52 flX1_13 rfl rfl ?_
        refine wp_iload hX dX1_replay_55 rfl ?_
        refine wp_iadd hX dX1_replay_57 ?_
        refine wp_ti (y := (nI (pl + rB W mm))) (nI_add _ _) ?_
        refine wp_put hX dX1_replay_58 fwX1_13 rfl (Nat.le_of_ble_eq_true rfl) rfl rfl ?_
        refine wp_aload_n hX dX1_replay_61 rfl ?_
        refine wp_dup hX dX1_replay_62 rfl ?_
        refine wp_get hX dX1_replay_63 flX1_16 rfl rfl ?_
        refine wp_iconst (v := 1) hX dX1_replay_66 ic_1 ?_
        refine wp_iadd hX dX1_replay_67 ?_
        refine wp_ti (y := (nI (rc + 1))) (nI_1 _) ?_
        refine wp_put hX dX1_replay_68 fwX1_16 rfl (Nat.le_of_ble_eq_true rfl) rfl rfl ?_
        refine wp_eqW (σ1 := wX st it B W q pf jb (pl + rB W mm) (rc + 1) tf te C2 S H τ) rfl ?_
        refine wp_iinc hX dX1_replay_71 ic_1 rfl (Nat.le_of_ble_eq_true rfl) rfl ?_
        refine wp_goto (tgt := 6) hX dX1_replay_74 (by decide) ?_
        rw [nI_1]
        refine ih (i + 1) (pl + rB W mm) (rc + 1) _ C2 _ _ rfl (by omega) (by omega) (by omega) hk2 (rdo_srt _ _ hs) ?_ he
        have := rdo_len (W := W) (D := q.1) (b := 1 + pl) mm 0 hs
        omega
  refine wp_aload_n hX dX1_replay_0 rfl ?_
  refine wp_cv0 hX dX1_replay_1 mlX1_23 ⟨Nat.le_of_ble_eq_true rfl, Nat.le_of_ble_eq_true rfl⟩ (j_restart) rfl (Nat.le_of_ble_eq_true rfl) ?_
  refine wp_iconst (v := 0) hX dX1_replay_4 ic_0 ?_
  refine wp_istore_n hX dX1_replay_5 (Nat.le_of_ble_eq_true rfl) rfl ?_
  exact loop jb 0 0 0 Cm C none none rfl (by omega) (by omega) (by omega) hC hCs (by omega) rfl
end JN
