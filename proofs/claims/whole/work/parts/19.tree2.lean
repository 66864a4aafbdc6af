/-! Tree: written and read -/
theorem n_min {a b : Nat} (ha : a < 2 ^ 31) (hb : b < 2 ^ 31) : (if nI b < nI a then nI b else nI a) = nI (min a b) := by
  by_cases h : b < a
  · rw [if_pos (nI_lt h ha), Nat.min_eq_right (by omega)]
  · rw [if_neg (nI_nlt (by omega) hb), Nat.min_eq_left (by omega)]
/-- the rows of nodes above the row of blocks at s, whose least keys are ls -/
def nodW (W : Nat) : Nat → Nat → Nat → (Nat → Int32) → DQ → Bool × DQ
  | 0, _, _, _, q => (true, q)
  | k + 1, s, row, ls, q => if row ≤ 1 then (true, q) else
    if (wrN W (fun j => (s + row + j, rowB (fan W) 2 row (fun i => (ls i, nI (s + i))) j)) 0 (cdv row (fan W)) q).1 then
      nodW W k (s + row) (cdv row (fan W)) (fun j => ls (fan W * j)) (wrN W (fun j => (s + row + j, rowB (fan W) 2 row (fun i => (ls i, nI (s + i))) j)) 0 (cdv row (fan W)) q).2
    else (false, (wrN W (fun j => (s + row + j, rowB (fan W) 2 row (fun i => (ls i, nI (s + i))) j)) 0 (cdv row (fan W)) q).2)
theorem nodW_s (W k s row : Nat) (ls : Nat → Int32) (q : DQ) : nodW W (k + 1) s row ls q = if row ≤ 1 then (true, q) else
    if (wrN W (fun j => (s + row + j, rowB (fan W) 2 row (fun i => (ls i, nI (s + i))) j)) 0 (cdv row (fan W)) q).1 then
      nodW W k (s + row) (cdv row (fan W)) (fun j => ls (fan W * j)) (wrN W (fun j => (s + row + j, rowB (fan W) 2 row (fun i => (ls i, nI (s + i))) j)) 0 (cdv row (fan W)) q).2
    else (false, (wrN W (fun j => (s + row + j, rowB (fan W) 2 row (fun i => (ls i, nI (s + i))) j)) 0 (cdv row (fan W)) q).2) := rfl
/-- the leaves of a map at block s -/
def leaW (W s : Nat) (m : PM) (q : DQ) : Bool × DQ := wrN W (fun k => (s + k, rowB (fan W) 1 m.length (fun i => m.getD i (0, 0)) k)) 0 (cdv m.length (fan W)) q
/-- a map as a tree at block s -/
def treW (W s : Nat) (m : PM) (q : DQ) : Bool × DQ :=
  if (leaW W s m q).1 then nodW W 32 s (cdv m.length (fan W)) (fun k => (m.getD (fan W * k) (0, 0)).1) (leaW W s m q).2 else (false, (leaW W s m q).2)
/-- the first n pairs of the leaves at block s, from pair c on r of them -/
def ldo (W : Nat) (D : Nat → Int32) (s : Nat) : Nat → Nat → PM → PM
  | _, 0, m => m
  | c, r + 1, m => ldo W D s (c + 1) r (ins m (D (W * (s + c / fan W) + (2 + 2 * (c % fan W)))) (D (W * (s + c / fan W) + (2 + 2 * (c % fan W) + 1))))
theorem ldo_s (W : Nat) (D : Nat → Int32) (s c r : Nat) (m : PM) : ldo W D s c (r + 1) m = ldo W D s (c + 1) r (ins m (D (W * (s + c / fan W) + (2 + 2 * (c % fan W)))) (D (W * (s + c / fan W) + (2 + 2 * (c % fan W) + 1)))) := rfl
/-- a write touches its block alone -/
theorem wrD_off {wf pf : Nat → Int32} {W b b1 i : Nat} (h : ¬ b1 = b) (hi : i < W) : wrD wf W b pf (W * b1 + i) = wf (W * b1 + i) := by
  unfold wrD
  rw [if_neg]
  rintro ⟨h1, h2⟩
  rcases Nat.lt_or_ge b1 b with z | z
  · have : W * (b1 + 1) ≤ W * b := Nat.mul_le_mul (Nat.le_refl _) z
    rw [Nat.mul_add] at this
    omega
  · have : W * (b + 1) ≤ W * b1 := Nat.mul_le_mul (Nat.le_refl _) (by omega)
    rw [Nat.mul_add] at this
    omega
theorem wrD_in {wf pf : Nat → Int32} {W b i : Nat} (hi : i < W - 1) : wrD wf W b pf (W * b + i) = pf i := by
  unfold wrD
  rw [if_pos (by omega), if_neg (by omega)]
  congr 1
  omega
/-- the words of a block that none of the writes is of -/
theorem wrN_off {W : Nat} {f : Nat → Nat × (Nat → Int32)} {b i : Nat} (hi : i < W) : ∀ (n k : Nat) (q : DQ), (∀ j, k ≤ j → j < k + n → ¬ b = (f j).1) → (wrN W f k n q).2.1 (W * b + i) = q.1 (W * b + i)
  | 0, k, q, _ => rfl
  | n + 1, k, q, h => by
    rw [wrN_s]
    split
    · rfl
    · rw [wrN_off hi n (k + 1) _ (fun j h1 h2 => h j (by omega) (by omega))]
      exact wrD_off (h k (Nat.le_refl _) (by omega)) hi
/-- the words of block f j, when all the writes happened -/
theorem wrN_at {W : Nat} {f : Nat → Nat × (Nat → Int32)} {i : Nat} (hi : i < W - 1) : ∀ (n k : Nat) (q : DQ) (j : Nat), (wrN W f k n q).1 = true → k ≤ j → j < k + n → (∀ a b, k ≤ a → a < b → b < k + n → ¬ (f a).1 = (f b).1) → (wrN W f k n q).2.1 (W * (f j).1 + i) = (f j).2 i
  | 0, k, q, j, _, _, _, _ => by omega
  | n + 1, k, q, j, h0, h1, h2, h3 => by
    rw [wrN_s] at h0 ⊢
    by_cases hf : q.2.2 = 1
    · rw [if_pos hf] at h0; cases h0
    · rw [if_neg hf] at h0 ⊢
      rcases Nat.lt_or_ge k j with z | z
      · exact wrN_at hi n (k + 1) _ j h0 (by omega) (by omega) (fun a b a1 a2 a3 => h3 a b (by omega) a2 (by omega))
      · have : j = k := by omega
        subst this
        rw [wrN_off (by omega) n (j + 1) _ (fun a a1 a2 => h3 j a (by omega) (by omega) (by omega))]
        exact wrD_in hi
section TR
variable {st it : Int32} {B W : Nat} {q : DQ} {pf : Nat → Int32} {jb jp jr tf te : Nat} {C S H : MP} {τ : aW} {Cm : PM}
set_option maxHeartbeats 4000000 in
set_option maxRecDepth 100000 in
theorem t_writeLeaves {s : Nat} (hB : B ≤ 512) (hW : 16 ≤ W) (hW2 : W ≤ 64) (hC : KAm Cm C) (hCu : C.1 ≤ 8700) (hs : s + cdv Cm.length (fan W) ≤ B) : MT mdX3_writeLeaves [.ref 5, .ref 6, .int (nI s), .int (nI (cdv Cm.length (fan W)))] (wX st it B W q pf jb jp jr tf te C S H τ) (fun r σ1 => ∃ pf1, r = some (.int (b2i (leaW W s Cm q).1)) ∧ σ1 = wX st it B W (leaW W s Cm q).2 pf1 jb jp jr tf te C S H τ) := by
  refine mp_of [some (.ref 5), some (.ref 6), some (.int (nI s)), some (.int (nI (cdv Cm.length (fan W)))), none, none, none, none] rfl (Nat.le_of_ble_eq_true rfl) (by decide) (fun X Post hX hp => ?_)
  have hF := fan_2 hW
  have hF2 := fan_le hW2
  have hl : Cm.length = C.1 := hC.1
  unfold leaW at hp
  generalize hf : (fun k => (s + k, rowB (fan W) 1 Cm.length (fun i => Cm.getD i (0, 0)) k)) = f at hp
  have loop : ∀ (n k : Nat) (q1 : DQ) (pf1 : Nat → Int32) (x5 x6 x7 : Option Value), noL [none, none, none, none, none, x5] 6 = true → noL [none, none, none, none, none, none, x6] 7 = true → k + n = cdv Cm.length (fan W) → wrN W f k n q1 = wrN W f 0 (cdv Cm.length (fan W)) q → Wp X Post 3 [some (.ref 5), some (.ref 6), some (.int (nI s)), some (.int (nI (cdv Cm.length (fan W)))), some (.int (nI k)), x5, x6, x7] [] (wX st it B W q1 pf1 jb jp jr tf te C S H τ) := by
    intro n
    induction n with
    | zero =>
      intro k q1 pf1 x5 x6 x7 _ _ hk he
      rw [← he] at hp
      refine wp_iload hX dX3_writeLeaves_3 rfl ?_
      refine wp_iload_n hX dX3_writeLeaves_5 rfl ?_
      refine wp_icmp_ge (tgt := 103) hX dX3_writeLeaves_6 (by decide) (fun _ => ?_) (fun c_ => absurd (nI_le (by omega) (by omega)) c_)
      refine wp_iconst (v := 1) hX dX3_writeLeaves_103 ic_1 ?_
      refine wp_iret hX dX3_writeLeaves_104 rfl rfl ?_
      exact hp _ _ ⟨pf1, rfl, rfl⟩
    | succ n ih =>
      intro k q1 pf1 x5 x6 x7 _ _ hk he
      have hlt : fan W * k < Cm.length := by rw [Nat.mul_comm]; exact (cdv_lt (by omega)).mp (by omega)
      refine wp_iload hX dX3_writeLeaves_3 rfl ?_
      refine wp_iload_n hX dX3_writeLeaves_5 rfl ?_
      refine wp_icmp_ge (tgt := 103) hX dX3_writeLeaves_6 (by decide) (fun c_ => absurd c_ (nI_ge (by omega) (by omega))) (fun _ => ?_)
      refine wp_iload hX dX3_writeLeaves_9 rfl ?_
      refine wp_aload_n hX dX3_writeLeaves_11 rfl ?_
      refine wp_cv0 hX dX3_writeLeaves_12 mlX3_22 ⟨Nat.le_of_ble_eq_true rfl, Nat.le_of_ble_eq_true rfl⟩ (t_fan (by omega) hW2) rfl (Nat.le_of_ble_eq_true rfl) ?_
      refine wp_imul hX dX3_writeLeaves_15 ?_
      refine wp_ti (y := (nI (fan W * k))) (by rw [pk_mul, Nat.mul_comm]) ?_
      refine wp_istore hX dX3_writeLeaves_16 (Nat.le_of_ble_eq_true rfl) rfl ?_
      refine wp_aload_n hX dX3_writeLeaves_18 rfl ?_
      refine wp_cv0 hX dX3_writeLeaves_19 mlX3_22 ⟨Nat.le_of_ble_eq_true rfl, Nat.le_of_ble_eq_true rfl⟩ (t_fan (by omega) hW2) rfl (Nat.le_of_ble_eq_true rfl) ?_
      refine wp_aload_n hX dX3_writeLeaves_22 rfl ?_
      refine wp_cv0 hX dX3_writeLeaves_23 mlX3_37 ⟨Nat.le_of_ble_eq_true rfl, Nat.le_of_ble_eq_true rfl⟩ (k_entries rfl) rfl (Nat.le_of_ble_eq_true rfl) ?_
      refine wp_iload hX dX3_writeLeaves_26 rfl ?_
      refine wp_isub hX dX3_writeLeaves_28 ?_
      refine wp_ti (y := nI (Cm.length - fan W * k)) (by rw [← hl]; exact pk_sub (by omega)) ?_
      refine wp_min hX dX3_writeLeaves_29 mlX3_65 ⟨Nat.le_of_ble_eq_true rfl, Nat.le_of_ble_eq_true rfl⟩ (Nat.le_of_ble_eq_true rfl) ?_
      refine wp_ti (y := nI (min (fan W) (Cm.length - fan W * k))) (n_min (by omega) (by omega)) ?_
      generalize hmany : min (fan W) (Cm.length - fan W * k) = many
      refine wp_istore hX dX3_writeLeaves_32 (Nat.le_of_ble_eq_true rfl) rfl ?_
      refine wp_aload_n hX dX3_writeLeaves_34 rfl ?_
      refine wp_iconst (v := 1) hX dX3_writeLeaves_35 ic_1 ?_
      refine wp_iload hX dX3_writeLeaves_36 rfl ?_
      refine wp_cv2 hX dX3_writeLeaves_38 mlX3_70 ⟨Nat.le_of_ble_eq_true rfl, Nat.le_of_ble_eq_true rfl⟩ (t_beginPage hW hW2) rfl (Nat.le_of_ble_eq_true rfl) ?_
      refine wp_iconst (v := 0) hX dX3_writeLeaves_41 ic_0 ?_
      refine wp_istore hX dX3_writeLeaves_42 (Nat.le_of_ble_eq_true rfl) rfl ?_
      have inner : ∀ (r i : Nat), i + r = many → Wp X Post 44 [some (.ref 5), some (.ref 6), some (.int (nI s)), some (.int (nI (cdv Cm.length (fan W)))), some (.int (nI k)), some (.int (nI (fan W * k))), some (.int (nI many)), some (.int (nI i))] [] (wX st it B W q1 (prP (upd (upd (fun j => if j < 64 then 0 else pf1 j) 0 1) 1 (nI many)) (fun i => Cm.getD (fan W * k + i) (0, 0)) i) jb jp jr tf te C S H τ) := by
        intro r
        induction r with
        | zero =>
          intro i hi
          rw [show i = many by omega]
          have hfi : (f k).2 = rowB (fan W) 1 Cm.length (fun i => Cm.getD i (0, 0)) k := by rw [← hf]
          have hfb : (f k).1 = s + k := by rw [← hf]
          by_cases h1 : q1.2.2 = 1
          · rw [wrN_s, if_pos h1] at he
            rw [← he] at hp
            refine wp_iload hX dX3_writeLeaves_44 rfl ?_
            refine wp_iload hX dX3_writeLeaves_46 rfl ?_
            refine wp_icmp_ge (tgt := 81) hX dX3_writeLeaves_48 (by decide) (fun _ => ?_) (fun c_ => absurd (nI_le (by omega) (by omega)) c_)
            refine wp_aload_n hX dX3_writeLeaves_81 rfl ?_
            refine wp_get hX dX3_writeLeaves_82 flX3_18 rfl rfl ?_
            refine wp_iload_n hX dX3_writeLeaves_85 rfl ?_
            refine wp_iload hX dX3_writeLeaves_86 rfl ?_
            refine wp_iadd hX dX3_writeLeaves_88 ?_
            refine wp_ti (y := (nI (s + k))) (nI_add _ _) ?_
            refine wp_cv1 hX dX3_writeLeaves_89 mlX3_83 ⟨Nat.le_of_ble_eq_true rfl, Nat.le_of_ble_eq_true rfl⟩ (d_writePage_no rfl hB hW2 (by omega) (by omega) h1) rfl (Nat.le_of_ble_eq_true rfl) ?_
            refine wp_if_ne (tgt := 97) hX dX3_writeLeaves_92 (by decide) (fun c_ => absurd (rfl) c_) (fun _ => ?_)
            refine wp_iconst (v := 0) hX dX3_writeLeaves_95 ic_0 ?_
            refine wp_iret hX dX3_writeLeaves_96 rfl rfl ?_
            exact hp _ _ ⟨_, rfl, rfl⟩
          · rw [wrN_s, if_neg h1] at he
            refine wp_iload hX dX3_writeLeaves_44 rfl ?_
            refine wp_iload hX dX3_writeLeaves_46 rfl ?_
            refine wp_icmp_ge (tgt := 81) hX dX3_writeLeaves_48 (by decide) (fun _ => ?_) (fun c_ => absurd (nI_le (by omega) (by omega)) c_)
            refine wp_aload_n hX dX3_writeLeaves_81 rfl ?_
            refine wp_get hX dX3_writeLeaves_82 flX3_18 rfl rfl ?_
            refine wp_iload_n hX dX3_writeLeaves_85 rfl ?_
            refine wp_iload hX dX3_writeLeaves_86 rfl ?_
            refine wp_iadd hX dX3_writeLeaves_88 ?_
            refine wp_ti (y := (nI (s + k))) (nI_add _ _) ?_
            refine wp_cv1 hX dX3_writeLeaves_89 mlX3_83 ⟨Nat.le_of_ble_eq_true rfl, Nat.le_of_ble_eq_true rfl⟩ (d_writePage_ok rfl rfl rfl hB hW2 (by omega) (by omega) h1) rfl (Nat.le_of_ble_eq_true rfl) ?_
            refine wp_if_ne (tgt := 97) hX dX3_writeLeaves_92 (by decide) (fun _ => ?_) (fun c_ => absurd c_ (by decide))
            refine wp_iinc hX dX3_writeLeaves_97 ic_1 rfl (Nat.le_of_ble_eq_true rfl) rfl ?_
            refine wp_goto (tgt := 3) hX dX3_writeLeaves_100 (by decide) ?_
            have e2 : pgB 1 many (fun i => Cm.getD (fan W * k + i) (0, 0)) = (f k).2 := by rw [hfi]; unfold rowB; rw [hmany]
            rw [nI_1, wrD_congr (pgB_eq hW2), e2, ← hfb]
            exact ih (k + 1) (wrD q1.1 W (f k).1 (f k).2, q1.2.1 + 1, pwd q1.2.2) _ (some (.int (nI (fan W * k)))) (some (.int (nI many))) _ rfl rfl (by omega) he
        | succ r ih2 =>
          intro i hi
          refine wp_iload hX dX3_writeLeaves_44 rfl ?_
          refine wp_iload hX dX3_writeLeaves_46 rfl ?_
          refine wp_icmp_ge (tgt := 81) hX dX3_writeLeaves_48 (by decide) (fun c_ => absurd c_ (nI_ge (by omega) (by omega))) (fun _ => ?_)
          refine wp_aload_n hX dX3_writeLeaves_51 rfl ?_
          refine wp_iload hX dX3_writeLeaves_52 rfl ?_
          refine wp_aload_n hX dX3_writeLeaves_54 rfl ?_
          refine wp_iload hX dX3_writeLeaves_55 rfl ?_
          refine wp_iload hX dX3_writeLeaves_57 rfl ?_
          refine wp_iadd hX dX3_writeLeaves_59 ?_
          refine wp_ti (y := (nI (fan W * k + i))) (nI_add _ _) ?_
          refine wp_cv1 hX dX3_writeLeaves_60 mlX3_73 ⟨Nat.le_of_ble_eq_true rfl, Nat.le_of_ble_eq_true rfl⟩ (k_keyAt rfl rfl hCu (by decide)) rfl (Nat.le_of_ble_eq_true rfl) ?_
          rw [at0_nI (by omega), if_pos (by omega)]
          refine wp_aload_n hX dX3_writeLeaves_63 rfl ?_
          refine wp_iload hX dX3_writeLeaves_64 rfl ?_
          refine wp_iload hX dX3_writeLeaves_66 rfl ?_
          refine wp_iadd hX dX3_writeLeaves_68 ?_
          refine wp_ti (y := (nI (fan W * k + i))) (nI_add _ _) ?_
          refine wp_cv1 hX dX3_writeLeaves_69 mlX3_76 ⟨Nat.le_of_ble_eq_true rfl, Nat.le_of_ble_eq_true rfl⟩ (k_valueAt rfl rfl hCu (by decide)) rfl (Nat.le_of_ble_eq_true rfl) ?_
          rw [at0_nI (by omega), if_pos (by omega)]
          refine wp_cv3 hX dX3_writeLeaves_72 mlX3_79 ⟨Nat.le_of_ble_eq_true rfl, Nat.le_of_ble_eq_true rfl⟩ (t_setPair hW hW2 (by omega)) rfl (Nat.le_of_ble_eq_true rfl) ?_
          have e := prP_s (upd (upd (fun j => if j < 64 then 0 else pf1 j) 0 1) 1 (nI many)) (fun i => Cm.getD (fan W * k + i) (0, 0)) i
          rw [show Cm.getD (fan W * k + i) (0, 0) = (C.2.1 (fan W * k + i), C.2.2 (fan W * k + i)) from KA.getD hC (by omega)] at e
          rw [e]
          refine wp_iinc hX dX3_writeLeaves_75 ic_1 rfl (Nat.le_of_ble_eq_true rfl) rfl ?_
          refine wp_goto (tgt := 44) hX dX3_writeLeaves_78 (by decide) ?_
          rw [nI_1]
          exact ih2 (i + 1) (by omega)
      have z := inner many 0 (by omega)
      rw [prP_0] at z
      exact z
  refine wp_iconst (v := 0) hX dX3_writeLeaves_0 ic_0 ?_
  refine wp_istore hX dX3_writeLeaves_1 (Nat.le_of_ble_eq_true rfl) rfl ?_
  exact loop (cdv Cm.length (fan W)) 0 q pf none none none rfl rfl (by omega) rfl
set_option maxHeartbeats 4000000 in
set_option maxRecDepth 100000 in
theorem t_writeNodes {s row : Nat} {ls : Nat → Int32} (hB : B ≤ 512) (hW : 16 ≤ W) (hW2 : W ≤ 64) (hs : s + row + cdv row (fan W) ≤ B) (hls : ∀ i, i < row → q.1 (W * (s + i) + 2) = ls i) : MT mdX3_writeNodes [.ref 5, .int (nI s), .int (nI row)] (wX st it B W q pf jb jp jr tf te C S H τ)
    (fun r σ1 => ∃ pf1, r = some (.int (b2i (wrN W (fun j => (s + row + j, rowB (fan W) 2 row (fun i => (ls i, nI (s + i))) j)) 0 (cdv row (fan W)) q).1)) ∧ σ1 = wX st it B W (wrN W (fun j => (s + row + j, rowB (fan W) 2 row (fun i => (ls i, nI (s + i))) j)) 0 (cdv row (fan W)) q).2 pf1 jb jp jr tf te C S H τ) := by
  refine mp_of [some (.ref 5), some (.int (nI s)), some (.int (nI row)), none, none, none, none, none, none] rfl (Nat.le_of_ble_eq_true rfl) (by decide) (fun X Post hX hp => ?_)
  have hF := fan_2 hW
  have hF2 := fan_le hW2
  generalize hf : (fun j => (s + row + j, rowB (fan W) 2 row (fun i => (ls i, nI (s + i))) j)) = f at hp
  have loop : ∀ (n k : Nat) (q1 : DQ) (pf1 : Nat → Int32) (x5 x6 x7 x8 : Option Value), noL [none, none, none, none, none, x5] 6 = true → noL [none, none, none, none, none, none, x6] 7 = true → noL [none, none, none, none, none, none, none, x7] 8 = true → k + n = cdv row (fan W) → (∀ i, i < row → q1.1 (W * (s + i) + 2) = ls i) → wrN W f k n q1 = wrN W f 0 (cdv row (fan W)) q → Wp X Post 12 [some (.ref 5), some (.int (nI s)), some (.int (nI row)), some (.int (nI (cdv row (fan W)))), some (.int (nI k)), x5, x6, x7, x8] [] (wX st it B W q1 pf1 jb jp jr tf te C S H τ) := by
    intro n
    induction n with
    | zero =>
      intro k q1 pf1 x5 x6 x7 x8 _ _ _ hk hl1 he
      rw [← he] at hp
      refine wp_iload hX dX3_writeNodes_12 rfl ?_
      refine wp_iload_n hX dX3_writeNodes_14 rfl ?_
      refine wp_icmp_ge (tgt := 114) hX dX3_writeNodes_15 (by decide) (fun _ => ?_) (fun c_ => absurd (nI_le (by omega) (by omega)) c_)
      refine wp_iconst (v := 1) hX dX3_writeNodes_114 ic_1 ?_
      refine wp_iret hX dX3_writeNodes_115 rfl rfl ?_
      exact hp _ _ ⟨pf1, rfl, rfl⟩
    | succ n ih =>
      intro k q1 pf1 x5 x6 x7 x8 _ _ _ hk hl1 he
      have hlt : fan W * k < row := by rw [Nat.mul_comm]; exact (cdv_lt (by omega)).mp (by omega)
      refine wp_iload hX dX3_writeNodes_12 rfl ?_
      refine wp_iload_n hX dX3_writeNodes_14 rfl ?_
      refine wp_icmp_ge (tgt := 114) hX dX3_writeNodes_15 (by decide) (fun c_ => absurd c_ (nI_ge (by omega) (by omega))) (fun _ => ?_)
      refine wp_iload hX dX3_writeNodes_18 rfl ?_
      refine wp_aload_n hX dX3_writeNodes_20 rfl ?_
      refine wp_cv0 hX dX3_writeNodes_21 mlX3_22 ⟨Nat.le_of_ble_eq_true rfl, Nat.le_of_ble_eq_true rfl⟩ (t_fan (by omega) hW2) rfl (Nat.le_of_ble_eq_true rfl) ?_
      refine wp_imul hX dX3_writeNodes_24 ?_
      refine wp_ti (y := (nI (fan W * k))) (by rw [pk_mul, Nat.mul_comm]) ?_
      refine wp_istore hX dX3_writeNodes_25 (Nat.le_of_ble_eq_true rfl) rfl ?_
      refine wp_aload_n hX dX3_writeNodes_27 rfl ?_
      refine wp_cv0 hX dX3_writeNodes_28 mlX3_22 ⟨Nat.le_of_ble_eq_true rfl, Nat.le_of_ble_eq_true rfl⟩ (t_fan (by omega) hW2) rfl (Nat.le_of_ble_eq_true rfl) ?_
      refine wp_iload_n hX dX3_writeNodes_31 rfl ?_
      refine wp_iload hX dX3_writeNodes_32 rfl ?_
      refine wp_isub hX dX3_writeNodes_34 ?_
      refine wp_ti (y := nI (row - fan W * k)) (pk_sub (by omega)) ?_
      refine wp_min hX dX3_writeNodes_35 mlX3_65 ⟨Nat.le_of_ble_eq_true rfl, Nat.le_of_ble_eq_true rfl⟩ (Nat.le_of_ble_eq_true rfl) ?_
      refine wp_ti (y := nI (min (fan W) (row - fan W * k))) (n_min (by omega) (by omega)) ?_
      generalize hmany : min (fan W) (row - fan W * k) = many
      refine wp_istore hX dX3_writeNodes_38 (Nat.le_of_ble_eq_true rfl) rfl ?_
      refine wp_aload_n hX dX3_writeNodes_40 rfl ?_
      refine wp_iconst (v := 2) hX dX3_writeNodes_41 ic_2 ?_
      refine wp_iload hX dX3_writeNodes_42 rfl ?_
      refine wp_cv2 hX dX3_writeNodes_44 mlX3_70 ⟨Nat.le_of_ble_eq_true rfl, Nat.le_of_ble_eq_true rfl⟩ (t_beginPage hW hW2) rfl (Nat.le_of_ble_eq_true rfl) ?_
      refine wp_iconst (v := 0) hX dX3_writeNodes_47 ic_0 ?_
      refine wp_istore hX dX3_writeNodes_48 (Nat.le_of_ble_eq_true rfl) rfl ?_
      have inner : ∀ (r i : Nat) (x8 : Option Value), i + r = many → Wp X Post 50 [some (.ref 5), some (.int (nI s)), some (.int (nI row)), some (.int (nI (cdv row (fan W)))), some (.int (nI k)), some (.int (nI (fan W * k))), some (.int (nI many)), some (.int (nI i)), x8] [] (wX st it B W q1 (prP (upd (upd (fun j => if j < 64 then 0 else pf1 j) 0 2) 1 (nI many)) (fun i => (ls (fan W * k + i), nI (s + (fan W * k + i)))) i) jb jp jr tf te C S H τ) := by
        intro r
        induction r with
        | zero =>
          intro i x8 hi
          rw [show i = many by omega]
          have hfi : (f k).2 = rowB (fan W) 2 row (fun i => (ls i, nI (s + i))) k := by rw [← hf]
          have hfb : (f k).1 = s + row + k := by rw [← hf]
          by_cases h1 : q1.2.2 = 1
          · rw [wrN_s, if_pos h1] at he
            rw [← he] at hp
            refine wp_iload hX dX3_writeNodes_50 rfl ?_
            refine wp_iload hX dX3_writeNodes_52 rfl ?_
            refine wp_icmp_ge (tgt := 90) hX dX3_writeNodes_54 (by decide) (fun _ => ?_) (fun c_ => absurd (nI_le (by omega) (by omega)) c_)
            refine wp_aload_n hX dX3_writeNodes_90 rfl ?_
            refine wp_get hX dX3_writeNodes_91 flX3_18 rfl rfl ?_
            refine wp_iload_n hX dX3_writeNodes_94 rfl ?_
            refine wp_iload_n hX dX3_writeNodes_95 rfl ?_
            refine wp_iadd hX dX3_writeNodes_96 ?_
            refine wp_iload hX dX3_writeNodes_97 rfl ?_
            refine wp_iadd hX dX3_writeNodes_99 ?_
            refine wp_ti (y := (nI (s + row + k))) (by rw [nI_add, nI_add]) ?_
            refine wp_cv1 hX dX3_writeNodes_100 mlX3_83 ⟨Nat.le_of_ble_eq_true rfl, Nat.le_of_ble_eq_true rfl⟩ (d_writePage_no rfl hB hW2 (by omega) (by omega) h1) rfl (Nat.le_of_ble_eq_true rfl) ?_
            refine wp_if_ne (tgt := 108) hX dX3_writeNodes_103 (by decide) (fun c_ => absurd (rfl) c_) (fun _ => ?_)
            refine wp_iconst (v := 0) hX dX3_writeNodes_106 ic_0 ?_
            refine wp_iret hX dX3_writeNodes_107 rfl rfl ?_
            exact hp _ _ ⟨_, rfl, rfl⟩
          · rw [wrN_s, if_neg h1] at he
            refine wp_iload hX dX3_writeNodes_50 rfl ?_
            refine wp_iload hX dX3_writeNodes_52 rfl ?_
            refine wp_icmp_ge (tgt := 90) hX dX3_writeNodes_54 (by decide) (fun _ => ?_) (fun c_ => absurd (nI_le (by omega) (by omega)) c_)
            refine wp_aload_n hX dX3_writeNodes_90 rfl ?_
            refine wp_get hX dX3_writeNodes_91 flX3_18 rfl rfl ?_
            refine wp_iload_n hX dX3_writeNodes_94 rfl ?_
            refine wp_iload_n hX dX3_writeNodes_95 rfl ?_
            refine wp_iadd hX dX3_writeNodes_96 ?_
            refine wp_iload hX dX3_writeNodes_97 rfl ?_
            refine wp_iadd hX dX3_writeNodes_99 ?_
            refine wp_ti (y := (nI (s + row + k))) (by rw [nI_add, nI_add]) ?_
            refine wp_cv1 hX dX3_writeNodes_100 mlX3_83 ⟨Nat.le_of_ble_eq_true rfl, Nat.le_of_ble_eq_true rfl⟩ (d_writePage_ok rfl rfl rfl hB hW2 (by omega) (by omega) h1) rfl (Nat.le_of_ble_eq_true rfl) ?_
            refine wp_if_ne (tgt := 108) hX dX3_writeNodes_103 (by decide) (fun _ => ?_) (fun c_ => absurd c_ (by decide))
            refine wp_iinc hX dX3_writeNodes_108 ic_1 rfl (Nat.le_of_ble_eq_true rfl) rfl ?_
            refine wp_goto (tgt := 12) hX dX3_writeNodes_111 (by decide) ?_
            have e2 : pgB 2 many (fun i => (ls (fan W * k + i), nI (s + (fan W * k + i)))) = (f k).2 := by rw [hfi]; unfold rowB; rw [hmany]
            rw [nI_1, wrD_congr (pgB_eq hW2), e2, ← hfb]
            refine ih (k + 1) (wrD q1.1 W (f k).1 (f k).2, q1.2.1 + 1, pwd q1.2.2) _ (some (.int (nI (fan W * k)))) (some (.int (nI many))) (some (.int (nI many))) _ rfl rfl rfl (by omega) (fun i hi => ?_) he
            show wrD q1.1 W (f k).1 (f k).2 (W * (s + i) + 2) = ls i
            rw [wrD_off (by rw [hfb]; omega) (by omega)]
            exact hl1 i hi
        | succ r ih2 =>
          intro i x8 hi
          refine wp_iload hX dX3_writeNodes_50 rfl ?_
          refine wp_iload hX dX3_writeNodes_52 rfl ?_
          refine wp_icmp_ge (tgt := 90) hX dX3_writeNodes_54 (by decide) (fun c_ => absurd c_ (nI_ge (by omega) (by omega))) (fun _ => ?_)
          refine wp_iload_n hX dX3_writeNodes_57 rfl ?_
          refine wp_iload hX dX3_writeNodes_58 rfl ?_
          refine wp_iadd hX dX3_writeNodes_60 ?_
          refine wp_iload hX dX3_writeNodes_61 rfl ?_
          refine wp_iadd hX dX3_writeNodes_63 ?_
          refine wp_ti (y := (nI (s + (fan W * k + i)))) (by rw [nI_add, nI_add, Nat.add_assoc]) ?_
          refine wp_istore hX dX3_writeNodes_64 (Nat.le_of_ble_eq_true rfl) rfl ?_
          refine wp_aload_n hX dX3_writeNodes_66 rfl ?_
          refine wp_iload hX dX3_writeNodes_67 rfl ?_
          refine wp_aload_n hX dX3_writeNodes_69 rfl ?_
          refine wp_get hX dX3_writeNodes_70 flX3_18 rfl rfl ?_
          refine wp_iload hX dX3_writeNodes_73 rfl ?_
          refine wp_iconst (v := 2) hX dX3_writeNodes_75 ic_2 ?_
          refine wp_cv2 hX dX3_writeNodes_76 mlX3_53 ⟨Nat.le_of_ble_eq_true rfl, Nat.le_of_ble_eq_true rfl⟩ (d_wordAt rfl rfl hB hW2) rfl (Nat.le_of_ble_eq_true rfl) ?_
          rw [show wA B W q1.1 (nI (s + (fan W * k + i))) 2 = q1.1 (W * (s + (fan W * k + i)) + 2) from wA_in (i := 2) hB hW2 (by omega) (by omega), hl1 _ (by omega)]
          refine wp_iload hX dX3_writeNodes_79 rfl ?_
          refine wp_cv3 hX dX3_writeNodes_81 mlX3_79 ⟨Nat.le_of_ble_eq_true rfl, Nat.le_of_ble_eq_true rfl⟩ (t_setPair hW hW2 (by omega)) rfl (Nat.le_of_ble_eq_true rfl) ?_
          have e := prP_s (upd (upd (fun j => if j < 64 then 0 else pf1 j) 0 2) 1 (nI many)) (fun i => (ls (fan W * k + i), nI (s + (fan W * k + i)))) i
          rw [e]
          refine wp_iinc hX dX3_writeNodes_84 ic_1 rfl (Nat.le_of_ble_eq_true rfl) rfl ?_
          refine wp_goto (tgt := 50) hX dX3_writeNodes_87 (by decide) ?_
          rw [nI_1]
          exact ih2 (i + 1) _ (by omega)
      have z := inner many 0 x8 (by omega)
      rw [prP_0] at z
      exact z
  have hle := cdv_le (n := row) (e := fan W) (by omega)
  refine wp_iload_n hX dX3_writeNodes_0 rfl ?_
  refine wp_aload_n hX dX3_writeNodes_1 rfl ?_
  refine wp_cv0 hX dX3_writeNodes_2 mlX3_22 ⟨Nat.le_of_ble_eq_true rfl, Nat.le_of_ble_eq_true rfl⟩ (t_fan (by omega) hW2) rfl (Nat.le_of_ble_eq_true rfl) ?_
  refine wp_cn2 hX dX3_writeNodes_5 msX4_blocksOf (fun s h => h.2) ⟨Nat.le_of_ble_eq_true rfl, Nat.le_of_ble_eq_true rfl⟩ (b_blocksOf (by omega) (by omega) (by omega)) (Nat.le_of_ble_eq_true rfl) ?_
  refine wp_istore_n hX dX3_writeNodes_8 (Nat.le_of_ble_eq_true rfl) rfl ?_
  refine wp_iconst (v := 0) hX dX3_writeNodes_9 ic_0 ?_
  refine wp_istore hX dX3_writeNodes_10 (Nat.le_of_ble_eq_true rfl) rfl ?_
  exact loop (cdv row (fan W)) 0 q pf none none none none rfl rfl rfl (by omega) hls rfl
end TR
section TR3
variable {st it : Int32} {B W : Nat} {q : DQ} {pf : Nat → Int32} {jb jp jr tf te : Nat} {C S H : MP} {τ : aW} {Cm : PM}
set_option maxHeartbeats 4000000 in
set_option maxRecDepth 100000 in
theorem t_save {a : Int32} {s : Nat} (hB : B ≤ 512) (hW : 16 ≤ W) (hW2 : W ≤ 64) (hC : KAm Cm C) (hCu : C.1 ≤ 8700) (hs0 : (if a = 0 then tf else tf + te) = s) (hs : s + tBl (fan W) Cm.length ≤ B) : MT mdX3_save [.ref 5, .ref 6, .int a] (wX st it B W q pf jb jp jr tf te C S H τ) (fun r σ1 => ∃ pf1, r = some (.int (b2i (treW W s Cm q).1)) ∧ σ1 = wX st it B W (treW W s Cm q).2 pf1 jb jp jr tf te C S H τ) := by
  refine mp_of [some (.ref 5), some (.ref 6), some (.int a), none, none, none] rfl (Nat.le_of_ble_eq_true rfl) (by decide) (fun X Post hX hp => ?_)
  have hF := fan_2 hW
  have hF2 := fan_le hW2
  have hl : Cm.length = C.1 := hC.1
  unfold tBl at hs
  have hle := cdv_le (n := Cm.length) (e := fan W) (by omega)
  have loop : ∀ (k i s1 row : Nat) (ls : Nat → Int32) (q1 : DQ) (pf1 : Nat → Int32), i + k = 32 → row ≤ 2 ^ k → s1 + row + tbl (fan W) k row ≤ B → (∀ j, j < row → q1.1 (W * (s1 + j) + 2) = ls j) → nodW W k s1 row ls q1 = treW W s Cm q → Wp X Post 35 [some (.ref 5), some (.ref 6), some (.int a), some (.int (nI s1)), some (.int (nI row)), some (.int (nI i))] [] (wX st it B W q1 pf1 jb jp jr tf te C S H τ) := by
    intro k
    induction k with
    | zero =>
      intro i s1 row ls q1 pf1 hi hr hb hl1 he
      rw [← he] at hp
      refine wp_iload hX dX3_save_35 rfl ?_
      refine wp_bipush (v := 32) hX dX3_save_37 bp_32 ?_
      refine wp_icmp_ge (tgt := 82) hX dX3_save_39 (by decide) (fun _ => ?_) (fun c_ => absurd (nI_le (a := 32) (b := i) (by omega) (by omega)) c_)
      refine wp_iconst (v := 1) hX dX3_save_82 ic_1 ?_
      refine wp_iret hX dX3_save_83 rfl rfl ?_
      exact hp _ _ ⟨pf1, rfl, rfl⟩
    | succ k ih =>
      intro i s1 row ls q1 pf1 hi hr hb hl1 he
      rw [nodW_s] at he
      rw [tbl_s] at hb
      refine wp_iload hX dX3_save_35 rfl ?_
      refine wp_bipush (v := 32) hX dX3_save_37 bp_32 ?_
      refine wp_icmp_ge (tgt := 82) hX dX3_save_39 (by decide) (fun c_ => absurd c_ (nI_ge (a := i) (b := 32) (by omega) (by omega))) (fun _ => ?_)
      refine wp_iload hX dX3_save_42 rfl ?_
      refine wp_iconst (v := 1) hX dX3_save_44 ic_1 ?_
      refine wp_icmp_le (tgt := 82) hX dX3_save_45 (by decide) (fun c => ?_) (fun c => ?_)
      · have h1 := (nI_leI (a := row) (b := 1) (by omega) (by decide)).mp c
        rw [if_pos h1] at he
        rw [← he] at hp
        refine wp_iconst (v := 1) hX dX3_save_82 ic_1 ?_
        refine wp_iret hX dX3_save_83 rfl rfl ?_
        exact hp _ _ ⟨pf1, rfl, rfl⟩
      · have h1 : ¬ row ≤ 1 := fun z => c (nI_le (a := row) (b := 1) z (by decide))
        rw [if_neg h1] at he hb
        refine wp_aload_n hX dX3_save_48 rfl ?_
        refine wp_iload_n hX dX3_save_49 rfl ?_
        refine wp_iload hX dX3_save_50 rfl ?_
        refine wp_cv2p hX dX3_save_52 mlX3_46 ⟨Nat.le_of_ble_eq_true rfl, Nat.le_of_ble_eq_true rfl⟩ (t_writeNodes hB hW hW2 (by omega) hl1) rfl (Nat.le_of_ble_eq_true rfl) ?_
        rintro r1 σ1 ⟨pf2, rfl, rfl⟩
        generalize hz : wrN W (fun j => (s1 + row + j, rowB (fan W) 2 row (fun i => (ls i, nI (s1 + i))) j)) 0 (cdv row (fan W)) q1 = z at he ⊢
        obtain ⟨zb, z2⟩ := z
        cases zb with
        | false =>
          rw [if_neg (show ¬ false = true by decide)] at he
          rw [← he] at hp
          refine wp_if_ne (tgt := 60) hX dX3_save_55 (by decide) (fun c_ => absurd (rfl) c_) (fun _ => ?_)
          refine wp_iconst (v := 0) hX dX3_save_58 ic_0 ?_
          refine wp_iret hX dX3_save_59 rfl rfl ?_
          exact hp _ _ ⟨pf2, rfl, rfl⟩
        | true =>
          rw [if_pos rfl] at he
          refine wp_if_ne (tgt := 60) hX dX3_save_55 (by decide) (fun _ => ?_) (fun c_ => absurd c_ (show ¬ b2i true = 0 by decide))
          refine wp_iload_n hX dX3_save_60 rfl ?_
          refine wp_iload hX dX3_save_61 rfl ?_
          refine wp_iadd hX dX3_save_63 ?_
          refine wp_ti (y := (nI (s1 + row))) (nI_add _ _) ?_
          refine wp_istore_n hX dX3_save_64 (Nat.le_of_ble_eq_true rfl) rfl ?_
          refine wp_iload hX dX3_save_65 rfl ?_
          refine wp_aload_n hX dX3_save_67 rfl ?_
          refine wp_cv0 hX dX3_save_68 mlX3_22 ⟨Nat.le_of_ble_eq_true rfl, Nat.le_of_ble_eq_true rfl⟩ (t_fan (by omega) hW2) rfl (Nat.le_of_ble_eq_true rfl) ?_
          refine wp_cn2 hX dX3_save_71 msX4_blocksOf (fun s h => h.2) ⟨Nat.le_of_ble_eq_true rfl, Nat.le_of_ble_eq_true rfl⟩ (b_blocksOf (by omega) (by omega) (by omega)) (Nat.le_of_ble_eq_true rfl) ?_
          refine wp_istore hX dX3_save_74 (Nat.le_of_ble_eq_true rfl) rfl ?_
          refine wp_iinc hX dX3_save_76 ic_1 rfl (Nat.le_of_ble_eq_true rfl) rfl ?_
          refine wp_goto (tgt := 35) hX dX3_save_79 (by decide) ?_
          rw [nI_1]
          refine ih (i + 1) (s1 + row) (cdv row (fan W)) (fun j => ls (fan W * j)) z2 pf2 (by omega) (cdv_half hF hr) (by omega) (fun j hj => ?_) he
          have e := wrN_at (W := W) (f := fun j => (s1 + row + j, rowB (fan W) 2 row (fun i => (ls i, nI (s1 + i))) j)) (i := 2) (by omega) (cdv row (fan W)) 0 q1 j (by rw [hz]) (by omega) (by omega) (fun a b _ h _ => by show ¬ s1 + row + a = s1 + row + b; omega)
          rw [hz] at e
          refine e.trans ?_
          have hlt : fan W * j < row := by rw [Nat.mul_comm]; exact (cdv_lt (by omega)).mp hj
          show rowB (fan W) 2 row (fun i => (ls i, nI (s1 + i))) j 2 = ls (fan W * j)
          unfold rowB pgB
          rw [if_neg (by decide), if_neg (by decide), if_pos (by omega), if_pos (by decide)]
          rfl
  have h0 : s + cdv Cm.length (fan W) ≤ B := by omega
  refine wp_aload_n hX dX3_save_0 rfl ?_
  refine wp_iload_n hX dX3_save_1 rfl ?_
  refine wp_cv1 hX dX3_save_2 mlX3_30 ⟨Nat.le_of_ble_eq_true rfl, Nat.le_of_ble_eq_true rfl⟩ (t_startOf) rfl (Nat.le_of_ble_eq_true rfl) ?_
  rw [hs0]
  refine wp_istore_n hX dX3_save_5 (Nat.le_of_ble_eq_true rfl) rfl ?_
  refine wp_aload_n hX dX3_save_6 rfl ?_
  refine wp_cv0 hX dX3_save_7 mlX3_37 ⟨Nat.le_of_ble_eq_true rfl, Nat.le_of_ble_eq_true rfl⟩ (k_entries rfl) rfl (Nat.le_of_ble_eq_true rfl) ?_
  rw [← hl]
  refine wp_aload_n hX dX3_save_10 rfl ?_
  refine wp_cv0 hX dX3_save_11 mlX3_22 ⟨Nat.le_of_ble_eq_true rfl, Nat.le_of_ble_eq_true rfl⟩ (t_fan (by omega) hW2) rfl (Nat.le_of_ble_eq_true rfl) ?_
  refine wp_cn2 hX dX3_save_14 msX4_blocksOf (fun s h => h.2) ⟨Nat.le_of_ble_eq_true rfl, Nat.le_of_ble_eq_true rfl⟩ (b_blocksOf (by omega) (by omega) (by omega)) (Nat.le_of_ble_eq_true rfl) ?_
  refine wp_istore hX dX3_save_17 (Nat.le_of_ble_eq_true rfl) rfl ?_
  refine wp_aload_n hX dX3_save_19 rfl ?_
  refine wp_aload_n hX dX3_save_20 rfl ?_
  refine wp_iload_n hX dX3_save_21 rfl ?_
  refine wp_iload hX dX3_save_22 rfl ?_
  refine wp_cv3p hX dX3_save_24 mlX3_42 ⟨Nat.le_of_ble_eq_true rfl, Nat.le_of_ble_eq_true rfl⟩ (t_writeLeaves hB hW hW2 hC hCu h0) rfl (Nat.le_of_ble_eq_true rfl) ?_
  rintro r1 σ1 ⟨pf2, rfl, rfl⟩
  cases hz : (leaW W s Cm q).1 with
  | false =>
    unfold treW at hp
    rw [hz, if_neg (by decide)] at hp
    refine wp_if_ne (tgt := 32) hX dX3_save_27 (by decide) (fun c_ => absurd (rfl) c_) (fun _ => ?_)
    refine wp_iconst (v := 0) hX dX3_save_30 ic_0 ?_
    refine wp_iret hX dX3_save_31 rfl rfl ?_
    exact hp _ _ ⟨pf2, rfl, rfl⟩
  | true =>
    refine wp_if_ne (tgt := 32) hX dX3_save_27 (by decide) (fun _ => ?_) (fun c_ => absurd c_ (by decide))
    refine wp_iconst (v := 0) hX dX3_save_32 ic_0 ?_
    refine wp_istore hX dX3_save_33 (Nat.le_of_ble_eq_true rfl) rfl ?_
    refine loop 32 0 s (cdv Cm.length (fan W)) (fun k => (Cm.getD (fan W * k) (0, 0)).1) (leaW W s Cm q).2 pf2 (by omega) (by omega) (by omega) (fun j hj => ?_) (by unfold treW; rw [if_pos hz])
    have e := wrN_at (W := W) (f := fun k => (s + k, rowB (fan W) 1 Cm.length (fun i => Cm.getD i (0, 0)) k)) (i := 2) (by omega) (cdv Cm.length (fan W)) 0 q j hz (by omega) (by omega) (fun a b _ h _ => by show ¬ s + a = s + b; omega)
    refine e.trans ?_
    have hlt : fan W * j < Cm.length := by rw [Nat.mul_comm]; exact (cdv_lt (by omega)).mp hj
    show rowB (fan W) 1 Cm.length (fun i => Cm.getD i (0, 0)) j 2 = _
    unfold rowB pgB
    rw [if_neg (by decide), if_neg (by decide), if_pos (by omega), if_pos (by decide)]
    rfl
theorem ldo_srt {D : Nat → Int32} {s : Nat} : ∀ (r c : Nat) {m : PM}, Srt m → Srt (ldo W D s c r m)
  | 0, _, _, h => h
  | r + 1, c, m, h => by
    rw [ldo_s]
    exact ldo_srt r (c + 1) (ins_srt h _ _)
theorem ldo_len {D : Nat → Int32} {s : Nat} : ∀ (r c : Nat) {m : PM}, Srt m → (ldo W D s c r m).length ≤ m.length + r
  | 0, _, _, _ => Nat.le_refl _
  | r + 1, c, m, h => by
    rw [ldo_s]
    have h1 := ldo_len (D := D) (s := s) r (c + 1) (ins_srt h (D (W * (s + c / fan W) + (2 + 2 * (c % fan W)))) (D (W * (s + c / fan W) + (2 + 2 * (c % fan W) + 1))))
    have h2 := ins_len_le m (D (W * (s + c / fan W) + (2 + 2 * (c % fan W)))) (D (W * (s + c / fan W) + (2 + 2 * (c % fan W) + 1))) h
    omega
set_option maxHeartbeats 4000000 in
set_option maxRecDepth 100000 in
theorem t_load {a : Int32} {s n : Nat} (hB : B ≤ 512) (hW : 16 ≤ W) (hW2 : W ≤ 64) (hs0 : (if a = 0 then tf else tf + te) = s) (hn : n ≤ 8000) (hs : s + cdv n (fan W) ≤ B) : MT mdX3_load [.ref 5, .ref 6, .int a, .int (nI n)] (wX st it B W q pf jb jp jr tf te C S H τ) (fun r σ1 => ∃ C1, r = none ∧ KAm (ldo W q.1 s 0 n []) C1 ∧ σ1 = wX st it B W q pf jb jp jr tf te C1 S H τ) := by
  refine mp_of [some (.ref 5), some (.ref 6), some (.int a), some (.int (nI n)), none, none, none, none, none] rfl (Nat.le_of_ble_eq_true rfl) (by decide) (fun X Post hX hp => ?_)
  have hF := fan_2 hW
  have hF2 := fan_le hW2
  have hw := fan_w (W := W)
  have hne : ¬ nI (fan W) = 0 := nI_ne0 (by omega) (by omega)
  have loop : ∀ (r c : Nat) (m : PM) (C1 : MP) (x7 x8 : Option Value), noL [none, none, none, none, none, none, none, x7] 8 = true → c + r = n → KAm m C1 → Srt m → m.length ≤ c → ldo W q.1 s c r m = ldo W q.1 s 0 n [] → Wp X Post 27 [some (.ref 5), some (.ref 6), some (.int a), some (.int (nI n)), some (.int (nI s)), some (.int (nI (fan W))), some (.int (nI c)), x7, x8] [] (wX st it B W q pf jb jp jr tf te C1 S H τ) := by
    intro r
    induction r with
    | zero =>
      intro c m C1 x7 x8 _ hc hk hsm hl he
      refine wp_iload hX dX3_load_27 rfl ?_
      refine wp_iload_n hX dX3_load_29 rfl ?_
      refine wp_icmp_ge (tgt := 96) hX dX3_load_30 (by decide) (fun _ => ?_) (fun c_ => absurd (nI_le (by omega) (by omega)) c_)
      refine wp_vret hX dX3_load_96 rfl ?_
      exact hp _ _ ⟨C1, rfl, by rw [← he]; exact hk, rfl⟩
    | succ r ih =>
      intro c m C1 x7 x8 _ hc hk hsm hl he
      rw [ldo_s] at he
      have hku : C1.1 = m.length := hk.1.symm
      have hmod : c % fan W < fan W := Nat.mod_lt _ (by omega)
      have hdv : c / fan W < cdv n (fan W) := by
        refine (cdv_lt (by omega)).mpr ?_
        have := Nat.div_mul_le_self c (fan W)
        omega
      refine wp_iload hX dX3_load_27 rfl ?_
      refine wp_iload_n hX dX3_load_29 rfl ?_
      refine wp_icmp_ge (tgt := 96) hX dX3_load_30 (by decide) (fun c_ => absurd c_ (nI_ge (by omega) (by omega))) (fun _ => ?_)
      refine wp_iload hX dX3_load_33 rfl ?_
      refine wp_sipush (v := 8700) hX dX3_load_35 sp_8700 ?_
      refine wp_icmp_ge (tgt := 96) hX dX3_load_38 (by decide) (fun c_ => absurd c_ (nI_ge (a := c) (b := 8700) (by omega) (by decide))) (fun _ => ?_)
      refine wp_iload hX dX3_load_41 rfl ?_
      refine wp_iload hX dX3_load_43 rfl ?_
      refine wp_iload hX dX3_load_45 rfl ?_
      refine wp_idiv hX dX3_load_47 (hne) ?_
      refine wp_ti (y := (nI (c / fan W))) (pk_div (by omega) (by omega) (by omega)) ?_
      refine wp_iadd hX dX3_load_48 ?_
      refine wp_ti (y := (nI (s + c / fan W))) (nI_add _ _) ?_
      refine wp_istore hX dX3_load_49 (Nat.le_of_ble_eq_true rfl) rfl ?_
      refine wp_iconst (v := 2) hX dX3_load_51 ic_2 ?_
      refine wp_iconst (v := 2) hX dX3_load_52 ic_2 ?_
      refine wp_iload hX dX3_load_53 rfl ?_
      refine wp_iload hX dX3_load_55 rfl ?_
      refine wp_irem hX dX3_load_57 (hne) ?_
      refine wp_ti (y := nI (c % fan W)) (pk_rem (by omega) (by omega) (by omega)) ?_
      refine wp_imul hX dX3_load_58 ?_
      refine wp_iadd hX dX3_load_59 ?_
      refine wp_ti (y := (nI (2 + 2 * (c % fan W)))) (by rw [show (2 : Int32) = nI 2 from rfl, pk_mul, nI_add]) ?_
      refine wp_istore hX dX3_load_60 (Nat.le_of_ble_eq_true rfl) rfl ?_
      refine wp_aload_n hX dX3_load_62 rfl ?_
      refine wp_aload_n hX dX3_load_63 rfl ?_
      refine wp_get hX dX3_load_64 flX3_18 rfl rfl ?_
      refine wp_iload hX dX3_load_67 rfl ?_
      refine wp_iload hX dX3_load_69 rfl ?_
      refine wp_cv2 hX dX3_load_71 mlX3_53 ⟨Nat.le_of_ble_eq_true rfl, Nat.le_of_ble_eq_true rfl⟩ (d_wordAt rfl rfl hB hW2) rfl (Nat.le_of_ble_eq_true rfl) ?_
      rw [wA_in hB hW2 (by omega) (by omega)]
      refine wp_aload_n hX dX3_load_74 rfl ?_
      refine wp_get hX dX3_load_75 flX3_18 rfl rfl ?_
      refine wp_iload hX dX3_load_78 rfl ?_
      refine wp_iload hX dX3_load_80 rfl ?_
      refine wp_iconst (v := 1) hX dX3_load_82 ic_1 ?_
      refine wp_iadd hX dX3_load_83 ?_
      refine wp_ti (y := (nI (2 + 2 * (c % fan W) + 1))) (nI_1 _) ?_
      refine wp_cv2 hX dX3_load_84 mlX3_53 ⟨Nat.le_of_ble_eq_true rfl, Nat.le_of_ble_eq_true rfl⟩ (d_wordAt rfl rfl hB hW2) rfl (Nat.le_of_ble_eq_true rfl) ?_
      rw [wA_in hB hW2 (by omega) (by omega)]
      refine wp_cv2p hX dX3_load_87 mlX3_58 ⟨Nat.le_of_ble_eq_true rfl, Nat.le_of_ble_eq_true rfl⟩ (k_enter (by decide) rfl rfl rfl (by omega) (by decide) hk hsm) rfl (Nat.le_of_ble_eq_true rfl) ?_
      rintro r1 σ1 ⟨rfl, u1, kf1, vf1, hk1, rfl⟩
      refine wp_eqW (σ1 := wX st it B W q pf jb jp jr tf te (u1, kf1, vf1) S H τ) rfl ?_
      refine wp_iinc hX dX3_load_90 ic_1 rfl (Nat.le_of_ble_eq_true rfl) rfl ?_
      refine wp_goto (tgt := 27) hX dX3_load_93 (by decide) ?_
      rw [nI_1]
      refine ih (c + 1) _ (u1, kf1, vf1) (some (.int (nI (s + c / fan W)))) _ rfl (by omega) hk1 (ins_srt hsm _ _) ?_ he
      have := ins_len_le m (q.1 (W * (s + c / fan W) + (2 + 2 * (c % fan W)))) (q.1 (W * (s + c / fan W) + (2 + 2 * (c % fan W) + 1))) hsm
      omega
  refine wp_aload_n hX dX3_load_0 rfl ?_
  refine wp_cv0 hX dX3_load_1 mlX3_50 ⟨Nat.le_of_ble_eq_true rfl, Nat.le_of_ble_eq_true rfl⟩ (k_clear rfl) rfl (Nat.le_of_ble_eq_true rfl) ?_
  refine wp_aload_n hX dX3_load_4 rfl ?_
  refine wp_iload_n hX dX3_load_5 rfl ?_
  refine wp_cv1 hX dX3_load_6 mlX3_30 ⟨Nat.le_of_ble_eq_true rfl, Nat.le_of_ble_eq_true rfl⟩ (t_startOf (C := (0, C.2))) rfl (Nat.le_of_ble_eq_true rfl) ?_
  rw [hs0]
  refine wp_istore hX dX3_load_9 (Nat.le_of_ble_eq_true rfl) rfl ?_
  refine wp_aload_n hX dX3_load_11 rfl ?_
  refine wp_cv0 hX dX3_load_12 mlX3_22 ⟨Nat.le_of_ble_eq_true rfl, Nat.le_of_ble_eq_true rfl⟩ (t_fan (by omega) hW2) rfl (Nat.le_of_ble_eq_true rfl) ?_
  refine wp_istore hX dX3_load_15 (Nat.le_of_ble_eq_true rfl) rfl ?_
  refine wp_iload hX dX3_load_17 rfl ?_
  refine wp_iconst (v := 1) hX dX3_load_19 ic_1 ?_
  refine wp_icmp_ge (tgt := 24) hX dX3_load_20 (by decide) (fun _ => ?_) (fun c_ => absurd (nI_le (a := 1) (b := fan W) (by omega) (by omega)) c_)
  refine wp_iconst (v := 0) hX dX3_load_24 ic_0 ?_
  refine wp_istore hX dX3_load_25 (Nat.le_of_ble_eq_true rfl) rfl ?_
  exact loop n 0 [] (0, C.2) none none rfl (by omega) KA.nil List.Pairwise.nil (by simp) rfl
end TR3
