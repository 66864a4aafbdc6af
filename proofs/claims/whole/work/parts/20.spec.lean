/-! what the store is: a state number, (blocks, words, log), the disk, (place, records, committed map, transaction) -/
abbrev CL : Type := List (Int32 × Bool × Int32)
abbrev Ab : Type := Int32 × (Nat × Nat × Nat) × DQ × (Nat × Nat × PM × Option CL)
def stepC (m : PM) (a : Int32 × Bool × Int32) : PM := if a.2.1 then del m a.1 else ins m a.1 a.2.2
def ov (M : PM) (C : CL) : PM := C.foldl stepC M
def seenT (M : PM) (tx : Option CL) : PM := match tx with
  | none => M
  | some C => ov M C
def chK (C : CL) : PM := C.map (fun a => (a.1, a.2.2))
/-- int i of the record of the changes C -/
def recC (C : CL) (i : Nat) : Int32 := if i = 0 then nI C.length else
  if (i - 1) % 3 = 0 then (if (C.getD ((i - 1) / 3) (0, false, 0)).2.1 then 2 else 1) else if (i - 1) % 3 = 1 then (C.getD ((i - 1) / 3) (0, false, 0)).1 else (C.getD ((i - 1) / 3) (0, false, 0)).2.2
def MARK : Int32 := 1129337682
def rfs (st : Int32) : Int32 := if st = 0 then -7 else if st = 1 then -2 else -1
/-- the head -/
def hdB (e bt a r n : Int32) : Nat → Int32 := fun j => if j = 0 then MARK else if j = 1 then e else if j = 2 then bt else if j = 3 then a else if j = 4 then r else if j = 5 then n else 0
def fmB (e : Int32) : Nat → Int32 := fun j => if j = 1 then e else 0
def wr1 (W : Nat) (q : DQ) (b : Nat) (c : Nat → Int32) : Bool × DQ := wrN W (fun _ => (b, c)) 0 1 q
theorem wr1_no {W : Nat} {q : DQ} {b : Nat} {c : Nat → Int32} (h : q.2.2 = 1) : wr1 W q b c = (false, (q.1, q.2.1, 0)) := by unfold wr1; rw [wrN_s, if_pos h]
theorem wr1_ok {W : Nat} {q : DQ} {b : Nat} {c : Nat → Int32} (h : ¬ q.2.2 = 1) : wr1 W q b c = (true, (wrD q.1 W b c, q.2.1 + 1, pwd q.2.2)) := by unfold wr1; rw [wrN_s, if_neg h]; rfl
def AR (B LG : Nat) : Nat := (B - 1 - LG) / 2
/-- where an area begins -/
def arS (B LG : Nat) (a : Int32) : Nat := if a = 0 then LG + 1 else LG + 1 + AR B LG
def sDisk (A : Ab) (x y z : Int32) : Bool × Ab :=
  if x < 16 ∨ 512 < x ∨ y < 16 ∨ 64 < y ∨ z < 4 ∨ 128 < z ∨ x - 1 - z < 4 then (false, A) else (true, (1, (x.toNatClampNeg, y.toNatClampNeg, z.toNatClampNeg), (fun _ => 0, 0, 0), A.2.2.2))
def sFormat (A : Ab) : Int32 × Ab := match A with
  | (st, (B, W, LG), q, u) => if ¬ (st = 1 ∨ st = 2) then (rfs st, A) else
    if (wr1 W q 0 (fmB (q.1 1 + 1))).1 = false then (-1, (3, (B, W, LG), (wr1 W q 0 (fmB (q.1 1 + 1))).2, u)) else
    if (wr1 W (wr1 W q 0 (fmB (q.1 1 + 1))).2 0 (hdB (q.1 1 + 1) 1 0 0 0)).1 = false then (-1, (3, (B, W, LG), (wr1 W (wr1 W q 0 (fmB (q.1 1 + 1))).2 0 (hdB (q.1 1 + 1) 1 0 0 0)).2, u)) else
    (0, (2, (B, W, LG), (wr1 W (wr1 W q 0 (fmB (q.1 1 + 1))).2 0 (hdB (q.1 1 + 1) 1 0 0 0)).2, (0, 0, [], none)))
def sPower (A : Ab) (x : Int32) : Int32 × Ab := match A with
  | (st, g, q, u) => if st = 0 then (-7, A) else (0, (st, g, (q.1, q.2.1, if x < 0 then 0 else x), u))
def rcM (B W LG : Nat) (D : Nat → Int32) : Nat × Nat × PM := rpl W LG D (D 1) LG 0 0 (ldo W D (arS B LG (D 3)) 0 (D 5).toNatClampNeg [])
def sRecover (A : Ab) : Int32 × Ab := match A with
  | (st, (B, W, LG), q, u) => if st = 0 then (-7, A) else
    if ¬ (q.1 (W - 1) = sumD q.1 0 (W - 1) ∧ q.1 0 = MARK) then (-2, (1, (B, W, LG), q, u)) else
    if (wr1 W q 0 (hdB (q.1 1) (q.1 2 + 1) (q.1 3) (q.1 4) (q.1 5))).1 = false then (-1, (3, (B, W, LG), (wr1 W q 0 (hdB (q.1 1) (q.1 2 + 1) (q.1 3) (q.1 4) (q.1 5))).2, u)) else
    (0, (2, (B, W, LG), (wr1 W q 0 (hdB (q.1 1) (q.1 2 + 1) (q.1 3) (q.1 4) (q.1 5))).2, ((rcM B W LG q.1).1, (rcM B W LG q.1).2.1, (rcM B W LG q.1).2.2, none)))
def sBegin (A : Ab) : Int32 × Ab := match A with
  | (st, g, q, (pl, rc, M, tx)) => if ¬ st = 2 then (rfs st, A) else match tx with
    | some _ => (-4, A)
    | none => (0, (st, g, q, (pl, rc, M, some [])))
def sPut (A : Ab) (k v : Int32) : Int32 × Ab := match A with
  | (st, g, q, (pl, rc, M, tx)) => if ¬ st = 2 then (rfs st, A) else match tx with
    | none => (-3, A)
    | some C => if (lk C k).isSome = false ∧ C.length = 600 then (-6, A) else (0, (st, g, q, (pl, rc, M, some (ins C k (false, v)))))
def sRemove (A : Ab) (k : Int32) : Int32 × Ab := match A with
  | (st, g, q, (pl, rc, M, tx)) => if ¬ st = 2 then (rfs st, A) else match tx with
    | none => (-3, A)
    | some C => if (lk (ov M C) k).isSome = false then (-5, A) else if (lk C k).isSome = false ∧ C.length = 600 then (-6, A) else (0, (st, g, q, (pl, rc, M, some (ins C k (true, 0)))))
def cmW (W pl rc : Nat) (q : DQ) (C : CL) : Bool × DQ := wrN W (fun p => (1 + pl + p, recB W (recC C) (1 + 3 * C.length) (q.1 1) (nI (rc + 1)) (q.1 2) p)) 0 (rB W C.length) q
def sCommit (A : Ab) : Int32 × Ab := match A with
  | (st, (B, W, LG), q, (pl, rc, M, tx)) => if ¬ st = 2 then (rfs st, A) else match tx with
    | none => (-3, A)
    | some C => if LG < pl + rB W C.length then (-6, A) else
      if (cmW W pl rc q C).1 = false then (-1, (3, (B, W, LG), (cmW W pl rc q C).2, (pl, rc, M, tx))) else
      (0, (2, (B, W, LG), (cmW W pl rc q C).2, (pl + rB W C.length, (if C.length = 0 then rc else rc + 1), ov M C, none)))
def sAbort (A : Ab) : Int32 × Ab := match A with
  | (st, g, q, (pl, rc, M, tx)) => if ¬ st = 2 then (rfs st, A) else match tx with
    | none => (-3, A)
    | some _ => (0, (st, g, q, (pl, rc, M, none)))
def ckT (q : DQ) : Int32 := if q.1 3 = 0 then 1 else 0
def ckR (B W LG : Nat) (q : DQ) (M : PM) : Int32 := nI (if M.length = 0 then 0 else arS B LG (ckT q) + tBl (fan W) M.length - 1)
def ckW (B W LG : Nat) (q : DQ) (M : PM) : Bool × DQ := treW W (arS B LG (ckT q)) M q
def sCheck (A : Ab) : Int32 × Ab := match A with
  | (st, (B, W, LG), q, (pl, rc, M, tx)) => if ¬ st = 2 then (rfs st, A) else match tx with
    | some _ => (-4, A)
    | none => if AR B LG < tBl (fan W) M.length then (-6, A) else
      if (ckW B W LG q M).1 = false then (-1, (3, (B, W, LG), (ckW B W LG q M).2, (pl, rc, M, tx))) else
      if (wr1 W (ckW B W LG q M).2 0 (hdB (q.1 1 + 1) (q.1 2) (ckT q) (ckR B W LG q M) (nI M.length))).1 = false then (-1, (3, (B, W, LG), (wr1 W (ckW B W LG q M).2 0 (hdB (q.1 1 + 1) (q.1 2) (ckT q) (ckR B W LG q M) (nI M.length))).2, (pl, rc, M, tx))) else
      (0, (2, (B, W, LG), (wr1 W (ckW B W LG q M).2 0 (hdB (q.1 1 + 1) (q.1 2) (ckT q) (ckR B W LG q M) (nI M.length))).2, (0, 0, M, none)))
def smA (A : Ab) : PM := seenT A.2.2.2.2.2.1 A.2.2.2.2.2.2
def sGet (A : Ab) (k : Int32) : Int32 := if A.1 = 2 then (lk (smA A) k).getD 0 else 0
def sHas (A : Ab) (k : Int32) : Bool := if A.1 = 2 then (lk (smA A) k).isSome else false
def sSize (A : Ab) : Int32 := if A.1 = 2 then nI (smA A).length else 0
def sKey (A : Ab) (x : Int32) : Int32 := if A.1 = 2 then at0 (fun i => ((smA A).getD i (0, 0)).1) (smA A).length x else 0
/-- where the keys above y begin -/
def rkB (m : PM) (y : Int32) : Nat := if (lk m y).isSome then rk m y + 1 else rk m y
def sSum (A : Ab) (x y w : Int32) : Int64 := if ¬ A.1 = 2 then 0 else if rkB (smA A) y ≤ rk (smA A) x then 0 else
  if w = 0 then (nI (rkB (smA A) y - rk (smA A) x)).toInt64 else if w = 1 then sumF (fun i => ((smA A).getD i (0, 0)).2) (rk (smA A) x) (rkB (smA A) y - rk (smA A) x) else
  if w = 2 then ((smA A).getD (rk (smA A) x) (0, 0)).1.toInt64 else if w = 3 then ((smA A).getD (rkB (smA A) y - 1) (0, 0)).1.toInt64 else 0
def sWord (A : Ab) (x y : Int32) : Int32 := wA A.2.1.1 A.2.1.2.1 A.2.2.1.1 x y
def sCount (A : Ab) (w : Int32) : Int32 := match A with
  | (st, (B, W, LG), q, (pl, rc, M, tx)) => if w = 0 then q.2.1 else if w = 1 then q.2.2 else if w = 8 then nI (AR B LG) else if ¬ st = 2 then 0 else
    if w = 2 then nI pl else if w = 3 then q.1 1 else if w = 4 then q.1 2 else if w = 5 then nI rc else if w = 6 then (match tx with
      | none => -3
      | some C => nI C.length) else if w = 7 then nI (tBl (fan W) M.length) else 0
/-! what holds of it -/
def Geo (B W LG : Nat) : Prop := 16 ≤ B ∧ B ≤ 512 ∧ 16 ≤ W ∧ W ≤ 64 ∧ 4 ≤ LG ∧ LG ≤ 128 ∧ LG + 5 ≤ B
def prD (W : Nat) (D : Nat → Int32) (s i : Nat) : Int32 × Int32 := (D (W * (s + i / fan W) + (2 + 2 * (i % fan W))), D (W * (s + i / fan W) + (2 + 2 * (i % fan W) + 1)))
/-- from block b by first children down to the leaf s -/
def chn (W : Nat) (D : Nat → Int32) (s : Nat) : Nat → Nat → Prop
  | 0, b => b = s ∧ D (W * b) = 1
  | k + 1, b => D (W * b) = 2 ∧ ∃ b1, (b1 < 512 ∧ s ≤ b1 ∧ b1 < b) ∧ D (W * b + 3) = nI b1 ∧ chn W D s k b1
def TrOK (B W LG : Nat) (D : Nat → Int32) (s n : Nat) : Prop := tBl (fan W) n ≤ AR B LG ∧ ∃ m : PM, Srt m ∧ m.length = n ∧ (∀ i, i < n → m[i]? = some (prD W D s i)) ∧ (∀ l, l < cdv n (fan W) → D (W * (s + l)) = 1 ∧ D (W * (s + l) + 1) = nI (min (fan W) (n - fan W * l))) ∧ (0 < n → ∃ k, k ≤ 32 ∧ chn W D s k (s + tBl (fan W) n - 1))
def HdOK (B W LG : Nat) (D : Nat → Int32) : Prop := D 0 = 0 ∨ (D 0 = MARK ∧ ∃ n, (D 3 = 0 ∨ D 3 = 1) ∧ D 5 = nI n ∧ D 4 = nI (if n = 0 then 0 else arS B LG (D 3) + tBl (fan W) n - 1) ∧ TrOK B W LG D (arS B LG (D 3)) n)
def TxOK (tx : Option CL) : Prop := match tx with
  | none => True
  | some C => Srt C ∧ C.length ≤ 600
def AInv (A : Ab) : Prop := match A with
  | (st, (B, W, LG), q, (pl, rc, M, tx)) => (∀ j, 32768 ≤ j → q.1 j = 0) ∧ (st = 0 ∨ st = 1 ∨ st = 2 ∨ st = 3) ∧ (st = 0 → B = 0 ∧ W = 0 ∧ LG = 0 ∧ q = (fun _ => 0, 0, 0)) ∧ (¬ st = 0 → Geo B W LG ∧ HdOK B W LG q.1) ∧
    (st = 2 → q.1 0 = MARK ∧ pl ≤ LG ∧ rc ≤ pl ∧ Srt M ∧ (∃ n, q.1 5 = nI n ∧ tBl (fan W) n ≤ AR B LG ∧ 3 * M.length ≤ 3 * n + (W - 5) * pl) ∧ TxOK tx)
/-! the changes -/
theorem stepC_srt {m : PM} (h : Srt m) (a : Int32 × Bool × Int32) : Srt (stepC m a) := by
  unfold stepC
  split
  · exact del_srt h _
  · exact ins_srt h _ _
theorem ov_srt : ∀ (C : CL) {M : PM}, Srt M → Srt (ov M C)
  | [], _, h => h
  | a :: C, M, h => ov_srt C (stepC_srt h a)
theorem lk_stepC {m : PM} (h : Srt m) (a : Int32 × Bool × Int32) (k : Int32) : lk (stepC m a) k = if a.1 = k then (if a.2.1 then none else some a.2.2) else lk m k := by
  unfold stepC
  cases a.2.1
  · simp only [Bool.false_eq_true, if_false]
    rw [lk_ins _ _ _ _ h]
  · simp only [if_true]
    rw [lk_del _ _ _ h]
theorem lk_ov : ∀ (C : CL) {M : PM} (_ : Srt M) (_ : Srt C) (k : Int32), lk (ov M C) k = match lk C k with
    | some a => if a.1 then none else some a.2
    | none => lk M k
  | [], M, _, _, k => rfl
  | a :: C, M, hM, hC, k => by
    obtain ⟨h1, h2⟩ := List.pairwise_cons.mp hC
    show lk (ov (stepC M a) C) k = _
    rw [lk_ov C (stepC_srt hM a) h2 k, lk_stepC hM a k]
    show _ = match (if a.1 = k then some a.2 else lk C k) with
      | some a => if a.1 then none else some a.2
      | none => lk M k
    by_cases e : a.1 = k
    · rw [if_pos e, if_pos e, ← e, lk_none_of_lt h1]
    · rw [if_neg e, if_neg e]
theorem chK_srt {C : CL} (h : Srt C) : Srt (chK C) := by
  unfold Srt chK
  rw [List.pairwise_map]
  exact h
theorem chK_len (C : CL) : (chK C).length = C.length := by simp [chK]
theorem chK_lk : ∀ (C : CL) (k : Int32), lk (chK C) k = (lk C k).map (fun a => a.2)
  | [], _ => rfl
  | a :: C, k => by
    show (if a.1 = k then some a.2.2 else lk (chK C) k) = ((if a.1 = k then some a.2 else lk C k)).map _
    by_cases e : a.1 = k
    · rw [if_pos e, if_pos e]; rfl
    · rw [if_neg e, if_neg e, chK_lk C k]
theorem chK_ins : ∀ (C : CL) (k : Int32) (g : Bool) (v : Int32), chK (ins C k (g, v)) = ins (chK C) k v
  | [], _, _, _ => rfl
  | a :: C, k, g, v => by
    show chK (if a.1 < k then a :: ins C k (g, v) else if a.1 = k then (k, (g, v)) :: C else (k, (g, v)) :: a :: C) = (if a.1 < k then (a.1, a.2.2) :: ins (chK C) k v else if a.1 = k then (k, v) :: chK C else (k, v) :: (a.1, a.2.2) :: chK C)
    split
    · show (a.1, a.2.2) :: chK (ins C k (g, v)) = _
      rw [chK_ins C k g v]
    · split <;> rfl
theorem ov_put {M : PM} {C : CL} (hM : Srt M) (hC : Srt C) (k v : Int32) : ov M (ins C k (false, v)) = ins (ov M C) k v := by
  refine pm_ext (ov_srt _ hM) (ins_srt (ov_srt _ hM) _ _) (fun k' => ?_)
  rw [lk_ov _ hM (ins_srt hC _ _), lk_ins _ _ _ _ hC, lk_ins _ _ _ _ (ov_srt _ hM), lk_ov _ hM hC]
  by_cases e : k = k'
  · rw [if_pos e, if_pos e]; rfl
  · rw [if_neg e, if_neg e]
theorem ov_rem {M : PM} {C : CL} (hM : Srt M) (hC : Srt C) (k v : Int32) : ov M (ins C k (true, v)) = del (ov M C) k := by
  refine pm_ext (ov_srt _ hM) (del_srt (ov_srt _ hM) _) (fun k' => ?_)
  rw [lk_ov _ hM (ins_srt hC _ _), lk_ins _ _ _ _ hC, lk_del _ _ _ (ov_srt _ hM), lk_ov _ hM hC]
  by_cases e : k = k'
  · rw [if_pos e, if_pos e]; rfl
  · rw [if_neg e, if_neg e]
theorem ov_len {M : PM} : ∀ (C : CL) {M : PM}, Srt M → (ov M C).length ≤ M.length + C.length
  | [], _, _ => Nat.le_refl _
  | a :: C, M, h => by
    have h1 := ov_len (M := M) C (stepC_srt h a)
    have h2 : (stepC M a).length ≤ M.length + 1 := by
      unfold stepC
      split
      · have := del_len_le M a.1; omega
      · exact ins_len_le M _ _ h
    show (ov (stepC M a) C).length ≤ _
    simp only [List.length_cons]
    omega
/-- a record's ints, by what is seen and by the changes -/
theorem recH_C {M : PM} {C : CL} (hM : Srt M) (hC : Srt C) {i : Nat} (hi : i < 1 + 3 * C.length) : recH (chK C) (ov M C) i = recC C i := by
  unfold recH recC
  by_cases h0 : i = 0
  · rw [if_pos h0, if_pos h0, chK_len]
  · rw [if_neg h0, if_neg h0]
    have hlt : (i - 1) / 3 < C.length := by omega
    have e : C[(i - 1) / 3]? = some C[(i - 1) / 3] := List.getElem?_eq_getElem hlt
    have e1 : C.getD ((i - 1) / 3) (0, false, 0) = C[(i - 1) / 3] := by rw [List.getD_eq_getElem?_getD, e]; rfl
    have e2 : (chK C).getD ((i - 1) / 3) (0, 0) = (C[(i - 1) / 3].1, C[(i - 1) / 3].2.2) := by
      rw [List.getD_eq_getElem?_getD, chK, List.getElem?_map, e]
      rfl
    rw [e1, e2]
    generalize hx : C[(i - 1) / 3] = x at e ⊢
    obtain ⟨k, g, v⟩ := x
    have hl : lk (ov M C) k = if g then none else some v := by
      rw [lk_ov _ hM hC, (lk_mem hC e).1]
    simp only
    rw [hl]
    cases g <;> rfl
theorem recB_congr {W n p : Nat} {g g1 : Nat → Int32} {e num bt : Int32} (h : ∀ i, i < n → g i = g1 i) : recB W g n e num bt p = recB W g1 n e num bt p := by
  funext j
  unfold recB
  by_cases h4 : j < 4 + min (W - 5) (n - (W - 5) * p)
  · by_cases h5 : 4 ≤ j
    · rw [if_pos h4, if_pos h4, h _ (by omega)]
    · have : j = 0 ∨ j = 1 ∨ j = 2 ∨ j = 3 := by omega
      rcases this with rfl | rfl | rfl | rfl <;> rfl
  · rw [if_neg h4, if_neg h4]
