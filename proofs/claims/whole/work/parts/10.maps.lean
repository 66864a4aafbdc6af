/-! maps as ascending lists of pairs -/
abbrev PM : Type := List (Int32 × Int32)
def Srt {α : Type} (m : List (Int32 × α)) : Prop := m.Pairwise (fun a b => a.1 < b.1)
def rk {α : Type} : List (Int32 × α) → Int32 → Nat
  | [], _ => 0
  | a :: m, k => if a.1 < k then rk m k + 1 else 0
def lk {α : Type} : List (Int32 × α) → Int32 → Option α
  | [], _ => none
  | a :: m, k => if a.1 = k then some a.2 else lk m k
def ins {α : Type} : List (Int32 × α) → Int32 → α → List (Int32 × α)
  | [], k, v => [(k, v)]
  | a :: m, k, v => if a.1 < k then a :: ins m k v else if a.1 = k then (k, v) :: m else (k, v) :: a :: m
def del {α : Type} : List (Int32 × α) → Int32 → List (Int32 × α)
  | [], _ => []
  | a :: m, k => if a.1 = k then m else a :: del m k
section Gen
variable {α : Type}
theorem i_irr {a : Int32} (h : a < a) : False := by rw [ilt] at h; omega
theorem i_tr {a b c : Int32} (h : a < b) (g : b < c) : a < c := by rw [ilt] at *; omega
theorem i_ne {a b : Int32} (h : a < b) : ¬ a = b := fun e => by subst e; exact i_irr h
theorem i_ne' {a b : Int32} (h : a < b) : ¬ b = a := fun e => by subst e; exact i_irr h
theorem i_asym {a b : Int32} (h : a < b) : ¬ b < a := fun g => i_irr (i_tr h g)
theorem i_tri {a b : Int32} (h : ¬ a < b) (g : ¬ a = b) : b < a := by rw [ilt, ieq] at *; omega
theorem rk_le : ∀ (m : List (Int32 × α)) (k : Int32), rk m k ≤ m.length
  | [], _ => Nat.le_refl _
  | a :: m, k => by
    have := rk_le m k
    unfold rk
    split <;> simp <;> omega
/-- places below the rank hold smaller keys; the place of the rank doesn't -/
theorem rk_lt : ∀ (m : List (Int32 × α)) (k : Int32) (i : Nat), i < rk m k → ∀ a, m[i]? = some a → a.1 < k
  | [], _, i, h, a, e => by simp at e
  | b :: m, k, i, h, a, e => by
    unfold rk at h
    split at h
    next hb =>
      match i, e with
      | 0, e => cases e; exact hb
      | i + 1, e => exact rk_lt m k i (by omega) a e
    next => omega
theorem rk_at : ∀ (m : List (Int32 × α)) (k : Int32) (a : Int32 × α), m[rk m k]? = some a → ¬ a.1 < k
  | [], _, a, e => by simp at e
  | b :: m, k, a, e => by
    unfold rk at e
    split at e
    next hb => exact rk_at m k a e
    next hb => cases e; exact hb
theorem srt_get {m : List (Int32 × α)} (h : Srt m) {i j : Nat} {a b : Int32 × α} (hij : i < j) (ha : m[i]? = some a) (hb : m[j]? = some b) : a.1 < b.1 := by
  obtain ⟨h1, rfl⟩ := List.getElem?_eq_some_iff.mp ha
  obtain ⟨h2, rfl⟩ := List.getElem?_eq_some_iff.mp hb
  exact List.pairwise_iff_getElem.mp h i j h1 h2 hij
theorem rk_ge {m : List (Int32 × α)} (h : Srt m) {k : Int32} {i : Nat} {a : Int32 × α} (hi : rk m k ≤ i) (ha : m[i]? = some a) : ¬ a.1 < k := by
  have hlt : i < m.length := (List.getElem?_eq_some_iff.mp ha).1
  have hr : rk m k < m.length := by omega
  have e := List.getElem?_eq_getElem hr
  have h0 := rk_at m k _ e
  rcases Nat.lt_or_ge (rk m k) i with q | q
  · exact fun z => h0 (i_tr (srt_get h q e ha) z)
  · have : i = rk m k := by omega
    subst this
    rw [e] at ha
    cases ha
    exact h0
theorem rk_char {m : List (Int32 × α)} {k : Int32} {p : Nat} (hp : p ≤ m.length) (h1 : ∀ i a, i < p → m[i]? = some a → a.1 < k) (h2 : ∀ a, m[p]? = some a → ¬ a.1 < k) : rk m k = p := by
  have hle := rk_le m k
  rcases Nat.lt_trichotomy (rk m k) p with q | q | q
  · have hr : rk m k < m.length := by omega
    have e := List.getElem?_eq_getElem hr
    exact absurd (h1 _ _ q e) (rk_at m k _ e)
  · exact q
  · have hr : p < m.length := by omega
    have e := List.getElem?_eq_getElem hr
    exact absurd (rk_lt m k p q _ e) (h2 _ e)
theorem lk_rk : ∀ {m : List (Int32 × α)} (_ : Srt m) (k : Int32), lk m k = match m[rk m k]? with
    | some a => if a.1 = k then some a.2 else none
    | none => none
  | [], _, k => rfl
  | b :: m, h, k => by
    obtain ⟨h1, h2⟩ := List.pairwise_cons.mp h
    unfold lk rk
    by_cases hb : b.1 < k
    · rw [if_neg (i_ne hb), if_pos hb]
      exact lk_rk h2 k
    · rw [if_neg hb]
      by_cases he : b.1 = k
      · simp [he]
      · simp only [List.getElem?_cons_zero, if_neg he]
        have hk := i_tri hb he
        rw [lk_rk h2 k]
        have : rk m k = 0 := rk_char (Nat.zero_le _) (fun i a hi => by omega) (fun a ha => fun z => i_irr (i_tr (i_tr hk (h1 a (List.mem_of_getElem? ha))) z))
        rw [this]
        cases hm : m[0]? with
        | none => rfl
        | some a =>
          have := h1 a (List.mem_of_getElem? hm)
          simp only
          rw [if_neg (i_ne' (i_tr hk this))]
theorem lk_some {m : List (Int32 × α)} (h : Srt m) {k : Int32} {v : α} : lk m k = some v ↔ m[rk m k]? = some (k, v) := by
  rw [lk_rk h]
  cases hm : m[rk m k]? with
  | none => simp
  | some a =>
    obtain ⟨x, y⟩ := a
    simp only
    by_cases e : x = k
    · subst e; simp
    · simp [e]
theorem lk_mem {m : List (Int32 × α)} (h : Srt m) {k : Int32} {v : α} {i : Nat} (hi : m[i]? = some (k, v)) : lk m k = some v ∧ rk m k = i := by
  have hl : i < m.length := (List.getElem?_eq_some_iff.mp hi).1
  have e : rk m k = i := rk_char (Nat.le_of_lt hl) (fun j a hj ha => srt_get h hj ha hi) (fun a ha => by rw [hi] at ha; cases ha; exact fun z => i_irr z)
  exact ⟨(lk_some h).mpr (by rw [e]; exact hi), e⟩
theorem ins_get : ∀ (m : List (Int32 × α)) (k : Int32) (v : α) (i : Nat), (ins m k v)[i]? = if (m[rk m k]?.map Prod.fst) = some k then (if i = rk m k then some (k, v) else m[i]?) else (if i < rk m k then m[i]? else if i = rk m k then some (k, v) else m[i - 1]?)
  | [], k, v, i => by
    unfold ins rk
    simp only [List.getElem?_nil, Option.map_none]
    rw [if_neg (by simp)]
    cases i with
    | zero => rfl
    | succ i => simp
  | b :: m, k, v, i => by
    have ih := ins_get m k v
    unfold ins rk
    by_cases hb : b.1 < k
    · rw [if_pos hb, if_pos hb]
      simp only [List.getElem?_cons_succ]
      cases i with
      | zero =>
        simp only [List.getElem?_cons_zero]
        by_cases hc : (m[rk m k]?.map Prod.fst) = some k
        · rw [if_pos hc, if_neg (by omega)]
        · rw [if_neg hc, if_pos (by omega)]
      | succ i =>
        simp only [List.getElem?_cons_succ]
        rw [ih i]
        by_cases hc : (m[rk m k]?.map Prod.fst) = some k
        · rw [if_pos hc, if_pos hc]
          by_cases e : i = rk m k
          · rw [if_pos e, if_pos (by omega)]
          · rw [if_neg e, if_neg (by omega)]
        · rw [if_neg hc, if_neg hc]
          by_cases e : i < rk m k
          · rw [if_pos e, if_pos (show i + 1 < rk m k + 1 by omega)]
          · rw [if_neg e, if_neg (show ¬ i + 1 < rk m k + 1 by omega)]
            by_cases e2 : i = rk m k
            · rw [if_pos e2, if_pos (show i + 1 = rk m k + 1 by omega)]
            · rw [if_neg e2, if_neg (show ¬ i + 1 = rk m k + 1 by omega)]
              have : i + 1 - 1 = (i - 1) + 1 := by omega
              rw [this, List.getElem?_cons_succ]
    · rw [if_neg hb, if_neg hb]
      simp only [List.getElem?_cons_zero, Option.map_some]
      by_cases he : b.1 = k
      · rw [if_pos he, if_pos (by rw [he])]
        cases i with
        | zero => rfl
        | succ i => simp
      · rw [if_neg he, if_neg (by simpa using he)]
        cases i with
        | zero => rfl
        | succ i => simp
theorem ins_mem {m : List (Int32 × α)} {k : Int32} {v : α} {a : Int32 × α} (h : a ∈ ins m k v) : a = (k, v) ∨ a ∈ m := by
  induction m with
  | nil => simp [ins] at h; exact Or.inl h
  | cons b m ih =>
    unfold ins at h
    split at h
    · rcases List.mem_cons.mp h with h | h
      · exact Or.inr (h ▸ List.mem_cons_self)
      · rcases ih h with h | h
        · exact Or.inl h
        · exact Or.inr (List.mem_cons_of_mem _ h)
    · split at h
      · rcases List.mem_cons.mp h with h | h
        · exact Or.inl h
        · exact Or.inr (List.mem_cons_of_mem _ h)
      · rcases List.mem_cons.mp h with h | h
        · exact Or.inl h
        · exact Or.inr h
theorem ins_srt : ∀ {m : List (Int32 × α)} (_ : Srt m) (k : Int32) (v : α), Srt (ins m k v)
  | [], _, k, v => by unfold ins Srt; exact List.pairwise_singleton _ _
  | b :: m, h, k, v => by
    obtain ⟨h1, h2⟩ := List.pairwise_cons.mp h
    unfold ins
    split
    next hb =>
      refine List.pairwise_cons.mpr ⟨fun a ha => ?_, ins_srt h2 k v⟩
      rcases ins_mem ha with rfl | ha
      · exact hb
      · exact h1 a ha
    next hb =>
      split
      next he => exact List.pairwise_cons.mpr ⟨fun a ha => by rw [← he]; exact h1 a ha, h2⟩
      next he =>
        have hk := i_tri hb he
        refine List.pairwise_cons.mpr ⟨fun a ha => ?_, h⟩
        rcases List.mem_cons.mp ha with rfl | ha
        · exact hk
        · exact i_tr hk (h1 a ha)
theorem lk_none_of_lt {m : List (Int32 × α)} {k : Int32} (h : ∀ a ∈ m, k < a.1) : lk m k = none := by
  induction m with
  | nil => rfl
  | cons b m ih =>
    unfold lk
    rw [if_neg (i_ne' (h b List.mem_cons_self))]
    exact ih (fun a ha => h a (List.mem_cons_of_mem _ ha))
theorem lk_ins (m : List (Int32 × α)) (k : Int32) (v : α) (k' : Int32) (hs : Srt m) : lk (ins m k v) k' = if k = k' then some v else lk m k' := by
  induction m with
  | nil => simp [ins, lk]
  | cons b m ih =>
    obtain ⟨h1, h2⟩ := List.pairwise_cons.mp hs
    unfold ins
    split
    next hb =>
      unfold lk
      rw [ih h2]
      by_cases e : b.1 = k'
      · rw [if_pos e, if_pos e, if_neg (fun z => by subst z; exact i_ne hb e)]
      · rw [if_neg e, if_neg e]
    next hb =>
      split
      next he =>
        unfold lk
        by_cases e : k = k'
        · rw [if_pos e, if_pos e]
        · rw [if_neg e, if_neg e, if_neg (by rw [he]; exact e)]
      next he =>
        show (if k = k' then some v else lk (b :: m) k') = _
        rfl
theorem ins_len (m : List (Int32 × α)) (k : Int32) (v : α) (hs : Srt m) : (ins m k v).length = if (lk m k).isSome then m.length else m.length + 1 := by
  induction m with
  | nil => simp [ins, lk]
  | cons b m ih =>
    obtain ⟨h1, h2⟩ := List.pairwise_cons.mp hs
    unfold ins lk
    split
    next hb =>
      rw [if_neg (i_ne hb), List.length_cons, ih h2]
      split <;> simp
    next hb =>
      split
      next he => simp
      next he =>
        rw [lk_none_of_lt (fun a ha => i_tr (i_tri hb he) (h1 a ha))]
        simp
theorem del_mem {m : List (Int32 × α)} {k : Int32} {a : Int32 × α} (h : a ∈ del m k) : a ∈ m := by
  induction m with
  | nil => exact h
  | cons b m ih =>
    unfold del at h
    split at h
    · exact List.mem_cons_of_mem _ h
    · rcases List.mem_cons.mp h with h | h
      · exact h ▸ List.mem_cons_self
      · exact List.mem_cons_of_mem _ (ih h)
theorem del_srt : ∀ {m : List (Int32 × α)} (_ : Srt m) (k : Int32), Srt (del m k)
  | [], _, k => List.Pairwise.nil
  | b :: m, h, k => by
    obtain ⟨h1, h2⟩ := List.pairwise_cons.mp h
    unfold del
    split
    · exact h2
    · exact List.pairwise_cons.mpr ⟨fun a ha => h1 a (del_mem ha), del_srt h2 k⟩
theorem lk_del (m : List (Int32 × α)) (k k' : Int32) (hs : Srt m) : lk (del m k) k' = if k = k' then none else lk m k' := by
  induction m with
  | nil => simp [del, lk]
  | cons b m ih =>
    obtain ⟨h1, h2⟩ := List.pairwise_cons.mp hs
    unfold del
    split
    next he =>
      by_cases e : k = k'
      · rw [if_pos e]
        exact lk_none_of_lt (fun a ha => by rw [← e, ← he]; exact h1 a ha)
      · rw [if_neg e]
        show lk m k' = if b.1 = k' then some b.2 else lk m k'
        rw [if_neg (by rw [he]; exact e)]
    next he =>
      show (if b.1 = k' then some b.2 else lk (del m k) k') = _
      rw [ih h2]
      show _ = if k = k' then none else if b.1 = k' then some b.2 else lk m k'
      by_cases e : b.1 = k'
      · rw [if_pos e, if_pos e, if_neg (fun z => by subst z; exact he e)]
      · rw [if_neg e, if_neg e]
theorem del_get {m : List (Int32 × α)} (hs : Srt m) {k : Int32} {v : α} (h : lk m k = some v) (i : Nat) : (del m k)[i]? = if i < rk m k then m[i]? else m[i + 1]? := by
  induction m generalizing i with
  | nil => cases h
  | cons b m ih =>
    obtain ⟨h1, h2⟩ := List.pairwise_cons.mp hs
    unfold del rk
    by_cases he : b.1 = k
    · have hn : ¬ b.1 < k := by rw [he]; exact fun z => i_irr z
      rw [if_pos he, if_neg hn]
      simp
    · unfold lk at h
      rw [if_neg he] at h
      have hb : b.1 < k := by
        have := List.mem_of_getElem? ((lk_some h2).mp h)
        exact h1 _ this
      rw [if_neg he, if_pos hb]
      cases i with
      | zero => rw [if_pos (by omega)]; rfl
      | succ i =>
        simp only [List.getElem?_cons_succ]
        rw [ih h2 h i]
        by_cases e : i < rk m k
        · rw [if_pos e, if_pos (by omega)]
        · rw [if_neg e, if_neg (by omega)]
theorem del_len {m : List (Int32 × α)} {k : Int32} {v : α} (h : lk m k = some v) : (del m k).length + 1 = m.length := by
  induction m with
  | nil => cases h
  | cons b m ih =>
    unfold del
    unfold lk at h
    split
    next he => simp
    next he =>
      rw [if_neg he] at h
      simp [ih h]
theorem del_none {m : List (Int32 × α)} {k : Int32} (h : lk m k = none) : del m k = m := by
  induction m with
  | nil => rfl
  | cons b m ih =>
    unfold del
    unfold lk at h
    by_cases he : b.1 = k
    · rw [if_pos he] at h; cases h
    · rw [if_neg he] at h ⊢
      rw [ih h]
/-- an ascending list is what it answers -/
theorem pm_ext : ∀ {m m' : List (Int32 × α)}, Srt m → Srt m' → (∀ k, lk m k = lk m' k) → m = m'
  | [], [], _, _, _ => rfl
  | [], b :: m', _, _, h => by have := h b.1; simp [lk] at this
  | a :: m, [], _, _, h => by have := h a.1; simp [lk] at this
  | a :: m, b :: m', ha, hb, h => by
    obtain ⟨a1, a2⟩ := List.pairwise_cons.mp ha
    obtain ⟨b1, b2⟩ := List.pairwise_cons.mp hb
    have key : a.1 = b.1 := by
      by_cases q : a.1 < b.1
      · have := h a.1
        rw [show lk (b :: m') a.1 = none from lk_none_of_lt (fun c hc => by
          rcases List.mem_cons.mp hc with rfl | hc
          · exact q
          · exact i_tr q (b1 c hc))] at this
        simp [lk] at this
      · by_cases q2 : a.1 = b.1
        · exact q2
        · have q3 := i_tri q q2
          have := h b.1
          rw [show lk (a :: m) b.1 = none from lk_none_of_lt (fun c hc => by
            rcases List.mem_cons.mp hc with rfl | hc
            · exact q3
            · exact i_tr q3 (a1 c hc))] at this
          simp [lk] at this
    have e2 : a.2 = b.2 := by
      have := h a.1
      simp [lk, key] at this
      exact this
    have e : a = b := Prod.ext key e2
    subst e
    refine congrArg (a :: ·) (pm_ext a2 b2 (fun k => ?_))
    by_cases q : a.1 = k
    · rw [← q, lk_none_of_lt a1, lk_none_of_lt b1]
    · have := h k
      simp [lk, q] at this
      exact this
end Gen
/-! a map in two arrays -/
def KA (m : PM) (u : Nat) (kf vf : Nat → Int32) : Prop := m.length = u ∧ ∀ i, i < u → m[i]? = some (kf i, vf i)
theorem KA.nil {kf vf : Nat → Int32} : KA [] 0 kf vf := ⟨rfl, fun i h => by omega⟩
theorem KA.get {m : PM} {u : Nat} {kf vf : Nat → Int32} (h : KA m u kf vf) {i : Nat} {a : Int32 × Int32} (ha : m[i]? = some a) : i < u ∧ a = (kf i, vf i) := by
  have hl : i < m.length := (List.getElem?_eq_some_iff.mp ha).1
  have hu : i < u := by rw [← h.1]; exact hl
  have := h.2 i hu
  rw [ha] at this
  exact ⟨hu, Option.some.inj this⟩
