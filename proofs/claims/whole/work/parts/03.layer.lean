/-! cells by number: .ref k is cell k; ad gives its address. A cell: an array (boolean or int, length, contents) or an object (class number, fields) -/
abbrev aE : Type := (Bool × Nat × (Nat → Int32)) ⊕ (Nat × List Value)
abbrev aW : Type := List aE
def cv (ad : Nat → Nat) : Value → Value
  | .ref k => .ref (ad k)
  | v => v
def ce (ad : Nat → Nat) (cI cZ : ClassId) : aE → va_E
  | .inl q => .inl (if q.1 then cZ else cI, q.2.1, .inl q.2.2)
  | .inr q => .inr (q.1, q.2.map (cv ad))
def cw (ad : Nat → Nat) (cI cZ : ClassId) (σ : aW) : va_W := σ.zipIdx.map (fun q => (ad q.2, ce ad cI cZ q.1))
theorem cw_get {ad : Nat → Nat} {cI cZ : ClassId} {σ : aW} {k : Nat} : (cw ad cI cZ σ)[k]? = (σ[k]?).map (fun c => (ad k, ce ad cI cZ c)) := by
  unfold cw
  rw [List.getElem?_map, List.getElem?_zipIdx]
  cases σ[k]? <;> simp
theorem cw_at {ad : Nat → Nat} {cI cZ : ClassId} {σ : aW} {k : Nat} {c : aE} (h : σ[k]? = some c) : (cw ad cI cZ σ)[k]? = some (ad k, ce ad cI cZ c) := by rw [cw_get, h]; rfl
theorem cw_set {ad : Nat → Nat} {cI cZ : ClassId} {σ : aW} {k : Nat} {c : aE} : (cw ad cI cZ σ).set k (ad k, ce ad cI cZ c) = cw ad cI cZ (σ.set k c) := by
  apply List.ext_getElem?
  intro i
  rw [cw_get]
  by_cases h : k = i
  · subst h
    rw [List.getElem?_set_self', List.getElem?_set_self', cw_get]
    cases σ[k]? <;> rfl
  · rw [List.getElem?_set_ne h, List.getElem?_set_ne h, cw_get]
theorem cw_len {ad : Nat → Nat} {cI cZ : ClassId} {σ : aW} : (cw ad cI cZ σ).length = σ.length := by simp [cw]
theorem cv_cat {ad : Nat → Nat} (v : Value) : (cv ad v).category = v.category := by cases v <;> rfl
theorem cw_D {ad : Nat → Nat} {cI cZ : ClassId} {σ σ0 : aW} {A : Nat → Prop} (hl : σ.length = σ0.length) (h : va_D A (cw ad cI cZ σ0)) : va_D A (cw ad cI cZ σ) := by
  have key : ∀ (k : Nat) (q : Nat × va_E), (cw ad cI cZ σ)[k]? = some q → ∃ c : va_E, (cw ad cI cZ σ0)[k]? = some (q.1, c) := by
    intro k q hq
    have hk : k < σ0.length := by
      have := (List.getElem?_eq_some_iff.mp hq).1
      rw [cw_len] at this
      omega
    rw [cw_get] at hq
    cases hs : σ[k]? with
    | none => rw [hs] at hq; cases hq
    | some c =>
      rw [hs] at hq
      cases hq
      exact ⟨ce ad cI cZ σ0[k], cw_at (List.getElem?_eq_getElem hk)⟩
  refine ⟨fun i j p q hp hq e => ?_, fun k q hq => ?_⟩
  · obtain ⟨c1, h1⟩ := key i p hp
    obtain ⟨c2, h2⟩ := key j q hq
    exact h.1 i j _ _ h1 h2 e
  · obtain ⟨c1, h1⟩ := key k q hq
    exact h.2 k (q.1, c1) h1
/-! methods: (name, code, locals, answer's type, frames, words of locals that it needs below it) -/
abbrev MD : Type := MethodName × ByteArray × Nat × Option FieldType × Nat × Nat
def mrm (M : MD) : Room := { frames := M.2.2.2.2.1, cells := 0, slots := 0, locals := M.2.2.2.2.2 }
def BIG : List Cond := lw_tbl.filter goodWord
def mws (M : MD) : List Cond := .code M.1 M.2.1 M.2.2.1 M.2.2.2.1 :: BIG
def tys2 (cI cZ : ClassId) : List (ClassId × FieldType) := [(cI, .int), (cZ, .boolean)]
def NW (U : State) : Prop := va_Nw (.methodLinkNest RX1 67 yX4_blocksOf "BlockStore") U ∧ va_Nw (.methodLinkNest RX3 26 yX4_blocksOf "BlockStore") U
theorem NW.warm {s U : State} (hW : s.WarmedH U.vm) (h : NW s) : NW U := ⟨va_Nw.warmM hW h.1, va_Nw.warmM hW h.2⟩
theorem NW.same {s U : State} (hv : s.vm = U.vm) (h : NW s) : NW U := ⟨va_Nw.same rfl hv h.1, va_Nw.same rfl hv h.2⟩
abbrev aPost : Type := Option Value → aW → Prop
def SF (dC : Nat → ClassId) (dI : Nat → Nat → Nat) (ad : Nat → Nat) (cI cZ : ClassId) (σ : aW) (U : State) : Prop := va_P (dC, dI) vwCl (cw ad cI cZ σ) U.heap ∧ va_K (dC, dI) vwCl (tys2 cI cZ) U ∧ va_D (fun _ => True) (cw ad cI cZ σ) ∧ NW U
def mQc (dC : Nat → ClassId) (dI : Nat → Nat → Nat) (ad : Nat → Nat) (cI cZ : ClassId) (A : Nat → Prop) (n : Nat) (Post : aPost) : Array Value → State → Outcome → State → Prop := fun _ st oc t => (∃ (r : Option Value) (σ' : aW), oc = .returned (r.map (cv ad)) ∧ Post r σ' ∧ σ'.length = n ∧ va_P (dC, dI) vwCl (cw ad cI cZ σ') t.heap) ∧ va_F A st t
/-- the contract of a method at these arguments and this world -/
def MT (M : MD) (av : List Value) (σ : aW) (Post : aPost) : Prop := ∀ (l : Launch) (dC : Nat → ClassId) (dI : Nat → Nat → Nat) (ad : Nat → Nat) (cI cZ : ClassId) (sz : Nat),
  Met l M.1 (mws M) (mrm M) (va_Pc (av.map (cv ad)) (fun U => U.heap.size = sz ∧ SF dC dI ad cI cZ σ U)) (mQc dC dI ad cI cZ (va_A (cw ad cI cZ σ) sz) σ.length Post) 0 0 (va_A (cw ad cI cZ σ) sz)
/-! the walk of a method's body -/
abbrev CX : Type := Program × Launch × Env × Room × State × MethodId × Array Value × List Frame × Method × Code × (Nat → ClassId) × (Nat → Nat → Nat) × (Nat → Nat) × ClassId × ClassId × Nat × aW
def LH (ad : Nat → Nat) (ls : Array Slot) (nL : Nat) (L : List (Option Value)) : Prop := ls.size = nL ∧ lv_wf ls ∧ ∀ (i : Nat) (v : Value), L[i]? = some (some v) → ls[i]? = some (.val (cv ad v))
def Wp (X : CX) (Post : aPost) (pc : Nat) (L : List (Option Value)) (S : List Value) (σ : aW) : Prop := match X with
  | (p, l, e, R, s, m, args, below, meth, c, dC, dI, ad, cI, cZ, nL, σ0) => ∀ (H : Heap) (locs : List Loc) (ls : Array Slot), σ.length = σ0.length → va_P (dC, dI) vwCl (cw ad cI cZ σ) H → va_S (va_A (cw ad cI cZ σ0) s.heap.size) s.heap H locs → LH ad ls nL L →
    W p l e R s m args below meth c H locs 0 0 (MQ below (mQc dC dI ad cI cZ (va_A (cw ad cI cZ σ0) s.heap.size) σ0.length Post) args s 0 0 (va_A (cw ad cI cZ σ0) s.heap.size)) (F0 m pc ls (S.map (cv ad)))
def Gd (X : CX) (M : MD) : Prop := match X with
  | (p, _, _, R, s, m, args, _, meth, c, dC, dI, ad, cI, cZ, nL, σ0) => p.tables.exec = Jvm.exec ∧ c.code = M.2.1 ∧ meth.sig.returnType = M.2.2.2.1 ∧ c.maxLocals = nL ∧ nL = M.2.2.1 ∧ s.vm.findClass M.1.cls = some m.cls ∧ (∀ w ∈ mws M, w.before args s = true) ∧ meth.locks = false ∧
    va_K (dC, dI) vwCl (tys2 cI cZ) s ∧ va_D (va_A (cw ad cI cZ σ0) s.heap.size) (cw ad cI cZ σ0) ∧ NW s ∧ R = mrm M
/-- the locals at the entry -/
def ent : List Value → List (Option Value)
  | [] => []
  | .long x :: vs => some (.long x) :: none :: ent vs
  | .double x :: vs => some (.double x) :: none :: ent vs
  | v :: vs => some v :: ent vs
theorem ent_cons (v : Value) (vs : List Value) : ent (v :: vs) = if v.category = 2 then some v :: none :: ent vs else some v :: ent vs := by cases v <;> rfl
theorem ent_len (ad : Nat → Nat) : ∀ vs : List Value, (lg_sl (vs.map (cv ad))).length = (ent vs).length
  | [] => rfl
  | v :: vs => by
    have ih := ent_len ad vs
    rw [ent_cons]
    unfold lg_sl at ih ⊢
    rw [List.map_cons, List.flatMap_cons, List.length_append, ih, cv_cat]
    by_cases h : v.category = 2
    · rw [if_pos h, if_pos h]; simp; omega
    · rw [if_neg h, if_neg h]; simp; omega
theorem ent_in (ad : Nat → Nat) : ∀ (vs : List Value) (b i : Nat) (v : Value), (ent vs)[i]? = some (some v) → (b + i, cv ad v) ∈ lv_args b (vs.map (cv ad))
  | [], b, i, v, h => by simp [ent] at h
  | u :: vs, b, i, v, h => by
    rw [ent_cons] at h
    show (b + i, cv ad v) ∈ (b, cv ad u) :: lv_args (if (cv ad u).category = 2 then b + 2 else b + 1) (vs.map (cv ad))
    rw [cv_cat]
    by_cases hc : u.category = 2
    · rw [if_pos hc] at h ⊢
      match i, h with
      | 0, h => cases h; exact List.mem_cons_self
      | 1, h => cases h
      | i + 2, h =>
        have := ent_in ad vs (b + 2) i v h
        rw [show b + (i + 2) = b + 2 + i by omega]
        exact List.mem_cons_of_mem _ this
    · rw [if_neg hc] at h ⊢
      match i, h with
      | 0, h => cases h; exact List.mem_cons_self
      | i + 1, h =>
        have := ent_in ad vs (b + 1) i v h
        rw [show b + (i + 1) = b + 1 + i by omega]
        exact List.mem_cons_of_mem _ this
theorem mt_of {M : MD} {av : List Value} {σ : aW} {Post : aPost} (L0 : List (Option Value)) (hL : ent av ++ List.replicate (M.2.2.1 - (ent av).length) none = L0) (hn : (ent av).length ≤ M.2.2.1) (hy : plainName M.1.cls = true) (h : ∀ X, Gd X M → Wp X Post 0 L0 [] σ) : MT M av σ Post := by
  intro l dC dI ad cI cZ sz
  refine Met.ofW (cc := M.2.1) (maxL := M.2.2.1) (ret := M.2.2.2.1) hy rfl ?_
  intro p e s m args below meth c s₁ B hml hv
  obtain ⟨rfl, hsz, hP, hK, hD0, hN⟩ := hv
  subst hsz
  have key := h (p, l, e, mrm M, s, m, (av.map (cv ad)).toArray, below, meth, c, dC, dI, ad, cI, cZ, M.2.2.1, σ) ⟨B.exec, B.bytes, B.returns, hml, rfl, findClass_of_methodNamed B.named, atoms_spec (ws := mws M) B.pre, B.notSynchronized, hK, hD0.self, hN, rfl⟩
  have hle : (lg_sl (av.map (cv ad))).length ≤ M.2.2.1 := by rw [ent_len]; exact hn
  have hl := lv_entry (av.map (cv ad)) (n := M.2.2.1) hle
  rw [lg_entry_eq]
  refine key s.heap [] _ rfl hP va_S.rf ⟨hl.1, hl.2.1, fun i v hi => ?_⟩
  rw [← hL] at hi
  by_cases hlt : i < (ent av).length
  · rw [List.getElem?_append_left hlt] at hi
    have := hl.2.2 _ (ent_in ad av 0 i v hi)
    rw [Nat.zero_add] at this
    exact this
  · rw [List.getElem?_append_right (by omega)] at hi
    have := List.mem_of_getElem? hi
    have := List.eq_of_mem_replicate this
    cases this
theorem mt_post {M : MD} {av : List Value} {σ : aW} {P Q : aPost} (h : MT M av σ P) (hq : ∀ r σ', P r σ' → Q r σ') : MT M av σ Q := by
  intro l dC dI ad cI cZ sz
  have h1 := h l dC dI ad cI cZ sz
  have hc : ∀ a st o t, mQc dC dI ad cI cZ (va_A (cw ad cI cZ σ) sz) σ.length P a st o t → mQc dC dI ad cI cZ (va_A (cw ad cI cZ σ) sz) σ.length Q a st o t := by
    rintro a st o t ⟨⟨r, σ', e1, e2, e3, e4⟩, hf⟩
    exact ⟨⟨r, σ', e1, hq r σ' e2, e3, e4⟩, hf⟩
  intro p e ha hcx hk s m args below hf happ hpre hK
  obtain ⟨k, o, a1, a2, a3, a4, a5⟩ := h1 p e ha hcx hk s m args below hf happ hpre hK
  exact ⟨k, o, a1, a2, a3, hc _ _ _ _ a4, a5⟩
/-- rows by hand: LH under a store -/
theorem LH_lv {ad : Nat → Nat} {ls : Array Slot} {nL : Nat} {L : List (Option Value)} (h : LH ad ls nL L) : lv_has ls nL (L.zipIdx.filterMap (fun q => q.1.map (fun v => (q.2, cv ad v)))) := by
  refine ⟨h.1, h.2.1, fun q hq => ?_⟩
  obtain ⟨⟨x, i⟩, h1, h2⟩ := List.mem_filterMap.mp hq
  cases x with
  | none => cases h2
  | some v =>
    cases h2
    have := List.mem_zipIdx_iff_getElem?.mp h1
    exact h.2.2 i v this
def noL (L : List (Option Value)) (i : Nat) : Bool := match i with
  | 0 => true
  | i + 1 => match L[i]? with
    | some (some v) => v.category == 1
    | _ => true
theorem LH_in {ad : Nat → Nat} {L : List (Option Value)} {j : Nat} {v : Value} (h : L[j]? = some (some v)) : (j, cv ad v) ∈ L.zipIdx.filterMap (fun q => q.1.map (fun v => (q.2, cv ad v))) :=
  List.mem_filterMap.mpr ⟨(some v, j), List.mem_zipIdx_iff_getElem?.mpr h, rfl⟩
theorem LH_st {ad : Nat → Nat} {ls : Array Slot} {nL : Nat} {L : List (Option Value)} {i : Nat} {u : Value} (hc : u.category = 1) (hno : noL L i = true)
    (h : lv_has ls nL ((i, cv ad u) :: (L.zipIdx.filterMap (fun q => q.1.map (fun v => (q.2, cv ad v)))).filter (fun q => !(q.1 == i) && !(q.1 + 1 == i && q.2.category == 2)))) : LH ad ls nL (L.set i (some u)) := by
  refine ⟨h.1, h.2.1, fun j v hj => ?_⟩
  by_cases e : i = j
  · subst e
    have hlt : i < (L.set i (some u)).length := (List.getElem?_eq_some_iff.mp hj).1
    rw [List.getElem?_set_self (by simpa using hlt)] at hj
    cases hj
    exact h.2.2 _ List.mem_cons_self
  · rw [List.getElem?_set_ne e] at hj
    refine h.2.2 (j, cv ad v) (List.mem_cons_of_mem _ (List.mem_filter.mpr ⟨LH_in hj, ?_⟩))
    have e1 : (j == i) = false := by simpa using fun q => e q.symm
    by_cases e2 : j + 1 = i
    · subst e2
      have : (v.category == 1) = true := by
        have := hno
        simp only [noL, hj] at this
        exact this
      have h3 : v.category = 1 := by simpa using this
      simp [e1, cv_cat, h3]
    · have e3 : (j + 1 == i) = false := by simpa using e2
      simp [e1, e3]
theorem LH_st2 {ad : Nat → Nat} {ls : Array Slot} {nL : Nat} {L : List (Option Value)} {i : Nat} {u : Value} (hno : noL L i = true)
    (h : lv_has ls nL ((i, cv ad u) :: (L.zipIdx.filterMap (fun q => q.1.map (fun v => (q.2, cv ad v)))).filter (fun q => !(q.1 == i) && (!(q.1 == i + 1) && !(q.1 + 1 == i && q.2.category == 2))))) : LH ad ls nL ((L.set i (some u)).set (i + 1) none) := by
  refine ⟨h.1, h.2.1, fun j v hj => ?_⟩
  by_cases e0 : i + 1 = j
  · subst e0
    have hlt : i + 1 < ((L.set i (some u)).set (i + 1) none).length := (List.getElem?_eq_some_iff.mp hj).1
    rw [List.getElem?_set_self (by simpa using hlt)] at hj
    cases hj
  · rw [List.getElem?_set_ne e0] at hj
    by_cases e : i = j
    · subst e
      have hlt : i < (L.set i (some u)).length := (List.getElem?_eq_some_iff.mp hj).1
      rw [List.getElem?_set_self (by simpa using hlt)] at hj
      cases hj
      exact h.2.2 _ List.mem_cons_self
    · rw [List.getElem?_set_ne e] at hj
      refine h.2.2 (j, cv ad v) (List.mem_cons_of_mem _ (List.mem_filter.mpr ⟨LH_in hj, ?_⟩))
      have e1 : (j == i) = false := by simpa using fun q => e q.symm
      have e4 : (j == i + 1) = false := by simpa using fun q => e0 q.symm
      by_cases e2 : j + 1 = i
      · subst e2
        have : (v.category == 1) = true := by
          have := hno
          simp only [noL, hj] at this
          exact this
        have h3 : v.category = 1 := by simpa using this
        simp [e1, e4, cv_cat, h3]
      · have e3 : (j + 1 == i) = false := by simpa using e2
        simp [e1, e3, e4]
section Rules
variable {X : CX} {M : MD} {Post : aPost} {pc : Nat} {L : List (Option Value)} {S : List Value} {σ : aW}
theorem wp_iconst {n : Int} {v : Int32} (hX : Gd X M) (hd : decode M.2.1 pc = .ok (.iconst n, 1)) (hv : Int32.ofInt n = v) (k : Wp X Post (pc + 1) L (.int v :: S) σ) : Wp X Post pc L S σ := by
  obtain ⟨p, l, e, R, s, m, args, below, meth, c, dC, dI, ad, cI, cZ, nL, σ0⟩ := X
  intro H locs ls h1 h2 h3 h4
  exact lv_iconst hX.1 hX.2.1 hd hv (k H locs ls h1 h2 h3 h4)
theorem wp_bipush {n : Int} {v : Int32} (hX : Gd X M) (hd : decode M.2.1 pc = .ok (.bipush n, 2)) (hv : (Int8.ofInt n).toInt32 = v) (k : Wp X Post (pc + 2) L (.int v :: S) σ) : Wp X Post pc L S σ := by
  obtain ⟨p, l, e, R, s, m, args, below, meth, c, dC, dI, ad, cI, cZ, nL, σ0⟩ := X
  intro H locs ls h1 h2 h3 h4
  exact lv_bipush hX.1 hX.2.1 hd hv (k H locs ls h1 h2 h3 h4)
theorem wp_sipush {n : Int} {v : Int32} (hX : Gd X M) (hd : decode M.2.1 pc = .ok (.sipush n, 3)) (hv : (Int16.ofInt n).toInt32 = v) (k : Wp X Post (pc + 3) L (.int v :: S) σ) : Wp X Post pc L S σ := by
  obtain ⟨p, l, e, R, s, m, args, below, meth, c, dC, dI, ad, cI, cZ, nL, σ0⟩ := X
  intro H locs ls h1 h2 h3 h4
  exact lv_sipush hX.1 hX.2.1 hd hv (k H locs ls h1 h2 h3 h4)
theorem wp_lconst {n : Fin 2} {v : Int64} (hX : Gd X M) (hd : decode M.2.1 pc = .ok (.lconst n, 1)) (hv : Int64.ofNat (n : Nat) = v) (k : Wp X Post (pc + 1) L (.long v :: S) σ) : Wp X Post pc L S σ := by
  obtain ⟨p, l, e, R, s, m, args, below, meth, c, dC, dI, ad, cI, cZ, nL, σ0⟩ := X
  intro H locs ls h1 h2 h3 h4
  exact lv_lconst hX.1 hX.2.1 hd hv (k H locs ls h1 h2 h3 h4)
theorem wp_iload_n {n : Fin 4} {x : Int32} (hX : Gd X M) (hd : decode M.2.1 pc = .ok (.iload_n n, 1)) (hl : L[(n : Nat)]? = some (some (.int x))) (k : Wp X Post (pc + 1) L (.int x :: S) σ) : Wp X Post pc L S σ := by
  obtain ⟨p, l, e, R, s, m, args, below, meth, c, dC, dI, ad, cI, cZ, nL, σ0⟩ := X
  intro H locs ls h1 h2 h3 h4
  exact lv_iload_n hX.1 hX.2.1 hd rfl (h4.2.2 _ _ hl) (k H locs ls h1 h2 h3 h4)
theorem wp_iload {i : Nat} {x : Int32} (hX : Gd X M) (hd : decode M.2.1 pc = .ok (.iload i, 2)) (hl : L[i]? = some (some (.int x))) (k : Wp X Post (pc + 2) L (.int x :: S) σ) : Wp X Post pc L S σ := by
  obtain ⟨p, l, e, R, s, m, args, below, meth, c, dC, dI, ad, cI, cZ, nL, σ0⟩ := X
  intro H locs ls h1 h2 h3 h4
  exact lv_iload hX.1 hX.2.1 hd (h4.2.2 _ _ hl) (k H locs ls h1 h2 h3 h4)
theorem wp_lload_n {n : Fin 4} {x : Int64} (hX : Gd X M) (hd : decode M.2.1 pc = .ok (.lload_n n, 1)) (hl : L[(n : Nat)]? = some (some (.long x))) (k : Wp X Post (pc + 1) L (.long x :: S) σ) : Wp X Post pc L S σ := by
  obtain ⟨p, l, e, R, s, m, args, below, meth, c, dC, dI, ad, cI, cZ, nL, σ0⟩ := X
  intro H locs ls h1 h2 h3 h4
  exact lv_lload_n hX.1 hX.2.1 hd rfl (h4.2.2 _ _ hl) (k H locs ls h1 h2 h3 h4)
theorem wp_lload {i : Nat} {x : Int64} (hX : Gd X M) (hd : decode M.2.1 pc = .ok (.lload i, 2)) (hl : L[i]? = some (some (.long x))) (k : Wp X Post (pc + 2) L (.long x :: S) σ) : Wp X Post pc L S σ := by
  obtain ⟨p, l, e, R, s, m, args, below, meth, c, dC, dI, ad, cI, cZ, nL, σ0⟩ := X
  intro H locs ls h1 h2 h3 h4
  exact lv_lload hX.1 hX.2.1 hd (h4.2.2 _ _ hl) (k H locs ls h1 h2 h3 h4)
theorem wp_aload_n {n : Fin 4} {x : Nat} (hX : Gd X M) (hd : decode M.2.1 pc = .ok (.aload_n n, 1)) (hl : L[(n : Nat)]? = some (some (.ref x))) (k : Wp X Post (pc + 1) L (.ref x :: S) σ) : Wp X Post pc L S σ := by
  obtain ⟨p, l, e, R, s, m, args, below, meth, c, dC, dI, ad, cI, cZ, nL, σ0⟩ := X
  intro H locs ls h1 h2 h3 h4
  exact lv_aload_n hX.1 hX.2.1 hd rfl (h4.2.2 _ _ hl) (k H locs ls h1 h2 h3 h4)
theorem wp_aload {i : Nat} {x : Nat} (hX : Gd X M) (hd : decode M.2.1 pc = .ok (.aload i, 2)) (hl : L[i]? = some (some (.ref x))) (k : Wp X Post (pc + 2) L (.ref x :: S) σ) : Wp X Post pc L S σ := by
  obtain ⟨p, l, e, R, s, m, args, below, meth, c, dC, dI, ad, cI, cZ, nL, σ0⟩ := X
  intro H locs ls h1 h2 h3 h4
  exact lv_aload hX.1 hX.2.1 hd (h4.2.2 _ _ hl) (k H locs ls h1 h2 h3 h4)
theorem wp_iadd {x y : Int32} (hX : Gd X M) (hd : decode M.2.1 pc = .ok (.iadd, 1))  (k : Wp X Post (pc + 1) L (.int (x + y) :: S) σ) : Wp X Post pc L (.int y :: .int x :: S) σ := by
  obtain ⟨p, l, e, R, s, m, args, below, meth, c, dC, dI, ad, cI, cZ, nL, σ0⟩ := X
  intro H locs ls h1 h2 h3 h4
  exact lv_iadd hX.1 hX.2.1 hd (k H locs ls h1 h2 h3 h4)
theorem wp_isub {x y : Int32} (hX : Gd X M) (hd : decode M.2.1 pc = .ok (.isub, 1))  (k : Wp X Post (pc + 1) L (.int (x - y) :: S) σ) : Wp X Post pc L (.int y :: .int x :: S) σ := by
  obtain ⟨p, l, e, R, s, m, args, below, meth, c, dC, dI, ad, cI, cZ, nL, σ0⟩ := X
  intro H locs ls h1 h2 h3 h4
  exact lv_isub hX.1 hX.2.1 hd (k H locs ls h1 h2 h3 h4)
theorem wp_imul {x y : Int32} (hX : Gd X M) (hd : decode M.2.1 pc = .ok (.imul, 1))  (k : Wp X Post (pc + 1) L (.int (x * y) :: S) σ) : Wp X Post pc L (.int y :: .int x :: S) σ := by
  obtain ⟨p, l, e, R, s, m, args, below, meth, c, dC, dI, ad, cI, cZ, nL, σ0⟩ := X
  intro H locs ls h1 h2 h3 h4
  exact lv_imul hX.1 hX.2.1 hd (k H locs ls h1 h2 h3 h4)
theorem wp_iand {x y : Int32} (hX : Gd X M) (hd : decode M.2.1 pc = .ok (.iand, 1))  (k : Wp X Post (pc + 1) L (.int (x &&& y) :: S) σ) : Wp X Post pc L (.int y :: .int x :: S) σ := by
  obtain ⟨p, l, e, R, s, m, args, below, meth, c, dC, dI, ad, cI, cZ, nL, σ0⟩ := X
  intro H locs ls h1 h2 h3 h4
  exact lv_iand hX.1 hX.2.1 hd (k H locs ls h1 h2 h3 h4)
theorem wp_idiv {x y : Int32} (hX : Gd X M) (hd : decode M.2.1 pc = .ok (.idiv, 1)) (hne : ¬ y = 0) (k : Wp X Post (pc + 1) L (.int (x / y) :: S) σ) : Wp X Post pc L (.int y :: .int x :: S) σ := by
  obtain ⟨p, l, e, R, s, m, args, below, meth, c, dC, dI, ad, cI, cZ, nL, σ0⟩ := X
  intro H locs ls h1 h2 h3 h4
  exact lv_idiv hX.1 hX.2.1 hd hne (k H locs ls h1 h2 h3 h4)
theorem wp_irem {x y : Int32} (hX : Gd X M) (hd : decode M.2.1 pc = .ok (.irem, 1)) (hne : ¬ y = 0) (k : Wp X Post (pc + 1) L (.int (x - x / y * y) :: S) σ) : Wp X Post pc L (.int y :: .int x :: S) σ := by
  obtain ⟨p, l, e, R, s, m, args, below, meth, c, dC, dI, ad, cI, cZ, nL, σ0⟩ := X
  intro H locs ls h1 h2 h3 h4
  exact lv_irem hX.1 hX.2.1 hd hne (k H locs ls h1 h2 h3 h4)
theorem wp_ladd {x y : Int64} (hX : Gd X M) (hd : decode M.2.1 pc = .ok (.ladd, 1))  (k : Wp X Post (pc + 1) L (.long (x + y) :: S) σ) : Wp X Post pc L (.long y :: .long x :: S) σ := by
  obtain ⟨p, l, e, R, s, m, args, below, meth, c, dC, dI, ad, cI, cZ, nL, σ0⟩ := X
  intro H locs ls h1 h2 h3 h4
  exact lv_ladd hX.1 hX.2.1 hd (k H locs ls h1 h2 h3 h4)
theorem wp_lsub {x y : Int64} (hX : Gd X M) (hd : decode M.2.1 pc = .ok (.lsub, 1))  (k : Wp X Post (pc + 1) L (.long (x - y) :: S) σ) : Wp X Post pc L (.long y :: .long x :: S) σ := by
  obtain ⟨p, l, e, R, s, m, args, below, meth, c, dC, dI, ad, cI, cZ, nL, σ0⟩ := X
  intro H locs ls h1 h2 h3 h4
  exact lv_lsub hX.1 hX.2.1 hd (k H locs ls h1 h2 h3 h4)
theorem wp_lmul {x y : Int64} (hX : Gd X M) (hd : decode M.2.1 pc = .ok (.lmul, 1))  (k : Wp X Post (pc + 1) L (.long (x * y) :: S) σ) : Wp X Post pc L (.long y :: .long x :: S) σ := by
  obtain ⟨p, l, e, R, s, m, args, below, meth, c, dC, dI, ad, cI, cZ, nL, σ0⟩ := X
  intro H locs ls h1 h2 h3 h4
  exact lv_lmul hX.1 hX.2.1 hd (k H locs ls h1 h2 h3 h4)
theorem wp_ldiv {x y : Int64} (hX : Gd X M) (hd : decode M.2.1 pc = .ok (.ldiv, 1)) (hne : ¬ y = 0) (k : Wp X Post (pc + 1) L (.long (x / y) :: S) σ) : Wp X Post pc L (.long y :: .long x :: S) σ := by
  obtain ⟨p, l, e, R, s, m, args, below, meth, c, dC, dI, ad, cI, cZ, nL, σ0⟩ := X
  intro H locs ls h1 h2 h3 h4
  exact lv_ldiv hX.1 hX.2.1 hd hne (k H locs ls h1 h2 h3 h4)
theorem wp_lcmp {x y : Int64} (hX : Gd X M) (hd : decode M.2.1 pc = .ok (.lcmp, 1))  (k : Wp X Post (pc + 1) L (.int (lg_cmp x y) :: S) σ) : Wp X Post pc L (.long y :: .long x :: S) σ := by
  obtain ⟨p, l, e, R, s, m, args, below, meth, c, dC, dI, ad, cI, cZ, nL, σ0⟩ := X
  intro H locs ls h1 h2 h3 h4
  exact W.lcmp hX.1 hX.2.1 hd (k H locs ls h1 h2 h3 h4)
theorem wp_i2l {x : Int32} (hX : Gd X M) (hd : decode M.2.1 pc = .ok (.i2l, 1))  (k : Wp X Post (pc + 1) L (.long x.toInt64 :: S) σ) : Wp X Post pc L (.int x :: S) σ := by
  obtain ⟨p, l, e, R, s, m, args, below, meth, c, dC, dI, ad, cI, cZ, nL, σ0⟩ := X
  intro H locs ls h1 h2 h3 h4
  exact lv_i2l hX.1 hX.2.1 hd rfl (k H locs ls h1 h2 h3 h4)
theorem wp_l2i {x : Int64} (hX : Gd X M) (hd : decode M.2.1 pc = .ok (.l2i, 1))  (k : Wp X Post (pc + 1) L (.int x.toInt32 :: S) σ) : Wp X Post pc L (.long x :: S) σ := by
  obtain ⟨p, l, e, R, s, m, args, below, meth, c, dC, dI, ad, cI, cZ, nL, σ0⟩ := X
  intro H locs ls h1 h2 h3 h4
  exact lv_l2i hX.1 hX.2.1 hd rfl (k H locs ls h1 h2 h3 h4)
theorem wp_dup {v : Value} (hX : Gd X M) (hd : decode M.2.1 pc = .ok (.dup, 1)) (hv : v.category = 1) (k : Wp X Post (pc + 1) L (v :: v :: S) σ) : Wp X Post pc L (v :: S) σ := by
  obtain ⟨p, l, e, R, s, m, args, below, meth, c, dC, dI, ad, cI, cZ, nL, σ0⟩ := X
  intro H locs ls h1 h2 h3 h4
  exact lv_dup hX.1 hX.2.1 hd (by rw [cv_cat]; exact hv) (k H locs ls h1 h2 h3 h4)
theorem wp_pop {v : Value} (hX : Gd X M) (hd : decode M.2.1 pc = .ok (.pop, 1)) (hv : v.category = 1) (k : Wp X Post (pc + 1) L S σ) : Wp X Post pc L (v :: S) σ := by
  obtain ⟨p, l, e, R, s, m, args, below, meth, c, dC, dI, ad, cI, cZ, nL, σ0⟩ := X
  intro H locs ls h1 h2 h3 h4
  exact lv_pop hX.1 hX.2.1 hd (by rw [cv_cat]; exact hv) (k H locs ls h1 h2 h3 h4)
theorem wp_goto {off : Int} {tgt : Nat} (hX : Gd X M) (hd : decode M.2.1 pc = .ok (.goto off, 3)) (ht : (pc : Int) + off = (tgt : Int)) (k : Wp X Post tgt L S σ) : Wp X Post pc L S σ := by
  obtain ⟨p, l, e, R, s, m, args, below, meth, c, dC, dI, ad, cI, cZ, nL, σ0⟩ := X
  intro H locs ls h1 h2 h3 h4
  exact lv_goto hX.1 hX.2.1 hd ht (k H locs ls h1 h2 h3 h4)
theorem wp_istore_n {n : Fin 4} {x : Int32} (hX : Gd X M) (hd : decode M.2.1 pc = .ok (.istore_n n, 1)) (hn : (n : Nat) < M.2.2.1) (hno : noL L (n : Nat) = true) (k : Wp X Post (pc + 1) (L.set (n : Nat) (some (.int x))) S σ) : Wp X Post pc L (.int x :: S) σ := by
  obtain ⟨p, l, e, R, s, m, args, below, meth, c, dC, dI, ad, cI, cZ, nL, σ0⟩ := X
  intro H locs ls h1 h2 h3 h4
  exact lv_istore_n hX.1 hX.2.1 hd rfl (LH_lv h4) (by rw [hX.2.2.2.2.1]; exact hn) rfl (fun ls hl => k H locs ls h1 h2 h3 (LH_st rfl hno hl))
theorem wp_istore {i : Nat} {x : Int32} (hX : Gd X M) (hd : decode M.2.1 pc = .ok (.istore i, 2)) (hn : i < M.2.2.1) (hno : noL L i = true) (k : Wp X Post (pc + 2) (L.set i (some (.int x))) S σ) : Wp X Post pc L (.int x :: S) σ := by
  obtain ⟨p, l, e, R, s, m, args, below, meth, c, dC, dI, ad, cI, cZ, nL, σ0⟩ := X
  intro H locs ls h1 h2 h3 h4
  exact lv_istore hX.1 hX.2.1 hd (LH_lv h4) (by rw [hX.2.2.2.2.1]; exact hn) rfl (fun ls hl => k H locs ls h1 h2 h3 (LH_st rfl hno hl))
theorem wp_astore_n {n : Fin 4} {x : Nat} (hX : Gd X M) (hd : decode M.2.1 pc = .ok (.astore_n n, 1)) (hn : (n : Nat) < M.2.2.1) (hno : noL L (n : Nat) = true) (k : Wp X Post (pc + 1) (L.set (n : Nat) (some (.ref x))) S σ) : Wp X Post pc L (.ref x :: S) σ := by
  obtain ⟨p, l, e, R, s, m, args, below, meth, c, dC, dI, ad, cI, cZ, nL, σ0⟩ := X
  intro H locs ls h1 h2 h3 h4
  exact lv_astore_n hX.1 hX.2.1 hd rfl (LH_lv h4) (by rw [hX.2.2.2.2.1]; exact hn) rfl (fun ls hl => k H locs ls h1 h2 h3 (LH_st rfl hno hl))
theorem wp_astore {i : Nat} {x : Nat} (hX : Gd X M) (hd : decode M.2.1 pc = .ok (.astore i, 2)) (hn : i < M.2.2.1) (hno : noL L i = true) (k : Wp X Post (pc + 2) (L.set i (some (.ref x))) S σ) : Wp X Post pc L (.ref x :: S) σ := by
  obtain ⟨p, l, e, R, s, m, args, below, meth, c, dC, dI, ad, cI, cZ, nL, σ0⟩ := X
  intro H locs ls h1 h2 h3 h4
  exact lv_astore hX.1 hX.2.1 hd (LH_lv h4) (by rw [hX.2.2.2.2.1]; exact hn) rfl (fun ls hl => k H locs ls h1 h2 h3 (LH_st rfl hno hl))
theorem wp_lstore_n {n : Fin 4} {x : Int64} (hX : Gd X M) (hd : decode M.2.1 pc = .ok (.lstore_n n, 1)) (hn : (n : Nat) + 1 < M.2.2.1) (hno : noL L (n : Nat) = true) (k : Wp X Post (pc + 1) ((L.set (n : Nat) (some (.long x))).set ((n : Nat) + 1) none) S σ) : Wp X Post pc L (.long x :: S) σ := by
  obtain ⟨p, l, e, R, s, m, args, below, meth, c, dC, dI, ad, cI, cZ, nL, σ0⟩ := X
  intro H locs ls h1 h2 h3 h4
  exact lv_lstore_n hX.1 hX.2.1 hd rfl (LH_lv h4) (by rw [hX.2.2.2.2.1]; exact hn) rfl (fun ls hl => k H locs ls h1 h2 h3 (LH_st2 hno hl))
theorem wp_lstore {i : Nat} {x : Int64} (hX : Gd X M) (hd : decode M.2.1 pc = .ok (.lstore i, 2)) (hn : i + 1 < M.2.2.1) (hno : noL L i = true) (k : Wp X Post (pc + 2) ((L.set i (some (.long x))).set (i + 1) none) S σ) : Wp X Post pc L (.long x :: S) σ := by
  obtain ⟨p, l, e, R, s, m, args, below, meth, c, dC, dI, ad, cI, cZ, nL, σ0⟩ := X
  intro H locs ls h1 h2 h3 h4
  exact lv_lstore hX.1 hX.2.1 hd (LH_lv h4) (by rw [hX.2.2.2.2.1]; exact hn) rfl (fun ls hl => k H locs ls h1 h2 h3 (LH_st2 hno hl))
theorem wp_iinc {i : Nat} {n : Int} {x d : Int32} (hX : Gd X M) (hd : decode M.2.1 pc = .ok (.iinc i n, 3)) (hv : Int32.ofInt n = d) (hl : L[i]? = some (some (.int x))) (hn : i < M.2.2.1) (hno : noL L i = true) (k : Wp X Post (pc + 3) (L.set i (some (.int (x + d)))) S σ) : Wp X Post pc L S σ := by
  obtain ⟨p, l, e, R, s, m, args, below, meth, c, dC, dI, ad, cI, cZ, nL, σ0⟩ := X
  intro H locs ls h1 h2 h3 h4
  subst hv
  obtain ⟨j, hj⟩ := List.getElem?_of_mem (LH_in (ad := ad) hl)
  exact lv_iinc hX.1 hX.2.1 hd (LH_lv h4) hj rfl (by rw [hX.2.2.2.2.1]; exact hn) rfl (fun ls hl => k H locs ls h1 h2 h3 (LH_st rfl hno hl))
theorem wp_if_eq {x : Int32} {off : Int} {tgt : Nat} (hX : Gd X M) (hd : decode M.2.1 pc = .ok (.ifCond .eq off, 3)) (ht : (pc : Int) + off = (tgt : Int)) (kt : x = 0 → Wp X Post tgt L S σ) (kf : ¬ x = 0 → Wp X Post (pc + 3) L S σ) : Wp X Post pc L (.int x :: S) σ := by
  obtain ⟨p, l, e, R, s, m, args, below, meth, c, dC, dI, ad, cI, cZ, nL, σ0⟩ := X
  intro H locs ls h1 h2 h3 h4
  exact lv_if_eq hX.1 hX.2.1 hd ht (fun q => kt q H locs ls h1 h2 h3 h4) (fun q => kf q H locs ls h1 h2 h3 h4)
theorem wp_icmp_eq {x y : Int32} {off : Int} {tgt : Nat} (hX : Gd X M) (hd : decode M.2.1 pc = .ok (.if_icmp .eq off, 3)) (ht : (pc : Int) + off = (tgt : Int)) (kt : x = y → Wp X Post tgt L S σ) (kf : ¬ x = y → Wp X Post (pc + 3) L S σ) : Wp X Post pc L (.int y :: .int x :: S) σ := by
  obtain ⟨p, l, e, R, s, m, args, below, meth, c, dC, dI, ad, cI, cZ, nL, σ0⟩ := X
  intro H locs ls h1 h2 h3 h4
  exact lv_icmp_eq hX.1 hX.2.1 hd ht (fun q => kt q H locs ls h1 h2 h3 h4) (fun q => kf q H locs ls h1 h2 h3 h4)
theorem wp_if_ne {x : Int32} {off : Int} {tgt : Nat} (hX : Gd X M) (hd : decode M.2.1 pc = .ok (.ifCond .ne off, 3)) (ht : (pc : Int) + off = (tgt : Int)) (kt : ¬ x = 0 → Wp X Post tgt L S σ) (kf : x = 0 → Wp X Post (pc + 3) L S σ) : Wp X Post pc L (.int x :: S) σ := by
  obtain ⟨p, l, e, R, s, m, args, below, meth, c, dC, dI, ad, cI, cZ, nL, σ0⟩ := X
  intro H locs ls h1 h2 h3 h4
  exact lv_if_ne hX.1 hX.2.1 hd ht (fun q => kt q H locs ls h1 h2 h3 h4) (fun q => kf q H locs ls h1 h2 h3 h4)
theorem wp_icmp_ne {x y : Int32} {off : Int} {tgt : Nat} (hX : Gd X M) (hd : decode M.2.1 pc = .ok (.if_icmp .ne off, 3)) (ht : (pc : Int) + off = (tgt : Int)) (kt : ¬ x = y → Wp X Post tgt L S σ) (kf : x = y → Wp X Post (pc + 3) L S σ) : Wp X Post pc L (.int y :: .int x :: S) σ := by
  obtain ⟨p, l, e, R, s, m, args, below, meth, c, dC, dI, ad, cI, cZ, nL, σ0⟩ := X
  intro H locs ls h1 h2 h3 h4
  exact lv_icmp_ne hX.1 hX.2.1 hd ht (fun q => kt q H locs ls h1 h2 h3 h4) (fun q => kf q H locs ls h1 h2 h3 h4)
theorem wp_if_lt {x : Int32} {off : Int} {tgt : Nat} (hX : Gd X M) (hd : decode M.2.1 pc = .ok (.ifCond .lt off, 3)) (ht : (pc : Int) + off = (tgt : Int)) (kt : x < 0 → Wp X Post tgt L S σ) (kf : ¬ x < 0 → Wp X Post (pc + 3) L S σ) : Wp X Post pc L (.int x :: S) σ := by
  obtain ⟨p, l, e, R, s, m, args, below, meth, c, dC, dI, ad, cI, cZ, nL, σ0⟩ := X
  intro H locs ls h1 h2 h3 h4
  exact lv_if_lt hX.1 hX.2.1 hd ht (fun q => kt q H locs ls h1 h2 h3 h4) (fun q => kf q H locs ls h1 h2 h3 h4)
theorem wp_icmp_lt {x y : Int32} {off : Int} {tgt : Nat} (hX : Gd X M) (hd : decode M.2.1 pc = .ok (.if_icmp .lt off, 3)) (ht : (pc : Int) + off = (tgt : Int)) (kt : x < y → Wp X Post tgt L S σ) (kf : ¬ x < y → Wp X Post (pc + 3) L S σ) : Wp X Post pc L (.int y :: .int x :: S) σ := by
  obtain ⟨p, l, e, R, s, m, args, below, meth, c, dC, dI, ad, cI, cZ, nL, σ0⟩ := X
  intro H locs ls h1 h2 h3 h4
  exact lv_icmp_lt hX.1 hX.2.1 hd ht (fun q => kt q H locs ls h1 h2 h3 h4) (fun q => kf q H locs ls h1 h2 h3 h4)
theorem wp_if_ge {x : Int32} {off : Int} {tgt : Nat} (hX : Gd X M) (hd : decode M.2.1 pc = .ok (.ifCond .ge off, 3)) (ht : (pc : Int) + off = (tgt : Int)) (kt : 0 ≤ x → Wp X Post tgt L S σ) (kf : ¬ 0 ≤ x → Wp X Post (pc + 3) L S σ) : Wp X Post pc L (.int x :: S) σ := by
  obtain ⟨p, l, e, R, s, m, args, below, meth, c, dC, dI, ad, cI, cZ, nL, σ0⟩ := X
  intro H locs ls h1 h2 h3 h4
  exact lv_if_ge hX.1 hX.2.1 hd ht (fun q => kt q H locs ls h1 h2 h3 h4) (fun q => kf q H locs ls h1 h2 h3 h4)
theorem wp_icmp_ge {x y : Int32} {off : Int} {tgt : Nat} (hX : Gd X M) (hd : decode M.2.1 pc = .ok (.if_icmp .ge off, 3)) (ht : (pc : Int) + off = (tgt : Int)) (kt : y ≤ x → Wp X Post tgt L S σ) (kf : ¬ y ≤ x → Wp X Post (pc + 3) L S σ) : Wp X Post pc L (.int y :: .int x :: S) σ := by
  obtain ⟨p, l, e, R, s, m, args, below, meth, c, dC, dI, ad, cI, cZ, nL, σ0⟩ := X
  intro H locs ls h1 h2 h3 h4
  exact lv_icmp_ge hX.1 hX.2.1 hd ht (fun q => kt q H locs ls h1 h2 h3 h4) (fun q => kf q H locs ls h1 h2 h3 h4)
theorem wp_if_gt {x : Int32} {off : Int} {tgt : Nat} (hX : Gd X M) (hd : decode M.2.1 pc = .ok (.ifCond .gt off, 3)) (ht : (pc : Int) + off = (tgt : Int)) (kt : 0 < x → Wp X Post tgt L S σ) (kf : ¬ 0 < x → Wp X Post (pc + 3) L S σ) : Wp X Post pc L (.int x :: S) σ := by
  obtain ⟨p, l, e, R, s, m, args, below, meth, c, dC, dI, ad, cI, cZ, nL, σ0⟩ := X
  intro H locs ls h1 h2 h3 h4
  exact lv_if_gt hX.1 hX.2.1 hd ht (fun q => kt q H locs ls h1 h2 h3 h4) (fun q => kf q H locs ls h1 h2 h3 h4)
theorem wp_icmp_gt {x y : Int32} {off : Int} {tgt : Nat} (hX : Gd X M) (hd : decode M.2.1 pc = .ok (.if_icmp .gt off, 3)) (ht : (pc : Int) + off = (tgt : Int)) (kt : y < x → Wp X Post tgt L S σ) (kf : ¬ y < x → Wp X Post (pc + 3) L S σ) : Wp X Post pc L (.int y :: .int x :: S) σ := by
  obtain ⟨p, l, e, R, s, m, args, below, meth, c, dC, dI, ad, cI, cZ, nL, σ0⟩ := X
  intro H locs ls h1 h2 h3 h4
  exact lv_icmp_gt hX.1 hX.2.1 hd ht (fun q => kt q H locs ls h1 h2 h3 h4) (fun q => kf q H locs ls h1 h2 h3 h4)
theorem wp_if_le {x : Int32} {off : Int} {tgt : Nat} (hX : Gd X M) (hd : decode M.2.1 pc = .ok (.ifCond .le off, 3)) (ht : (pc : Int) + off = (tgt : Int)) (kt : x ≤ 0 → Wp X Post tgt L S σ) (kf : ¬ x ≤ 0 → Wp X Post (pc + 3) L S σ) : Wp X Post pc L (.int x :: S) σ := by
  obtain ⟨p, l, e, R, s, m, args, below, meth, c, dC, dI, ad, cI, cZ, nL, σ0⟩ := X
  intro H locs ls h1 h2 h3 h4
  exact lv_if_le hX.1 hX.2.1 hd ht (fun q => kt q H locs ls h1 h2 h3 h4) (fun q => kf q H locs ls h1 h2 h3 h4)
theorem wp_icmp_le {x y : Int32} {off : Int} {tgt : Nat} (hX : Gd X M) (hd : decode M.2.1 pc = .ok (.if_icmp .le off, 3)) (ht : (pc : Int) + off = (tgt : Int)) (kt : x ≤ y → Wp X Post tgt L S σ) (kf : ¬ x ≤ y → Wp X Post (pc + 3) L S σ) : Wp X Post pc L (.int y :: .int x :: S) σ := by
  obtain ⟨p, l, e, R, s, m, args, below, meth, c, dC, dI, ad, cI, cZ, nL, σ0⟩ := X
  intro H locs ls h1 h2 h3 h4
  exact lv_icmp_le hX.1 hX.2.1 hd ht (fun q => kt q H locs ls h1 h2 h3 h4) (fun q => kf q H locs ls h1 h2 h3 h4)
theorem wp_lookup {dflt : Int} {ps : Array (Int × Int)} {len : Nat} {x : Int32} {off : Int} {tgt : Nat} (hX : Gd X M) (hd : decode M.2.1 pc = .ok (.lookupswitch dflt ps, len)) (hp : (ps.toList.zip (ps.toList.drop 1)).all (fun (a, next) => a.1 < next.1) = true) (ho : Op.lookupswitch.offset ps.toList dflt x.toInt = off) (ht : (pc : Int) + off = (tgt : Int)) (k : Wp X Post tgt L S σ) : Wp X Post pc L (.int x :: S) σ := by
  obtain ⟨p, l, e, R, s, m, args, below, meth, c, dC, dI, ad, cI, cZ, nL, σ0⟩ := X
  intro H locs ls h1 h2 h3 h4
  exact lv_lookup hX.1 hX.2.1 hd hp ho ht (k H locs ls h1 h2 h3 h4)
theorem wp_tableOut {dflt lo hi : Int} {offs : Array Int} {len : Nat} {x : Int32} {tgt : Nat} (hX : Gd X M) (hd : decode M.2.1 pc = .ok (.tableswitch dflt lo hi offs, len)) (h : x.toInt < lo ∨ hi < x.toInt) (ht : (pc : Int) + dflt = (tgt : Int)) (k : Wp X Post tgt L S σ) : Wp X Post pc L (.int x :: S) σ := by
  obtain ⟨p, l, e, R, s, m, args, below, meth, c, dC, dI, ad, cI, cZ, nL, σ0⟩ := X
  intro H locs ls h1 h2 h3 h4
  exact lv_tableOut hX.1 hX.2.1 hd h ht (k H locs ls h1 h2 h3 h4)
theorem wp_tableIn {dflt lo hi : Int} {offs : Array Int} {len : Nat} {x : Int32} {off : Int} {tgt : Nat} (hX : Gd X M) (hd : decode M.2.1 pc = .ok (.tableswitch dflt lo hi offs, len)) (g1 : ¬ x.toInt < lo) (g2 : ¬ hi < x.toInt) (ho : offs[(x.toInt - lo).toNat]? = some off) (ht : (pc : Int) + off = (tgt : Int)) (k : Wp X Post tgt L S σ) : Wp X Post pc L (.int x :: S) σ := by
  obtain ⟨p, l, e, R, s, m, args, below, meth, c, dC, dI, ad, cI, cZ, nL, σ0⟩ := X
  intro H locs ls h1 h2 h3 h4
  exact lv_tableIn hX.1 hX.2.1 hd g1 g2 ho ht (k H locs ls h1 h2 h3 h4)
theorem wp_ldc {idx : Nat} {v : Int32} (hX : Gd X M) (hd : decode M.2.1 pc = .ok (.ldc idx, 2)) (hc : Cond.constant M.1.cls idx v ∈ BIG) (k : Wp X Post (pc + 2) L (.int v :: S) σ) : Wp X Post pc L S σ := by
  obtain ⟨p, l, e, R, s, m, args, below, meth, c, dC, dI, ad, cI, cZ, nL, σ0⟩ := X
  intro H locs ls h1 h2 h3 h4
  exact lv_ldc hX.1 hX.2.1 hX.2.2.2.2.2.1 (hX.2.2.2.2.2.2.1 _ (List.mem_cons_of_mem _ hc)) hd (k H locs ls h1 h2 h3 h4)
theorem wp_ldc2 {idx : Nat} {v : Int64} (hX : Gd X M) (hd : decode M.2.1 pc = .ok (.ldc2_w idx, 3)) (hc : Cond.constantLong M.1.cls idx v ∈ BIG) (k : Wp X Post (pc + 3) L (.long v :: S) σ) : Wp X Post pc L S σ := by
  obtain ⟨p, l, e, R, s, m, args, below, meth, c, dC, dI, ad, cI, cZ, nL, σ0⟩ := X
  intro H locs ls h1 h2 h3 h4
  exact lv_ldc2 hX.1 hX.2.1 hX.2.2.2.2.2.1 (hX.2.2.2.2.2.2.1 _ (List.mem_cons_of_mem _ hc)) hd (k H locs ls h1 h2 h3 h4)
theorem wp_ti {x y : Int32} (h : x = y) (k : Wp X Post pc L (.int y :: S) σ) : Wp X Post pc L (.int x :: S) σ := h ▸ k
theorem wp_tl {x y : Int64} (h : x = y) (k : Wp X Post pc L (.long y :: S) σ) : Wp X Post pc L (.long x :: S) σ := h ▸ k
theorem wp_ni {x : Int32} (k : ∀ y : Int32, y = x → Wp X Post pc L (.int y :: S) σ) : Wp X Post pc L (.int x :: S) σ := k x rfl
/-- pool entry idx of class own is field j of class number ci -/
def FL (own : String) (idx ci j : Nat) : Prop := ∃ (C : String) (T : u_T) (N : Nat), vwCl[ci]? = some (C, T, N) ∧ j < N ∧ Cond.fieldLink own idx (T j).1 (T j).2.1 (T j).2.2.1 ∈ BIG ∧ (∀ w ∈ u_ws C T N, w ∈ BIG)
/-- the same, and it may be written: an int or a boolean -/
def FW (own : String) (idx ci j : Nat) (ty : FieldType) : Prop := ∃ (C : String) (T : u_T) (N : Nat) (t0 : Nat → FieldType), vwCl[ci]? = some (C, T, N) ∧ j < N ∧ Cond.fieldLink own idx (T j).1 (T j).2.1 (T j).2.2.1 ∈ BIG ∧ (∀ w ∈ u_ws C T N, w ∈ BIG) ∧ (T j).2.2.2 = false ∧ t0 j = ty ∧ (∀ k, k < N → parseFieldDescriptor (T k).2.2.1 = some (t0 k)) ∧ (∀ a, a < N → ∀ b, b < N → a ≠ b → (T a).2.1 ≠ (T b).2.1)
theorem wp_get {idx ci j q : Nat} {fs : List Value} {v : Value} (hX : Gd X M) (hd : decode M.2.1 pc = .ok (.getfield idx, 3)) (hf : FL M.1.cls idx ci j) (hq : σ[q]? = some (.inr (ci, fs))) (hv : fs[j]? = some v) (k : Wp X Post (pc + 3) L (v :: S) σ) : Wp X Post pc L (.ref q :: S) σ := by
  obtain ⟨p, l, e, R, s, m, args, below, meth, c, dC, dI, ad, cI, cZ, nL, σ0⟩ := X
  intro H locs ls h1 h2 h3 h4
  obtain ⟨C, T, N, f1, f2, f3, f4⟩ := hf
  obtain ⟨g1, g2, g3, g4, g5, g6, g7, g8, g9, g10, g11, g12⟩ := hX
  exact va_get (D := (dC, dI)) (ci := ci) (v := cv ad v) (C := C) (T := T) (N := N) (Ts := mws M) g1 g2 g7 (fun w hw => List.mem_cons_of_mem _ (f4 w hw)) g6 g9 h2 q (cw_at hq) f1 j f2 (g7 _ (List.mem_cons_of_mem _ f3)) (fun _ h9 => h9) (by rw [List.getElem?_map, hv]; rfl) hd (k H locs ls h1 h2 h3 h4)
theorem wp_put {idx ci j q : Nat} {fs : List Value} {v : Int32} {ty : FieldType} (hX : Gd X M) (hd : decode M.2.1 pc = .ok (.putfield idx, 3)) (hf : FW M.1.cls idx ci j ty) (hq : σ[q]? = some (.inr (ci, fs))) (hj : j < fs.length) (hn : narrow ty (.int v) = .int v) (hfit : fits ty (.int v) = true) (k : Wp X Post (pc + 3) L S (σ.set q (.inr (ci, fs.set j (.int v))))) : Wp X Post pc L (.int v :: .ref q :: S) σ := by
  obtain ⟨p, l, e, R, s, m, args, below, meth, c, dC, dI, ad, cI, cZ, nL, σ0⟩ := X
  intro H locs ls h1 h2 h3 h4
  obtain ⟨C, T, N, t0, f1, f2, f3, f4, f5, f6, f7, f8⟩ := hf
  obtain ⟨g1, g2, g3, g4, g5, g6, g7, g8, g9, g10, g11, g12⟩ := hX
  subst f6
  refine va_put (D := (dC, dI)) (ci := ci) (v := .int v) (ty := t0 j) (C := C) (T := T) (N := N) (Ts := mws M) (fs := fs.map (cv ad)) g1 g2 g7 (fun w hw => List.mem_cons_of_mem _ (f4 w hw)) t0 f7 f8 g6 g9 h2 (cw_D h1 g10) h3 q (cw_at hq) f1 j f2 (g7 _ (List.mem_cons_of_mem _ f3)) (fun _ h9 => h9) f5 (f7 j f2) hn hfit (by rw [List.length_map]; exact hj) hd (fun H1 locs1 e1 e2 e3 => ?_)
  have e : (Sum.inr (ci, (fs.map (cv ad)).set j (Value.int v)) : va_E) = ce ad cI cZ (.inr (ci, fs.set j (.int v))) := by
    show _ = Sum.inr (ci, (fs.set j (.int v)).map (cv ad))
    rw [List.map_set]
    rfl
  rw [e, cw_set] at e1
  exact k H1 locs1 ls (by rw [List.length_set]; exact h1) e1 e3 h4
theorem wp_iald {q n : Nat} {f : Nat → Int32} {i : Int32} (hX : Gd X M) (hd : decode M.2.1 pc = .ok (.iaload, 1)) (hq : σ[q]? = some (.inl (false, n, f))) (hi : vp_in i n) (k : Wp X Post (pc + 1) L (.int (f i.toNatClampNeg) :: S) σ) : Wp X Post pc L (.int i :: .ref q :: S) σ := by
  obtain ⟨p, l, e, R, s, m, args, below, meth, c, dC, dI, ad, cI, cZ, nL, σ0⟩ := X
  intro H locs ls h1 h2 h3 h4
  obtain ⟨g1, g2, g3, g4, g5, g6, g7, g8, g9, g10, g11, g12⟩ := hX
  exact va_iald (D := (dC, dI)) g1 g2 g9 h2 q 0 (cw_at hq) rfl hi hd (k H locs ls h1 h2 h3 h4)
theorem wp_zald {q n : Nat} {f : Nat → Int32} {i : Int32} (hX : Gd X M) (hd : decode M.2.1 pc = .ok (.baload, 1)) (hq : σ[q]? = some (.inl (true, n, f))) (hi : vp_in i n) (k : Wp X Post (pc + 1) L (.int (f i.toNatClampNeg) :: S) σ) : Wp X Post pc L (.int i :: .ref q :: S) σ := by
  obtain ⟨p, l, e, R, s, m, args, below, meth, c, dC, dI, ad, cI, cZ, nL, σ0⟩ := X
  intro H locs ls h1 h2 h3 h4
  obtain ⟨g1, g2, g3, g4, g5, g6, g7, g8, g9, g10, g11, g12⟩ := hX
  exact va_zald (D := (dC, dI)) g1 g2 g9 h2 q 1 (cw_at hq) rfl hi hd (k H locs ls h1 h2 h3 h4)
theorem wp_iast {q n : Nat} {f : Nat → Int32} {i x : Int32} (hX : Gd X M) (hd : decode M.2.1 pc = .ok (.iastore, 1)) (hq : σ[q]? = some (.inl (false, n, f))) (hi : vp_in i n) (k : Wp X Post (pc + 1) L S (σ.set q (.inl (false, n, upd f i.toNatClampNeg x)))) : Wp X Post pc L (.int x :: .int i :: .ref q :: S) σ := by
  obtain ⟨p, l, e, R, s, m, args, below, meth, c, dC, dI, ad, cI, cZ, nL, σ0⟩ := X
  intro H locs ls h1 h2 h3 h4
  obtain ⟨g1, g2, g3, g4, g5, g6, g7, g8, g9, g10, g11, g12⟩ := hX
  refine va_iast (D := (dC, dI)) g1 g2 g9 h2 (cw_D h1 g10) h3 q 0 (cw_at hq) rfl hi hd (fun H1 locs1 e1 e2 e3 => ?_)
  have e1 := cw_set (ad := ad) (cI := cI) (cZ := cZ) (σ := σ) (k := q) (c := .inl (false, n, upd f i.toNatClampNeg x)) ▸ e1
  exact k H1 locs1 ls (by rw [List.length_set]; exact h1) e1 e3 h4
theorem wp_zast {q n : Nat} {f : Nat → Int32} {i x : Int32} (hX : Gd X M) (hd : decode M.2.1 pc = .ok (.bastore, 1)) (hq : σ[q]? = some (.inl (true, n, f))) (hi : vp_in i n) (hx : vp_nar .boolean x = x) (k : Wp X Post (pc + 1) L S (σ.set q (.inl (true, n, upd f i.toNatClampNeg x)))) : Wp X Post pc L (.int x :: .int i :: .ref q :: S) σ := by
  obtain ⟨p, l, e, R, s, m, args, below, meth, c, dC, dI, ad, cI, cZ, nL, σ0⟩ := X
  intro H locs ls h1 h2 h3 h4
  obtain ⟨g1, g2, g3, g4, g5, g6, g7, g8, g9, g10, g11, g12⟩ := hX
  refine va_zast (D := (dC, dI)) g1 g2 g9 h2 (cw_D h1 g10) h3 q 1 (cw_at hq) rfl hi hd (fun H1 locs1 e1 e2 e3 => ?_)
  rw [hx] at e1
  have e1 := cw_set (ad := ad) (cI := cI) (cZ := cZ) (σ := σ) (k := q) (c := .inl (true, n, upd f i.toNatClampNeg x)) ▸ e1
  exact k H1 locs1 ls (by rw [List.length_set]; exact h1) e1 e3 h4
theorem wp_alen {q n : Nat} {f : Nat → Int32} (hX : Gd X M) (hd : decode M.2.1 pc = .ok (.arraylength, 1)) (hq : σ[q]? = some (.inl (false, n, f))) (k : Wp X Post (pc + 1) L (.int (nI n) :: S) σ) : Wp X Post pc L (.ref q :: S) σ := by
  obtain ⟨p, l, e, R, s, m, args, below, meth, c, dC, dI, ad, cI, cZ, nL, σ0⟩ := X
  intro H locs ls h1 h2 h3 h4
  obtain ⟨g1, g2, g3, g4, g5, g6, g7, g8, g9, g10, g11, g12⟩ := hX
  exact va_alen (D := (dC, dI)) (ty := .int) g1 g2 g9 h2 q 0 (cw_at hq) rfl rfl hd (k H locs ls h1 h2 h3 h4)
theorem wp_iret {v : Int32} {ty : FieldType} (hX : Gd X M) (hd : decode M.2.1 pc = .ok (.ireturn, 1)) (ht : M.2.2.2.1 = some ty) (hn : narrow ty (.int v) = .int v) (hp : Post (some (.int v)) σ) : Wp X Post pc L [.int v] σ := by
  obtain ⟨p, l, e, R, s, m, args, below, meth, c, dC, dI, ad, cI, cZ, nL, σ0⟩ := X
  intro H locs ls h1 h2 h3 h4
  obtain ⟨g1, g2, g3, g4, g5, g6, g7, g8, g9, g10, g11, g12⟩ := hX
  exact W.zret (v := v) g1 g2 (g3.trans ht) hn (fun t ht hW => ⟨⟨some (.int v), σ, rfl, hp, h1, by rw [ht]; exact h2⟩, h3.F ht⟩) h3.2.2 hd g8
theorem wp_lret {v : Int64} (hX : Gd X M) (hd : decode M.2.1 pc = .ok (.lreturn, 1)) (ht : M.2.2.2.1 = some .long) (hp : Post (some (.long v)) σ) : Wp X Post pc L [.long v] σ := by
  obtain ⟨p, l, e, R, s, m, args, below, meth, c, dC, dI, ad, cI, cZ, nL, σ0⟩ := X
  intro H locs ls h1 h2 h3 h4
  obtain ⟨g1, g2, g3, g4, g5, g6, g7, g8, g9, g10, g11, g12⟩ := hX
  exact W.lret (v := v) g1 g2 (g3.trans ht) (fun t ht hW => ⟨⟨some (.long v), σ, rfl, hp, h1, by rw [ht]; exact h2⟩, h3.F ht⟩) h3.2.2 hd g8
theorem wp_vret (hX : Gd X M) (hd : decode M.2.1 pc = .ok (.return_, 1)) (ht : M.2.2.2.1 = none) (hp : Post none σ) : Wp X Post pc L [] σ := by
  obtain ⟨p, l, e, R, s, m, args, below, meth, c, dC, dI, ad, cI, cZ, nL, σ0⟩ := X
  intro H locs ls h1 h2 h3 h4
  obtain ⟨g1, g2, g3, g4, g5, g6, g7, g8, g9, g10, g11, g12⟩ := hX
  exact W.vret g1 g2 (g3.trans ht) (fun t ht hW => ⟨⟨none, σ, rfl, hp, h1, by rw [ht]; exact h2⟩, h3.F ht⟩) h3.2.2 hd g8
end Rules
