theorem ob_in : Cond.instanceMethod objectInit ∈ BIG := by decide +kernel
theorem ob_co : Cond.code objectInit ⟨#[0xb1]⟩ 1 none ∈ BIG := by decide +kernel
theorem ar_I : Cond.arrayClass .int ∈ BIG := by decide +kernel
theorem ar_Z : Cond.arrayClass .boolean ∈ BIG := by decide +kernel
/-! code that makes cells: cell k lies at z + k -/
def N9 (U : State) : Prop := NW U ∧ va_Nw (.methodLinkNest RX4 9 yX0_init "BlockStore") U
theorem N9.warm {s U : State} (hW : s.WarmedH U.vm) (h : N9 s) : N9 U := ⟨h.1.warm hW, va_Nw.warmM hW h.2⟩
theorem N9.same {s U : State} (hv : s.vm = U.vm) (h : N9 s) : N9 U := ⟨h.1.same hv, va_Nw.same rfl hv h.2⟩
theorem cw_push {ad : Nat → Nat} {cI cZ : ClassId} {σ : aW} {c : aE} : cw ad cI cZ (σ ++ [c]) = cw ad cI cZ σ ++ [(ad σ.length, ce ad cI cZ c)] := by
  unfold cw
  rw [List.zipIdx_append, List.map_append]
  simp
theorem cw_key {ad : Nat → Nat} {cI cZ : ClassId} {σ : aW} {k : Nat} {q : Nat × va_E} (h : (cw ad cI cZ σ)[k]? = some q) : k < σ.length ∧ q.1 = ad k := by
  have hk : k < σ.length := by
    have := (List.getElem?_eq_some_iff.mp h).1
    rw [cw_len] at this
    exact this
  rw [cw_get, List.getElem?_eq_getElem hk] at h
  cases h
  exact ⟨hk, rfl⟩
theorem cw_Dz {ad : Nat → Nat} {cI cZ : ClassId} {σ : aW} {z : Nat} (ha : ∀ k, k < 1000 → ad k = z + k) (hs : σ.length ≤ 1000) : va_D (fun q => z ≤ q) (cw ad cI cZ σ) := by
  refine ⟨fun i j p q hp hq e => ?_, fun k q hq => ?_⟩
  · obtain ⟨h1, h2⟩ := cw_key hp
    obtain ⟨h3, h4⟩ := cw_key hq
    rw [h2, h4, ha i (by omega), ha j (by omega)] at e
    omega
  · obtain ⟨h1, h2⟩ := cw_key hq
    show z ≤ q.1
    rw [h2, ha k (by omega)]
    omega
abbrev CQ : Type := Program × Launch × Env × Room × State × MethodId × Array Value × List Frame × Method × Code × (Nat → ClassId) × (Nat → Nat → Nat) × (Nat → Nat) × ClassId × ClassId × Nat × Nat × (State → Prop)
def Wq (X : CQ) (cs sl pc : Nat) (L : List (Option Value)) (S : List Value) (σ : aW) : Prop := match X with
  | (p, l, e, R, s, m, args, below, meth, c, dC, dI, ad, cI, cZ, nL, z, Q) => ∀ (H : Heap) (locs : List Loc) (ls : Array Slot), va_P (dC, dI) vwCl (cw ad cI cZ σ) H → va_S (fun q => z ≤ q) s.heap H locs → LH ad ls nL L → W p l e R s m args below meth c H locs cs sl Q (F0 m pc ls (S.map (cv ad)))
def Gq (X : CQ) (cc : ByteArray) (own : String) (n : Nat) (rm : Room) (n0 : Nat) : Prop := match X with
  | (p, _, _, R, s, m, args, _, _, c, dC, dI, ad, cI, cZ, nL, z, _) => p.tables.exec = Jvm.exec ∧ c.code = cc ∧ c.maxLocals = nL ∧ nL = n ∧ s.vm.findClass own = some m.cls ∧ (∀ w ∈ BIG, w.before args s = true) ∧ va_K (dC, dI) vwCl (tys2 cI cZ) s ∧ N9 s ∧ R = rm ∧ (∀ k, k < 1000 → ad k = z + k) ∧ s.heap.size = z + n0
def nmI (X : CQ) : Prop := match X with
  | (_, _, _, _, _, _, _, _, meth, _) => meth.name = "<init>"
/-- the script of the law: array number 1000 -/
def SX (X : CQ) (n : Nat) (xs : Nat → Int32) : Prop := match X with
  | (_, _, _, _, s, _, _, _, _, _, _, _, ad, _, _, _, z, _) => va_X (ad 1000) n xs s s.heap ∧ ad 1000 < s.heap.size ∧ ¬ z ≤ ad 1000
def crm (M : MD) (mc ms : Nat) : Room := { frames := M.2.2.2.2.1, cells := mc, slots := ms, locals := M.2.2.2.2.2 }
/-- the contract of a constructor: from the world σ to the world σ' -/
def MC (M : MD) (mc ms : Nat) (av : List Value) (σ σ' : aW) : Prop := ∀ (l : Launch) (dC : Nat → ClassId) (dI : Nat → Nat → Nat) (ad : Nat → Nat) (cI cZ : ClassId) (z : Nat), (∀ k, k < 1000 → ad k = z + k) →
  Met l M.1 (mws M) (crm M mc ms) (va_Pc (av.map (cv ad)) (fun U => U.heap.size = z + σ.length ∧ va_P (dC, dI) vwCl (cw ad cI cZ σ) U.heap ∧ va_K (dC, dI) vwCl (tys2 cI cZ) U ∧ N9 U)) (fun _ st oc t => oc = .returned none ∧ va_P (dC, dI) vwCl (cw ad cI cZ σ') t.heap ∧ va_F (fun q => z ≤ q) st t) mc ms (fun q => z ≤ q)
theorem cPc_blind {dC : Nat → ClassId} {dI : Nat → Nat → Nat} {ad : Nat → Nat} {cI cZ : ClassId} {n : Nat} {av : List Value} {σ : aW} : FrameBlind (va_Pc av (fun U => U.heap.size = n ∧ va_P (dC, dI) vwCl (cw ad cI cZ σ) U.heap ∧ va_K (dC, dI) vwCl (tys2 cI cZ) U ∧ N9 U)) := by
  intro a U g mk q
  obtain ⟨q0, q1, qP, qK, qN⟩ := q
  exact ⟨q0, q1, qP, va_K.moved (u := U) (U := U.calling g mk a) (Vm.Alike.refl U.vm) qK, N9.same (s := U) (U := U.calling g mk a) rfl qN⟩
theorem mc_of {M : MD} {mc ms : Nat} {av : List Value} {σ σ' : aW} (L0 : List (Option Value)) (n0 : Nat) (hn0 : σ.length = n0) (hL : ent av ++ List.replicate (M.2.2.1 - (ent av).length) none = L0) (hn : (ent av).length ≤ M.2.2.1) (hy : plainName M.1.cls = true) (hret : M.2.2.2.1 = none) (hin : M.1.name = "<init>")
    (h : ∀ X, Gq X M.2.1 M.1.cls M.2.2.1 (crm M mc ms) n0 → nmI X → (∀ (pc : Nat) (L : List (Option Value)), decode M.2.1 pc = .ok (.return_, 1) → Wq X mc ms pc L [] σ') → Wq X 0 0 0 L0 [] σ) : MC M mc ms av σ σ' := by
  subst hn0
  intro l dC dI ad cI cZ z ha
  refine Met.ofW (cc := M.2.1) (maxL := M.2.2.1) (ret := M.2.2.2.1) hy rfl ?_
  intro p e s m args below meth c s₁ B hml hv
  obtain ⟨rfl, hsz, hP, hK, hN⟩ := hv
  have hB : ∀ w ∈ mws M, w.before (av.map (cv ad)).toArray s = true := atoms_spec (ws := mws M) B.pre
  have hlk : meth.locks = false := B.notSynchronized
  have hnm : meth.name = "<init>" := (name_of_methodNamed B.named B.method).1.trans hin
  have key := h (p, l, e, crm M mc ms, s, m, (av.map (cv ad)).toArray, below, meth, c, dC, dI, ad, cI, cZ, M.2.2.1, z, MQ below (fun _ st oc t => oc = .returned none ∧ va_P (dC, dI) vwCl (cw ad cI cZ σ') t.heap ∧ va_F (fun q => z ≤ q) st t) (av.map (cv ad)).toArray s mc ms (fun q => z ≤ q))
    ⟨B.exec, B.bytes, hml, rfl, findClass_of_methodNamed B.named, fun w hw => hB w (List.mem_cons_of_mem _ hw), hK, hN, rfl, ha, hsz⟩ hnm (by
      intro pc L hd H locs ls h2 h3 h4
      exact W.vret B.exec B.bytes (B.returns.trans hret) (fun t ht hW => ⟨rfl, by rw [ht]; exact h2, h3.F ht⟩) h3.2.2 hd hlk)
  have hle : (lg_sl (av.map (cv ad))).length ≤ M.2.2.1 := by rw [ent_len]; exact hn
  have hl := lv_entry (av.map (cv ad)) (n := M.2.2.1) hle
  rw [lg_entry_eq]
  refine key s.heap [] _ hP va_S.rf ⟨hl.1, hl.2.1, fun i v hi => ?_⟩
  rw [← hL] at hi
  by_cases hlt : i < (ent av).length
  · rw [List.getElem?_append_left hlt] at hi
    have := hl.2.2 _ (ent_in ad av 0 i v hi)
    rw [Nat.zero_add] at this
    exact this
  · rw [List.getElem?_append_right (by omega)] at hi
    have := List.mem_of_getElem? hi
    have := List.eq_of_mem_replicate this
    cases this
theorem st_up {p : Program} {l : Launch} {e : Env} {R : Room} {s : State} {m : MethodId} {args : Array Value} {below : List Frame} {meth : Method} {c : Code} {T : State} {locs : List Loc} {cs sl : Nat} (X : Stand p l e R s m args below meth c T locs cs sl) : T.heap.size ≤ s.heap.size + cs := X.same.2.2.1
theorem cw_lo {D : va_G} {ad : Nat → Nat} {cI cZ : ClassId} {σ : aW} {z : Nat} {H : Heap} (ha : ∀ k, k < 1000 → ad k = z + k) (hs : σ.length ≤ 1000) (h : va_P D vwCl (cw ad cI cZ σ) H) (hz : z ≤ H.size) : z + σ.length ≤ H.size := by
  rcases Nat.eq_zero_or_pos σ.length with e | e
  · omega
  · have hk : σ.length - 1 < σ.length := by omega
    have h1 := (h _ _ (cw_at (List.getElem?_eq_getElem hk))).lt
    have h2 : ad (σ.length - 1) < H.size := h1
    rw [ha _ (by omega)] at h2
    omega
/-- where a new cell lies -/
theorem cw_new {D : va_G} {ad : Nat → Nat} {cI cZ : ClassId} {σ : aW} {z q n : Nat} {E : va_E} {H1 : Heap} (ha : ∀ k, k < 1000 → ad k = z + k) (hs : σ.length < 1000) (hP : va_P D vwCl (cw ad cI cZ σ ++ [(q, E)]) H1) (hD : va_D (fun q => z ≤ q) (cw ad cI cZ σ ++ [(q, E)])) (hup : H1.size ≤ z + σ.length + 1) : q = z + σ.length := by
  have e0 : (cw ad cI cZ σ ++ [(q, E)])[σ.length]? = some (q, E) := by
    rw [List.getElem?_append_right (by rw [cw_len]; exact Nat.le_refl _), cw_len, Nat.sub_self]
    rfl
  have h1 : q < H1.size := (hP _ _ e0).lt
  have h2 : z ≤ q := hD.2 _ _ e0
  rcases Nat.lt_or_ge q (z + σ.length) with h3 | h3
  · have hk : q - z < σ.length := by omega
    have e1 : (cw ad cI cZ σ ++ [(q, E)])[q - z]? = some (ad (q - z), ce ad cI cZ σ[q - z]) := by
      rw [List.getElem?_append_left (by rw [cw_len]; exact hk)]
      exact cw_at (List.getElem?_eq_getElem hk)
    have := hD.1 _ _ _ _ e1 e0 (by show ad (q - z) = q; rw [ha _ (by omega)]; omega)
    omega
  · omega
section Rules
variable {X : CQ} {cs sl : Nat} {cc : ByteArray} {own : String} {nl nb : Nat} {rm : Room} {pc : Nat} {L : List (Option Value)} {S : List Value} {σ : aW}
theorem wq_iconst {n : Int} {v : Int32} (hX : Gq X cc own nl rm nb) (hd : decode cc pc = .ok (.iconst n, 1)) (hv : Int32.ofInt n = v) (k : Wq X cs sl (pc + 1) L (.int v :: S) σ) : Wq X cs sl pc L S σ := by
  obtain ⟨p, l, e, R, s, m, args, below, meth, c, dC, dI, ad, cI, cZ, nL, z, Q⟩ := X
  intro H locs ls h2 h3 h4
  obtain ⟨g1, g2, g3, g4, g5, g6, g7, g8, g9, g10, g11⟩ := hX
  exact lv_iconst g1 g2 hd hv (k H locs ls h2 h3 h4)
theorem wq_bipush {n : Int} {v : Int32} (hX : Gq X cc own nl rm nb) (hd : decode cc pc = .ok (.bipush n, 2)) (hv : (Int8.ofInt n).toInt32 = v) (k : Wq X cs sl (pc + 2) L (.int v :: S) σ) : Wq X cs sl pc L S σ := by
  obtain ⟨p, l, e, R, s, m, args, below, meth, c, dC, dI, ad, cI, cZ, nL, z, Q⟩ := X
  intro H locs ls h2 h3 h4
  obtain ⟨g1, g2, g3, g4, g5, g6, g7, g8, g9, g10, g11⟩ := hX
  exact lv_bipush g1 g2 hd hv (k H locs ls h2 h3 h4)
theorem wq_sipush {n : Int} {v : Int32} (hX : Gq X cc own nl rm nb) (hd : decode cc pc = .ok (.sipush n, 3)) (hv : (Int16.ofInt n).toInt32 = v) (k : Wq X cs sl (pc + 3) L (.int v :: S) σ) : Wq X cs sl pc L S σ := by
  obtain ⟨p, l, e, R, s, m, args, below, meth, c, dC, dI, ad, cI, cZ, nL, z, Q⟩ := X
  intro H locs ls h2 h3 h4
  obtain ⟨g1, g2, g3, g4, g5, g6, g7, g8, g9, g10, g11⟩ := hX
  exact lv_sipush g1 g2 hd hv (k H locs ls h2 h3 h4)
theorem wq_iload_n {n : Fin 4} {x : Int32} (hX : Gq X cc own nl rm nb) (hd : decode cc pc = .ok (.iload_n n, 1)) (hl : L[(n : Nat)]? = some (some (.int x))) (k : Wq X cs sl (pc + 1) L (.int x :: S) σ) : Wq X cs sl pc L S σ := by
  obtain ⟨p, l, e, R, s, m, args, below, meth, c, dC, dI, ad, cI, cZ, nL, z, Q⟩ := X
  intro H locs ls h2 h3 h4
  obtain ⟨g1, g2, g3, g4, g5, g6, g7, g8, g9, g10, g11⟩ := hX
  exact lv_iload_n g1 g2 hd rfl (h4.2.2 _ _ hl) (k H locs ls h2 h3 h4)
theorem wq_aload_n {n : Fin 4} {x : Nat} (hX : Gq X cc own nl rm nb) (hd : decode cc pc = .ok (.aload_n n, 1)) (hl : L[(n : Nat)]? = some (some (.ref x))) (k : Wq X cs sl (pc + 1) L (.ref x :: S) σ) : Wq X cs sl pc L S σ := by
  obtain ⟨p, l, e, R, s, m, args, below, meth, c, dC, dI, ad, cI, cZ, nL, z, Q⟩ := X
  intro H locs ls h2 h3 h4
  obtain ⟨g1, g2, g3, g4, g5, g6, g7, g8, g9, g10, g11⟩ := hX
  exact lv_aload_n g1 g2 hd rfl (h4.2.2 _ _ hl) (k H locs ls h2 h3 h4)
theorem wq_iadd {x y : Int32} (hX : Gq X cc own nl rm nb) (hd : decode cc pc = .ok (.iadd, 1))  (k : Wq X cs sl (pc + 1) L (.int (x + y) :: S) σ) : Wq X cs sl pc L (.int y :: .int x :: S) σ := by
  obtain ⟨p, l, e, R, s, m, args, below, meth, c, dC, dI, ad, cI, cZ, nL, z, Q⟩ := X
  intro H locs ls h2 h3 h4
  obtain ⟨g1, g2, g3, g4, g5, g6, g7, g8, g9, g10, g11⟩ := hX
  exact lv_iadd g1 g2 hd (k H locs ls h2 h3 h4)
theorem wq_isub {x y : Int32} (hX : Gq X cc own nl rm nb) (hd : decode cc pc = .ok (.isub, 1))  (k : Wq X cs sl (pc + 1) L (.int (x - y) :: S) σ) : Wq X cs sl pc L (.int y :: .int x :: S) σ := by
  obtain ⟨p, l, e, R, s, m, args, below, meth, c, dC, dI, ad, cI, cZ, nL, z, Q⟩ := X
  intro H locs ls h2 h3 h4
  obtain ⟨g1, g2, g3, g4, g5, g6, g7, g8, g9, g10, g11⟩ := hX
  exact lv_isub g1 g2 hd (k H locs ls h2 h3 h4)
theorem wq_iand {x y : Int32} (hX : Gq X cc own nl rm nb) (hd : decode cc pc = .ok (.iand, 1))  (k : Wq X cs sl (pc + 1) L (.int (x &&& y) :: S) σ) : Wq X cs sl pc L (.int y :: .int x :: S) σ := by
  obtain ⟨p, l, e, R, s, m, args, below, meth, c, dC, dI, ad, cI, cZ, nL, z, Q⟩ := X
  intro H locs ls h2 h3 h4
  obtain ⟨g1, g2, g3, g4, g5, g6, g7, g8, g9, g10, g11⟩ := hX
  exact lv_iand g1 g2 hd (k H locs ls h2 h3 h4)
theorem wq_lcmp {x y : Int64} (hX : Gq X cc own nl rm nb) (hd : decode cc pc = .ok (.lcmp, 1))  (k : Wq X cs sl (pc + 1) L (.int (lg_cmp x y) :: S) σ) : Wq X cs sl pc L (.long y :: .long x :: S) σ := by
  obtain ⟨p, l, e, R, s, m, args, below, meth, c, dC, dI, ad, cI, cZ, nL, z, Q⟩ := X
  intro H locs ls h2 h3 h4
  obtain ⟨g1, g2, g3, g4, g5, g6, g7, g8, g9, g10, g11⟩ := hX
  exact W.lcmp g1 g2 hd (k H locs ls h2 h3 h4)
theorem wq_dup {v : Value} (hX : Gq X cc own nl rm nb) (hd : decode cc pc = .ok (.dup, 1)) (hv : v.category = 1) (k : Wq X cs sl (pc + 1) L (v :: v :: S) σ) : Wq X cs sl pc L (v :: S) σ := by
  obtain ⟨p, l, e, R, s, m, args, below, meth, c, dC, dI, ad, cI, cZ, nL, z, Q⟩ := X
  intro H locs ls h2 h3 h4
  obtain ⟨g1, g2, g3, g4, g5, g6, g7, g8, g9, g10, g11⟩ := hX
  exact lv_dup g1 g2 hd (by rw [cv_cat]; exact hv) (k H locs ls h2 h3 h4)
theorem wq_goto {off : Int} {tgt : Nat} (hX : Gq X cc own nl rm nb) (hd : decode cc pc = .ok (.goto off, 3)) (ht : (pc : Int) + off = (tgt : Int)) (k : Wq X cs sl tgt L S σ) : Wq X cs sl pc L S σ := by
  obtain ⟨p, l, e, R, s, m, args, below, meth, c, dC, dI, ad, cI, cZ, nL, z, Q⟩ := X
  intro H locs ls h2 h3 h4
  obtain ⟨g1, g2, g3, g4, g5, g6, g7, g8, g9, g10, g11⟩ := hX
  exact lv_goto g1 g2 hd ht (k H locs ls h2 h3 h4)
theorem wq_istore_n {n : Fin 4} {x : Int32} (hX : Gq X cc own nl rm nb) (hd : decode cc pc = .ok (.istore_n n, 1)) (hn : (n : Nat) < nl) (hno : noL L (n : Nat) = true) (k : Wq X cs sl (pc + 1) (L.set (n : Nat) (some (.int x))) S σ) : Wq X cs sl pc L (.int x :: S) σ := by
  obtain ⟨p, l, e, R, s, m, args, below, meth, c, dC, dI, ad, cI, cZ, nL, z, Q⟩ := X
  intro H locs ls h2 h3 h4
  obtain ⟨g1, g2, g3, g4, g5, g6, g7, g8, g9, g10, g11⟩ := hX
  exact lv_istore_n g1 g2 hd rfl (LH_lv h4) (by rw [g4]; exact hn) rfl (fun ls hl => k H locs ls h2 h3 (LH_st rfl hno hl))
theorem wq_astore_n {n : Fin 4} {x : Nat} (hX : Gq X cc own nl rm nb) (hd : decode cc pc = .ok (.astore_n n, 1)) (hn : (n : Nat) < nl) (hno : noL L (n : Nat) = true) (k : Wq X cs sl (pc + 1) (L.set (n : Nat) (some (.ref x))) S σ) : Wq X cs sl pc L (.ref x :: S) σ := by
  obtain ⟨p, l, e, R, s, m, args, below, meth, c, dC, dI, ad, cI, cZ, nL, z, Q⟩ := X
  intro H locs ls h2 h3 h4
  obtain ⟨g1, g2, g3, g4, g5, g6, g7, g8, g9, g10, g11⟩ := hX
  exact lv_astore_n g1 g2 hd rfl (LH_lv h4) (by rw [g4]; exact hn) rfl (fun ls hl => k H locs ls h2 h3 (LH_st rfl hno hl))
theorem wq_iinc {i : Nat} {n : Int} {x d : Int32} (hX : Gq X cc own nl rm nb) (hd : decode cc pc = .ok (.iinc i n, 3)) (hv : Int32.ofInt n = d) (hl : L[i]? = some (some (.int x))) (hn : i < nl) (hno : noL L i = true) (k : Wq X cs sl (pc + 3) (L.set i (some (.int (x + d)))) S σ) : Wq X cs sl pc L S σ := by
  obtain ⟨p, l, e, R, s, m, args, below, meth, c, dC, dI, ad, cI, cZ, nL, z, Q⟩ := X
  intro H locs ls h2 h3 h4
  obtain ⟨g1, g2, g3, g4, g5, g6, g7, g8, g9, g10, g11⟩ := hX
  subst hv
  obtain ⟨j, hj⟩ := List.getElem?_of_mem (LH_in (ad := ad) hl)
  exact lv_iinc g1 g2 hd (LH_lv h4) hj rfl (by rw [g4]; exact hn) rfl (fun ls hl => k H locs ls h2 h3 (LH_st rfl hno hl))
theorem wq_if_eq {x : Int32} {off : Int} {tgt : Nat} (hX : Gq X cc own nl rm nb) (hd : decode cc pc = .ok (.ifCond .eq off, 3)) (ht : (pc : Int) + off = (tgt : Int)) (kt : x = 0 → Wq X cs sl tgt L S σ) (kf : ¬ x = 0 → Wq X cs sl (pc + 3) L S σ) : Wq X cs sl pc L (.int x :: S) σ := by
  obtain ⟨p, l, e, R, s, m, args, below, meth, c, dC, dI, ad, cI, cZ, nL, z, Q⟩ := X
  intro H locs ls h2 h3 h4
  obtain ⟨g1, g2, g3, g4, g5, g6, g7, g8, g9, g10, g11⟩ := hX
  exact lv_if_eq g1 g2 hd ht (fun q => kt q H locs ls h2 h3 h4) (fun q => kf q H locs ls h2 h3 h4)
theorem wq_icmp_eq {x y : Int32} {off : Int} {tgt : Nat} (hX : Gq X cc own nl rm nb) (hd : decode cc pc = .ok (.if_icmp .eq off, 3)) (ht : (pc : Int) + off = (tgt : Int)) (kt : x = y → Wq X cs sl tgt L S σ) (kf : ¬ x = y → Wq X cs sl (pc + 3) L S σ) : Wq X cs sl pc L (.int y :: .int x :: S) σ := by
  obtain ⟨p, l, e, R, s, m, args, below, meth, c, dC, dI, ad, cI, cZ, nL, z, Q⟩ := X
  intro H locs ls h2 h3 h4
  obtain ⟨g1, g2, g3, g4, g5, g6, g7, g8, g9, g10, g11⟩ := hX
  exact lv_icmp_eq g1 g2 hd ht (fun q => kt q H locs ls h2 h3 h4) (fun q => kf q H locs ls h2 h3 h4)
theorem wq_if_gt {x : Int32} {off : Int} {tgt : Nat} (hX : Gq X cc own nl rm nb) (hd : decode cc pc = .ok (.ifCond .gt off, 3)) (ht : (pc : Int) + off = (tgt : Int)) (kt : 0 < x → Wq X cs sl tgt L S σ) (kf : ¬ 0 < x → Wq X cs sl (pc + 3) L S σ) : Wq X cs sl pc L (.int x :: S) σ := by
  obtain ⟨p, l, e, R, s, m, args, below, meth, c, dC, dI, ad, cI, cZ, nL, z, Q⟩ := X
  intro H locs ls h2 h3 h4
  obtain ⟨g1, g2, g3, g4, g5, g6, g7, g8, g9, g10, g11⟩ := hX
  exact lv_if_gt g1 g2 hd ht (fun q => kt q H locs ls h2 h3 h4) (fun q => kf q H locs ls h2 h3 h4)
theorem wq_icmp_gt {x y : Int32} {off : Int} {tgt : Nat} (hX : Gq X cc own nl rm nb) (hd : decode cc pc = .ok (.if_icmp .gt off, 3)) (ht : (pc : Int) + off = (tgt : Int)) (kt : y < x → Wq X cs sl tgt L S σ) (kf : ¬ y < x → Wq X cs sl (pc + 3) L S σ) : Wq X cs sl pc L (.int y :: .int x :: S) σ := by
  obtain ⟨p, l, e, R, s, m, args, below, meth, c, dC, dI, ad, cI, cZ, nL, z, Q⟩ := X
  intro H locs ls h2 h3 h4
  obtain ⟨g1, g2, g3, g4, g5, g6, g7, g8, g9, g10, g11⟩ := hX
  exact lv_icmp_gt g1 g2 hd ht (fun q => kt q H locs ls h2 h3 h4) (fun q => kf q H locs ls h2 h3 h4)
theorem wq_tableOut {dflt lo hi : Int} {offs : Array Int} {len : Nat} {x : Int32} {tgt : Nat} (hX : Gq X cc own nl rm nb) (hd : decode cc pc = .ok (.tableswitch dflt lo hi offs, len)) (h : x.toInt < lo ∨ hi < x.toInt) (ht : (pc : Int) + dflt = (tgt : Int)) (k : Wq X cs sl tgt L S σ) : Wq X cs sl pc L (.int x :: S) σ := by
  obtain ⟨p, l, e, R, s, m, args, below, meth, c, dC, dI, ad, cI, cZ, nL, z, Q⟩ := X
  intro H locs ls h2 h3 h4
  obtain ⟨g1, g2, g3, g4, g5, g6, g7, g8, g9, g10, g11⟩ := hX
  exact lv_tableOut g1 g2 hd h ht (k H locs ls h2 h3 h4)
theorem wq_tableIn {dflt lo hi : Int} {offs : Array Int} {len : Nat} {x : Int32} {off : Int} {tgt : Nat} (hX : Gq X cc own nl rm nb) (hd : decode cc pc = .ok (.tableswitch dflt lo hi offs, len)) (c1 : ¬ x.toInt < lo) (c2 : ¬ hi < x.toInt) (ho : offs[(x.toInt - lo).toNat]? = some off) (ht : (pc : Int) + off = (tgt : Int)) (k : Wq X cs sl tgt L S σ) : Wq X cs sl pc L (.int x :: S) σ := by
  obtain ⟨p, l, e, R, s, m, args, below, meth, c, dC, dI, ad, cI, cZ, nL, z, Q⟩ := X
  intro H locs ls h2 h3 h4
  obtain ⟨g1, g2, g3, g4, g5, g6, g7, g8, g9, g10, g11⟩ := hX
  exact lv_tableIn g1 g2 hd c1 c2 ho ht (k H locs ls h2 h3 h4)
theorem wq_ldc {idx : Nat} {v : Int32} (hX : Gq X cc own nl rm nb) (hd : decode cc pc = .ok (.ldc idx, 2)) (hc : Cond.constant own idx v ∈ BIG) (k : Wq X cs sl (pc + 2) L (.int v :: S) σ) : Wq X cs sl pc L S σ := by
  obtain ⟨p, l, e, R, s, m, args, below, meth, c, dC, dI, ad, cI, cZ, nL, z, Q⟩ := X
  intro H locs ls h2 h3 h4
  obtain ⟨g1, g2, g3, g4, g5, g6, g7, g8, g9, g10, g11⟩ := hX
  exact lv_ldc g1 g2 g5 (g6 _ hc) hd (k H locs ls h2 h3 h4)
theorem wq_ti {x y : Int32} (h : x = y) (k : Wq X cs sl pc L (.int y :: S) σ) : Wq X cs sl pc L (.int x :: S) σ := h ▸ k
theorem wq_eqW {σ1 : aW} (h : σ = σ1) (k : Wq X cs sl pc L S σ1) : Wq X cs sl pc L S σ := h ▸ k
theorem wq_widen {cs1 sl1 : Nat} (h1 : cs ≤ cs1) (h2 : sl ≤ sl1) (k : Wq X cs1 sl1 pc L S σ) : Wq X cs sl pc L S σ := by
  obtain ⟨p, l, e, R, s, m, args, below, meth, c, dC, dI, ad, cI, cZ, nL, z, Q⟩ := X
  intro H locs ls a2 a3 a4
  exact W.widen h1 h2 (k H locs ls a2 a3 a4)
/-- pool entry idx of class own is the class number ci, whose new object has the fields fs -/
def NK (own : String) (idx ci : Nat) (fs : List Value) : Prop := ∃ (C : String) (T : u_T) (N : Nat) (ty : Nat → FieldType), vwCl[ci]? = some (C, T, N) ∧ fs.length = N ∧ Cond.classLink own idx C ∈ BIG ∧ Cond.instantiable C N ∈ BIG ∧ Cond.initialized C ∈ BIG ∧ (∀ w ∈ u_ws C T N, w ∈ BIG) ∧ (∀ k, k < N → parseFieldDescriptor (T k).2.2.1 = some (ty k)) ∧ (∀ j, j < N → defaultValue (ty j) = vp_V fs j) ∧ (∀ ad, fs.map (cv ad) = fs)
theorem wq_new {idx ci n0 : Nat} {fs : List Value} (hX : Gq X cc own nl rm nb) (hd : decode cc pc = .ok (.new idx, 3)) (hk : NK own idx ci fs) (hs : σ.length = n0) (hlt : n0 < 1000) (hnb : nb + cs = n0) (hc : cs + 1 ≤ rm.cells) (hsl : sl + fs.length ≤ rm.slots) (k : Wq X (cs + 1) (sl + fs.length) (pc + 3) L (.ref n0 :: S) (σ ++ [.inr (ci, fs)])) : Wq X cs sl pc L S σ := by
  obtain ⟨p, l, e, R, s, m, args, below, meth, c, dC, dI, ad, cI, cZ, nL, z, Q⟩ := X
  intro H locs ls h2 h3 h4
  obtain ⟨g1, g2, g3, g4, g5, g6, g7, g8, g9, g10, g11⟩ := hX
  subst hs
  subst g9
  obtain ⟨C, T, N, ty, k1, k2, k3, k4, k5, k6, k7, k8, k9⟩ := hk
  subst k2
  refine va_new (D := (dC, dI)) (A := fun q => z ≤ q) (ci := ci) (fs := fs) (C := C) (T := T) (N := fs.length) (Ts := BIG) g1 g2 g6 k6 ty k7 g5 (g6 _ k3) (g6 _ k4) (g6 _ k5) g7 h2 (cw_Dz g10 (by omega)) h3 (fun q hq => by show z ≤ q; omega) k1 k8 hc hsl hd (fun q H1 hP1 hD1 hS1 => ?_)
  intro T1 hT XX
  have hup := st_up XX
  rw [hT] at hup
  have hq := cw_new (n := 0) g10 hlt hP1 hD1 (by omega)
  have e9 : ce ad cI cZ (.inr (ci, fs)) = .inr (ci, fs) := by show Sum.inr (ci, fs.map (cv ad)) = _; rw [k9]
  have e7 : ad σ.length = q := by rw [g10 _ hlt, hq]
  have K := k H1 locs ls (by rw [cw_push, e9, e7]; exact hP1) hS1 h4
  have e8 : (Value.ref σ.length :: S).map (cv ad) = .ref q :: S.map (cv ad) := by rw [← e7]; rfl
  rw [e8] at K
  exact K T1 hT XX
theorem wq_newI {n : Int32} {N n0 : Nat} (hX : Gq X cc own nl rm nb) (hd : decode cc pc = .ok (.newarray .int, 2)) (hw : Cond.arrayClass .int ∈ BIG) (hn : ¬ n < 0) (hN : n.toNatClampNeg = N) (hb : N * componentBytes .int ≤ 536870912) (hs : σ.length = n0) (hlt : n0 < 1000) (hnb : nb + cs = n0) (hc : cs + 1 ≤ rm.cells) (hsl : sl + N ≤ rm.slots) (k : Wq X (cs + 1) (sl + N) (pc + 2) L (.ref n0 :: S) (σ ++ [.inl (false, N, fun _ => 0)])) : Wq X cs sl pc L (.int n :: S) σ := by
  obtain ⟨p, l, e, R, s, m, args, below, meth, c, dC, dI, ad, cI, cZ, nL, z, Q⟩ := X
  intro H locs ls h2 h3 h4
  obtain ⟨g1, g2, g3, g4, g5, g6, g7, g8, g9, g10, g11⟩ := hX
  subst hs
  subst g9
  refine va_newa (D := (dC, dI)) (A := fun q => z ≤ q) (atype := .int) (ty := .int) (a0 := (N, .inl (fun _ => 0))) g1 g2 (g6 _ hw) rfl g7 h2 (cw_Dz g10 (by omega)) h3 (fun q hq => by show z ≤ q; omega) (fun cA => rfl) hn hN hb hc hsl hd (fun q cA H1 hK1 hP1 hD1 hS1 => ?_)
  have hcA : cA = cI := by
    have h8 : s.vm.findClass ("[" ++ (.int : FieldType).toString) = some cA := (hK1.2 2 _ rfl).2
    have h9 : s.vm.findClass ("[" ++ (.int : FieldType).toString) = some cI := (g7.2 0 _ rfl).2
    exact Option.some.inj (h8.symm.trans h9)
  intro T1 hT XX
  have hup := st_up XX
  rw [hT] at hup
  have hq := cw_new (n := 0) g10 hlt hP1 hD1 (by omega)
  have e7 : ad σ.length = q := by rw [g10 _ hlt, hq]
  have K := k H1 locs ls (by rw [cw_push, e7]; rw [hcA] at hP1; exact hP1) hS1 h4
  have e8 : (Value.ref σ.length :: S).map (cv ad) = .ref q :: S.map (cv ad) := by rw [← e7]; rfl
  rw [e8] at K
  exact K T1 hT XX
theorem wq_newZ {n : Int32} {N n0 : Nat} (hX : Gq X cc own nl rm nb) (hd : decode cc pc = .ok (.newarray .boolean, 2)) (hw : Cond.arrayClass .boolean ∈ BIG) (hn : ¬ n < 0) (hN : n.toNatClampNeg = N) (hb : N * componentBytes .boolean ≤ 536870912) (hs : σ.length = n0) (hlt : n0 < 1000) (hnb : nb + cs = n0) (hc : cs + 1 ≤ rm.cells) (hsl : sl + N ≤ rm.slots) (k : Wq X (cs + 1) (sl + N) (pc + 2) L (.ref n0 :: S) (σ ++ [.inl (true, N, fun _ => 0)])) : Wq X cs sl pc L (.int n :: S) σ := by
  obtain ⟨p, l, e, R, s, m, args, below, meth, c, dC, dI, ad, cI, cZ, nL, z, Q⟩ := X
  intro H locs ls h2 h3 h4
  obtain ⟨g1, g2, g3, g4, g5, g6, g7, g8, g9, g10, g11⟩ := hX
  subst hs
  subst g9
  refine va_newa (D := (dC, dI)) (A := fun q => z ≤ q) (atype := .boolean) (ty := .boolean) (a0 := (N, .inl (fun _ => 0))) g1 g2 (g6 _ hw) rfl g7 h2 (cw_Dz g10 (by omega)) h3 (fun q hq => by show z ≤ q; omega) (fun cA => rfl) hn hN hb hc hsl hd (fun q cA H1 hK1 hP1 hD1 hS1 => ?_)
  have hcA : cA = cZ := by
    have h8 : s.vm.findClass ("[" ++ (.boolean : FieldType).toString) = some cA := (hK1.2 2 _ rfl).2
    have h9 : s.vm.findClass ("[" ++ (.boolean : FieldType).toString) = some cZ := (g7.2 1 _ rfl).2
    exact Option.some.inj (h8.symm.trans h9)
  intro T1 hT XX
  have hup := st_up XX
  rw [hT] at hup
  have hq := cw_new (n := 0) g10 hlt hP1 hD1 (by omega)
  have e7 : ad σ.length = q := by rw [g10 _ hlt, hq]
  have K := k H1 locs ls (by rw [cw_push, e7]; rw [hcA] at hP1; exact hP1) hS1 h4
  have e8 : (Value.ref σ.length :: S).map (cv ad) = .ref q :: S.map (cv ad) := by rw [← e7]; rfl
  rw [e8] at K
  exact K T1 hT XX
/-- pool entry idx of class own is its final field j; class number ci -/
def FX (own : String) (idx ci j : Nat) (ty : FieldType) : Prop := ∃ (C : String) (T : u_T) (N : Nat) (t0 : Nat → FieldType), vwCl[ci]? = some (C, T, N) ∧ j < N ∧ Cond.fieldLink own idx (T j).1 (T j).2.1 (T j).2.2.1 ∈ BIG ∧ (∀ w ∈ u_ws C T N, w ∈ BIG) ∧ (T j).2.2.2 = true ∧ t0 j = ty ∧ (∀ k, k < N → parseFieldDescriptor (T k).2.2.1 = some (t0 k)) ∧ (∀ a, a < N → ∀ b, b < N → a ≠ b → (T a).2.1 ≠ (T b).2.1) ∧ (T j).1 = own
theorem wq_get {idx ci j q : Nat} {fs : List Value} {v : Value} (hX : Gq X cc own nl rm nb) (hd : decode cc pc = .ok (.getfield idx, 3)) (hf : FL own idx ci j) (hq : σ[q]? = some (.inr (ci, fs))) (hv : fs[j]? = some v) (k : Wq X cs sl (pc + 3) L (v :: S) σ) : Wq X cs sl pc L (.ref q :: S) σ := by
  obtain ⟨p, l, e, R, s, m, args, below, meth, c, dC, dI, ad, cI, cZ, nL, z, Q⟩ := X
  intro H locs ls h2 h3 h4
  obtain ⟨g1, g2, g3, g4, g5, g6, g7, g8, g9, g10, g11⟩ := hX
  obtain ⟨C, T, N, f1, f2, f3, f4⟩ := hf
  exact va_get (D := (dC, dI)) (ci := ci) (v := cv ad v) (C := C) (T := T) (N := N) (Ts := BIG) g1 g2 g6 f4 g5 g7 h2 q (cw_at hq) f1 j f2 (g6 _ f3) (fun _ h9 => h9) (by rw [List.getElem?_map, hv]; rfl) hd (k H locs ls h2 h3 h4)
theorem wq_put {idx ci j q : Nat} {fs : List Value} {v : Int32} {ty : FieldType} (hX : Gq X cc own nl rm nb) (hd : decode cc pc = .ok (.putfield idx, 3)) (hf : FW own idx ci j ty) (hq : σ[q]? = some (.inr (ci, fs))) (hj : j < fs.length) (hs : σ.length ≤ 1000) (hn : narrow ty (.int v) = .int v) (hfit : fits ty (.int v) = true) (k : Wq X cs sl (pc + 3) L S (σ.set q (.inr (ci, fs.set j (.int v))))) : Wq X cs sl pc L (.int v :: .ref q :: S) σ := by
  obtain ⟨p, l, e, R, s, m, args, below, meth, c, dC, dI, ad, cI, cZ, nL, z, Q⟩ := X
  intro H locs ls h2 h3 h4
  obtain ⟨g1, g2, g3, g4, g5, g6, g7, g8, g9, g10, g11⟩ := hX
  obtain ⟨C, T, N, t0, f1, f2, f3, f4, f5, f6, f7, f8⟩ := hf
  subst f6
  refine va_put (D := (dC, dI)) (ci := ci) (v := .int v) (ty := t0 j) (C := C) (T := T) (N := N) (Ts := BIG) (fs := fs.map (cv ad)) g1 g2 g6 f4 t0 f7 f8 g5 g7 h2 (cw_Dz g10 hs) h3 q (cw_at hq) f1 j f2 (g6 _ f3) (fun _ h9 => h9) f5 (f7 j f2) hn hfit (by rw [List.length_map]; exact hj) hd (fun H1 locs1 e1 e2 e3 => ?_)
  have e : (Sum.inr (ci, (fs.map (cv ad)).set j (Value.int v)) : va_E) = ce ad cI cZ (.inr (ci, fs.set j (.int v))) := by
    show _ = Sum.inr (ci, (fs.set j (.int v)).map (cv ad))
    rw [List.map_set]
    rfl
  rw [e, cw_set] at e1
  exact k H1 locs1 ls e1 e3 h4
theorem wq_putF {idx ci j q r : Nat} {fs : List Value} {ty : FieldType} (hX : Gq X cc own nl rm nb) (hd : decode cc pc = .ok (.putfield idx, 3)) (hI : nmI X) (hf : FX own idx ci j ty) (hq : σ[q]? = some (.inr (ci, fs))) (hj : j < fs.length) (hs : σ.length ≤ 1000) (hn : ∀ a, narrow ty (.ref a) = .ref a) (hfit : ∀ a, fits ty (.ref a) = true) (k : Wq X cs sl (pc + 3) L S (σ.set q (.inr (ci, fs.set j (.ref r))))) : Wq X cs sl pc L (.ref r :: .ref q :: S) σ := by
  obtain ⟨p, l, e, R, s, m, args, below, meth, c, dC, dI, ad, cI, cZ, nL, z, Q⟩ := X
  intro H locs ls h2 h3 h4
  obtain ⟨g1, g2, g3, g4, g5, g6, g7, g8, g9, g10, g11⟩ := hX
  obtain ⟨C, T, N, t0, f1, f2, f3, f4, f5, f6, f7, f8, f9⟩ := hf
  subst f6
  refine va_putF (D := (dC, dI)) (ci := ci) (v := .ref (ad r)) (ty := t0 j) (C := C) (T := T) (N := N) (Ts := BIG) (fs := fs.map (cv ad)) g1 g2 g6 f4 t0 f7 f8 g5 g7 h2 (cw_Dz g10 hs) h3 q (cw_at hq) f1 j f2 (g6 _ f3) (fun _ h9 => h9) f5 hI f9 (f7 j f2) (hn _) (hfit _) (by rw [List.length_map]; exact hj) hd (fun H1 locs1 e1 e2 e3 => ?_)
  have e : (Sum.inr (ci, (fs.map (cv ad)).set j (Value.ref (ad r))) : va_E) = ce ad cI cZ (.inr (ci, fs.set j (.ref r))) := by
    show _ = Sum.inr (ci, (fs.set j (.ref r)).map (cv ad))
    rw [List.map_set]
    rfl
  rw [e, cw_set] at e1
  exact k H1 locs1 ls e1 e3 h4
theorem wq_obj {idx r : Nat} (hX : Gq X cc own nl rm nb) (hd : decode cc pc = .ok (.invokespecial idx, 3)) (hm : Cond.methodLink own idx objectInit ∈ BIG) (hr : 1 ≤ rm.frames ∧ (S.map (fun v => v.category)).sum + 12 ≤ rm.locals) (k : Wq X cs sl (pc + 3) L S σ) : Wq X cs sl pc L (.ref r :: S) σ := by
  obtain ⟨p, l, e, R, s, m, args, below, meth, c, dC, dI, ad, cI, cZ, nL, z, Q⟩ := X
  intro H locs ls h2 h3 h4
  obtain ⟨g1, g2, g3, g4, g5, g6, g7, g8, g9, g10, g11⟩ := hX
  subst g9
  exact W.objInit g1 g2 g5 (g6 _ hm) (g6 _ ob_in) (g6 _ ob_co) rfl (by rw [g3]; exact h4.1) rfl hd hr.1 (by show 2 * 0 + _ + 12 ≤ _; rw [cat_map]; have := hr.2; omega) (k H locs ls h2 h3 h4)
theorem wq_max {idx : Nat} {x y : Int32} (hX : Gq X cc own nl rm nb) (hd : decode cc pc = .ok (.invokestatic idx, 3)) (hm : Cond.methodLink own idx Lib.Math.max.name ∈ BIG) (hr : 1 ≤ rm.frames ∧ 21 ≤ rm.locals) (hc : cs ≤ rm.cells ∧ sl ≤ rm.slots) (hS : (S.map (fun v => v.category)).sum ≤ 8) (k : Wq X cs sl (pc + 3) L (.int (if x < y then y else x) :: S) σ) : Wq X cs sl pc L (.int y :: .int x :: S) σ := by
  obtain ⟨p, l, e, R, s, m, args, below, meth, c, dC, dI, ad, cI, cZ, nL, z, Q⟩ := X
  intro H locs ls h2 h3 h4
  obtain ⟨g1, g2, g3, g4, g5, g6, g7, g8, g9, g10, g11⟩ := hX
  subst g9
  exact va_mmax g1 g2 (by rw [g3, h4.1]) g5 (g6 _ hm) (g6 _ mmax_st) (g6 _ math_in) (g6 _ mmax_co) hr.1 (by rw [cat_map]; have := hr.2; omega) hc.1 hc.2 hd (k H locs ls h2 h3 h4)
theorem big_good {M' : MD} (h : mcd M' ∈ BIG) : GoodIn BIG (mws M') := by
  intro w hw
  rcases List.mem_cons.mp hw with rfl | hw
  · exact ⟨h, BIG_good h⟩
  · exact ⟨hw, BIG_good hw⟩
def rmQ (rm : Room) (M' : MD) : Prop := M'.2.2.2.2.1 + 1 ≤ rm.frames ∧ 8 + (M'.2.2.1 + 11) + M'.2.2.2.2.2 ≤ rm.locals
theorem wq_callI {M1 : MD} {mc ms idx n q : Nat} {As : List Value} {σ1 : aW} (hX : Gq X cc own nl rm nb) (hd : decode cc pc = .ok (.invokespecial idx, 3)) (hm : MOK M1 n ∧ Cond.methodLink own idx M1.1 ∈ BIG ∧ Cond.instanceMethod M1.1 ∈ BIG ∧ M1.1.name = "<init>") (hret : M1.2.2.2.1 = none) (hr : rmQ rm M1) (hM : MC M1 mc ms (.ref q :: As) σ σ1) (hn : As.length = n) (hs : σ.length ≤ 1000) (hnb : nb + cs = σ.length) (hS : (S.map (fun v => v.category)).sum ≤ 8) (hc : cs + mc ≤ rm.cells ∧ sl + ms ≤ rm.slots) (k : Wq X (cs + mc) (sl + ms) (pc + 3) L S σ1) : Wq X cs sl pc L (As.reverse ++ .ref q :: S) σ := by
  obtain ⟨p, l, e, R, s, m, args, below, meth, c, dC, dI, ad, cI, cZ, nL, z, Q⟩ := X
  intro H locs ls h2 h3 h4
  obtain ⟨g1, g2, g3, g4, g5, g6, g7, g8, g9, g10, g11⟩ := hX
  subst g9
  obtain ⟨⟨o1, o2, o3⟩, o4, o5, o6⟩ := hm
  intro T hT XX
  have hup := st_up XX
  rw [hT] at hup
  have hlo := cw_lo (D := (dC, dI)) g10 hs h2 (by have := h3.1; omega)
  have hH : H.size = z + σ.length := by omega
  have hrun := va_runI (R := R) (p := p) (l := l) (e := e) (below := below) (meth := meth) (locs := locs) (cells := cs) (slots := sl) (g := F0 m pc ls ((As.reverse ++ .ref q :: S).map (cv ad))) (b := ad q) (As := As.map (cv ad)) (rest := S.map (cv ad)) (nL := nL) (Ts := BIG) (own := own) (H := H)
    ⟨g1, g2, g3, g5, g6⟩ (hM l dC dI ad cI cZ z g10) (bytes := M1.2.1) (maxL := M1.2.2.1) (n := n) ⟨callB_of n g6 (big_good o1) (by rw [← hret]; rfl) rfl rfl (g6 _ o2) (g6 _ o4) o3 hr, o6, g6 _ o5⟩
    ⟨cPc_blind, fun U hU hW => ⟨rfl, by rw [hU]; exact hH, by rw [hU]; exact h2, va_K.moved hW.alike g7, g8.warm hW⟩⟩ rfl (by rw [List.length_map]; exact hn) h4.1 (by rw [List.map_append, List.map_reverse]; rfl)
    (by show 2 * 0 + _ ≤ 8; rw [cat_map]; omega) hd hc
  obtain ⟨v, st₀, t, T', Lc, e0, X', hL, e1, e2, ⟨hv, hP, hF⟩, st⟩ := hrun T hT XX
  cases hv
  rw [← e1] at hP
  have hz1 : H.size ≤ T'.heap.size := by rw [e1, ← e0]; exact hF.1
  obtain ⟨t2, a1, b1⟩ := k T'.heap (locs ++ Lc) ls hP ⟨Nat.le_trans h3.1 hz1, fun q a1 a2 => by
      rw [e1, hF.2 q (by rw [e0]; exact Nat.lt_of_lt_of_le a1 h3.1) a2, e0]
      exact h3.2.1 q a1 a2, fun q hq => by
      rcases List.mem_append.mp hq with h | h
      · exact h3.2.2 q h
      · exact hL q h⟩ h4 T' rfl X'
  exact ⟨t2, st t2 a1, b1⟩
theorem wq_callIN {M1 : MD} {mc ms idx n q : Nat} {As : List Value} {σ1 : aW} (hX : Gq X cc own nl rm nb) (hd : decode cc pc = .ok (.invokespecial idx, 3)) (hm : MOK M1 n ∧ True ∧ Cond.instanceMethod M1.1 ∈ BIG ∧ M1.1.name = "<init>") (hl : ∀ s, N9 s → va_Nw (.methodLinkNest own idx M1.1 "BlockStore") s) (hret : M1.2.2.2.1 = none) (hr : rmQ rm M1) (hM : MC M1 mc ms (.ref q :: As) σ σ1) (hn : As.length = n) (hs : σ.length ≤ 1000) (hnb : nb + cs = σ.length) (hS : (S.map (fun v => v.category)).sum ≤ 8) (hc : cs + mc ≤ rm.cells ∧ sl + ms ≤ rm.slots) (k : Wq X (cs + mc) (sl + ms) (pc + 3) L S σ1) : Wq X cs sl pc L (As.reverse ++ .ref q :: S) σ := by
  obtain ⟨p, l, e, R, s, m, args, below, meth, c, dC, dI, ad, cI, cZ, nL, z, Q⟩ := X
  intro H locs ls h2 h3 h4
  obtain ⟨g1, g2, g3, g4, g5, g6, g7, g8, g9, g10, g11⟩ := hX
  subst g9
  obtain ⟨⟨o1, o2, o3⟩, o4, o5, o6⟩ := hm
  intro T hT XX
  have hup := st_up XX
  rw [hT] at hup
  have hlo := cw_lo (D := (dC, dI)) g10 hs h2 (by have := h3.1; omega)
  have hH : H.size = z + σ.length := by omega
  have hrun := va_runIN (R := R) (p := p) (l := l) (e := e) (below := below) (meth := meth) (locs := locs) (cells := cs) (slots := sl) (g := F0 m pc ls ((As.reverse ++ .ref q :: S).map (cv ad))) (b := ad q) (As := As.map (cv ad)) (rest := S.map (cv ad)) (nL := nL) (Ts := BIG) (own := own) (host := "BlockStore") (H := H)
    ⟨g1, g2, g3, g5, g6⟩ (hM l dC dI ad cI cZ z g10) (bytes := M1.2.1) (maxL := M1.2.2.1) (n := n) ⟨va_cnB n g6 (big_good o1) (by rw [← hret]; rfl) rfl rfl (hl s g8) (g6 _ o2) o3 hr, o6, g6 _ o5⟩
    ⟨cPc_blind, fun U hU hW => ⟨rfl, by rw [hU]; exact hH, by rw [hU]; exact h2, va_K.moved hW.alike g7, g8.warm hW⟩⟩ rfl (by rw [List.length_map]; exact hn) h4.1 (by rw [List.map_append, List.map_reverse]; rfl)
    (by show 2 * 0 + _ ≤ 8; rw [cat_map]; omega) hd hc
  obtain ⟨v, st₀, t, T', Lc, e0, X', hL, e1, e2, ⟨hv, hP, hF⟩, st⟩ := hrun T hT XX
  cases hv
  rw [← e1] at hP
  have hz1 : H.size ≤ T'.heap.size := by rw [e1, ← e0]; exact hF.1
  obtain ⟨t2, a1, b1⟩ := k T'.heap (locs ++ Lc) ls hP ⟨Nat.le_trans h3.1 hz1, fun q a1 a2 => by
      rw [e1, hF.2 q (by rw [e0]; exact Nat.lt_of_lt_of_le a1 h3.1) a2, e0]
      exact h3.2.1 q a1 a2, fun q hq => by
      rcases List.mem_append.mp hq with h | h
      · exact h3.2.2 q h
      · exact hL q h⟩ h4 T' rfl X'
  exact ⟨t2, st t2 a1, b1⟩
theorem wq_callV {M1 : MD} {idx n q ci : Nat} {fs As : List Value} {P1 : aPost} (hX : Gq X cc own nl rm nb) (hd : decode cc pc = .ok (.invokevirtual idx, 3)) (hm : MLV own idx M1 ci n) (hr : rmQ rm M1) (hM : MT M1 (.ref q :: As) σ P1) (hq : σ[q]? = some (.inr (ci, fs))) (hn : As.length = n) (hs : σ.length ≤ 1000) (hS : (S.map (fun v => v.category)).sum ≤ 8) (hc : cs ≤ rm.cells ∧ sl ≤ rm.slots) (k : ∀ r σ1, P1 r σ1 → σ1.length = σ.length → Wq X cs sl (pc + 3) L (r.toList ++ S) σ1) : Wq X cs sl pc L (As.reverse ++ .ref q :: S) σ := by
  obtain ⟨p, l, e, R, s, m, args, below, meth, c, dC, dI, ad, cI, cZ, nL, z, Q⟩ := X
  intro H locs ls h2 h3 h4
  obtain ⟨g1, g2, g3, g4, g5, g6, g7, g8, g9, g10, g11⟩ := hX
  subst g9
  obtain ⟨⟨o1, o2, o3⟩, m1, m2, m3, T, N, m4⟩ := hm
  have hD := cw_Dz (cI := cI) (cZ := cZ) g10 hs
  have hF : ∀ a, va_A (cw ad cI cZ σ) H.size a → z ≤ a := by
    rintro a (⟨k, e, h⟩ | h)
    · exact hD.2 k (a, e) h
    · have := h3.1
      omega
  have hrun := va_runV (R := R) (p := p) (l := l) (e := e) (below := below) (meth := meth) (locs := locs) (cells := cs) (slots := sl) (g := F0 m pc ls ((As.reverse ++ .ref q :: S).map (cv ad))) (b := ad q) (As := As.map (cv ad)) (rest := S.map (cv ad)) (nL := nL) (Ts := BIG) (own := own) (H := H) (C := M1.1.cls)
    ⟨g1, g2, g3, g5, g6⟩ (hM l dC dI ad cI cZ H.size) (bytes := M1.2.1) (maxL := M1.2.2.1) (ret := M1.2.2.2.1) (n := n) ⟨callB_of n g6 (big_good o1) rfl rfl rfl (g6 _ o2) (g6 _ m1) o3 hr, g6 _ m2, g6 _ m3⟩
    ⟨mPc_blind, va_recv g7 h2 m4 (cw_at hq), fun U hU hW => ⟨rfl, by rw [hU], by rw [hU]; exact h2, va_K.moved hW.alike g7, hD.weaken (fun _ _ _ _ => trivial), g8.1.warm hW⟩⟩ rfl (by rw [List.length_map]; exact hn) h4.1 (by rw [List.map_append, List.map_reverse]; rfl)
    (by show 2 * 0 + _ ≤ 8; rw [cat_map]; omega) hd hc
  intro T1 hT XX
  obtain ⟨v, st₀, t, T', Lc, e0, X', hL, e1, e2, ⟨⟨r, σ1, hv, hp, hlen, hP⟩, hz, hk⟩, st⟩ := hrun T1 hT XX
  cases hv
  rw [← e1] at hP
  have hz1 : H.size ≤ T'.heap.size := by rw [e1, ← e0]; exact hz
  obtain ⟨t2, a1, b1⟩ := k r σ1 hp hlen T'.heap (locs ++ Lc) ls hP ⟨Nat.le_trans h3.1 hz1, fun q a1 a2 => by
      rw [e1, hk q (by rw [e0]; exact Nat.lt_of_lt_of_le a1 h3.1) (fun y => a2 (hF q y)), e0]
      exact h3.2.1 q a1 a2, fun q hq => by
      rcases List.mem_append.mp hq with h | h
      · exact h3.2.2 q h
      · exact hF _ (hL q h)⟩ h4 T' rfl X'
  rw [← opt_map] at a1
  exact ⟨t2, st t2 a1, b1⟩
theorem wq_sld {N : Nat} {xs : Nat → Int32} {i : Int32} (hX : Gq X cc own nl rm nb) (hd : decode cc pc = .ok (.iaload, 1)) (hB : SX X N xs) (hi : vp_in i N) (k : Wq X cs sl (pc + 1) L (.int (xs i.toNatClampNeg) :: S) σ) : Wq X cs sl pc L (.int i :: .ref 1000 :: S) σ := by
  obtain ⟨p, l, e, R, s, m, args, below, meth, c, dC, dI, ad, cI, cZ, nL, z, Q⟩ := X
  intro H locs ls h2 h3 h4
  obtain ⟨g1, g2, g3, g4, g5, g6, g7, g8, g9, g10, g11⟩ := hX
  exact va_sld (A := fun q => z ≤ q) g1 g2 hB.1 hB.2.1 hB.2.2 h3 hi hd (k H locs ls h2 h3 h4)
theorem wq_slen {N : Nat} {xs : Nat → Int32} (hX : Gq X cc own nl rm nb) (hd : decode cc pc = .ok (.arraylength, 1)) (hB : SX X N xs) (k : Wq X cs sl (pc + 1) L (.int (nI N) :: S) σ) : Wq X cs sl pc L (.ref 1000 :: S) σ := by
  obtain ⟨p, l, e, R, s, m, args, below, meth, c, dC, dI, ad, cI, cZ, nL, z, Q⟩ := X
  intro H locs ls h2 h3 h4
  obtain ⟨g1, g2, g3, g4, g5, g6, g7, g8, g9, g10, g11⟩ := hX
  exact va_slen (A := fun q => z ≤ q) g1 g2 hB.1 hB.2.1 hB.2.2 h3 hd (k H locs ls h2 h3 h4)
end Rules
