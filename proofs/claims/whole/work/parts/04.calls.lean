theorem mmax_st : Cond.static Lib.Math.max.name ∈ BIG := by decide +kernel
theorem mmax_co : Cond.code Lib.Math.max.name Lib.Math.max.code 2 (some .int) ∈ BIG := by decide +kernel
theorem mmin_st : Cond.static Lib.Math.min.name ∈ BIG := by decide +kernel
theorem mmin_co : Cond.code Lib.Math.min.name Lib.Math.min.code 2 (some .int) ∈ BIG := by decide +kernel
theorem math_in : Cond.initialized "java/lang/Math" ∈ BIG := by decide +kernel
theorem acopy_na : Cond.native arraycopyName ∈ BIG := by decide +kernel
theorem acopy_st : Cond.static arraycopyName ∈ BIG := by decide +kernel
theorem acopy_in : Cond.initialized "java/lang/System" ∈ BIG := by decide +kernel
theorem BIG_good {w : Cond} (h : w ∈ BIG) : (w.onTables && w.keeps) = true ∨ ∃ ty, w = .arrayClass ty := good_of_word (List.mem_filter.mp h).2
def mcd (M : MD) : Cond := .code M.1 M.2.1 M.2.2.1 M.2.2.2.1
theorem mws_good {M M' : MD} (h : mcd M' ∈ BIG) : GoodIn (mws M) (mws M') := by
  intro w hw
  rcases List.mem_cons.mp hw with rfl | hw
  · exact ⟨List.mem_cons_of_mem _ h, BIG_good h⟩
  · exact ⟨List.mem_cons_of_mem _ hw, BIG_good hw⟩
/-- what a call of M' asks of the tables, the link apart -/
def MOK (M' : MD) (n : Nat) : Prop := mcd M' ∈ BIG ∧ Cond.initialized M'.1.cls ∈ BIG ∧ (M'.1.cls ≠ "java/lang/invoke/MethodHandle" ∧ M'.1.cls ≠ "java/lang/invoke/VarHandle" ∧ (parseMethodDescriptor M'.1.desc).map (fun d => d.parameters.length) = some n)
def MLV (own : String) (idx : Nat) (M' : MD) (ci n : Nat) : Prop := MOK M' n ∧ Cond.methodLink own idx M'.1 ∈ BIG ∧ Cond.instanceMethod M'.1 ∈ BIG ∧ Cond.selects M'.1.cls M'.1 M'.1 ∈ BIG ∧ ∃ (T : u_T) (N : Nat), vwCl[ci]? = some (M'.1.cls, T, N)
def MLS (own : String) (idx : Nat) (M' : MD) (n : Nat) : Prop := MOK M' n ∧ Cond.methodLink own idx M'.1 ∈ BIG ∧ Cond.static M'.1 ∈ BIG
def rmOk (M M' : MD) : Prop := M'.2.2.2.2.1 + 1 ≤ M.2.2.2.2.1 ∧ 8 + (M'.2.2.1 + 11) + M'.2.2.2.2.2 ≤ M.2.2.2.2.2
theorem mPc_blind {dC : Nat → ClassId} {dI : Nat → Nat → Nat} {ad : Nat → Nat} {cI cZ : ClassId} {sz : Nat} {av : List Value} {σ : aW} : FrameBlind (va_Pc av (fun U => U.heap.size = sz ∧ SF dC dI ad cI cZ σ U)) := by
  intro a U g mk q
  obtain ⟨q0, q1, qP, qK, qD, qN⟩ := q
  exact ⟨q0, q1, qP, va_K.moved (u := U) (U := U.calling g mk a) (Vm.Alike.refl U.vm) qK, qD, NW.same (s := U) (U := U.calling g mk a) rfl qN⟩
theorem mA_in {ad : Nat → Nat} {cI cZ : ClassId} {σ σ0 : aW} {s : State} {H : Heap} {locs : List Loc} (hl : σ.length = σ0.length) (hD : va_D (va_A (cw ad cI cZ σ0) s.heap.size) (cw ad cI cZ σ0)) (hS : va_S (va_A (cw ad cI cZ σ0) s.heap.size) s.heap H locs) : ∀ q, va_A (cw ad cI cZ σ) H.size q → va_A (cw ad cI cZ σ0) s.heap.size q := by
  rintro q (⟨k, e, h⟩ | h)
  · exact (cw_D hl hD).2 k (q, e) h
  · exact Or.inr (Nat.le_trans hS.1 h)
section Calls
variable {p : Program} {l : Launch} {e : Env} {R : Room} {s : State} {m : MethodId} {args : Array Value} {below : List Frame} {meth : Method} {c : Code} {H : Heap} {locs : List Loc} {Q : State → Prop}
theorem mcall {dC : Nat → ClassId} {dI : Nat → Nat → Nat} {ad : Nat → Nat} {cI cZ : ClassId} {A0 A1 : Nat → Prop} {n pc : Nat} {Post : aPost} {a : Array Value} {ls : Array Slot} {st0 rest : List Value} {free : Addr → Prop} {H0 : Heap}
    (hr : va_Run p l e R s m args below meth c H locs 0 0 0 0 (F0 m pc ls st0) rest (mQc dC dI ad cI cZ A1 n Post a) free) (hS : va_S A0 H0 H locs) (hA : ∀ q, A1 q → A0 q) (hf : ∀ q, free q → A0 q)
    (kk : ∀ (r : Option Value) (σ' : aW) (H1 : Heap) (locs1 : List Loc), Post r σ' → σ'.length = n → va_P (dC, dI) vwCl (cw ad cI cZ σ') H1 → va_S A0 H0 H1 locs1 → W p l e R s m args below meth c H1 locs1 0 0 Q (F0 m (pc + 3) ls ((r.map (cv ad)).toList ++ rest))) : W p l e R s m args below meth c H locs 0 0 Q (F0 m pc ls st0) := by
  intro T hT X
  obtain ⟨v, st₀, t, T', L, h0, X', hL, e1, e2, ⟨⟨r, σ', hv, hp, hn, hb⟩, hz, hk⟩, st⟩ := hr T hT X
  cases hv
  rw [h0] at hz hk
  obtain ⟨t2, a1, b1⟩ := kk r σ' T'.heap (locs ++ L) hp hn (by rw [e1]; exact hb)
    ⟨Nat.le_trans hS.1 (by rw [e1]; exact hz), fun q h1 h2 => by rw [e1, hk q (Nat.lt_of_lt_of_le h1 hS.1) (fun z => h2 (hA q z))]; exact hS.2.1 q h1 h2, fun q hq => by
      rcases List.mem_append.mp hq with h | h
      · exact hS.2.2 q h
      · exact hf _ (hL q h)⟩ T' rfl X'
  exact ⟨t2, st t2 a1, b1⟩
end Calls
theorem cat_map (ad : Nat → Nat) (S : List Value) : ((S.map (cv ad)).map fun v => v.category) = S.map (fun v => v.category) := by
  rw [List.map_map]
  exact List.map_congr_left (fun v _ => cv_cat v)
theorem opt_map (ad : Nat → Nat) (r : Option Value) (S : List Value) : (r.map (cv ad)).toList ++ S.map (cv ad) = (r.toList ++ S).map (cv ad) := by cases r <;> rfl
section Rules
variable {X : CX} {M : MD} {Post : aPost} {pc : Nat} {L : List (Option Value)} {S : List Value} {σ : aW}
theorem wp_callV {M1 : MD} {idx n q ci : Nat} {fs As : List Value} {P1 : aPost} (hX : Gd X M) (hd : decode M.2.1 pc = .ok (.invokevirtual idx, 3)) (hm : MLV M.1.cls idx M1 ci n) (hr : rmOk M M1) (hM : MT M1 (.ref q :: As) σ P1) (hq : σ[q]? = some (.inr (ci, fs))) (hn : As.length = n) (hS : (S.map (fun v => v.category)).sum ≤ 8) (k : ∀ r σ1, P1 r σ1 → Wp X Post (pc + 3) L (r.toList ++ S) σ1) : Wp X Post pc L (As.reverse ++ .ref q :: S) σ := by
  obtain ⟨p, l, e, R, s, m, args, below, meth, c, dC, dI, ad, cI, cZ, nL, σ0⟩ := X
  intro H locs ls h1 h2 h3 h4
  obtain ⟨g1, g2, g3, g4, g5, g6, g7, g8, g9, g10, g11, g12⟩ := hX
  subst g12
  obtain ⟨⟨o1, o2, o3⟩, m1, m2, m3, T, N, m4⟩ := hm
  have hB : ∀ w ∈ BIG, w.before args s = true := fun w hw => g7 w (List.mem_cons_of_mem _ hw)
  have hF := mA_in (H := H) h1 g10 h3
  have hrun := va_runV (R := mrm M) (p := p) (l := l) (e := e) (below := below) (meth := meth) (locs := locs) (cells := 0) (slots := 0) (g := F0 m pc ls ((As.reverse ++ .ref q :: S).map (cv ad))) (b := ad q) (As := As.map (cv ad)) (rest := S.map (cv ad)) (nL := nL) (Ts := mws M) (own := M.1.cls) (H := H) (C := M1.1.cls)
    ⟨g1, g2, g4, g6, g7⟩ (hM l dC dI ad cI cZ H.size) (bytes := M1.2.1) (maxL := M1.2.2.1) (ret := M1.2.2.2.1) (n := n) ⟨callB_of n g7 (mws_good o1) rfl rfl rfl (hB _ o2) (hB _ m1) o3 hr, hB _ m2, hB _ m3⟩
    ⟨mPc_blind, va_recv g9 h2 m4 (cw_at hq), fun U hU hW => ⟨rfl, by rw [hU], by rw [hU]; exact h2, va_K.moved hW.alike g9, (cw_D h1 g10).weaken (fun _ _ _ _ => trivial), g11.warm hW⟩⟩ rfl (by rw [List.length_map]; exact hn) h4.1 (by rw [List.map_append, List.map_reverse]; rfl)
    (by show 2 * 0 + _ ≤ 8; rw [cat_map]; omega) hd ⟨Nat.zero_le _, Nat.zero_le _⟩
  refine mcall hrun h3 hF hF (fun r σ1 H1 locs1 e1 e2 e3 e4 => ?_)
  rw [opt_map]
  exact k r σ1 e1 H1 locs1 ls (e2.trans h1) e3 e4 h4
theorem wp_callS {M1 : MD} {idx n : Nat} {As : List Value} {P1 : aPost} (hX : Gd X M) (hd : decode M.2.1 pc = .ok (.invokestatic idx, 3)) (hm : MLS M.1.cls idx M1 n) (hr : rmOk M M1) (hM : MT M1 As σ P1) (hn : As.length = n) (hS : (S.map (fun v => v.category)).sum ≤ 8) (k : ∀ r σ1, P1 r σ1 → Wp X Post (pc + 3) L (r.toList ++ S) σ1) : Wp X Post pc L (As.reverse ++ S) σ := by
  obtain ⟨p, l, e, R, s, m, args, below, meth, c, dC, dI, ad, cI, cZ, nL, σ0⟩ := X
  intro H locs ls h1 h2 h3 h4
  obtain ⟨g1, g2, g3, g4, g5, g6, g7, g8, g9, g10, g11, g12⟩ := hX
  subst g12
  obtain ⟨⟨o1, o2, o3⟩, m1, m2⟩ := hm
  have hB : ∀ w ∈ BIG, w.before args s = true := fun w hw => g7 w (List.mem_cons_of_mem _ hw)
  have hF := mA_in (H := H) h1 g10 h3
  have hrun := va_runS (R := mrm M) (p := p) (l := l) (e := e) (below := below) (meth := meth) (locs := locs) (cells := 0) (slots := 0) (g := F0 m pc ls ((As.reverse ++ S).map (cv ad))) (As := As.map (cv ad)) (rest := S.map (cv ad)) (nL := nL) (Ts := mws M) (own := M.1.cls) (H := H)
    ⟨g1, g2, g4, g6, g7⟩ (hM l dC dI ad cI cZ H.size) (bytes := M1.2.1) (maxL := M1.2.2.1) (ret := M1.2.2.2.1) (n := n) ⟨callB_of n g7 (mws_good o1) rfl rfl rfl (hB _ o2) (hB _ m1) o3 hr, hB _ m2⟩
    ⟨mPc_blind, fun U hU hW => ⟨rfl, by rw [hU], by rw [hU]; exact h2, va_K.moved hW.alike g9, (cw_D h1 g10).weaken (fun _ _ _ _ => trivial), g11.warm hW⟩⟩ rfl (by rw [List.length_map]; exact hn) h4.1 (by rw [List.map_append, List.map_reverse])
    (by show 2 * 0 + _ ≤ 8; rw [cat_map]; omega) hd ⟨Nat.zero_le _, Nat.zero_le _⟩
  refine mcall hrun h3 hF hF (fun r σ1 H1 locs1 e1 e2 e3 e4 => ?_)
  rw [opt_map]
  exact k r σ1 e1 H1 locs1 ls (e2.trans h1) e3 e4 h4
theorem wp_callN {M1 : MD} {idx n : Nat} {As : List Value} {P1 : aPost} (hX : Gd X M) (hd : decode M.2.1 pc = .ok (.invokestatic idx, 3)) (hm : MOK M1 n ∧ Cond.static M1.1 ∈ BIG) (hl : ∀ s, NW s → va_Nw (.methodLinkNest M.1.cls idx M1.1 "BlockStore") s) (hr : rmOk M M1) (hM : MT M1 As σ P1) (hn : As.length = n) (hS : (S.map (fun v => v.category)).sum ≤ 8) (k : ∀ r σ1, P1 r σ1 → Wp X Post (pc + 3) L (r.toList ++ S) σ1) : Wp X Post pc L (As.reverse ++ S) σ := by
  obtain ⟨p, l, e, R, s, m, args, below, meth, c, dC, dI, ad, cI, cZ, nL, σ0⟩ := X
  intro H locs ls h1 h2 h3 h4
  obtain ⟨g1, g2, g3, g4, g5, g6, g7, g8, g9, g10, g11, g12⟩ := hX
  subst g12
  obtain ⟨⟨o1, o2, o3⟩, m2⟩ := hm
  have hB : ∀ w ∈ BIG, w.before args s = true := fun w hw => g7 w (List.mem_cons_of_mem _ hw)
  have hF := mA_in (H := H) h1 g10 h3
  have hrun := va_runSN (R := mrm M) (p := p) (l := l) (e := e) (below := below) (meth := meth) (locs := locs) (cells := 0) (slots := 0) (g := F0 m pc ls ((As.reverse ++ S).map (cv ad))) (As := As.map (cv ad)) (rest := S.map (cv ad)) (nL := nL) (Ts := mws M) (own := M.1.cls) (H := H) (host := "BlockStore")
    ⟨g1, g2, g4, g6, g7⟩ (hM l dC dI ad cI cZ H.size) (bytes := M1.2.1) (maxL := M1.2.2.1) (ret := M1.2.2.2.1) (n := n) ⟨va_cnB n g7 (mws_good o1) rfl rfl rfl (hl s g11) (hB _ o2) o3 hr, hB _ m2, trivial⟩
    ⟨mPc_blind, fun U hU hW => ⟨rfl, by rw [hU], by rw [hU]; exact h2, va_K.moved hW.alike g9, (cw_D h1 g10).weaken (fun _ _ _ _ => trivial), g11.warm hW⟩⟩ rfl (by rw [List.length_map]; exact hn) h4.1 (by rw [List.map_append, List.map_reverse])
    (by show 2 * 0 + _ ≤ 8; rw [cat_map]; omega) hd ⟨Nat.zero_le _, Nat.zero_le _⟩
  refine mcall hrun h3 hF hF (fun r σ1 H1 locs1 e1 e2 e3 e4 => ?_)
  rw [opt_map]
  exact k r σ1 e1 H1 locs1 ls (e2.trans h1) e3 e4 h4
/-- the contract with one answer and one world behind it -/
abbrev MD1 (M : MD) (av : List Value) (σ : aW) (r : Option Value) (σ1 : aW) : Prop := MT M av σ (fun r1 σ2 => r1 = r ∧ σ2 = σ1)
theorem wp_cv0 {M1 : MD} {idx : Nat} {q ci : Nat} {fs : List Value} {r : Option Value} {σ1 : aW} (hX : Gd X M) (hd : decode M.2.1 pc = .ok (.invokevirtual idx, 3)) (hm : MLV M.1.cls idx M1 ci 0) (hr : rmOk M M1) (hM : MD1 M1 (.ref q :: []) σ r σ1) (hq : σ[q]? = some (.inr (ci, fs))) (hS : (S.map (fun v => v.category)).sum ≤ 8) (k : Wp X Post (pc + 3) L (r.toList ++ S) σ1) : Wp X Post pc L (.ref q :: S) σ := wp_callV (As := []) hX hd hm hr hM hq rfl hS (by rintro r1 σ2 ⟨rfl, rfl⟩; exact k)
theorem wp_cv0p {M1 : MD} {idx : Nat} {q ci : Nat} {fs : List Value} {P1 : aPost} (hX : Gd X M) (hd : decode M.2.1 pc = .ok (.invokevirtual idx, 3)) (hm : MLV M.1.cls idx M1 ci 0) (hr : rmOk M M1) (hM : MT M1 (.ref q :: []) σ P1) (hq : σ[q]? = some (.inr (ci, fs))) (hS : (S.map (fun v => v.category)).sum ≤ 8) (k : ∀ r σ1, P1 r σ1 → Wp X Post (pc + 3) L (r.toList ++ S) σ1) : Wp X Post pc L (.ref q :: S) σ := wp_callV (As := []) hX hd hm hr hM hq rfl hS k
theorem wp_cv1 {M1 : MD} {idx : Nat} {q ci : Nat} {fs : List Value} {a1 : Value} {r : Option Value} {σ1 : aW} (hX : Gd X M) (hd : decode M.2.1 pc = .ok (.invokevirtual idx, 3)) (hm : MLV M.1.cls idx M1 ci 1) (hr : rmOk M M1) (hM : MD1 M1 (.ref q :: [a1]) σ r σ1) (hq : σ[q]? = some (.inr (ci, fs))) (hS : (S.map (fun v => v.category)).sum ≤ 8) (k : Wp X Post (pc + 3) L (r.toList ++ S) σ1) : Wp X Post pc L (a1 :: .ref q :: S) σ := wp_callV (As := [a1]) hX hd hm hr hM hq rfl hS (by rintro r1 σ2 ⟨rfl, rfl⟩; exact k)
theorem wp_cv1p {M1 : MD} {idx : Nat} {q ci : Nat} {fs : List Value} {a1 : Value} {P1 : aPost} (hX : Gd X M) (hd : decode M.2.1 pc = .ok (.invokevirtual idx, 3)) (hm : MLV M.1.cls idx M1 ci 1) (hr : rmOk M M1) (hM : MT M1 (.ref q :: [a1]) σ P1) (hq : σ[q]? = some (.inr (ci, fs))) (hS : (S.map (fun v => v.category)).sum ≤ 8) (k : ∀ r σ1, P1 r σ1 → Wp X Post (pc + 3) L (r.toList ++ S) σ1) : Wp X Post pc L (a1 :: .ref q :: S) σ := wp_callV (As := [a1]) hX hd hm hr hM hq rfl hS k
theorem wp_cv2 {M1 : MD} {idx : Nat} {q ci : Nat} {fs : List Value} {a1 a2 : Value} {r : Option Value} {σ1 : aW} (hX : Gd X M) (hd : decode M.2.1 pc = .ok (.invokevirtual idx, 3)) (hm : MLV M.1.cls idx M1 ci 2) (hr : rmOk M M1) (hM : MD1 M1 (.ref q :: [a1, a2]) σ r σ1) (hq : σ[q]? = some (.inr (ci, fs))) (hS : (S.map (fun v => v.category)).sum ≤ 8) (k : Wp X Post (pc + 3) L (r.toList ++ S) σ1) : Wp X Post pc L (a2 :: a1 :: .ref q :: S) σ := wp_callV (As := [a1, a2]) hX hd hm hr hM hq rfl hS (by rintro r1 σ2 ⟨rfl, rfl⟩; exact k)
theorem wp_cv2p {M1 : MD} {idx : Nat} {q ci : Nat} {fs : List Value} {a1 a2 : Value} {P1 : aPost} (hX : Gd X M) (hd : decode M.2.1 pc = .ok (.invokevirtual idx, 3)) (hm : MLV M.1.cls idx M1 ci 2) (hr : rmOk M M1) (hM : MT M1 (.ref q :: [a1, a2]) σ P1) (hq : σ[q]? = some (.inr (ci, fs))) (hS : (S.map (fun v => v.category)).sum ≤ 8) (k : ∀ r σ1, P1 r σ1 → Wp X Post (pc + 3) L (r.toList ++ S) σ1) : Wp X Post pc L (a2 :: a1 :: .ref q :: S) σ := wp_callV (As := [a1, a2]) hX hd hm hr hM hq rfl hS k
theorem wp_cv3 {M1 : MD} {idx : Nat} {q ci : Nat} {fs : List Value} {a1 a2 a3 : Value} {r : Option Value} {σ1 : aW} (hX : Gd X M) (hd : decode M.2.1 pc = .ok (.invokevirtual idx, 3)) (hm : MLV M.1.cls idx M1 ci 3) (hr : rmOk M M1) (hM : MD1 M1 (.ref q :: [a1, a2, a3]) σ r σ1) (hq : σ[q]? = some (.inr (ci, fs))) (hS : (S.map (fun v => v.category)).sum ≤ 8) (k : Wp X Post (pc + 3) L (r.toList ++ S) σ1) : Wp X Post pc L (a3 :: a2 :: a1 :: .ref q :: S) σ := wp_callV (As := [a1, a2, a3]) hX hd hm hr hM hq rfl hS (by rintro r1 σ2 ⟨rfl, rfl⟩; exact k)
theorem wp_cv3p {M1 : MD} {idx : Nat} {q ci : Nat} {fs : List Value} {a1 a2 a3 : Value} {P1 : aPost} (hX : Gd X M) (hd : decode M.2.1 pc = .ok (.invokevirtual idx, 3)) (hm : MLV M.1.cls idx M1 ci 3) (hr : rmOk M M1) (hM : MT M1 (.ref q :: [a1, a2, a3]) σ P1) (hq : σ[q]? = some (.inr (ci, fs))) (hS : (S.map (fun v => v.category)).sum ≤ 8) (k : ∀ r σ1, P1 r σ1 → Wp X Post (pc + 3) L (r.toList ++ S) σ1) : Wp X Post pc L (a3 :: a2 :: a1 :: .ref q :: S) σ := wp_callV (As := [a1, a2, a3]) hX hd hm hr hM hq rfl hS k
theorem wp_cv4 {M1 : MD} {idx : Nat} {q ci : Nat} {fs : List Value} {a1 a2 a3 a4 : Value} {r : Option Value} {σ1 : aW} (hX : Gd X M) (hd : decode M.2.1 pc = .ok (.invokevirtual idx, 3)) (hm : MLV M.1.cls idx M1 ci 4) (hr : rmOk M M1) (hM : MD1 M1 (.ref q :: [a1, a2, a3, a4]) σ r σ1) (hq : σ[q]? = some (.inr (ci, fs))) (hS : (S.map (fun v => v.category)).sum ≤ 8) (k : Wp X Post (pc + 3) L (r.toList ++ S) σ1) : Wp X Post pc L (a4 :: a3 :: a2 :: a1 :: .ref q :: S) σ := wp_callV (As := [a1, a2, a3, a4]) hX hd hm hr hM hq rfl hS (by rintro r1 σ2 ⟨rfl, rfl⟩; exact k)
theorem wp_cv4p {M1 : MD} {idx : Nat} {q ci : Nat} {fs : List Value} {a1 a2 a3 a4 : Value} {P1 : aPost} (hX : Gd X M) (hd : decode M.2.1 pc = .ok (.invokevirtual idx, 3)) (hm : MLV M.1.cls idx M1 ci 4) (hr : rmOk M M1) (hM : MT M1 (.ref q :: [a1, a2, a3, a4]) σ P1) (hq : σ[q]? = some (.inr (ci, fs))) (hS : (S.map (fun v => v.category)).sum ≤ 8) (k : ∀ r σ1, P1 r σ1 → Wp X Post (pc + 3) L (r.toList ++ S) σ1) : Wp X Post pc L (a4 :: a3 :: a2 :: a1 :: .ref q :: S) σ := wp_callV (As := [a1, a2, a3, a4]) hX hd hm hr hM hq rfl hS k
theorem wp_cv5 {M1 : MD} {idx : Nat} {q ci : Nat} {fs : List Value} {a1 a2 a3 a4 a5 : Value} {r : Option Value} {σ1 : aW} (hX : Gd X M) (hd : decode M.2.1 pc = .ok (.invokevirtual idx, 3)) (hm : MLV M.1.cls idx M1 ci 5) (hr : rmOk M M1) (hM : MD1 M1 (.ref q :: [a1, a2, a3, a4, a5]) σ r σ1) (hq : σ[q]? = some (.inr (ci, fs))) (hS : (S.map (fun v => v.category)).sum ≤ 8) (k : Wp X Post (pc + 3) L (r.toList ++ S) σ1) : Wp X Post pc L (a5 :: a4 :: a3 :: a2 :: a1 :: .ref q :: S) σ := wp_callV (As := [a1, a2, a3, a4, a5]) hX hd hm hr hM hq rfl hS (by rintro r1 σ2 ⟨rfl, rfl⟩; exact k)
theorem wp_cv5p {M1 : MD} {idx : Nat} {q ci : Nat} {fs : List Value} {a1 a2 a3 a4 a5 : Value} {P1 : aPost} (hX : Gd X M) (hd : decode M.2.1 pc = .ok (.invokevirtual idx, 3)) (hm : MLV M.1.cls idx M1 ci 5) (hr : rmOk M M1) (hM : MT M1 (.ref q :: [a1, a2, a3, a4, a5]) σ P1) (hq : σ[q]? = some (.inr (ci, fs))) (hS : (S.map (fun v => v.category)).sum ≤ 8) (k : ∀ r σ1, P1 r σ1 → Wp X Post (pc + 3) L (r.toList ++ S) σ1) : Wp X Post pc L (a5 :: a4 :: a3 :: a2 :: a1 :: .ref q :: S) σ := wp_callV (As := [a1, a2, a3, a4, a5]) hX hd hm hr hM hq rfl hS k
theorem wp_cs1 {M1 : MD} {idx : Nat} {a1 : Value} {r : Option Value} {σ1 : aW} (hX : Gd X M) (hd : decode M.2.1 pc = .ok (.invokestatic idx, 3)) (hm : MLS M.1.cls idx M1 1) (hr : rmOk M M1) (hM : MD1 M1 [a1] σ r σ1) (hS : (S.map (fun v => v.category)).sum ≤ 8) (k : Wp X Post (pc + 3) L (r.toList ++ S) σ1) : Wp X Post pc L (a1 :: S) σ := wp_callS (As := [a1]) hX hd hm hr hM rfl hS (by rintro r1 σ2 ⟨rfl, rfl⟩; exact k)
theorem wp_cs1p {M1 : MD} {idx : Nat} {a1 : Value} {P1 : aPost} (hX : Gd X M) (hd : decode M.2.1 pc = .ok (.invokestatic idx, 3)) (hm : MLS M.1.cls idx M1 1) (hr : rmOk M M1) (hM : MT M1 [a1] σ P1) (hS : (S.map (fun v => v.category)).sum ≤ 8) (k : ∀ r σ1, P1 r σ1 → Wp X Post (pc + 3) L (r.toList ++ S) σ1) : Wp X Post pc L (a1 :: S) σ := wp_callS (As := [a1]) hX hd hm hr hM rfl hS k
theorem wp_cs2 {M1 : MD} {idx : Nat} {a1 a2 : Value} {r : Option Value} {σ1 : aW} (hX : Gd X M) (hd : decode M.2.1 pc = .ok (.invokestatic idx, 3)) (hm : MLS M.1.cls idx M1 2) (hr : rmOk M M1) (hM : MD1 M1 [a1, a2] σ r σ1) (hS : (S.map (fun v => v.category)).sum ≤ 8) (k : Wp X Post (pc + 3) L (r.toList ++ S) σ1) : Wp X Post pc L (a2 :: a1 :: S) σ := wp_callS (As := [a1, a2]) hX hd hm hr hM rfl hS (by rintro r1 σ2 ⟨rfl, rfl⟩; exact k)
theorem wp_cs2p {M1 : MD} {idx : Nat} {a1 a2 : Value} {P1 : aPost} (hX : Gd X M) (hd : decode M.2.1 pc = .ok (.invokestatic idx, 3)) (hm : MLS M.1.cls idx M1 2) (hr : rmOk M M1) (hM : MT M1 [a1, a2] σ P1) (hS : (S.map (fun v => v.category)).sum ≤ 8) (k : ∀ r σ1, P1 r σ1 → Wp X Post (pc + 3) L (r.toList ++ S) σ1) : Wp X Post pc L (a2 :: a1 :: S) σ := wp_callS (As := [a1, a2]) hX hd hm hr hM rfl hS k
theorem wp_cs3 {M1 : MD} {idx : Nat} {a1 a2 a3 : Value} {r : Option Value} {σ1 : aW} (hX : Gd X M) (hd : decode M.2.1 pc = .ok (.invokestatic idx, 3)) (hm : MLS M.1.cls idx M1 3) (hr : rmOk M M1) (hM : MD1 M1 [a1, a2, a3] σ r σ1) (hS : (S.map (fun v => v.category)).sum ≤ 8) (k : Wp X Post (pc + 3) L (r.toList ++ S) σ1) : Wp X Post pc L (a3 :: a2 :: a1 :: S) σ := wp_callS (As := [a1, a2, a3]) hX hd hm hr hM rfl hS (by rintro r1 σ2 ⟨rfl, rfl⟩; exact k)
theorem wp_cs3p {M1 : MD} {idx : Nat} {a1 a2 a3 : Value} {P1 : aPost} (hX : Gd X M) (hd : decode M.2.1 pc = .ok (.invokestatic idx, 3)) (hm : MLS M.1.cls idx M1 3) (hr : rmOk M M1) (hM : MT M1 [a1, a2, a3] σ P1) (hS : (S.map (fun v => v.category)).sum ≤ 8) (k : ∀ r σ1, P1 r σ1 → Wp X Post (pc + 3) L (r.toList ++ S) σ1) : Wp X Post pc L (a3 :: a2 :: a1 :: S) σ := wp_callS (As := [a1, a2, a3]) hX hd hm hr hM rfl hS k
theorem wp_cs4 {M1 : MD} {idx : Nat} {a1 a2 a3 a4 : Value} {r : Option Value} {σ1 : aW} (hX : Gd X M) (hd : decode M.2.1 pc = .ok (.invokestatic idx, 3)) (hm : MLS M.1.cls idx M1 4) (hr : rmOk M M1) (hM : MD1 M1 [a1, a2, a3, a4] σ r σ1) (hS : (S.map (fun v => v.category)).sum ≤ 8) (k : Wp X Post (pc + 3) L (r.toList ++ S) σ1) : Wp X Post pc L (a4 :: a3 :: a2 :: a1 :: S) σ := wp_callS (As := [a1, a2, a3, a4]) hX hd hm hr hM rfl hS (by rintro r1 σ2 ⟨rfl, rfl⟩; exact k)
theorem wp_cs4p {M1 : MD} {idx : Nat} {a1 a2 a3 a4 : Value} {P1 : aPost} (hX : Gd X M) (hd : decode M.2.1 pc = .ok (.invokestatic idx, 3)) (hm : MLS M.1.cls idx M1 4) (hr : rmOk M M1) (hM : MT M1 [a1, a2, a3, a4] σ P1) (hS : (S.map (fun v => v.category)).sum ≤ 8) (k : ∀ r σ1, P1 r σ1 → Wp X Post (pc + 3) L (r.toList ++ S) σ1) : Wp X Post pc L (a4 :: a3 :: a2 :: a1 :: S) σ := wp_callS (As := [a1, a2, a3, a4]) hX hd hm hr hM rfl hS k
theorem wp_cs5 {M1 : MD} {idx : Nat} {a1 a2 a3 a4 a5 : Value} {r : Option Value} {σ1 : aW} (hX : Gd X M) (hd : decode M.2.1 pc = .ok (.invokestatic idx, 3)) (hm : MLS M.1.cls idx M1 5) (hr : rmOk M M1) (hM : MD1 M1 [a1, a2, a3, a4, a5] σ r σ1) (hS : (S.map (fun v => v.category)).sum ≤ 8) (k : Wp X Post (pc + 3) L (r.toList ++ S) σ1) : Wp X Post pc L (a5 :: a4 :: a3 :: a2 :: a1 :: S) σ := wp_callS (As := [a1, a2, a3, a4, a5]) hX hd hm hr hM rfl hS (by rintro r1 σ2 ⟨rfl, rfl⟩; exact k)
theorem wp_cs5p {M1 : MD} {idx : Nat} {a1 a2 a3 a4 a5 : Value} {P1 : aPost} (hX : Gd X M) (hd : decode M.2.1 pc = .ok (.invokestatic idx, 3)) (hm : MLS M.1.cls idx M1 5) (hr : rmOk M M1) (hM : MT M1 [a1, a2, a3, a4, a5] σ P1) (hS : (S.map (fun v => v.category)).sum ≤ 8) (k : ∀ r σ1, P1 r σ1 → Wp X Post (pc + 3) L (r.toList ++ S) σ1) : Wp X Post pc L (a5 :: a4 :: a3 :: a2 :: a1 :: S) σ := wp_callS (As := [a1, a2, a3, a4, a5]) hX hd hm hr hM rfl hS k
theorem wp_cn2 {M1 : MD} {idx : Nat} {a1 a2 : Value} {r : Option Value} {σ1 : aW} (hX : Gd X M) (hd : decode M.2.1 pc = .ok (.invokestatic idx, 3)) (hm : MOK M1 2 ∧ Cond.static M1.1 ∈ BIG) (hl : ∀ s, NW s → va_Nw (.methodLinkNest M.1.cls idx M1.1 "BlockStore") s) (hr : rmOk M M1) (hM : MD1 M1 [a1, a2] σ r σ1) (hS : (S.map (fun v => v.category)).sum ≤ 8) (k : Wp X Post (pc + 3) L (r.toList ++ S) σ1) : Wp X Post pc L (a2 :: a1 :: S) σ := wp_callN (As := [a1, a2]) hX hd hm hl hr hM rfl hS (by rintro r1 σ2 ⟨rfl, rfl⟩; exact k)
theorem wp_cn2p {M1 : MD} {idx : Nat} {a1 a2 : Value} {P1 : aPost} (hX : Gd X M) (hd : decode M.2.1 pc = .ok (.invokestatic idx, 3)) (hm : MOK M1 2 ∧ Cond.static M1.1 ∈ BIG) (hl : ∀ s, NW s → va_Nw (.methodLinkNest M.1.cls idx M1.1 "BlockStore") s) (hr : rmOk M M1) (hM : MT M1 [a1, a2] σ P1) (hS : (S.map (fun v => v.category)).sum ≤ 8) (k : ∀ r σ1, P1 r σ1 → Wp X Post (pc + 3) L (r.toList ++ S) σ1) : Wp X Post pc L (a2 :: a1 :: S) σ := wp_callN (As := [a1, a2]) hX hd hm hl hr hM rfl hS k
theorem wp_max {idx : Nat} {x y : Int32} (hX : Gd X M) (hd : decode M.2.1 pc = .ok (.invokestatic idx, 3)) (hm : Cond.methodLink M.1.cls idx Lib.Math.max.name ∈ BIG) (hr : 1 ≤ M.2.2.2.2.1 ∧ 21 ≤ M.2.2.2.2.2) (hS : (S.map (fun v => v.category)).sum ≤ 8) (k : Wp X Post (pc + 3) L (.int (if x < y then y else x) :: S) σ) : Wp X Post pc L (.int y :: .int x :: S) σ := by
  obtain ⟨p, l, e, R, s, m, args, below, meth, c, dC, dI, ad, cI, cZ, nL, σ0⟩ := X
  intro H locs ls h1 h2 h3 h4
  obtain ⟨g1, g2, g3, g4, g5, g6, g7, g8, g9, g10, g11, g12⟩ := hX
  subst g12
  have hB : ∀ w ∈ BIG, w.before args s = true := fun w hw => g7 w (List.mem_cons_of_mem _ hw)
  exact va_mmax g1 g2 (by rw [g4, h4.1]) g6 (hB _ hm) (hB _ mmax_st) (hB _ math_in) (hB _ mmax_co) hr.1 (by rw [cat_map]; have := hr.2; show _ ≤ M.2.2.2.2.2; omega) (Nat.zero_le _) (Nat.zero_le _) hd (k H locs ls h1 h2 h3 h4)
theorem wp_min {idx : Nat} {x y : Int32} (hX : Gd X M) (hd : decode M.2.1 pc = .ok (.invokestatic idx, 3)) (hm : Cond.methodLink M.1.cls idx Lib.Math.min.name ∈ BIG) (hr : 1 ≤ M.2.2.2.2.1 ∧ 21 ≤ M.2.2.2.2.2) (hS : (S.map (fun v => v.category)).sum ≤ 8) (k : Wp X Post (pc + 3) L (.int (if y < x then y else x) :: S) σ) : Wp X Post pc L (.int y :: .int x :: S) σ := by
  obtain ⟨p, l, e, R, s, m, args, below, meth, c, dC, dI, ad, cI, cZ, nL, σ0⟩ := X
  intro H locs ls h1 h2 h3 h4
  obtain ⟨g1, g2, g3, g4, g5, g6, g7, g8, g9, g10, g11, g12⟩ := hX
  subst g12
  have hB : ∀ w ∈ BIG, w.before args s = true := fun w hw => g7 w (List.mem_cons_of_mem _ hw)
  exact va_mmin g1 g2 (by rw [g4, h4.1]) g6 (hB _ hm) (hB _ mmin_st) (hB _ math_in) (hB _ mmin_co) hr.1 (by rw [cat_map]; have := hr.2; show _ ≤ M.2.2.2.2.2; omega) (Nat.zero_le _) (Nat.zero_le _) hd (k H locs ls h1 h2 h3 h4)
theorem wp_copy {idx q0 q1 n0 n1 : Nat} {f g : Nat → Int32} {sp dp n : Int32} (hX : Gd X M) (hd : decode M.2.1 pc = .ok (.invokestatic idx, 3)) (hm : Cond.methodLink M.1.cls idx arraycopyName ∈ BIG) (hr : 1 ≤ M.2.2.2.2.1 ∧ 40 ≤ M.2.2.2.2.2) (hS : (S.map (fun v => v.category)).sum ≤ 8) (hq0 : σ[q0]? = some (.inl (false, n0, f))) (hq1 : σ[q1]? = some (.inl (false, n1, g))) (e1 : ¬ sp < 0) (e2 : ¬ dp < 0) (e3 : ¬ n < 0) (e4 : sp.toNatClampNeg + n.toNatClampNeg ≤ n0) (e5 : dp.toNatClampNeg + n.toNatClampNeg ≤ n1) (k : Wp X Post (pc + 3) L S (σ.set q1 (.inl (false, n1, va_cpy f g sp.toNatClampNeg dp.toNatClampNeg n.toNatClampNeg)))) : Wp X Post pc L (.int n :: .int dp :: .ref q1 :: .int sp :: .ref q0 :: S) σ := by
  obtain ⟨p, l, e, R, s, m, args, below, meth, c, dC, dI, ad, cI, cZ, nL, σ0⟩ := X
  intro H locs ls h1 h2 h3 h4
  obtain ⟨g1, g2, g3, g4, g5, g6, g7, g8, g9, g10, g11, g12⟩ := hX
  subst g12
  have hB : ∀ w ∈ BIG, w.before args s = true := fun w hw => g7 w (List.mem_cons_of_mem _ hw)
  have hw : nativeFrameWords "java/lang/System" "arraycopy" 5 + 11 ≤ 32 := by decide +kernel
  have hlo : ((S.map (cv ad)).map fun v => v.category).sum + (nativeFrameWords "java/lang/System" "arraycopy" 5 + 11) ≤ (mrm M).locals := by
    rw [cat_map]
    have := hr.2
    show _ ≤ M.2.2.2.2.2
    omega
  refine va_copyi (D := (dC, dI)) (ty := .int) g1 g2 (by rw [g4, h4.1]) g6 (hB _ hm) (hB _ acopy_na) (hB _ acopy_st) (hB _ acopy_in) g9 h2 (cw_D h1 g10) h3 q0 q1 0 0 (cw_at hq0) (cw_at hq1) rfl rfl rfl e1 e2 e3 e4 e5 (fun i _ => rfl) hr.1 hlo hd (fun H1 locs1 c1 c2 c3 => ?_)
  have c1 := cw_set (ad := ad) (cI := cI) (cZ := cZ) (σ := σ) (k := q1) (c := .inl (false, n1, va_cpy f g sp.toNatClampNeg dp.toNatClampNeg n.toNatClampNeg)) ▸ c1
  exact k H1 locs1 ls (by rw [List.length_set]; exact h1) c1 c3 h4
end Rules
