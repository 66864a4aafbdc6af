/-! THE CLAIM OUT OF ONE WALK OF THE LAW'S BODY. Your part is whole_start (and what it stands on); all else here is the same for every law, but numbers. -/
def R_law : String := "BlockStoreLaw"
def lw_P (b : Addr) (xs : List Int32) (args : Array Value) (s : State) : Prop := args = #[.ref b] ∧ s.IntsAt b xs ∧ xs.length ≤ 2048 ∧ (Jvm.Cond.and given_1 narrow_1).before args s = true
def lw_Q (_ : Array Value) (s : State) (o : Outcome) (t : State) : Prop := o = .returned (some (.int 1)) ∧ Framed s o t [] 600000 7302249
def lw_Z (below : List Frame) (a : Array Value) (s : State) : State → Prop := fun t => ∃ o, t.status = .running ∧ Ended t below o ∧ lw_Q a s o t
/-- the law's own end, with 1 on the stack, nothing written that was there before, its room as the claim has it -/
theorem lw_ret {p : Program} {l : Launch} {e : Env} {s : State} {m : MethodId} {below : List Frame} {meth : Method} {c : Code} {b : Nat} (hx : p.tables.exec = Jvm.exec) (hb : c.code = code) (hr : meth.sig.returnType = ret) (hlocks : meth.locks = false) {pc : Nat} {H : Heap} {ls : Array Slot} (hdg : decode code pc = .ok (.ireturn, 1)) : W p l e room_1 s m #[Value.ref b] below meth c H [] 600000 7302249 (lw_Z below #[Value.ref b] s) (F0 m pc ls [.int 1]) := by
  intro T hT X
  obtain ⟨fs, hret, hrun, hended, hW, hframe⟩ := X.leave (v := some (.int 1)) (hlocks := hlocks) (fun h => by rw [hr] at h; cases h)
  have hmeth' : T.vm.method? m = some meth := X.method'
  refine ⟨T.setFrames fs, ?_, .returned (some (.int 1)), hrun, hended, rfl, ⟨_, rfl⟩, hW, hframe⟩
  jvm_step X.here [X.here.top, hx, hb, hdg, hmeth', hr, ret, narrow_b1]
  (try refine ⟨rfl, ?_⟩); (try refine ⟨rfl, ?_⟩)
  first | (intro acts; rw [hret _ acts rfl rfl rfl]) | rw [hret _ _ rfl rfl rfl]
  exact Steps.refl _
/-- what holds at the law's entry: the machine, the code, the tables' words (any of lw_tbl by 'hts w (by decide +kernel)'), the script of L ints xs at the cell b, what the Statement gives of the start (any of its parts by flat_of_before) -/
def lw_At (p : Program) (s : State) (m : MethodId) (meth : Method) (c : Code) (b L : Nat) (xs : Nat → Int32) : Prop :=
  p.tables.exec = Jvm.exec ∧ c.code = code ∧ meth.sig.returnType = ret ∧ c.maxLocals = 4 ∧ s.vm.findClass R_law = some m.cls ∧ (∀ w ∈ lw_tbl, w.before #[Value.ref b] s = true) ∧ va_X b L xs s s.heap ∧ b < s.heap.size ∧ meth.locks = false ∧ (Jvm.Cond.and given_1 narrow_1).before #[Value.ref b] s = true
section LW
variable {X : CQ} {N cs sl : Nat} {xs : Nat → Int32}
set_option maxHeartbeats 4000000 in
theorem law_step {i : Nat} (hX : Gq X cL_law RL 4 room_1 0) (hB : SX X N xs) (hN : N ≤ 2048) (hc : cs ≤ room_1.cells ∧ sl ≤ room_1.slots) (hend : ∀ (pc : Nat) (L : List (Option Value)) (σ : aW), decode cL_law pc = .ok (.ireturn, 1) → Wq X cs sl pc L [.int 1] σ) (hi : i ≤ N)
    (ih : i + 4 ≤ N → ∀ (A : Ab) (τ : aW) (c : Nat → aE) (σ : aW), AInv A → RX A τ σ → RM A c σ → Wq X cs sl 18 [some (.ref 1000), some (.ref 0), some (.ref 15), some (.int (nI (i + 4)))] [] σ) (A : Ab) (τ : aW) (c : Nat → aE) (σ : aW) (hA : AInv A) (hR : RX A τ σ) (hM : RM A c σ) : Wq X cs sl 18 [some (.ref 1000), some (.ref 0), some (.ref 15), some (.int (nI i))] [] σ := by
  refine wq_iload_n hX dL_law_18 rfl ?_
  refine wq_aload_n hX dL_law_19 rfl ?_
  refine wq_slen hX dL_law_20 hB ?_
  refine wq_iconst (v := 4) hX dL_law_21 ic_4 ?_
  refine wq_isub hX dL_law_22 ?_
  refine wq_icmp_gt (tgt := 521) hX dL_law_23 (by decide) (fun _ => ?_) (fun h => ?_)
  · refine wq_iconst (v := 1) hX dL_law_521 ic_1 ?_
    exact hend _ _ _ dL_law_522
  · have hi4 : i + 4 ≤ N := by
      have h2 : ¬ nI N - nI 4 < nI i := h
      rw [ilt, pk_sub_toInt (by omega) (by decide), nT (by omega)] at h2
      omega
    refine wq_aload_n hX dL_law_26 rfl ?_
    refine wq_iload_n hX dL_law_27 rfl ?_
    refine wq_sld hX dL_law_28 hB (vp_in_nI (by omega) (by omega)) ?_
    refine wq_bipush (v := 31) hX dL_law_29 bp_31 ?_
    refine wq_iand hX dL_law_31 ?_
    generalize xs (nI i).toNatClampNeg &&& 31 = y
    have hn : ∀ (A : Ab) (τ : aW) (c : Nat → aE) (σ : aW), AInv A → RX A τ σ → RM A c σ → Wq X cs sl 515 [some (.ref 1000), some (.ref 0), some (.ref 15), some (.int (nI i))] [] σ := by
      intro A τ c σ hA hR hM
      refine wq_iinc (d := 4) hX dL_law_515 ic_4 rfl (Nat.le_of_ble_eq_true rfl) rfl ?_
      refine wq_goto (tgt := 18) hX dL_law_518 (by decide) ?_
      have e : nI i + 4 = nI (i + 4) := nI_add i 4
      rw [e]
      exact ih hi4 A τ c σ hA hR hM
    by_cases hout : y.toInt < 0 ∨ 17 < y.toInt
    · refine wq_tableOut (tgt := 515) hX dL_law_32 hout (by decide) ?_
      exact hn A τ c σ hA hR hM
    · have hk : y.toInt = 0 ∨ y.toInt = 1 ∨ y.toInt = 2 ∨ y.toInt = 3 ∨ y.toInt = 4 ∨ y.toInt = 5 ∨ y.toInt = 6 ∨ y.toInt = 7 ∨ y.toInt = 8 ∨ y.toInt = 9 ∨ y.toInt = 10 ∨ y.toInt = 11 ∨ y.toInt = 12 ∨ y.toInt = 13 ∨ y.toInt = 14 ∨ y.toInt = 15 ∨ y.toInt = 16 ∨ y.toInt = 17 := by omega
      rcases hk with hk | hk | hk | hk | hk | hk | hk | hk | hk | hk | hk | hk | hk | hk | hk | hk | hk | hk
      · refine wq_tableIn (off := 88) (tgt := 120) hX dL_law_32 (by omega) (by omega) (by rw [hk]; rfl) (by decide) ?_
        exact lw_c0 hX hB hN hc hi4 hA hR hM hn
      · refine wq_tableIn (off := 131) (tgt := 163) hX dL_law_32 (by omega) (by omega) (by rw [hk]; rfl) (by decide) ?_
        exact lw_c1 hX hB hN hc hi4 hA hR hM hn
      · refine wq_tableIn (off := 144) (tgt := 176) hX dL_law_32 (by omega) (by omega) (by rw [hk]; rfl) (by decide) ?_
        exact lw_c2 hX hB hN hc hi4 hA hR hM hn
      · refine wq_tableIn (off := 167) (tgt := 199) hX dL_law_32 (by omega) (by omega) (by rw [hk]; rfl) (by decide) ?_
        exact lw_c3 hX hB hN hc hi4 hA hR hM hn
      · refine wq_tableIn (off := 180) (tgt := 212) hX dL_law_32 (by omega) (by omega) (by rw [hk]; rfl) (by decide) ?_
        exact lw_c4 hX hB hN hc hi4 hA hR hM hn
      · refine wq_tableIn (off := 193) (tgt := 225) hX dL_law_32 (by omega) (by omega) (by rw [hk]; rfl) (by decide) ?_
        exact lw_c5 hX hB hN hc hi4 hA hR hM hn
      · refine wq_tableIn (off := 226) (tgt := 258) hX dL_law_32 (by omega) (by omega) (by rw [hk]; rfl) (by decide) ?_
        exact lw_c6 hX hB hN hc hi4 hA hR hM hn
      · refine wq_tableIn (off := 249) (tgt := 281) hX dL_law_32 (by omega) (by omega) (by rw [hk]; rfl) (by decide) ?_
        exact lw_c7 hX hB hN hc hi4 hA hR hM hn
      · refine wq_tableIn (off := 262) (tgt := 294) hX dL_law_32 (by omega) (by omega) (by rw [hk]; rfl) (by decide) ?_
        exact lw_c8 hX hB hN hc hi4 hA hR hM hn
      · refine wq_tableIn (off := 275) (tgt := 307) hX dL_law_32 (by omega) (by omega) (by rw [hk]; rfl) (by decide) ?_
        exact lw_c9 hX hB hN hc hi4 hA hR hM hn
      · refine wq_tableIn (off := 288) (tgt := 320) hX dL_law_32 (by omega) (by omega) (by rw [hk]; rfl) (by decide) ?_
        exact lw_c10 hX hB hN hc hi4 hA hR hM hn
      · refine wq_tableIn (off := 311) (tgt := 343) hX dL_law_32 (by omega) (by omega) (by rw [hk]; rfl) (by decide) ?_
        exact lw_c11 hX hB hN hc hi4 hA hR hM hn
      · refine wq_tableIn (off := 334) (tgt := 366) hX dL_law_32 (by omega) (by omega) (by rw [hk]; rfl) (by decide) ?_
        exact lw_c12 hX hB hN hc hi4 hA hR hM hn
      · refine wq_tableIn (off := 347) (tgt := 379) hX dL_law_32 (by omega) (by omega) (by rw [hk]; rfl) (by decide) ?_
        exact lw_c13 hX hB hN hc hi4 hA hR hM hn
      · refine wq_tableIn (off := 370) (tgt := 402) hX dL_law_32 (by omega) (by omega) (by rw [hk]; rfl) (by decide) ?_
        exact lw_c14 hX hB hN hc hi4 hA hR hM hn
      · refine wq_tableIn (off := 414) (tgt := 446) hX dL_law_32 (by omega) (by omega) (by rw [hk]; rfl) (by decide) ?_
        exact lw_c15 hX hB hN hc hi4 hA hR hM hn
      · refine wq_tableIn (off := 447) (tgt := 479) hX dL_law_32 (by omega) (by omega) (by rw [hk]; rfl) (by decide) ?_
        exact lw_c16 hX hB hN hc hi4 hA hR hM hn
      · refine wq_tableIn (off := 460) (tgt := 492) hX dL_law_32 (by omega) (by omega) (by rw [hk]; rfl) (by decide) ?_
        exact lw_c17 hX hB hN hc hi4 hA hR hM hn
theorem law_loop (hX : Gq X cL_law RL 4 room_1 0) (hB : SX X N xs) (hN : N ≤ 2048) (hc : cs ≤ room_1.cells ∧ sl ≤ room_1.slots) (hend : ∀ (pc : Nat) (L : List (Option Value)) (σ : aW), decode cL_law pc = .ok (.ireturn, 1) → Wq X cs sl pc L [.int 1] σ) : ∀ (n i : Nat), N ≤ i + n → i ≤ N → ∀ (A : Ab) (τ : aW) (c : Nat → aE) (σ : aW), AInv A → RX A τ σ → RM A c σ → Wq X cs sl 18 [some (.ref 1000), some (.ref 0), some (.ref 15), some (.int (nI i))] [] σ
  | 0, i, h1, h2 => law_step hX hB hN hc hend h2 (fun h => by omega)
  | n + 1, i, h1, h2 => law_step hX hB hN hc hend h2 (fun h => law_loop hX hB hN hc hend n (i + 4) (by omega) h)
end LW
set_option maxHeartbeats 4000000 in
set_option maxRecDepth 100000 in
theorem whole_start {p : Program} {e : Env} {s : State} {m : MethodId} {below : List Frame} {meth : Method} {c : Code} (l : Launch) {b L : Nat} {xs : Nat → Int32} (hL : L ≤ 2048) (C0 : lw_At p s m meth c b L xs) : W p l e room_1 s m #[Value.ref b] below meth c s.heap [] 0 0 (lw_Z below #[Value.ref b] s) (entryFrame m ([Value.ref b] : List Value).toArray 4) := by
  obtain ⟨hx, hb, hr, hml, hown, hts, hSc, hbl, hlocks, hgv⟩ := id C0
  have hBG : ∀ w ∈ BIG, w.before #[Value.ref b] s = true := fun w hw => hts w (List.mem_filter.mp hw).1
  obtain ⟨c0, i0, k0⟩ := u_known (C := RX0) (T := TX0) (N := 6) (n := 6) hBG inBX0 (hBG _ (by decide +kernel))
  obtain ⟨c1, i1, k1⟩ := u_known (C := RX1) (T := TX1) (N := 4) (n := 4) hBG inBX1 (hBG _ (by decide +kernel))
  obtain ⟨c2, i2, k2⟩ := u_known (C := RX2) (T := TX2) (N := 3) (n := 3) hBG inBX2 (hBG _ (by decide +kernel))
  obtain ⟨c3, i3, k3⟩ := u_known (C := RX3) (T := TX3) (N := 3) (n := 3) hBG inBX3 (hBG _ (by decide +kernel))
  obtain ⟨c4, i4, k4⟩ := u_known (C := RX4) (T := TX4) (N := 8) (n := 8) hBG inBX4 (hBG _ (by decide +kernel))
  obtain ⟨c5, i5, k5⟩ := u_known (C := RX5) (T := TX5) (N := 28) (n := 28) hBG inBX5 (hBG _ (by decide +kernel))
  obtain ⟨cI, kI, compI, a1, a2, a3⟩ := Cond.arrayClass_spec (hBG _ ar_I)
  obtain ⟨cZ, kZ, compZ, z1, z2, z3⟩ := Cond.arrayClass_spec (hBG _ ar_Z)
  obtain ⟨dC, dI, hKc⟩ : ∃ (dC : Nat → ClassId) (dI : Nat → Nat → Nat), ∀ (k : Nat) (q : vw_C), vwCl[k]? = some q → u_Kn s q.1 q.2.1 q.2.2 (dC k) (dI k) := by
    refine ⟨fun k => match k with
      | 0 => c0
      | 1 => c1
      | 2 => c2
      | 3 => c3
      | 4 => c4
      | _ => c5, fun k => match k with
      | 0 => i0
      | 1 => i1
      | 2 => i2
      | 3 => i3
      | 4 => i4
      | _ => i5, ?_⟩
    intro k q hq
    match k, hq with
    | 0, hq => cases hq; exact k0
    | 1, hq => cases hq; exact k1
    | 2, hq => cases hq; exact k2
    | 3, hq => cases hq; exact k3
    | 4, hq => cases hq; exact k4
    | 5, hq => cases hq; exact k5
    | k + 6, hq => simp at hq
  have hK : va_K (dC, dI) vwCl (tys2 cI cZ) s := ⟨hKc, fun k q h => by
    match k, h with
    | 0, h => cases h; exact ⟨fun n z => ⟨fun k h => (by cases h), kI, a2, compI, a3⟩, a1⟩
    | 1, h => cases h; exact ⟨fun n z => ⟨fun k h => (by cases h), kZ, z2, compZ, z3⟩, z1⟩
    | k + 2, h => simp [tys2] at h⟩
  have hN9 : N9 s := ⟨⟨va_Nw.of rfl (hts _ (by decide +kernel)), va_Nw.of rfl (hts _ (by decide +kernel))⟩, va_Nw.of rfl (hts _ (by decide +kernel))⟩
  have hX : Gq (p, l, e, room_1, s, m, #[Value.ref b], below, meth, c, dC, dI, (fun k => if k < 1000 then s.heap.size + k else b), cI, cZ, 4, s.heap.size, lw_Z below #[Value.ref b] s) cL_law RL 4 room_1 0 := ⟨hx, hb, hml, rfl, hown, hBG, hK, hN9, rfl, fun k hk => if_pos hk, rfl⟩
  have hB : SX (p, l, e, room_1, s, m, #[Value.ref b], below, meth, c, dC, dI, (fun k => if k < 1000 then s.heap.size + k else b), cI, cZ, 4, s.heap.size, lw_Z below #[Value.ref b] s) L xs := ⟨hSc, hbl, Nat.not_le.mpr hbl⟩
  have hend : ∀ (pc : Nat) (L : List (Option Value)) (σ : aW), decode cL_law pc = .ok (.ireturn, 1) → Wq (p, l, e, room_1, s, m, #[Value.ref b], below, meth, c, dC, dI, (fun k => if k < 1000 then s.heap.size + k else b), cI, cZ, 4, s.heap.size, lw_Z below #[Value.ref b] s) 26 130347 pc L [.int 1] σ := by
    intro pc L σ hd H locs ls h2 h3 h4
    refine va_forget (fun q hq => h3.2.2 q hq) ?_
    refine W.widen (k := 600000) (n := 7302249) (Nat.le_of_ble_eq_true rfl) (Nat.le_of_ble_eq_true rfl) ?_
    exact lw_ret hx hb hr hlocks hd
  have key : Wq (p, l, e, room_1, s, m, #[Value.ref b], below, meth, c, dC, dI, (fun k => if k < 1000 then s.heap.size + k else b), cI, cZ, 4, s.heap.size, lw_Z below #[Value.ref b] s) 0 0 0 [some (.ref 1000), none, none, none] [] [] := by
    generalize (p, l, e, room_1, s, m, #[Value.ref b], below, meth, c, dC, dI, (fun k => if k < 1000 then s.heap.size + k else b), cI, cZ, 4, s.heap.size, lw_Z below #[Value.ref b] s) = X at hX hB hend
    refine wq_new (n0 := 0) hX dL_law_0 nkL_7 rfl (Nat.le_of_ble_eq_true rfl) rfl (Nat.le_of_ble_eq_true rfl) (Nat.le_of_ble_eq_true rfl) ?_
    refine wq_dup hX dL_law_3 rfl ?_
    refine wq_ci0 hX dL_law_4 miL_9 rfl ⟨(Nat.le_of_ble_eq_true rfl), (Nat.le_of_ble_eq_true rfl)⟩ i_store (Nat.le_of_ble_eq_true rfl) rfl (Nat.le_of_ble_eq_true rfl) ⟨(Nat.le_of_ble_eq_true rfl), (Nat.le_of_ble_eq_true rfl)⟩ ?_
    refine wq_astore_n hX dL_law_7 (Nat.le_of_ble_eq_true rfl) rfl ?_
    refine wq_new (n0 := 15) hX dL_law_8 nkL_10 rfl (Nat.le_of_ble_eq_true rfl) rfl (Nat.le_of_ble_eq_true rfl) (Nat.le_of_ble_eq_true rfl) ?_
    refine wq_dup hX dL_law_11 rfl ?_
    refine wq_ci0 hX dL_law_12 miL_12 rfl ⟨(Nat.le_of_ble_eq_true rfl), (Nat.le_of_ble_eq_true rfl)⟩ (i_model (c := fun k => ((wX 0 0 0 0 ((fun _ => 0), 0, 0) (fun _ => 0) 0 0 0 0 0 (0, (fun _ => 0), (fun _ => 0)) (0, (fun _ => 0), (fun _ => 0)) (0, (fun _ => 0), (fun _ => 0)) [])[k]?).getD (ear 0 (fun _ => 0)))) (Nat.le_of_ble_eq_true rfl) rfl (Nat.le_of_ble_eq_true rfl) ⟨(Nat.le_of_ble_eq_true rfl), (Nat.le_of_ble_eq_true rfl)⟩ ?_
    refine wq_astore_n hX dL_law_15 (Nat.le_of_ble_eq_true rfl) rfl ?_
    refine wq_iconst (v := 0) hX dL_law_16 ic_0 ?_
    refine wq_istore_n hX dL_law_17 (Nat.le_of_ble_eq_true rfl) rfl ?_
    refine law_loop hX hB hL ⟨(Nat.le_of_ble_eq_true rfl), (Nat.le_of_ble_eq_true rfl)⟩ hend (L + 1) 0 (by omega) (Nat.zero_le _) (0, (0, 0, 0), (fun _ => 0, 0, 0), (0, 0, [], none)) _ _ _ ai_0 ⟨0, fun _ => 0, 0, 0, 0, (0, (fun _ => 0), (fun _ => 0)), (0, (fun _ => 0), (fun _ => 0)), (0, (fun _ => 0), (fun _ => 0)), rfl, fun h => absurd rfl h, fun h => absurd h (by decide)⟩ ⟨0, 0, 0, 0, 0, (0, (fun _ => 0), (fun _ => 0)), (0, (fun _ => 0), (fun _ => 0), (fun _ => 0)), (fun _ => 0), ((fun _ => 0), (fun _ => 0), (fun _ => 0)), (0, 0, 0, 0, 0), rfl, by decide, fun h => absurd h (by decide)⟩
  have hl := lv_entry ([.ref b]) (n := 4) (Nat.le_of_ble_eq_true rfl)
  rw [lg_entry_eq]
  refine key s.heap [] _ (fun k q h => by simp [cw] at h) va_S.rf ⟨hl.1, hl.2.1, fun i v hi => ?_⟩
  match i, hi with
  | 0, hi => cases hi; exact hl.2.2 (0, .ref b) List.mem_cons_self
  | 1, hi => cases hi
  | 2, hi => cases hi
  | 3, hi => cases hi
  | i + 4, hi => simp at hi
set_option maxHeartbeats 4000000 in
theorem lw_walk (l : Launch) (b : Addr) (xs : List Int32) : MetFree l x (headSpec (Jvm.Cond.code x code maxLocals ret :: tables_1) room_1) (lw_P b xs) (fun _ _ _ _ _ => True) lw_Q := by
  refine MetFree.of_bodyS (code := code) (maxLocals := maxLocals) (ret := ret) (by decide) ?_ ?_
  · intro args s m h hn
    obtain ⟨meth, c, h1, h2, h3, h4, h5, h6, -, -⟩ := Cond.code_spec hn (atoms_spec (ws := Jvm.Cond.code x code maxLocals ret :: tables_1) h _ List.mem_cons_self)
    exact ⟨meth, c, h1, h2, h3, h4, h5, h6⟩
  · intro p e s m args below meth c s₁ B hml0 hP _
    obtain ⟨rfl, hx, hbd, hgv⟩ := hP
    obtain ⟨scr, harrAt, hlist, hof, hsmall⟩ := hx
    obtain ⟨hcb, hkn, -, -⟩ := State.arrayAt?_spec harrAt
    have hown : s.vm.findClass R_law = some m.cls := findClass_of_methodNamed B.named
    have hts0 : ∀ c ∈ (Jvm.Cond.code x code maxLocals ret :: tables_1), c.before #[Value.ref b] s = true := atoms_spec (ws := Jvm.Cond.code x code maxLocals ret :: tables_1) B.pre
    have hts : ∀ w ∈ lw_tbl, w.before #[Value.ref b] s = true := k2_hts_sels lw_privs (fun w hw => hts0 w (List.mem_cons_of_mem _ hw)) lw_privs_ok
    have hml : c.maxLocals = 4 := B.maxLocals_eq (hts0 _ List.mem_cons_self)
    have X₀ : Stand p l e room_1 s m #[Value.ref b] below meth c s₁ [] 0 0 := Stand.of_body B
    have hh0 : s₁.heap = s.heap := by rw [B.state]; rfl
    have hsz : scr.slots.size = xs.length := by rw [← Array.length_toList, hlist, List.length_map]
    have hval : ∀ j : Nat, j < xs.length → scr.slots[j]? = some (.int (xs.getD j 0)) := fun j hj => by
      rw [← Array.getElem?_toList, hlist]
      simp [hj]
    have hbl : b < s.heap.size := (Array.getElem?_eq_some_iff.mp hcb).1
    have hX : va_X b xs.length (fun j => xs.getD j 0) s s.heap := ⟨scr, hcb, hof, hkn, hsz, hval⟩
    have K : W p l e room_1 s m #[Value.ref b] below meth c s₁.heap [] 0 0 (lw_Z below #[Value.ref b] s) (entryFrame m ([Value.ref b] : List Value).toArray 4) := by
      rw [hh0]
      exact whole_start l hbd ⟨B.exec, B.bytes, B.returns, hml, hown, hts, hX, hbl, B.notSynchronized, hgv⟩
    obtain ⟨t, a1, o, b1, b2, b3⟩ := K s₁ rfl X₀
    exact ⟨t, o, a1, b1, b2, b3⟩
theorem lw_pre_spec {args : Array Value} {s : State} (h : (Jvm.Cond.and given_1 narrow_1).before args s = true) (hr : rest_1_c.before args s = true) : ∃ (b : Addr) (xs : List Int32), lw_P b xs args s := by
  have hs := flat_of_before _ h
  have hq := flat_of_before _ hr
  have hc : (Cond.count 1).before args s = true := hs _ (by decide +kernel)
  have harr : (Cond.arrayOf (.arg 0) .int).before args s = true := hs _ (by decide +kernel)
  have hle : (Cond.le (.length (.arg 0)) (.int 2048)).before args s = true := hs _ (by decide +kernel)
  have hlen : (Cond.isInt (.length (.arg 0))).before args s = true := hq _ (by decide +kernel)
  have hall : (Cond.all (.arg 0) (.isInt (.elem (.arg 0) (.index 0)))).before args s = true := hq _ (by decide +kernel)
  obtain ⟨b, xs, hb, hx⟩ := State.ints_of_pre rfl harr hlen hall
  have hsm : xs.length < 2 ^ 31 := hx.choose_spec.2.2.2
  have hev : (Term.length (.arg 0)).eval args s none [] s = some (.int xs.length.toInt32) := hx.length_eval hb
  have hv := Cond.le_ints hev (show (Term.int 2048).eval args s none [] s = some (.int 2048) from rfl)
  have hd : xs.length.toInt32 ≤ 2048 := by
    simpa [Cond.before, Cond.holds, hv] using hle
  have hN : xs.length ≤ 2048 := (Int32.ofNat_le_ofNat hsm (by decide)).mp (show Int32.ofNat xs.length ≤ Int32.ofNat 2048 from hd)
  exact ⟨b, xs, Cond.one_arg hc (show args[0]? = some (.ref b) from hb), hx, hN, h⟩
theorem lw_comes (l : Launch) : Comes l x (Jvm.Cond.code x code maxLocals ret :: tables_1) room_1 (fun tb e args s => Calls_1 tb e args s ∧ rest_1 tb e args s ∧ Pre_1 tb e args s)
    (fun _ _ args s o t => lw_Q args s o t) := by
  intro p e ha hc hk s m args below hf hfit hheap happ hpre
  obtain ⟨b, xs, hP⟩ := lw_pre_spec hpre.2.2 hpre.2.1
  obtain ⟨k, o, h1, h2, h3, hQ⟩ := lw_walk l b xs p e ha hc hk s m args below hf ((Spec.applies_iff_loose hf).mp happ).1 hP trivial
  exact ⟨k, o, h1, h2, h3, hQ⟩
theorem lw_frame {s t : State} {o : Outcome} {args : Array Value} (h : Framed s o t [] 600000 7302249) :
    Framed s o t (fieldLocs frame_1_writes args s ++ arrayLocs frame_1_arrays args s ++ staticLocs frame_1_statics s) 600000 7302249 := h
theorem lw_limb (L : Cond) (hL : ∀ (args : Array Value) (s t : State), L.after args s (.returned (some (.int 1))) t = true) :
    ArmFor flags0 classFile x code maxLocals ret World_1 tables_1 room_1 Calls_1 rest_1 Pre_1
      (fun tb e a s o t => postC L tb e a s o t ∧ Framed s o t (fieldLocs frame_1_writes a s ++ arrayLocs frame_1_arrays a s ++ staticLocs frame_1_statics s) 600000 7302249) := by
  intro l _ _ _ p e ha hc hk s m args below hf hfit hheap happ hpre
  obtain ⟨k, o, h1, h2, h3, rfl, hF⟩ := lw_comes l p e ha hc hk s m args below hf hfit hheap happ hpre
  exact ⟨k, _, h1, h2, h3, hL args s _, lw_frame hF⟩
theorem i_vc : Claimed_1_1 ∧ Claimed_1_2 := ⟨lw_limb limb_1_1 (fun args s t => by simp [limb_1_1, Cond.after, Cond.holds, Cond.value]), lw_limb limb_1_2 (fun args s t => Cond.after_iff.mpr (by
  first | (rw [show limb_1_2 = Cond.eq .result (.int 1) from rfl, Cond.eq_ints (x := 1) (y := 1) rfl rfl]; simp; done) | (simp [limb_1_2, Cond.value, Term.eval]; done)))⟩
