/-! the reference: its changes -/
section HAs
variable {C : CL} {h : HQ} {key : Int32}
theorem HA.get {i : Nat} {a : Int32 × Bool × Int32} (hC : HA C h) (ha : C[i]? = some a) : i < h.1 ∧ a.1 = h.2.1 i ∧ a.2.2 = h.2.2.1 i ∧ h.2.2.2 i = b2i a.2.1 := by
  have hl : i < C.length := (List.getElem?_eq_some_iff.mp ha).1
  have hu : i < h.1 := by rw [← hC.1]; exact hl
  obtain ⟨g, e1, e2⟩ := hC.2 i hu
  rw [ha] at e1
  cases e1
  exact ⟨hu, rfl, rfl, e2⟩
theorem HA.rkb (hC : HA C h) : rk C key ≤ h.1 := by rw [← hC.1]; exact rk_le C key
theorem HA.has (hC : HA C h) (hs : Srt C) : decide (rk C key < h.1 ∧ h.2.1 (rk C key) = key) = (lk C key).isSome := by
  rw [lk_rk hs]
  cases he : C[rk C key]? with
  | none =>
    have : ¬ rk C key < h.1 := fun q => by
      obtain ⟨g, e1, e2⟩ := hC.2 _ q
      rw [he] at e1
      cases e1
    simp [this]
  | some x =>
    obtain ⟨q, e1, e2, e3⟩ := hC.get he
    simp only
    rw [e1]
    by_cases e : h.2.1 (rk C key) = key
    · simp [q, e]
    · simp [q, e]
theorem HA.look (hC : HA C h) (hs : Srt C) {a : Bool × Int32} (ha : lk C key = some a) : rk C key < h.1 ∧ h.2.1 (rk C key) = key ∧ a.2 = h.2.2.1 (rk C key) ∧ h.2.2.2 (rk C key) = b2i a.1 := by
  obtain ⟨q, e1, e2, e3⟩ := hC.get ((lk_some hs).mp ha)
  exact ⟨q, e1.symm, e2, e3⟩
theorem HA.ins_old {g : Bool} {v : Int32} (hC : HA C h) (hs : Srt C) (hh : (lk C key).isSome = true) : HA (ins C key (g, v)) (h.1, h.2.1, upd h.2.2.1 (rk C key) v, upd h.2.2.2 (rk C key) (b2i g)) := by
  cases ha : lk C key with
  | none => rw [ha] at hh; cases hh
  | some a =>
    obtain ⟨q1, q2, q3, q4⟩ := hC.look hs ha
    refine ⟨by rw [ins_len C key (g, v) hs, hh, hC.1]; rfl, fun i hi => ?_⟩
    rw [ins_get, if_pos (by rw [(lk_some hs).mp ha]; rfl)]
    by_cases e : i = rk C key
    · rw [if_pos e]
      refine ⟨g, ?_, ?_⟩
      · rw [e]
        show some (key, (g, v)) = some (h.2.1 (rk C key), g, upd h.2.2.1 (rk C key) v (rk C key))
        rw [pk_us, q2]
      · show upd h.2.2.2 (rk C key) (b2i g) i = b2i g
        rw [e, pk_us]
    · rw [if_neg e]
      obtain ⟨g1, e1, e2⟩ := hC.2 i hi
      refine ⟨g1, ?_, ?_⟩
      · show C[i]? = some (h.2.1 i, g1, upd h.2.2.1 (rk C key) v i)
        rw [pk_un e]
        exact e1
      · show upd h.2.2.2 (rk C key) (b2i g) i = b2i g1
        rw [pk_un e]
        exact e2
theorem HA.ins_new {g : Bool} {v : Int32} (hC : HA C h) (hs : Srt C) (hh : lk C key = none) : HA (ins C key (g, v)) (h.1 + 1, upd (va_cpy h.2.1 h.2.1 (rk C key) (rk C key + 1) (h.1 - rk C key)) (rk C key) key, upd (va_cpy h.2.2.1 h.2.2.1 (rk C key) (rk C key + 1) (h.1 - rk C key)) (rk C key) v, upd (va_cpy h.2.2.2 h.2.2.2 (rk C key) (rk C key + 1) (h.1 - rk C key)) (rk C key) (b2i g)) := by
  have hr := hC.rkb (key := key)
  have hn : ¬ (C[rk C key]?.map Prod.fst) = some key := by
    rw [lk_rk hs] at hh
    cases e : C[rk C key]? with
    | none => simp
    | some x =>
      rw [e] at hh
      simp only at hh
      intro y
      simp at y
      rw [if_pos y] at hh
      cases hh
  refine ⟨by rw [ins_len C key (g, v) hs, hh, hC.1]; rfl, fun i hi => ?_⟩
  have hi : i < h.1 + 1 := hi
  rw [ins_get, if_neg hn]
  by_cases e1 : i < rk C key
  · rw [if_pos e1]
    obtain ⟨g1, f1, f2⟩ := hC.2 i (by omega)
    refine ⟨g1, ?_, ?_⟩
    · show _ = some (upd (va_cpy _ _ _ _ _) _ _ i, g1, upd (va_cpy _ _ _ _ _) _ _ i)
      rw [pk_un (by omega), pk_un (by omega), pk_cpy_out (by omega), pk_cpy_out (by omega)]
      exact f1
    · show upd (va_cpy _ _ _ _ _) _ _ i = _
      rw [pk_un (by omega), pk_cpy_out (by omega)]
      exact f2
  · rw [if_neg e1]
    by_cases e2 : i = rk C key
    · rw [if_pos e2]
      refine ⟨g, ?_, ?_⟩
      · show _ = some (upd (va_cpy _ _ _ _ _) _ _ i, g, upd (va_cpy _ _ _ _ _) _ _ i)
        rw [e2, pk_us, pk_us]
      · show upd (va_cpy _ _ _ _ _) _ _ i = _
        rw [e2, pk_us]
    · rw [if_neg e2]
      obtain ⟨g1, f1, f2⟩ := hC.2 (i - 1) (by omega)
      refine ⟨g1, ?_, ?_⟩
      · show _ = some (upd (va_cpy _ _ _ _ _) _ _ i, g1, upd (va_cpy _ _ _ _ _) _ _ i)
        rw [pk_un e2, pk_un e2, pk_cpy_in (by omega) (by omega), pk_cpy_in (by omega) (by omega), f1]
        rw [show rk C key + (i - (rk C key + 1)) = i - 1 by omega]
      · show upd (va_cpy _ _ _ _ _) _ _ i = _
        rw [pk_un e2, pk_cpy_in (by omega) (by omega)]
        rw [show rk C key + (i - (rk C key + 1)) = i - 1 by omega]
        exact f2
end HAs
theorem some_none {α : Type} {x : Option α} (h : x.isSome = false) : x = none := by
  cases x with
  | none => rfl
  | some a => cases h
section MO
variable {c : Nat → aE} {B W LG : Nat} {q : DQ} {st op : Int32} {pl rc : Nat} {ep bt : Int32} {K : MP} {h : HQ} {bf : Nat → Int32} {z : ZQ} {s : SQ} {m : PM} {key : Int32} {C : CL}
set_option maxHeartbeats 4000000 in
set_option maxRecDepth 100000 in
theorem m_changeAt (hC : HA C h) (hs : Srt C) (hu : h.1 ≤ 600) : MD1 mdX5_changeAt [.ref 15, .int key] (wM c B W LG q st op pl rc ep bt K h bf z s) (some (.int (nI (rk C key)))) (wM c B W LG q st op pl rc ep bt K h bf z s) := by
  refine md_of [some (.ref 15), some (.int key), none] rfl (Nat.le_of_ble_eq_true rfl) (by decide) (fun X Post hX hp => ?_)
  have hr := hC.rkb (key := key)
  have loop : ∀ (r i : Nat), i + r = rk C key → Wp X Post 2 [some (.ref 15), some (.int key), some (.int (nI i))] [] (wM c B W LG q st op pl rc ep bt K h bf z s) := by
    intro r
    induction r with
    | zero =>
      intro i hi
      refine wp_iload_n hX dX5_changeAt_2 rfl ?_
      refine wp_aload_n hX dX5_changeAt_3 rfl ?_
      refine wp_get hX dX5_changeAt_4 flX5_104 rfl rfl ?_
      refine wp_icmp_ge (tgt := 26) hX dX5_changeAt_7 (by decide) (fun d => ?_) (fun d => ?_)
      · refine wp_iload_n hX dX5_changeAt_26 rfl ?_
        refine wp_iret hX dX5_changeAt_27 rfl rfl ?_
        rw [← hi] at hp
        exact hp
      · have d1 : i < h.1 := Nat.lt_of_not_le (fun y => d (nI_le y (by omega)))
        obtain ⟨g, e1, e2⟩ := hC.2 i d1
        have hge : ¬ h.2.1 i < key := rk_ge hs (by omega) e1
        refine wp_aload_n hX dX5_changeAt_10 rfl ?_
        refine wp_get hX dX5_changeAt_11 flX5_20 rfl rfl ?_
        refine wp_iload_n hX dX5_changeAt_14 rfl ?_
        refine wp_iald hX dX5_changeAt_15 rfl (vp_in_nI (by omega) (by decide)) ?_
        refine wp_ti (y := (h.2.1 i)) (by rw [nI_clamp (by omega)]) ?_
        refine wp_iload_n hX dX5_changeAt_16 rfl ?_
        refine wp_icmp_ge (tgt := 26) hX dX5_changeAt_17 (by decide) (fun _ => ?_) (fun c_ => absurd (Int32.not_lt.mp hge) c_)
        refine wp_iload_n hX dX5_changeAt_26 rfl ?_
        refine wp_iret hX dX5_changeAt_27 rfl rfl ?_
        rw [← hi] at hp
        exact hp
    | succ r ih =>
      intro i hi
      obtain ⟨g, e1, e2⟩ := hC.2 i (by omega)
      have hlt : h.2.1 i < key := rk_lt C key i (by omega) _ e1
      refine wp_iload_n hX dX5_changeAt_2 rfl ?_
      refine wp_aload_n hX dX5_changeAt_3 rfl ?_
      refine wp_get hX dX5_changeAt_4 flX5_104 rfl rfl ?_
      refine wp_icmp_ge (tgt := 26) hX dX5_changeAt_7 (by decide) (fun c_ => absurd c_ (nI_ge (by omega) (by omega))) (fun _ => ?_)
      refine wp_aload_n hX dX5_changeAt_10 rfl ?_
      refine wp_get hX dX5_changeAt_11 flX5_20 rfl rfl ?_
      refine wp_iload_n hX dX5_changeAt_14 rfl ?_
      refine wp_iald hX dX5_changeAt_15 rfl (vp_in_nI (by omega) (by decide)) ?_
      refine wp_ti (y := (h.2.1 i)) (by rw [nI_clamp (by omega)]) ?_
      refine wp_iload_n hX dX5_changeAt_16 rfl ?_
      refine wp_icmp_ge (tgt := 26) hX dX5_changeAt_17 (by decide) (fun c_ => absurd c_ (Int32.not_le.mpr hlt)) (fun _ => ?_)
      refine wp_iinc hX dX5_changeAt_20 ic_1 rfl (Nat.le_of_ble_eq_true rfl) rfl ?_
      refine wp_goto (tgt := 2) hX dX5_changeAt_23 (by decide) ?_
      rw [nI_1]
      exact ih (i + 1) (by omega)
  refine wp_iconst (v := 0) hX dX5_changeAt_0 ic_0 ?_
  refine wp_istore_n hX dX5_changeAt_1 (Nat.le_of_ble_eq_true rfl) rfl ?_
  exact loop (rk C key) 0 (by omega)
set_option maxHeartbeats 4000000 in
set_option maxRecDepth 100000 in
theorem m_isChanged (hC : HA C h) (hs : Srt C) (hu : h.1 ≤ 600) : MD1 mdX5_isChanged [.ref 15, .int key] (wM c B W LG q st 1 pl rc ep bt K h bf z s) (some (.int (b2i (lk C key).isSome))) (wM c B W LG q st 1 pl rc ep bt K h bf z s) := by
  refine md_of [some (.ref 15), some (.int key), none] rfl (Nat.le_of_ble_eq_true rfl) (by decide) (fun X Post hX hp => ?_)
  have hr := hC.rkb (key := key)
  rw [← hC.has hs] at hp
  refine wp_aload_n hX dX5_isChanged_0 rfl ?_
  refine wp_iload_n hX dX5_isChanged_1 rfl ?_
  refine wp_cv1 hX dX5_isChanged_2 mlX5_107 ⟨Nat.le_of_ble_eq_true rfl, Nat.le_of_ble_eq_true rfl⟩ (m_changeAt hC hs hu) rfl (Nat.le_of_ble_eq_true rfl) ?_
  refine wp_istore_n hX dX5_isChanged_5 (Nat.le_of_ble_eq_true rfl) rfl ?_
  refine wp_aload_n hX dX5_isChanged_6 rfl ?_
  refine wp_get hX dX5_isChanged_7 flX5_56 rfl rfl ?_
  refine wp_if_eq (tgt := 35) hX dX5_isChanged_10 (by decide) (fun c_ => absurd c_ (by decide)) (fun _ => ?_)
  refine wp_iload_n hX dX5_isChanged_13 rfl ?_
  refine wp_aload_n hX dX5_isChanged_14 rfl ?_
  refine wp_get hX dX5_isChanged_15 flX5_104 rfl rfl ?_
  refine wp_icmp_ge (tgt := 35) hX dX5_isChanged_18 (by decide) (fun d => ?_) (fun d => ?_)
  · have d1 := (nI_leI (a := h.1) (b := rk C key) (by omega) (by omega)).mp d
    refine wp_iconst (v := 0) hX dX5_isChanged_35 ic_0 ?_
    refine wp_iret hX dX5_isChanged_36 rfl rfl ?_
    rw [decide_eq_false (by omega)] at hp
    exact hp
  · have d1 : rk C key < h.1 := Nat.lt_of_not_le (fun y => d (nI_le y (by omega)))
    refine wp_aload_n hX dX5_isChanged_21 rfl ?_
    refine wp_get hX dX5_isChanged_22 flX5_20 rfl rfl ?_
    refine wp_iload_n hX dX5_isChanged_25 rfl ?_
    refine wp_iald hX dX5_isChanged_26 rfl (vp_in_nI (by omega) (by decide)) ?_
    refine wp_ti (y := (h.2.1 (rk C key))) (by rw [nI_clamp (by omega)]) ?_
    refine wp_iload_n hX dX5_isChanged_27 rfl ?_
    refine wp_icmp_ne (tgt := 35) hX dX5_isChanged_28 (by decide) (fun f => ?_) (fun f => ?_)
    · refine wp_iconst (v := 0) hX dX5_isChanged_35 ic_0 ?_
      refine wp_iret hX dX5_isChanged_36 rfl rfl ?_
      rw [decide_eq_false (fun y => f y.2)] at hp
      exact hp
    · refine wp_iconst (v := 1) hX dX5_isChanged_31 ic_1 ?_
      refine wp_goto (tgt := 36) hX dX5_isChanged_32 (by decide) ?_
      refine wp_iret hX dX5_isChanged_36 rfl rfl ?_
      rw [decide_eq_true ⟨d1, f⟩] at hp
      exact hp
set_option maxHeartbeats 4000000 in
set_option maxRecDepth 100000 in
/-- without a transaction nothing is changed (the place that is sought is any) -/
theorem m_isChanged0 {hh : Nat} (hch : h.1 = hh) (hu : hh ≤ 600) : MD1 mdX5_isChanged [.ref 15, .int key] (wM c B W LG q st 0 pl rc ep bt K h bf z s) (some (.int 0)) (wM c B W LG q st 0 pl rc ep bt K h bf z s) := by
  refine md_of [some (.ref 15), some (.int key), none] rfl (Nat.le_of_ble_eq_true rfl) (by decide) (fun X Post hX hp => ?_)
  have ca : MT mdX5_changeAt [.ref 15, .int key] (wM c B W LG q st 0 pl rc ep bt K h bf z s) (fun r σ1 => ∃ i, r = some (.int (nI i)) ∧ σ1 = wM c B W LG q st 0 pl rc ep bt K h bf z s) := by
    refine mp_of [some (.ref 15), some (.int key), none] rfl (Nat.le_of_ble_eq_true rfl) (by decide) (fun X Post hX hp => ?_)
    have loop : ∀ (r i : Nat), i + r = h.1 → Wp X Post 2 [some (.ref 15), some (.int key), some (.int (nI i))] [] (wM c B W LG q st 0 pl rc ep bt K h bf z s) := by
      intro r
      induction r with
      | zero =>
        intro i hi
        refine wp_iload_n hX dX5_changeAt_2 rfl ?_
        refine wp_aload_n hX dX5_changeAt_3 rfl ?_
        refine wp_get hX dX5_changeAt_4 flX5_104 rfl rfl ?_
        refine wp_icmp_ge (tgt := 26) hX dX5_changeAt_7 (by decide) (fun _ => ?_) (fun c_ => absurd (nI_le (by omega) (by omega)) c_)
        refine wp_iload_n hX dX5_changeAt_26 rfl ?_
        refine wp_iret hX dX5_changeAt_27 rfl rfl ?_
        exact hp _ _ ⟨i, rfl, rfl⟩
      | succ r ih =>
        intro i hi
        refine wp_iload_n hX dX5_changeAt_2 rfl ?_
        refine wp_aload_n hX dX5_changeAt_3 rfl ?_
        refine wp_get hX dX5_changeAt_4 flX5_104 rfl rfl ?_
        refine wp_icmp_ge (tgt := 26) hX dX5_changeAt_7 (by decide) (fun c_ => absurd c_ (nI_ge (by omega) (by omega))) (fun _ => ?_)
        refine wp_aload_n hX dX5_changeAt_10 rfl ?_
        refine wp_get hX dX5_changeAt_11 flX5_20 rfl rfl ?_
        refine wp_iload_n hX dX5_changeAt_14 rfl ?_
        refine wp_iald hX dX5_changeAt_15 rfl (vp_in_nI (by omega) (by decide)) ?_
        refine wp_iload_n hX dX5_changeAt_16 rfl ?_
        refine wp_icmp_ge (tgt := 26) hX dX5_changeAt_17 (by decide) (fun d => ?_) (fun d => ?_)
        · refine wp_iload_n hX dX5_changeAt_26 rfl ?_
          refine wp_iret hX dX5_changeAt_27 rfl rfl ?_
          exact hp _ _ ⟨i, rfl, rfl⟩
        · refine wp_iinc hX dX5_changeAt_20 ic_1 rfl (Nat.le_of_ble_eq_true rfl) rfl ?_
          refine wp_goto (tgt := 2) hX dX5_changeAt_23 (by decide) ?_
          rw [nI_1]
          exact ih (i + 1) (by omega)
    refine wp_iconst (v := 0) hX dX5_changeAt_0 ic_0 ?_
    refine wp_istore_n hX dX5_changeAt_1 (Nat.le_of_ble_eq_true rfl) rfl ?_
    exact loop h.1 0 (by omega)
  refine wp_aload_n hX dX5_isChanged_0 rfl ?_
  refine wp_iload_n hX dX5_isChanged_1 rfl ?_
  refine wp_cv1p hX dX5_isChanged_2 mlX5_107 ⟨Nat.le_of_ble_eq_true rfl, Nat.le_of_ble_eq_true rfl⟩ (ca) rfl (Nat.le_of_ble_eq_true rfl) ?_
  rintro r1 σ1 ⟨i, rfl, rfl⟩
  refine wp_istore_n hX dX5_isChanged_5 (Nat.le_of_ble_eq_true rfl) rfl ?_
  refine wp_aload_n hX dX5_isChanged_6 rfl ?_
  refine wp_get hX dX5_isChanged_7 flX5_56 rfl rfl ?_
  refine wp_if_eq (tgt := 35) hX dX5_isChanged_10 (by decide) (fun _ => ?_) (fun c_ => absurd (rfl) c_)
  refine wp_iconst (v := 0) hX dX5_isChanged_35 ic_0 ?_
  refine wp_iret hX dX5_isChanged_36 rfl rfl ?_
  exact hp
set_option maxHeartbeats 4000000 in
set_option maxRecDepth 100000 in
theorem m_change {g : Bool} {v : Int32} (hv : g = true → v = 0) (hC : HA C h) (hs : Srt C) (hu : h.1 ≤ 600) : MT mdX5_change [.ref 15, .int key, .int (b2i g), .int v] (wM c B W LG q st op pl rc ep bt K h bf z s) (fun r σ1 => ∃ h1, r = some (.int (if (lk C key).isSome = false ∧ C.length = 600 then -6 else 0)) ∧ ((lk C key).isSome = false ∧ C.length = 600 → h1 = h) ∧ (¬ ((lk C key).isSome = false ∧ C.length = 600) → HA (ins C key (g, v)) h1) ∧ σ1 = wM c B W LG q st op pl rc ep bt K h1 bf z s) := by
  refine mp_of [some (.ref 15), some (.int key), some (.int (b2i g)), some (.int v), none, none] rfl (Nat.le_of_ble_eq_true rfl) (by decide) (fun X Post hX hp => ?_)
  have hr := hC.rkb (key := key)
  have hCl : C.length = h.1 := hC.1
  have ev : (if b2i g = 0 then v else 0) = v := by
    cases g with
    | false => rfl
    | true => rw [hv rfl]; rfl
  obtain ⟨u, hk, ht, hg⟩ := h
  dsimp only at hu hr hCl
  have fin : ∀ (u1 : Nat) (f1 f2 f3 : Nat → Int32) (x5 : Option Value), ¬ ((lk C key).isSome = false ∧ C.length = 600) → HA (ins C key (g, v)) (u1, f1, upd f2 (rk C key) v, upd f3 (rk C key) (b2i g)) → rk C key < 600 → Wp X Post 125 [some (.ref 15), some (.int key), some (.int (b2i g)), some (.int v), some (.int (nI (rk C key))), x5] [] (wM c B W LG q st op pl rc ep bt K (u1, f1, f2, f3) bf z s) := by
    intro u1 f1 f2 f3 x5 hne hha hlt
    refine wp_aload_n hX dX5_change_125 rfl ?_
    refine wp_get hX dX5_change_126 flX5_26 rfl rfl ?_
    refine wp_iload hX dX5_change_129 rfl ?_
    refine wp_iload_n hX dX5_change_131 rfl ?_
    refine wp_zast hX dX5_change_132 rfl (vp_in_nI hlt (by decide)) (by cases g <;> decide) ?_
    rw [nI_clamp (by omega)]
    refine wp_aload_n hX dX5_change_133 rfl ?_
    refine wp_get hX dX5_change_134 flX5_23 rfl rfl ?_
    refine wp_iload hX dX5_change_137 rfl ?_
    refine wp_iload_n hX dX5_change_139 rfl ?_
    have e : Wp X Post 148 [some (.ref 15), some (.int key), some (.int (b2i g)), some (.int v), some (.int (nI (rk C key))), x5] [.int v, .int (nI (rk C key)), .ref 20] (wM c B W LG q st op pl rc ep bt K (u1, f1, f2, upd f3 (rk C key) (b2i g)) bf z s) := by
      refine wp_iast hX dX5_change_148 rfl (vp_in_nI hlt (by decide)) ?_
      rw [nI_clamp (by omega)]
      refine wp_iconst (v := 0) hX dX5_change_149 ic_0 ?_
      refine wp_iret hX dX5_change_150 rfl rfl ?_
      refine hp _ _ ⟨(u1, f1, upd f2 (rk C key) v, upd f3 (rk C key) (b2i g)), by rw [if_neg hne], fun y => absurd y hne, fun _ => hha, rfl⟩
    cases g with
    | false =>
      refine wp_if_eq (tgt := 147) hX dX5_change_140 (by decide) (fun _ => ?_) (fun c_ => absurd (rfl) c_)
      refine wp_iload_n hX dX5_change_147 rfl ?_
      exact e
    | true =>
      rw [hv rfl] at e
      rw [hv rfl]
      refine wp_if_eq (tgt := 147) hX dX5_change_140 (by decide) (fun c_ => absurd c_ (by decide)) (fun _ => ?_)
      refine wp_iconst (v := 0) hX dX5_change_143 ic_0 ?_
      refine wp_goto (tgt := 148) hX dX5_change_144 (by decide) ?_
      exact e
  refine wp_aload_n hX dX5_change_0 rfl ?_
  refine wp_iload_n hX dX5_change_1 rfl ?_
  refine wp_cv1 hX dX5_change_2 mlX5_107 ⟨Nat.le_of_ble_eq_true rfl, Nat.le_of_ble_eq_true rfl⟩ (m_changeAt hC hs hu) rfl (Nat.le_of_ble_eq_true rfl) ?_
  refine wp_istore hX dX5_change_5 (Nat.le_of_ble_eq_true rfl) rfl ?_
  refine wp_iload hX dX5_change_7 rfl ?_
  refine wp_aload_n hX dX5_change_9 rfl ?_
  refine wp_get hX dX5_change_10 flX5_104 rfl rfl ?_
  have new : lk C key = none → Wp X Post 27 [some (.ref 15), some (.int key), some (.int (b2i g)), some (.int v), some (.int (nI (rk C key))), none] [] (wM c B W LG q st op pl rc ep bt K (u, hk, ht, hg) bf z s) := by
    intro hn
    refine wp_aload_n hX dX5_change_27 rfl ?_
    refine wp_get hX dX5_change_28 flX5_104 rfl rfl ?_
    refine wp_sipush (v := 600) hX dX5_change_31 sp_600 ?_
    refine wp_icmp_ne (tgt := 40) hX dX5_change_34 (by decide) (fun d => ?_) (fun d => ?_)
    · have d1 : ¬ u = 600 := fun y => d (by rw [y]; rfl)
      have hne : ¬ ((lk C key).isSome = false ∧ C.length = 600) := fun y => d1 (by omega)
      have loop : ∀ (r i : Nat), i = rk C key + r → i ≤ u → Wp X Post 46 [some (.ref 15), some (.int key), some (.int (b2i g)), some (.int v), some (.int (nI (rk C key))), some (.int (nI i))] [] (wM c B W LG q st op pl rc ep bt K (u, va_cpy hk hk i (i + 1) (u - i), va_cpy ht ht i (i + 1) (u - i), va_cpy hg hg i (i + 1) (u - i)) bf z s) := by
        intro r
        induction r with
        | zero =>
          intro i hi hiu
          rw [show i = rk C key by omega]
          refine wp_iload hX dX5_change_46 rfl ?_
          refine wp_iload hX dX5_change_48 rfl ?_
          refine wp_icmp_le (tgt := 107) hX dX5_change_50 (by decide) (fun _ => ?_) (fun c_ => absurd (nI_le (Nat.le_refl _) (by omega)) c_)
          refine wp_aload_n hX dX5_change_107 rfl ?_
          refine wp_get hX dX5_change_108 flX5_20 rfl rfl ?_
          refine wp_iload hX dX5_change_111 rfl ?_
          refine wp_iload_n hX dX5_change_113 rfl ?_
          refine wp_iast hX dX5_change_114 rfl (vp_in_nI (by omega) (by decide)) ?_
          rw [nI_clamp (by omega)]
          refine wp_aload_n hX dX5_change_115 rfl ?_
          refine wp_dup hX dX5_change_116 rfl ?_
          refine wp_get hX dX5_change_117 flX5_104 rfl rfl ?_
          refine wp_iconst (v := 1) hX dX5_change_120 ic_1 ?_
          refine wp_iadd hX dX5_change_121 ?_
          refine wp_ti (y := (nI (u + 1))) (nI_1 _) ?_
          refine wp_put hX dX5_change_122 fwX5_104 rfl (Nat.le_of_ble_eq_true rfl) rfl rfl ?_
          exact fin (u + 1) _ _ _ _ hne (hC.ins_new hs hn) (by omega)
        | succ r ih =>
          intro i hi hiu
          have e1 : nI i - 1 = nI (i - 1) := w1 (by omega)
          refine wp_iload hX dX5_change_46 rfl ?_
          refine wp_iload hX dX5_change_48 rfl ?_
          refine wp_icmp_le (tgt := 107) hX dX5_change_50 (by decide) (fun c_ => absurd c_ (nI_ge (by omega) (by omega))) (fun _ => ?_)
          refine wp_aload_n hX dX5_change_53 rfl ?_
          refine wp_get hX dX5_change_54 flX5_20 rfl rfl ?_
          refine wp_iload hX dX5_change_57 rfl ?_
          refine wp_aload_n hX dX5_change_59 rfl ?_
          refine wp_get hX dX5_change_60 flX5_20 rfl rfl ?_
          refine wp_iload hX dX5_change_63 rfl ?_
          refine wp_iconst (v := 1) hX dX5_change_65 ic_1 ?_
          refine wp_isub hX dX5_change_66 ?_
          refine wp_ti (y := (nI (i - 1))) (e1) ?_
          refine wp_iald hX dX5_change_67 rfl (vp_in_nI (by omega) (by decide)) ?_
          refine wp_iast hX dX5_change_68 rfl (vp_in_nI (by omega) (by decide)) ?_
          rw [nI_clamp (show i - 1 < 2 ^ 31 by omega), nI_clamp (show i < 2 ^ 31 by omega)]
          refine wp_aload_n hX dX5_change_69 rfl ?_
          refine wp_get hX dX5_change_70 flX5_23 rfl rfl ?_
          refine wp_iload hX dX5_change_73 rfl ?_
          refine wp_aload_n hX dX5_change_75 rfl ?_
          refine wp_get hX dX5_change_76 flX5_23 rfl rfl ?_
          refine wp_iload hX dX5_change_79 rfl ?_
          refine wp_iconst (v := 1) hX dX5_change_81 ic_1 ?_
          refine wp_isub hX dX5_change_82 ?_
          refine wp_ti (y := (nI (i - 1))) (e1) ?_
          refine wp_iald hX dX5_change_83 rfl (vp_in_nI (by omega) (by decide)) ?_
          refine wp_iast hX dX5_change_84 rfl (vp_in_nI (by omega) (by decide)) ?_
          rw [nI_clamp (show i - 1 < 2 ^ 31 by omega), nI_clamp (show i < 2 ^ 31 by omega)]
          refine wp_aload_n hX dX5_change_85 rfl ?_
          refine wp_get hX dX5_change_86 flX5_26 rfl rfl ?_
          refine wp_iload hX dX5_change_89 rfl ?_
          refine wp_aload_n hX dX5_change_91 rfl ?_
          refine wp_get hX dX5_change_92 flX5_26 rfl rfl ?_
          refine wp_iload hX dX5_change_95 rfl ?_
          refine wp_iconst (v := 1) hX dX5_change_97 ic_1 ?_
          refine wp_isub hX dX5_change_98 ?_
          refine wp_ti (y := (nI (i - 1))) (e1) ?_
          refine wp_zald hX dX5_change_99 rfl (vp_in_nI (by omega) (by decide)) ?_
          rw [nI_clamp (show i - 1 < 2 ^ 31 by omega)]
          obtain ⟨gi, y1, y2⟩ := hC.2 (i - 1) (by show i - 1 < u; omega)
          have y3 : va_cpy hg hg i (i + 1) (u - i) (i - 1) = b2i gi := by rw [pk_cpy_out (by omega)]; exact y2
          refine wp_zast hX dX5_change_100 rfl (vp_in_nI (by omega) (by decide)) (by show vp_nar .boolean (va_cpy hg hg i (i + 1) (u - i) (i - 1)) = va_cpy hg hg i (i + 1) (u - i) (i - 1); rw [y3]; cases gi <;> decide) ?_
          rw [nI_clamp (show i < 2 ^ 31 by omega)]
          refine wp_eqW (σ1 := wM c B W LG q st op pl rc ep bt K (u, upd (va_cpy hk hk i (i + 1) (u - i)) i (va_cpy hk hk i (i + 1) (u - i) (i - 1)), upd (va_cpy ht ht i (i + 1) (u - i)) i (va_cpy ht ht i (i + 1) (u - i) (i - 1)), upd (va_cpy hg hg i (i + 1) (u - i)) i (va_cpy hg hg i (i + 1) (u - i) (i - 1))) bf z s) rfl ?_
          rw [shD (by omega) hiu, shD (by omega) hiu, shD (by omega) hiu]
          refine wp_iinc hX dX5_change_101 ic_m1 rfl (Nat.le_of_ble_eq_true rfl) rfl ?_
          refine wp_goto (tgt := 46) hX dX5_change_104 (by decide) ?_
          rw [show nI i + -1 = nI (i - 1) from sb_m1 (by omega)]
          have := ih (i - 1) (by omega) (by omega)
          rw [show i - 1 + 1 = i by omega] at this
          exact this
      refine wp_aload_n hX dX5_change_40 rfl ?_
      refine wp_get hX dX5_change_41 flX5_104 rfl rfl ?_
      refine wp_istore hX dX5_change_44 (Nat.le_of_ble_eq_true rfl) rfl ?_
      have := loop (u - rk C key) u (by omega) (Nat.le_refl _)
      rw [Nat.sub_self, cpy0, cpy0, cpy0] at this
      exact this
    · have d1 : u = 600 := (nI_eq (a := u) (b := 600) (by omega) (by decide)).mp d
      have hf : (lk C key).isSome = false ∧ C.length = 600 := ⟨by rw [hn]; rfl, by omega⟩
      refine wp_bipush (v := (-6)) hX dX5_change_37 bp_m6 ?_
      refine wp_iret hX dX5_change_39 rfl rfl ?_
      exact hp _ _ ⟨_, by rw [if_pos hf], fun _ => rfl, fun y => absurd hf y, rfl⟩
  refine wp_icmp_eq (tgt := 27) hX dX5_change_13 (by decide) (fun d => ?_) (fun d => ?_)
  · have d1 := (nI_eq (a := rk C key) (b := u) (by omega) (by omega)).mp d
    refine new (some_none ?_)
    rw [← hC.has hs]
    exact decide_eq_false (fun y => by have := y.1; omega)
  · have d1 : rk C key < u := by
      have : ¬ rk C key = u := fun y => d (by rw [y])
      omega
    refine wp_aload_n hX dX5_change_16 rfl ?_
    refine wp_get hX dX5_change_17 flX5_20 rfl rfl ?_
    refine wp_iload hX dX5_change_20 rfl ?_
    refine wp_iald hX dX5_change_22 rfl (vp_in_nI (by omega) (by decide)) ?_
    refine wp_ti (y := (hk (rk C key))) (by rw [nI_clamp (by omega)]) ?_
    refine wp_iload_n hX dX5_change_23 rfl ?_
    refine wp_icmp_eq (tgt := 125) hX dX5_change_24 (by decide) (fun f => ?_) (fun f => ?_)
    · have hh : (lk C key).isSome = true := by rw [← hC.has hs]; exact decide_eq_true ⟨d1, f⟩
      exact fin u hk ht hg _ (fun y => by rw [hh] at y; exact absurd y.1 (by decide)) (hC.ins_old hs hh) (by omega)
    · refine new (some_none ?_)
      rw [← hC.has hs]
      exact decide_eq_false (fun y => f y.2)
end MO
