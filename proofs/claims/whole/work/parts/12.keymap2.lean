/-! KeyMap: what writes -/
theorem aw_ne {σ : aW} {i j : Nat} {c : aE} (h : i ≠ j) : (σ.set i c)[j]? = σ[j]? := List.getElem?_set_ne h
theorem aw_eq {σ : aW} {i : Nat} {x c : aE} (h : σ[i]? = some x) : (σ.set i c)[i]? = some c := List.getElem?_set_self (List.getElem?_eq_some_iff.mp h).1
theorem aw_id {σ : aW} {i : Nat} {c : aE} (h : σ[i]? = some c) : σ.set i c = σ := by
  apply List.ext_getElem?
  intro j
  by_cases e : i = j
  · subst e
    rw [aw_eq h, h]
  · rw [aw_ne e]
theorem aw_cc {σ : aW} {i j : Nat} {c d : aE} (h : i ≠ j) : (σ.set i c).set j d = (σ.set j d).set i c := List.set_comm c d h
theorem aw_ss {σ : aW} {i : Nat} {c d : aE} : (σ.set i c).set i d = σ.set i d := List.set_set c
theorem aw_ka {σ : aW} {k a : Nat} {ci n : Nat} {fs : List Value} {z : Bool} {f : Nat → Int32} (hk : σ[k]? = some (.inr (ci, fs))) (ha : σ[a]? = some (.inl (z, n, f))) : k ≠ a := fun e => by subst e; rw [hk] at ha; cases ha
section KA2
variable {m : PM} {u : Nat} {kf vf : Nat → Int32} {key v : Int32}
theorem lk_none_fst (hs : Srt m) (h : lk m key = none) : ¬ (m[rk m key]?.map Prod.fst) = some key := by
  rw [lk_rk hs] at h
  cases e : m[rk m key]? with
  | none => simp
  | some x =>
    rw [e] at h
    simp only at h
    intro z
    simp at z
    rw [if_pos z] at h
    cases h
theorem KA.ins_new (hm : KA m u kf vf) (hs : Srt m) (h : lk m key = none) : KA (ins m key v) (u + 1) (upd (va_cpy kf kf (rk m key) (rk m key + 1) (u - rk m key)) (rk m key) key) (upd (va_cpy vf vf (rk m key) (rk m key + 1) (u - rk m key)) (rk m key) v) := by
  have hr : rk m key ≤ u := by rw [← hm.1]; exact rk_le m key
  refine ⟨by rw [ins_len m key v hs, h, hm.1]; rfl, fun i hi => ?_⟩
  rw [ins_get, if_neg (lk_none_fst hs h)]
  by_cases e1 : i < rk m key
  · rw [if_pos e1, pk_un (by omega), pk_un (by omega), pk_cpy_out (by omega), pk_cpy_out (by omega)]
    exact hm.2 i (by omega)
  · rw [if_neg e1]
    by_cases e2 : i = rk m key
    · rw [if_pos e2, e2, pk_us, pk_us]
    · rw [if_neg e2, pk_un e2, pk_un e2, pk_cpy_in (by omega) (by omega), pk_cpy_in (by omega) (by omega), hm.2 (i - 1) (by omega)]
      rw [show rk m key + (i - (rk m key + 1)) = i - 1 by omega]
theorem KA.ins_old (hm : KA m u kf vf) (hs : Srt m) (h : (lk m key).isSome = true) : KA (ins m key v) u kf (upd vf (rk m key) v) := by
  obtain ⟨q1, q2, q3⟩ := ka_lk hm hs h
  refine ⟨by rw [ins_len m key v hs, h, hm.1]; rfl, fun i hi => ?_⟩
  rw [ins_get, if_pos (by rw [hm.2 _ q1]; simp [q2])]
  by_cases e2 : i = rk m key
  · rw [if_pos e2, e2, pk_us, q2]
  · rw [if_neg e2, pk_un e2]
    exact hm.2 i hi
theorem KA.del_ (hm : KA m u kf vf) (hs : Srt m) (h : (lk m key).isSome = true) : KA (del m key) (u - 1) (va_cpy kf kf (rk m key + 1) (rk m key) (u - 1 - rk m key)) (va_cpy vf vf (rk m key + 1) (rk m key) (u - 1 - rk m key)) := by
  obtain ⟨q1, q2, q3⟩ := ka_lk hm hs h
  have hl := del_len q3
  refine ⟨by have := hm.1; omega, fun i hi => ?_⟩
  rw [del_get hs q3]
  by_cases e1 : i < rk m key
  · rw [if_pos e1, pk_cpy_out (by omega), pk_cpy_out (by omega)]
    exact hm.2 i (by omega)
  · rw [if_neg e1, pk_cpy_in (by omega) (by omega), pk_cpy_in (by omega) (by omega), hm.2 (i + 1) (by omega)]
    rw [show rk m key + 1 + (i - rk m key) = i + 1 by omega]
theorem KA.copy {kf2 vf2 : Nat → Int32} (hm : KA m u kf vf) : KA m u (va_cpy kf kf2 0 0 u) (va_cpy vf vf2 0 0 u) := by
  refine ⟨hm.1, fun i hi => ?_⟩
  rw [pk_cpy_in (by omega) (by omega), pk_cpy_in (by omega) (by omega), hm.2 i hi]
  simp
end KA2
section KM2
variable {σ : aW} {k a b cap u : Nat} {kf vf : Nat → Int32} {m : PM} {key v : Int32}
/-- the world with another map in these three cells -/
abbrev kmw (σ : aW) (k a b cap u : Nat) (kf vf : Nat → Int32) : aW := ((σ.set a (ear cap kf)).set b (ear cap vf)).set k (ekm a b u)
set_option maxHeartbeats 4000000 in
set_option maxRecDepth 100000 in
theorem k_enterG (hab : a ≠ b) (hk : σ[k]? = some (ekm a b u)) (ha : σ[a]? = some (ear cap kf)) (hb : σ[b]? = some (ear cap vf)) (hu : u ≤ cap) (hu1 : (lk m key).isSome = false → u < cap) (hc : cap < 2 ^ 29) (hm : KA m u kf vf) (hs : Srt m) : MT mdX2_enter [.ref k, .int key, .int v] σ (fun r σ1 => r = none ∧ ∃ u1 kf1 vf1, KA (ins m key v) u1 kf1 vf1 ∧ σ1 = kmw σ k a b cap u1 kf1 vf1) := by
  refine mp_of [some (.ref k), some (.int key), some (.int v), none] rfl (Nat.le_of_ble_eq_true rfl) (by decide) (fun X Post hX hp => ?_)
  have hcu : (2 : Nat) ^ 29 = 536870912 := by decide
  have hr := rk_b hm (key := key)
  have hka := aw_ka hk ha
  have hkb := aw_ka hk hb
  refine wp_aload_n hX dX2_enter_0 rfl ?_
  refine wp_iload_n hX dX2_enter_1 rfl ?_
  refine wp_cv1 hX dX2_enter_2 mlX2_26 ⟨Nat.le_of_ble_eq_true rfl, Nat.le_of_ble_eq_true rfl⟩ (k_placeOf hk ha (by omega) hc hm hs) hk (Nat.le_of_ble_eq_true rfl) ?_
  refine wp_istore_n hX dX2_enter_5 (Nat.le_of_ble_eq_true rfl) rfl ?_
  refine wp_aload_n hX dX2_enter_6 rfl ?_
  refine wp_iload_n hX dX2_enter_7 rfl ?_
  refine wp_iload_n hX dX2_enter_8 rfl ?_
  refine wp_cv2 hX dX2_enter_9 mlX2_30 ⟨Nat.le_of_ble_eq_true rfl, Nat.le_of_ble_eq_true rfl⟩ (k_isAt hk ha (by omega) hc (by omega)) hk (Nat.le_of_ble_eq_true rfl) ?_
  rw [ka_has hm hs]
  cases hh : (lk m key).isSome with
  | true =>
    obtain ⟨q1, q2, q3⟩ := ka_lk hm hs hh
    refine wp_if_eq (tgt := 23) hX dX2_enter_12 (by decide) (fun c_ => absurd c_ (by decide)) (fun _ => ?_)
    refine wp_aload_n hX dX2_enter_15 rfl ?_
    refine wp_get hX dX2_enter_16 flX2_23 hk rfl ?_
    refine wp_iload_n hX dX2_enter_19 rfl ?_
    refine wp_iload_n hX dX2_enter_20 rfl ?_
    refine wp_iast hX dX2_enter_21 (hb) (vp_in_nI (by omega) (by omega)) ?_
    rw [nI_clamp (by omega)]
    refine wp_vret hX dX2_enter_22 rfl ?_
    refine hp _ _ ⟨rfl, u, kf, upd vf (rk m key) v, hm.ins_old hs hh, ?_⟩
    unfold kmw
    rw [aw_id ha]
    exact (aw_id (by rw [aw_ne hkb.symm]; exact hk)).symm
  | false =>
    have hu := hu1 hh
    have hn : lk m key = none := by
      cases h : lk m key with
      | none => rfl
      | some w => rw [h] at hh; cases hh
    have l1 : rk m key < 2 ^ 31 := by omega
    have l2 : rk m key + 1 < 2 ^ 31 := by omega
    have l3 : u - rk m key < 2 ^ 31 := by omega
    refine wp_if_eq (tgt := 23) hX dX2_enter_12 (by decide) (fun _ => ?_) (fun c_ => absurd (rfl) c_)
    refine wp_aload_n hX dX2_enter_23 rfl ?_
    refine wp_get hX dX2_enter_24 flX2_7 hk rfl ?_
    refine wp_aload_n hX dX2_enter_27 rfl ?_
    refine wp_get hX dX2_enter_28 flX2_19 hk rfl ?_
    refine wp_alen hX dX2_enter_31 (ha) ?_
    refine wp_icmp_lt (tgt := 36) hX dX2_enter_32 (by decide) (fun _ => ?_) (fun c_ => absurd (nI_lt hu (by omega)) c_)
    refine wp_aload_n hX dX2_enter_36 rfl ?_
    refine wp_get hX dX2_enter_37 flX2_19 hk rfl ?_
    refine wp_iload_n hX dX2_enter_40 rfl ?_
    refine wp_aload_n hX dX2_enter_41 rfl ?_
    refine wp_get hX dX2_enter_42 flX2_19 hk rfl ?_
    refine wp_iload_n hX dX2_enter_45 rfl ?_
    refine wp_iconst (v := 1) hX dX2_enter_46 ic_1 ?_
    refine wp_iadd hX dX2_enter_47 ?_
    refine wp_ti (y := (nI (rk m key + 1))) (nI_1 _) ?_
    refine wp_aload_n hX dX2_enter_48 rfl ?_
    refine wp_get hX dX2_enter_49 flX2_7 hk rfl ?_
    refine wp_iload_n hX dX2_enter_52 rfl ?_
    refine wp_isub hX dX2_enter_53 ?_
    refine wp_ti (y := (nI (u - rk m key))) (pk_sub hr) ?_
    refine wp_copy hX dX2_enter_54 mlX2_37 ⟨Nat.le_of_ble_eq_true rfl, Nat.le_of_ble_eq_true rfl⟩ (Nat.le_of_ble_eq_true rfl) (ha) (ha) (nI_pos l1) (nI_pos l2) (nI_pos l3) (by rw [nI_clamp l1, nI_clamp l3]; omega) (by rw [nI_clamp l2, nI_clamp l3]; omega) ?_
    rw [nI_clamp l1, nI_clamp l2, nI_clamp l3]
    have hk := (aw_ne (c := ear cap (va_cpy kf kf (rk m key) (rk m key + 1) (u - rk m key))) hka.symm).trans hk
    have hb := (aw_ne (c := ear cap (va_cpy kf kf (rk m key) (rk m key + 1) (u - rk m key))) hab).trans hb
    have ha := aw_eq (c := ear cap (va_cpy kf kf (rk m key) (rk m key + 1) (u - rk m key))) ha
    refine wp_aload_n hX dX2_enter_57 rfl ?_
    refine wp_get hX dX2_enter_58 flX2_23 hk rfl ?_
    refine wp_iload_n hX dX2_enter_61 rfl ?_
    refine wp_aload_n hX dX2_enter_62 rfl ?_
    refine wp_get hX dX2_enter_63 flX2_23 hk rfl ?_
    refine wp_iload_n hX dX2_enter_66 rfl ?_
    refine wp_iconst (v := 1) hX dX2_enter_67 ic_1 ?_
    refine wp_iadd hX dX2_enter_68 ?_
    refine wp_ti (y := (nI (rk m key + 1))) (nI_1 _) ?_
    refine wp_aload_n hX dX2_enter_69 rfl ?_
    refine wp_get hX dX2_enter_70 flX2_7 hk rfl ?_
    refine wp_iload_n hX dX2_enter_73 rfl ?_
    refine wp_isub hX dX2_enter_74 ?_
    refine wp_ti (y := (nI (u - rk m key))) (pk_sub hr) ?_
    refine wp_copy hX dX2_enter_75 mlX2_37 ⟨Nat.le_of_ble_eq_true rfl, Nat.le_of_ble_eq_true rfl⟩ (Nat.le_of_ble_eq_true rfl) (hb) (hb) (nI_pos l1) (nI_pos l2) (nI_pos l3) (by rw [nI_clamp l1, nI_clamp l3]; omega) (by rw [nI_clamp l2, nI_clamp l3]; omega) ?_
    rw [nI_clamp l1, nI_clamp l2, nI_clamp l3]
    have hk := (aw_ne (c := ear cap (va_cpy vf vf (rk m key) (rk m key + 1) (u - rk m key))) hkb.symm).trans hk
    have ha := (aw_ne (c := ear cap (va_cpy vf vf (rk m key) (rk m key + 1) (u - rk m key))) hab.symm).trans ha
    have hb := aw_eq (c := ear cap (va_cpy vf vf (rk m key) (rk m key + 1) (u - rk m key))) hb
    refine wp_aload_n hX dX2_enter_78 rfl ?_
    refine wp_get hX dX2_enter_79 flX2_19 hk rfl ?_
    refine wp_iload_n hX dX2_enter_82 rfl ?_
    refine wp_iload_n hX dX2_enter_83 rfl ?_
    refine wp_iast hX dX2_enter_84 (ha) (vp_in_nI (by omega) (by omega)) ?_
    rw [nI_clamp l1]
    have hk := (aw_ne (c := ear cap (upd (va_cpy kf kf (rk m key) (rk m key + 1) (u - rk m key)) (rk m key) key)) hka.symm).trans hk
    have hb := (aw_ne (c := ear cap (upd (va_cpy kf kf (rk m key) (rk m key + 1) (u - rk m key)) (rk m key) key)) hab).trans hb
    refine wp_aload_n hX dX2_enter_85 rfl ?_
    refine wp_get hX dX2_enter_86 flX2_23 hk rfl ?_
    refine wp_iload_n hX dX2_enter_89 rfl ?_
    refine wp_iload_n hX dX2_enter_90 rfl ?_
    refine wp_iast hX dX2_enter_91 (hb) (vp_in_nI (by omega) (by omega)) ?_
    rw [nI_clamp l1]
    have hk := (aw_ne (c := ear cap (upd (va_cpy vf vf (rk m key) (rk m key + 1) (u - rk m key)) (rk m key) v)) hkb.symm).trans hk
    refine wp_aload_n hX dX2_enter_92 rfl ?_
    refine wp_dup hX dX2_enter_93 rfl ?_
    refine wp_get hX dX2_enter_94 flX2_7 hk rfl ?_
    refine wp_iconst (v := 1) hX dX2_enter_97 ic_1 ?_
    refine wp_iadd hX dX2_enter_98 ?_
    refine wp_ti (y := (nI (u + 1))) (nI_1 _) ?_
    refine wp_put hX dX2_enter_99 fwX2_7 hk (Nat.le_of_ble_eq_true rfl) rfl rfl ?_
    refine wp_vret hX dX2_enter_102 rfl ?_
    refine hp _ _ ⟨rfl, u + 1, _, _, hm.ins_new hs hn, ?_⟩
    unfold kmw
    show List.set (List.set (List.set (List.set (List.set σ a _) b _) a _) b _) k _ = _
    rw [aw_cc (i := b) (j := a) hab.symm, aw_ss, aw_ss]
    rfl
theorem k_enter (hab : a ≠ b) (hk : σ[k]? = some (ekm a b u)) (ha : σ[a]? = some (ear cap kf)) (hb : σ[b]? = some (ear cap vf)) (hu : u < cap) (hc : cap < 2 ^ 29) (hm : KA m u kf vf) (hs : Srt m) : MT mdX2_enter [.ref k, .int key, .int v] σ (fun r σ1 => r = none ∧ ∃ u1 kf1 vf1, KA (ins m key v) u1 kf1 vf1 ∧ σ1 = kmw σ k a b cap u1 kf1 vf1) := k_enterG hab hk ha hb (Nat.le_of_lt hu) (fun _ => hu) hc hm hs
set_option maxHeartbeats 4000000 in
set_option maxRecDepth 100000 in
theorem k_drop (hab : a ≠ b) (hk : σ[k]? = some (ekm a b u)) (ha : σ[a]? = some (ear cap kf)) (hb : σ[b]? = some (ear cap vf)) (hu : u ≤ cap) (hc : cap < 2 ^ 29) (hm : KA m u kf vf) (hs : Srt m) : MT mdX2_drop [.ref k, .int key] σ (fun r σ1 => r = none ∧ ∃ u1 kf1 vf1, KA (del m key) u1 kf1 vf1 ∧ σ1 = kmw σ k a b cap u1 kf1 vf1) := by
  refine mp_of [some (.ref k), some (.int key), none] rfl (Nat.le_of_ble_eq_true rfl) (by decide) (fun X Post hX hp => ?_)
  have hcu : (2 : Nat) ^ 29 = 536870912 := by decide
  have hr := rk_b hm (key := key)
  have hka := aw_ka hk ha
  have hkb := aw_ka hk hb
  refine wp_aload_n hX dX2_drop_0 rfl ?_
  refine wp_iload_n hX dX2_drop_1 rfl ?_
  refine wp_cv1 hX dX2_drop_2 mlX2_26 ⟨Nat.le_of_ble_eq_true rfl, Nat.le_of_ble_eq_true rfl⟩ (k_placeOf hk ha (by omega) hc hm hs) hk (Nat.le_of_ble_eq_true rfl) ?_
  refine wp_istore_n hX dX2_drop_5 (Nat.le_of_ble_eq_true rfl) rfl ?_
  refine wp_aload_n hX dX2_drop_6 rfl ?_
  refine wp_iload_n hX dX2_drop_7 rfl ?_
  refine wp_iload_n hX dX2_drop_8 rfl ?_
  refine wp_cv2 hX dX2_drop_9 mlX2_30 ⟨Nat.le_of_ble_eq_true rfl, Nat.le_of_ble_eq_true rfl⟩ (k_isAt hk ha (by omega) hc (by omega)) hk (Nat.le_of_ble_eq_true rfl) ?_
  rw [ka_has hm hs]
  cases hh : (lk m key).isSome with
  | false =>
    have hn : lk m key = none := by
      cases h : lk m key with
      | none => rfl
      | some w => rw [h] at hh; cases hh
    refine wp_if_ne (tgt := 16) hX dX2_drop_12 (by decide) (fun c_ => absurd (rfl) c_) (fun _ => ?_)
    refine wp_vret hX dX2_drop_15 rfl ?_
    refine hp _ _ ⟨rfl, u, kf, vf, by rw [del_none hn]; exact hm, ?_⟩
    unfold kmw
    rw [aw_id ha, aw_id hb, aw_id hk]
  | true =>
    obtain ⟨q1, q2, q3⟩ := ka_lk hm hs hh
    have l1 : rk m key < 2 ^ 31 := by omega
    have l2 : rk m key + 1 < 2 ^ 31 := by omega
    have l3 : u - 1 - rk m key < 2 ^ 31 := by omega
    have e1 : nI u - 1 = nI (u - 1) := by
      have := pk_sub (a := u) (b := 1) (by omega)
      exact this
    refine wp_if_ne (tgt := 16) hX dX2_drop_12 (by decide) (fun _ => ?_) (fun c_ => absurd c_ (by decide))
    refine wp_aload_n hX dX2_drop_16 rfl ?_
    refine wp_dup hX dX2_drop_17 rfl ?_
    refine wp_get hX dX2_drop_18 flX2_7 hk rfl ?_
    refine wp_iconst (v := 1) hX dX2_drop_21 ic_1 ?_
    refine wp_isub hX dX2_drop_22 ?_
    refine wp_ti (y := (nI (u - 1))) (e1) ?_
    refine wp_put hX dX2_drop_23 fwX2_7 hk (Nat.le_of_ble_eq_true rfl) rfl rfl ?_
    have hk0 := hk
    have ha := (aw_ne (c := ekm a b (u - 1)) hka).trans ha
    have hb := (aw_ne (c := ekm a b (u - 1)) hkb).trans hb
    have hk := aw_eq (c := ekm a b (u - 1)) hk
    refine wp_aload_n hX dX2_drop_26 rfl ?_
    refine wp_get hX dX2_drop_27 flX2_19 hk rfl ?_
    refine wp_iload_n hX dX2_drop_30 rfl ?_
    refine wp_iconst (v := 1) hX dX2_drop_31 ic_1 ?_
    refine wp_iadd hX dX2_drop_32 ?_
    refine wp_ti (y := (nI (rk m key + 1))) (nI_1 _) ?_
    refine wp_aload_n hX dX2_drop_33 rfl ?_
    refine wp_get hX dX2_drop_34 flX2_19 hk rfl ?_
    refine wp_iload_n hX dX2_drop_37 rfl ?_
    refine wp_aload_n hX dX2_drop_38 rfl ?_
    refine wp_get hX dX2_drop_39 flX2_7 hk rfl ?_
    refine wp_iload_n hX dX2_drop_42 rfl ?_
    refine wp_isub hX dX2_drop_43 ?_
    refine wp_ti (y := (nI (u - 1 - rk m key))) (pk_sub (by omega)) ?_
    refine wp_copy hX dX2_drop_44 mlX2_37 ⟨Nat.le_of_ble_eq_true rfl, Nat.le_of_ble_eq_true rfl⟩ (Nat.le_of_ble_eq_true rfl) (ha) (ha) (nI_pos l2) (nI_pos l1) (nI_pos l3) (by rw [nI_clamp l2, nI_clamp l3]; omega) (by rw [nI_clamp l1, nI_clamp l3]; omega) ?_
    rw [nI_clamp l1, nI_clamp l2, nI_clamp l3]
    have hk := (aw_ne (c := ear cap (va_cpy kf kf (rk m key + 1) (rk m key) (u - 1 - rk m key))) hka.symm).trans hk
    have hb := (aw_ne (c := ear cap (va_cpy kf kf (rk m key + 1) (rk m key) (u - 1 - rk m key))) hab).trans hb
    refine wp_aload_n hX dX2_drop_47 rfl ?_
    refine wp_get hX dX2_drop_48 flX2_23 hk rfl ?_
    refine wp_iload_n hX dX2_drop_51 rfl ?_
    refine wp_iconst (v := 1) hX dX2_drop_52 ic_1 ?_
    refine wp_iadd hX dX2_drop_53 ?_
    refine wp_ti (y := (nI (rk m key + 1))) (nI_1 _) ?_
    refine wp_aload_n hX dX2_drop_54 rfl ?_
    refine wp_get hX dX2_drop_55 flX2_23 hk rfl ?_
    refine wp_iload_n hX dX2_drop_58 rfl ?_
    refine wp_aload_n hX dX2_drop_59 rfl ?_
    refine wp_get hX dX2_drop_60 flX2_7 hk rfl ?_
    refine wp_iload_n hX dX2_drop_63 rfl ?_
    refine wp_isub hX dX2_drop_64 ?_
    refine wp_ti (y := (nI (u - 1 - rk m key))) (pk_sub (by omega)) ?_
    refine wp_copy hX dX2_drop_65 mlX2_37 ⟨Nat.le_of_ble_eq_true rfl, Nat.le_of_ble_eq_true rfl⟩ (Nat.le_of_ble_eq_true rfl) (hb) (hb) (nI_pos l2) (nI_pos l1) (nI_pos l3) (by rw [nI_clamp l2, nI_clamp l3]; omega) (by rw [nI_clamp l1, nI_clamp l3]; omega) ?_
    rw [nI_clamp l1, nI_clamp l2, nI_clamp l3]
    refine wp_vret hX dX2_drop_68 rfl ?_
    refine hp _ _ ⟨rfl, u - 1, _, _, hm.del_ hs hh, ?_⟩
    unfold kmw
    show List.set (List.set (List.set σ k _) a _) b _ = _
    rw [aw_cc (i := k) (j := a) hka, aw_cc (i := k) (j := b) hkb]
    rfl
set_option maxHeartbeats 4000000 in
set_option maxRecDepth 100000 in
theorem k_clear {x : Int32} (hk : σ[k]? = some (.inr (2, [.ref a, .ref b, .int x]))) : MD1 mdX2_clear [.ref k] σ none (σ.set k (ekm a b 0)) := by
  refine md_of [some (.ref k)] rfl (Nat.le_of_ble_eq_true rfl) (by decide) (fun X Post hX hp => ?_)
  refine wp_aload_n hX dX2_clear_0 rfl ?_
  refine wp_iconst (v := 0) hX dX2_clear_1 ic_0 ?_
  refine wp_put hX dX2_clear_2 fwX2_7 hk (Nat.le_of_ble_eq_true rfl) rfl rfl ?_
  refine wp_vret hX dX2_clear_5 rfl ?_
  exact hp
set_option maxHeartbeats 4000000 in
set_option maxRecDepth 100000 in
/-- copyFrom: k's arrays then begin as k2's do -/
theorem k_copyFrom {k2 a2 b2 cap2 u2 : Nat} {kf2 vf2 : Nat → Int32} {x : Int32} (hd : k ≠ k2 ∧ a ≠ b ∧ a ≠ b2) (hk : σ[k]? = some (.inr (2, [.ref a, .ref b, .int x]))) (ha : σ[a]? = some (ear cap kf)) (hb : σ[b]? = some (ear cap vf)) (hk2 : σ[k2]? = some (ekm a2 b2 u2)) (ha2 : σ[a2]? = some (ear cap2 kf2)) (hb2 : σ[b2]? = some (ear cap2 vf2))
    (hu : u2 ≤ cap) (hu2 : u2 ≤ cap2) (hc : cap < 2 ^ 29) (hc2 : cap2 < 2 ^ 29) : MD1 mdX2_copyFrom [.ref k, .ref k2] σ none (kmw σ k a b cap u2 (va_cpy kf2 kf 0 0 u2) (va_cpy vf2 vf 0 0 u2)) := by
  refine md_of [some (.ref k), some (.ref k2)] rfl (Nat.le_of_ble_eq_true rfl) (by decide) (fun X Post hX hp => ?_)
  have hcu : (2 : Nat) ^ 29 = 536870912 := by decide
  obtain ⟨d1, d2, d3⟩ := hd
  have hka := aw_ka hk ha
  have hkb := aw_ka hk hb
  have hka2 := aw_ka hk ha2
  have hkb2 := aw_ka hk hb2
  have h2a := aw_ka hk2 ha
  have l1 : u2 < 2 ^ 31 := by omega
  have e0 : (0 : Int32) = nI 0 := rfl
  refine wp_aload_n hX dX2_copyFrom_0 rfl ?_
  refine wp_aload_n hX dX2_copyFrom_1 rfl ?_
  refine wp_get hX dX2_copyFrom_2 flX2_7 (hk2) rfl ?_
  refine wp_aload_n hX dX2_copyFrom_5 rfl ?_
  refine wp_get hX dX2_copyFrom_6 flX2_19 hk rfl ?_
  refine wp_alen hX dX2_copyFrom_9 (ha) ?_
  refine wp_min hX dX2_copyFrom_10 mlX2_43 ⟨Nat.le_of_ble_eq_true rfl, Nat.le_of_ble_eq_true rfl⟩ (Nat.le_of_ble_eq_true rfl) ?_
  refine wp_ti (y := nI u2) (by rw [if_neg (nI_nlt hu (by omega))]) ?_
  refine wp_put hX dX2_copyFrom_13 fwX2_7 hk (Nat.le_of_ble_eq_true rfl) rfl rfl ?_
  have ha := (aw_ne (c := ekm a b u2) hka).trans ha
  have hb := (aw_ne (c := ekm a b u2) hkb).trans hb
  have hk2 := (aw_ne (c := ekm a b u2) d1).trans hk2
  have ha2 := (aw_ne (c := ekm a b u2) hka2).trans ha2
  have hb2 := (aw_ne (c := ekm a b u2) hkb2).trans hb2
  have hk := aw_eq (c := ekm a b u2) hk
  refine wp_aload_n hX dX2_copyFrom_16 rfl ?_
  refine wp_get hX dX2_copyFrom_17 flX2_19 (hk2) rfl ?_
  refine wp_iconst (v := 0) hX dX2_copyFrom_20 ic_0 ?_
  refine wp_aload_n hX dX2_copyFrom_21 rfl ?_
  refine wp_get hX dX2_copyFrom_22 flX2_19 hk rfl ?_
  refine wp_iconst (v := 0) hX dX2_copyFrom_25 ic_0 ?_
  refine wp_aload_n hX dX2_copyFrom_26 rfl ?_
  refine wp_get hX dX2_copyFrom_27 flX2_7 hk rfl ?_
  refine wp_copy hX dX2_copyFrom_30 mlX2_37 ⟨Nat.le_of_ble_eq_true rfl, Nat.le_of_ble_eq_true rfl⟩ (Nat.le_of_ble_eq_true rfl) (ha2) (ha) (by decide) (by decide) (nI_pos l1) (by rw [nI_clamp l1]; show 0 + u2 ≤ cap2; omega) (by rw [nI_clamp l1]; show 0 + u2 ≤ cap; omega) ?_
  rw [nI_clamp l1]
  rw [show (0 : Int32).toNatClampNeg = 0 from rfl]
  have hk := (aw_ne (c := ear cap (va_cpy kf2 kf 0 0 u2)) hka.symm).trans hk
  have hk2 := (aw_ne (c := ear cap (va_cpy kf2 kf 0 0 u2)) h2a.symm).trans hk2
  have hb := (aw_ne (c := ear cap (va_cpy kf2 kf 0 0 u2)) d2).trans hb
  have hb2 := (aw_ne (c := ear cap (va_cpy kf2 kf 0 0 u2)) d3).trans hb2
  refine wp_aload_n hX dX2_copyFrom_33 rfl ?_
  refine wp_get hX dX2_copyFrom_34 flX2_23 (hk2) rfl ?_
  refine wp_iconst (v := 0) hX dX2_copyFrom_37 ic_0 ?_
  refine wp_aload_n hX dX2_copyFrom_38 rfl ?_
  refine wp_get hX dX2_copyFrom_39 flX2_23 hk rfl ?_
  refine wp_iconst (v := 0) hX dX2_copyFrom_42 ic_0 ?_
  refine wp_aload_n hX dX2_copyFrom_43 rfl ?_
  refine wp_get hX dX2_copyFrom_44 flX2_7 hk rfl ?_
  refine wp_copy hX dX2_copyFrom_47 mlX2_37 ⟨Nat.le_of_ble_eq_true rfl, Nat.le_of_ble_eq_true rfl⟩ (Nat.le_of_ble_eq_true rfl) (hb2) (hb) (by decide) (by decide) (nI_pos l1) (by rw [nI_clamp l1]; show 0 + u2 ≤ cap2; omega) (by rw [nI_clamp l1]; show 0 + u2 ≤ cap; omega) ?_
  rw [nI_clamp l1]
  rw [show (0 : Int32).toNatClampNeg = 0 from rfl]
  refine wp_vret hX dX2_copyFrom_50 rfl ?_
  unfold kmw at hp
  rw [← aw_cc (i := k) (j := b) hkb, ← aw_cc (i := k) (j := a) hka] at hp
  exact hp
/-- the sum of n places from a on -/
def sumF (f : Nat → Int32) (a : Nat) : Nat → Int64
  | 0 => 0
  | n + 1 => sumF f a n + (f (a + n)).toInt64
set_option maxHeartbeats 4000000 in
set_option maxRecDepth 100000 in
theorem k_sumOfValues {p q : Nat} (hk : σ[k]? = some (ekm a b u)) (hb : σ[b]? = some (ear cap vf)) (hu : u ≤ cap) (hc : cap < 2 ^ 29) (hpq : p ≤ q) (hq : q ≤ u) : MD1 mdX2_sumOfValues [.ref k, .int (nI p), .int (nI q)] σ (some (.long (sumF vf p (q - p)))) σ := by
  refine md_of [some (.ref k), some (.int (nI p)), some (.int (nI q)), none, none, none] rfl (Nat.le_of_ble_eq_true rfl) (by decide) (fun X Post hX hp => ?_)
  have hcu : (2 : Nat) ^ 29 = 536870912 := by decide
  have loop : ∀ (n j : Nat), p + j + n = q → Wp X Post 5 [some (.ref k), some (.int (nI p)), some (.int (nI q)), some (.long (sumF vf p j)), none, some (.int (nI (p + j)))] [] σ := by
    intro n
    induction n with
    | zero =>
      intro j hj
      refine wp_iload hX dX2_sumOfValues_5 rfl ?_
      refine wp_iload_n hX dX2_sumOfValues_7 rfl ?_
      refine wp_icmp_ge (tgt := 27) hX dX2_sumOfValues_8 (by decide) (fun _ => ?_) (fun c_ => absurd (nI_le (by omega) (by omega)) c_)
      refine wp_lload_n hX dX2_sumOfValues_27 rfl ?_
      refine wp_lret hX dX2_sumOfValues_28 rfl ?_
      rw [show q - p = j by omega] at hp
      exact hp
    | succ n ih =>
      intro j hj
      refine wp_iload hX dX2_sumOfValues_5 rfl ?_
      refine wp_iload_n hX dX2_sumOfValues_7 rfl ?_
      refine wp_icmp_ge (tgt := 27) hX dX2_sumOfValues_8 (by decide) (fun c_ => absurd c_ (nI_ge (by omega) (by omega))) (fun _ => ?_)
      refine wp_lload_n hX dX2_sumOfValues_11 rfl ?_
      refine wp_aload_n hX dX2_sumOfValues_12 rfl ?_
      refine wp_iload hX dX2_sumOfValues_13 rfl ?_
      refine wp_cv1 hX dX2_sumOfValues_15 mlX2_34 ⟨Nat.le_of_ble_eq_true rfl, Nat.le_of_ble_eq_true rfl⟩ (k_valueAt hk hb hu hc) hk (Nat.le_of_ble_eq_true rfl) ?_
      rw [at0_nI (by omega), if_pos (by omega)]
      refine wp_i2l hX dX2_sumOfValues_18 ?_
      refine wp_ladd hX dX2_sumOfValues_19 ?_
      refine wp_lstore_n hX dX2_sumOfValues_20 (Nat.le_of_ble_eq_true rfl) rfl ?_
      refine wp_iinc hX dX2_sumOfValues_21 ic_1 rfl (Nat.le_of_ble_eq_true rfl) rfl ?_
      refine wp_goto (tgt := 5) hX dX2_sumOfValues_24 (by decide) ?_
      rw [nI_1]
      exact ih (j + 1) (by omega)
  refine wp_lconst (v := 0) hX dX2_sumOfValues_0 lc_0 ?_
  refine wp_lstore_n hX dX2_sumOfValues_1 (Nat.le_of_ble_eq_true rfl) rfl ?_
  refine wp_iload_n hX dX2_sumOfValues_2 rfl ?_
  refine wp_istore hX dX2_sumOfValues_3 (Nat.le_of_ble_eq_true rfl) rfl ?_
  exact loop (q - p) 0 (by omega)
end KM2
