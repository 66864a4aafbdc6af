/-! KeyMap: object k with arrays a (keys), b (values) of cap places, u in use -/
abbrev ekm (a b : Nat) (u : Nat) : aE := .inr (2, [.ref a, .ref b, .int (nI u)])
abbrev ear (n : Nat) (f : Nat → Int32) : aE := .inl (false, n, f)
section KM
variable {σ : aW} {k a b cap u : Nat} {kf vf : Nat → Int32} {m : PM} {key : Int32}
set_option maxHeartbeats 4000000 in
set_option maxRecDepth 100000 in
theorem k_placeOf (hk : σ[k]? = some (ekm a b u)) (ha : σ[a]? = some (ear cap kf)) (hu : u ≤ cap) (hc : cap < 2 ^ 29) (hm : KA m u kf vf) (hs : Srt m) : MD1 mdX2_placeOf [.ref k, .int key] σ (some (.int (nI (rk m key)))) σ := by
  refine md_of [some (.ref k), some (.int key), none, none, none, none] rfl (Nat.le_of_ble_eq_true rfl) (by decide) (fun X Post hX hp => ?_)
  have hcu : (2 : Nat) ^ 29 = 536870912 := by decide
  have mono : ∀ i j, i < j → j < u → kf i < kf j := fun i j hij hj => srt_get hs hij (hm.2 i (by omega)) (hm.2 j hj)
  have loop : ∀ (n step lo hi : Nat) (mid : Option Value), noL [some (.ref k), some (.int key), some (.int (nI lo)), some (.int (nI hi)), some (.int (nI step)), mid] 5 = true → step + n = 30 → lo ≤ hi → hi ≤ u → hi - lo < 2 ^ n → (∀ i, i < lo → kf i < key) → (∀ i, hi ≤ i → i < u → ¬ kf i < key) → Wp X Post 10 [some (.ref k), some (.int key), some (.int (nI lo)), some (.int (nI hi)), some (.int (nI step)), mid] [] σ := by
    intro n
    induction n with
    | zero =>
      intro step lo hi mid _ h1 h2 h3 h4 h5 h6
      have e : lo = hi := by simp at h4; omega
      subst e
      refine wp_iload hX dX2_placeOf_10 rfl ?_
      refine wp_bipush (v := 32) hX dX2_placeOf_12 bp_32 ?_
      refine wp_icmp_ge (tgt := 57) hX dX2_placeOf_14 (by decide) (fun c => absurd c (nI_ge (a := step) (b := 32) (by omega) (by decide))) (fun _ => ?_)
      refine wp_iload_n hX dX2_placeOf_17 rfl ?_
      refine wp_iload_n hX dX2_placeOf_18 rfl ?_
      refine wp_icmp_ge (tgt := 57) hX dX2_placeOf_19 (by decide) (fun _ => ?_) (fun c => absurd (nI_le (Nat.le_refl lo) (by omega)) c)
      refine wp_iload_n hX dX2_placeOf_57 rfl ?_
      refine wp_iret hX dX2_placeOf_58 rfl rfl ?_
      have e : rk m key = lo := rk_char (by rw [hm.1]; exact h3) (fun i x hi hx => by obtain ⟨_, rfl⟩ := hm.get hx; exact h5 i hi) (fun x hx => by obtain ⟨q, rfl⟩ := hm.get hx; exact h6 _ (Nat.le_refl _) q)
      rw [← e]
      exact hp
    | succ n ih =>
      intro step lo hi mid _ h1 h2 h3 h4 h5 h6
      refine wp_iload hX dX2_placeOf_10 rfl ?_
      refine wp_bipush (v := 32) hX dX2_placeOf_12 bp_32 ?_
      refine wp_icmp_ge (tgt := 57) hX dX2_placeOf_14 (by decide) (fun c => absurd c (nI_ge (a := step) (b := 32) (by omega) (by decide))) (fun _ => ?_)
      refine wp_iload_n hX dX2_placeOf_17 rfl ?_
      refine wp_iload_n hX dX2_placeOf_18 rfl ?_
      refine wp_icmp_ge (tgt := 57) hX dX2_placeOf_19 (by decide) (fun c => ?_) (fun c => ?_)
      · have e : lo = hi := by
          have := (nI_leI (a := hi) (b := lo) (by omega) (by omega)).mp c
          omega
        subst e
        refine wp_iload_n hX dX2_placeOf_57 rfl ?_
        refine wp_iret hX dX2_placeOf_58 rfl rfl ?_
        have e : rk m key = lo := rk_char (by rw [hm.1]; exact h3) (fun i x hi hx => by obtain ⟨_, rfl⟩ := hm.get hx; exact h5 i hi) (fun x hx => by obtain ⟨q, rfl⟩ := hm.get hx; exact h6 _ (Nat.le_refl _) q)
        rw [← e]
        exact hp
      · have hlt : lo < hi := by
          rcases Nat.lt_or_ge lo hi with q | q
          · exact q
          · exact absurd (nI_le q (by omega)) c
        obtain ⟨md, hmd⟩ : ∃ md, md = (lo + hi) / 2 := ⟨_, rfl⟩
        have hp2 : 2 ^ (n + 1) = 2 * 2 ^ n := by rw [Nat.pow_succ]; omega
        refine wp_iload_n hX dX2_placeOf_22 rfl ?_
        refine wp_iload_n hX dX2_placeOf_23 rfl ?_
        refine wp_iadd hX dX2_placeOf_24 ?_
        refine wp_iconst (v := 2) hX dX2_placeOf_25 ic_2 ?_
        refine wp_idiv hX dX2_placeOf_26 (by decide) ?_
        refine wp_ti (y := (nI md)) (by rw [nI_add, hmd]; exact pk_div (a := lo + hi) (d := 2) (by omega) (by decide) (by decide)) ?_
        refine wp_istore hX dX2_placeOf_27 (Nat.le_of_ble_eq_true rfl) rfl ?_
        refine wp_aload_n hX dX2_placeOf_29 rfl ?_
        refine wp_get hX dX2_placeOf_30 flX2_19 hk rfl ?_
        refine wp_iload hX dX2_placeOf_33 rfl ?_
        refine wp_iald hX dX2_placeOf_35 (ha) (vp_in_nI (by omega) (by omega)) ?_
        refine wp_ti (y := (kf md)) (by rw [nI_clamp (by omega)]) ?_
        refine wp_iload_n hX dX2_placeOf_36 rfl ?_
        refine wp_icmp_ge (tgt := 48) hX dX2_placeOf_37 (by decide) (fun d => ?_) (fun d => ?_)
        · refine wp_iload hX dX2_placeOf_48 rfl ?_
          refine wp_istore_n hX dX2_placeOf_50 (Nat.le_of_ble_eq_true rfl) rfl ?_
          refine wp_iinc hX dX2_placeOf_51 ic_1 rfl (Nat.le_of_ble_eq_true rfl) rfl ?_
          refine wp_goto (tgt := 10) hX dX2_placeOf_54 (by decide) ?_
          rw [nI_1]
          refine ih (step + 1) lo md (some (.int (nI md))) rfl (by omega) (by omega) (by omega) (by omega) h5 (fun i q1 q2 => ?_)
          rcases Nat.lt_or_ge md i with q | q
          · have := mono md i q q2
            exact fun z => by rw [ilt] at *; rw [ile] at d; omega
          · have : i = md := by omega
            subst this
            exact fun z => by rw [ilt] at z; rw [ile] at d; omega
        · refine wp_iload hX dX2_placeOf_40 rfl ?_
          refine wp_iconst (v := 1) hX dX2_placeOf_42 ic_1 ?_
          refine wp_iadd hX dX2_placeOf_43 ?_
          refine wp_ti (y := (nI (md + 1))) (nI_1 md) ?_
          refine wp_istore_n hX dX2_placeOf_44 (Nat.le_of_ble_eq_true rfl) rfl ?_
          refine wp_goto (tgt := 51) hX dX2_placeOf_45 (by decide) ?_
          refine wp_iinc hX dX2_placeOf_51 ic_1 rfl (Nat.le_of_ble_eq_true rfl) rfl ?_
          refine wp_goto (tgt := 10) hX dX2_placeOf_54 (by decide) ?_
          rw [nI_1]
          refine ih (step + 1) (md + 1) hi (some (.int (nI md))) rfl (by omega) (by omega) (by omega) (by omega) (fun i q1 => ?_) h6
          have hd : kf md < key := by rw [ilt]; rw [ile] at d; omega
          rcases Nat.lt_or_ge i md with q | q
          · exact i_tr (mono i md q (by omega)) hd
          · have : i = md := by omega
            subst this
            exact hd
  refine wp_iconst (v := 0) hX dX2_placeOf_0 ic_0 ?_
  refine wp_istore_n hX dX2_placeOf_1 (Nat.le_of_ble_eq_true rfl) rfl ?_
  refine wp_aload_n hX dX2_placeOf_2 rfl ?_
  refine wp_get hX dX2_placeOf_3 flX2_7 hk rfl ?_
  refine wp_istore_n hX dX2_placeOf_6 (Nat.le_of_ble_eq_true rfl) rfl ?_
  refine wp_iconst (v := 0) hX dX2_placeOf_7 ic_0 ?_
  refine wp_istore hX dX2_placeOf_8 (Nat.le_of_ble_eq_true rfl) rfl ?_
  have h0 : (0 : Int32) = nI 0 := rfl
  rw [h0]
  exact loop 30 0 0 u none rfl (by omega) (by omega) (by omega) (by omega) (fun i q => by omega) (fun i q1 q2 => by omega)
set_option maxHeartbeats 4000000 in
set_option maxRecDepth 100000 in
theorem k_isAt {p : Nat} (hk : σ[k]? = some (ekm a b u)) (ha : σ[a]? = some (ear cap kf)) (hu : u ≤ cap) (hc : cap < 2 ^ 29) (hp : p < 2 ^ 31) : MD1 mdX2_isAt [.ref k, .int (nI p), .int key] σ (some (.int (b2i (decide (p < u ∧ kf p = key))))) σ := by
  refine md_of [some (.ref k), some (.int (nI p)), some (.int key)] rfl (Nat.le_of_ble_eq_true rfl) (by decide) (fun X Post hX hp0 => ?_)
  have hcu : (2 : Nat) ^ 29 = 536870912 := by decide
  refine wp_iload_n hX dX2_isAt_0 rfl ?_
  refine wp_if_lt (tgt := 26) hX dX2_isAt_1 (by decide) (fun c => absurd c (nI_pos hp)) (fun _ => ?_)
  refine wp_iload_n hX dX2_isAt_4 rfl ?_
  refine wp_aload_n hX dX2_isAt_5 rfl ?_
  refine wp_get hX dX2_isAt_6 flX2_7 hk rfl ?_
  refine wp_icmp_ge (tgt := 26) hX dX2_isAt_9 (by decide) (fun c => ?_) (fun c => ?_)
  · have q := (nI_leI (a := u) (b := p) (by omega) hp).mp c
    refine wp_iconst (v := 0) hX dX2_isAt_26 ic_0 ?_
    refine wp_iret hX dX2_isAt_27 rfl rfl ?_
    rw [decide_eq_false (fun z => by omega)] at hp0
    exact hp0
  · have q : p < u := by
      rcases Nat.lt_or_ge p u with q | q
      · exact q
      · exact absurd (nI_le q hp) c
    refine wp_aload_n hX dX2_isAt_12 rfl ?_
    refine wp_get hX dX2_isAt_13 flX2_19 hk rfl ?_
    refine wp_iload_n hX dX2_isAt_16 rfl ?_
    refine wp_iald hX dX2_isAt_17 (ha) (vp_in_nI (by omega) (by omega)) ?_
    refine wp_ti (y := (kf p)) (by rw [nI_clamp hp]) ?_
    refine wp_iload_n hX dX2_isAt_18 rfl ?_
    refine wp_icmp_ne (tgt := 26) hX dX2_isAt_19 (by decide) (fun d => ?_) (fun d => ?_)
    · refine wp_iconst (v := 0) hX dX2_isAt_26 ic_0 ?_
      refine wp_iret hX dX2_isAt_27 rfl rfl ?_
      rw [decide_eq_false (fun z => d z.2)] at hp0
      exact hp0
    · refine wp_iconst (v := 1) hX dX2_isAt_22 ic_1 ?_
      refine wp_goto (tgt := 27) hX dX2_isAt_23 (by decide) ?_
      refine wp_iret hX dX2_isAt_27 rfl rfl ?_
      rw [decide_eq_true ⟨q, d⟩] at hp0
      exact hp0
theorem ka_has (hm : KA m u kf vf) (hs : Srt m) : decide (rk m key < u ∧ kf (rk m key) = key) = (lk m key).isSome := by
  rw [lk_rk hs]
  cases he : m[rk m key]? with
  | none =>
    have : ¬ rk m key < u := fun q => by rw [hm.2 _ q] at he; cases he
    simp [this]
  | some x =>
    obtain ⟨q, rfl⟩ := hm.get he
    by_cases e : kf (rk m key) = key
    · simp [q, e]
    · simp [q, e]
theorem ka_lk (hm : KA m u kf vf) (hs : Srt m) (h : (lk m key).isSome = true) : rk m key < u ∧ kf (rk m key) = key ∧ lk m key = some (vf (rk m key)) := by
  have h1 := ka_has hm hs (key := key)
  rw [h, decide_eq_true_eq] at h1
  refine ⟨h1.1, h1.2, (lk_some hs).mpr ?_⟩
  rw [hm.2 _ h1.1, h1.2]
theorem rk_b (hm : KA m u kf vf) : rk m key ≤ u := by rw [← hm.1]; exact rk_le m key
set_option maxHeartbeats 4000000 in
set_option maxRecDepth 100000 in
theorem k_holds (hk : σ[k]? = some (ekm a b u)) (ha : σ[a]? = some (ear cap kf)) (hu : u ≤ cap) (hc : cap < 2 ^ 29) (hm : KA m u kf vf) (hs : Srt m) : MD1 mdX2_holds [.ref k, .int key] σ (some (.int (b2i (lk m key).isSome))) σ := by
  refine md_of [some (.ref k), some (.int key)] rfl (Nat.le_of_ble_eq_true rfl) (by decide) (fun X Post hX hp0 => ?_)
  have hcu : (2 : Nat) ^ 29 = 536870912 := by decide
  have hr := rk_b hm (key := key)
  refine wp_aload_n hX dX2_holds_0 rfl ?_
  refine wp_aload_n hX dX2_holds_1 rfl ?_
  refine wp_iload_n hX dX2_holds_2 rfl ?_
  refine wp_cv1 hX dX2_holds_3 mlX2_26 ⟨Nat.le_of_ble_eq_true rfl, Nat.le_of_ble_eq_true rfl⟩ (k_placeOf hk ha hu hc hm hs) hk (Nat.le_of_ble_eq_true rfl) ?_
  refine wp_iload_n hX dX2_holds_6 rfl ?_
  refine wp_cv2 hX dX2_holds_7 mlX2_30 ⟨Nat.le_of_ble_eq_true rfl, Nat.le_of_ble_eq_true rfl⟩ (k_isAt hk ha hu hc (by omega)) hk (Nat.le_of_ble_eq_true rfl) ?_
  rw [ka_has hm hs]
  refine wp_iret hX dX2_holds_10 rfl ?_ hp0
  cases (lk m key).isSome <;> rfl
set_option maxHeartbeats 4000000 in
set_option maxRecDepth 100000 in
theorem k_valueOf (hk : σ[k]? = some (ekm a b u)) (ha : σ[a]? = some (ear cap kf)) (hb : σ[b]? = some (ear cap vf)) (hu : u ≤ cap) (hc : cap < 2 ^ 29) (hm : KA m u kf vf) (hs : Srt m) : MD1 mdX2_valueOf [.ref k, .int key] σ (some (.int ((lk m key).getD 0))) σ := by
  refine md_of [some (.ref k), some (.int key), none] rfl (Nat.le_of_ble_eq_true rfl) (by decide) (fun X Post hX hp0 => ?_)
  have hcu : (2 : Nat) ^ 29 = 536870912 := by decide
  have hr := rk_b hm (key := key)
  refine wp_aload_n hX dX2_valueOf_0 rfl ?_
  refine wp_iload_n hX dX2_valueOf_1 rfl ?_
  refine wp_cv1 hX dX2_valueOf_2 mlX2_26 ⟨Nat.le_of_ble_eq_true rfl, Nat.le_of_ble_eq_true rfl⟩ (k_placeOf hk ha hu hc hm hs) hk (Nat.le_of_ble_eq_true rfl) ?_
  refine wp_istore_n hX dX2_valueOf_5 (Nat.le_of_ble_eq_true rfl) rfl ?_
  refine wp_aload_n hX dX2_valueOf_6 rfl ?_
  refine wp_iload_n hX dX2_valueOf_7 rfl ?_
  refine wp_iload_n hX dX2_valueOf_8 rfl ?_
  refine wp_cv2 hX dX2_valueOf_9 mlX2_30 ⟨Nat.le_of_ble_eq_true rfl, Nat.le_of_ble_eq_true rfl⟩ (k_isAt hk ha hu hc (by omega)) hk (Nat.le_of_ble_eq_true rfl) ?_
  rw [ka_has hm hs]
  cases hh : (lk m key).isSome with
  | false =>
    refine wp_if_eq (tgt := 24) hX dX2_valueOf_12 (by decide) (fun _ => ?_) (fun c => absurd (rfl) c)
    refine wp_iconst (v := 0) hX dX2_valueOf_24 ic_0 ?_
    refine wp_iret hX dX2_valueOf_25 rfl rfl ?_
    have e : lk m key = none := by
      cases h : lk m key with
      | none => rfl
      | some v => rw [h] at hh; cases hh
    rw [e] at hp0
    exact hp0
  | true =>
    obtain ⟨q1, q2, q3⟩ := ka_lk hm hs hh
    refine wp_if_eq (tgt := 24) hX dX2_valueOf_12 (by decide) (fun c => absurd c (by decide)) (fun _ => ?_)
    refine wp_aload_n hX dX2_valueOf_15 rfl ?_
    refine wp_get hX dX2_valueOf_16 flX2_23 hk rfl ?_
    refine wp_iload_n hX dX2_valueOf_19 rfl ?_
    refine wp_iald hX dX2_valueOf_20 (hb) (vp_in_nI (by omega) (by omega)) ?_
    refine wp_goto (tgt := 25) hX dX2_valueOf_21 (by decide) ?_
    refine wp_iret hX dX2_valueOf_25 rfl rfl ?_
    rw [q3] at hp0
    rw [nI_clamp (by omega)]
    exact hp0
set_option maxHeartbeats 4000000 in
set_option maxRecDepth 100000 in
theorem k_placeBehind (hk : σ[k]? = some (ekm a b u)) (ha : σ[a]? = some (ear cap kf)) (hu : u ≤ cap) (hc : cap < 2 ^ 29) (hm : KA m u kf vf) (hs : Srt m) : MD1 mdX2_placeBehind [.ref k, .int key] σ (some (.int (nI (if (lk m key).isSome then rk m key + 1 else rk m key)))) σ := by
  refine md_of [some (.ref k), some (.int key), none] rfl (Nat.le_of_ble_eq_true rfl) (by decide) (fun X Post hX hp0 => ?_)
  have hcu : (2 : Nat) ^ 29 = 536870912 := by decide
  have hr := rk_b hm (key := key)
  refine wp_aload_n hX dX2_placeBehind_0 rfl ?_
  refine wp_iload_n hX dX2_placeBehind_1 rfl ?_
  refine wp_cv1 hX dX2_placeBehind_2 mlX2_26 ⟨Nat.le_of_ble_eq_true rfl, Nat.le_of_ble_eq_true rfl⟩ (k_placeOf hk ha hu hc hm hs) hk (Nat.le_of_ble_eq_true rfl) ?_
  refine wp_istore_n hX dX2_placeBehind_5 (Nat.le_of_ble_eq_true rfl) rfl ?_
  refine wp_aload_n hX dX2_placeBehind_6 rfl ?_
  refine wp_iload_n hX dX2_placeBehind_7 rfl ?_
  refine wp_iload_n hX dX2_placeBehind_8 rfl ?_
  refine wp_cv2 hX dX2_placeBehind_9 mlX2_30 ⟨Nat.le_of_ble_eq_true rfl, Nat.le_of_ble_eq_true rfl⟩ (k_isAt hk ha hu hc (by omega)) hk (Nat.le_of_ble_eq_true rfl) ?_
  rw [ka_has hm hs]
  cases hh : (lk m key).isSome with
  | false =>
    rw [hh] at hp0
    refine wp_if_eq (tgt := 21) hX dX2_placeBehind_12 (by decide) (fun _ => ?_) (fun c => absurd (rfl) c)
    refine wp_iload_n hX dX2_placeBehind_21 rfl ?_
    refine wp_iret hX dX2_placeBehind_22 rfl rfl ?_
    exact hp0
  | true =>
    rw [hh] at hp0
    refine wp_if_eq (tgt := 21) hX dX2_placeBehind_12 (by decide) (fun c => absurd c (by decide)) (fun _ => ?_)
    refine wp_iload_n hX dX2_placeBehind_15 rfl ?_
    refine wp_iconst (v := 1) hX dX2_placeBehind_16 ic_1 ?_
    refine wp_iadd hX dX2_placeBehind_17 ?_
    refine wp_ti (y := (nI (rk m key + 1))) (nI_1 _) ?_
    refine wp_goto (tgt := 22) hX dX2_placeBehind_18 (by decide) ?_
    refine wp_iret hX dX2_placeBehind_22 rfl rfl ?_
    exact hp0
set_option maxHeartbeats 4000000 in
set_option maxRecDepth 100000 in
theorem k_entries (hk : σ[k]? = some (ekm a b u)) : MD1 mdX2_entries [.ref k] σ (some (.int (nI u))) σ := by
  refine md_of [some (.ref k)] rfl (Nat.le_of_ble_eq_true rfl) (by decide) (fun X Post hX hp0 => ?_)
  refine wp_aload_n hX dX2_entries_0 rfl ?_
  refine wp_get hX dX2_entries_1 flX2_7 hk rfl ?_
  refine wp_iret hX dX2_entries_4 rfl rfl ?_
  exact hp0
set_option maxHeartbeats 4000000 in
set_option maxRecDepth 100000 in
/-- keyAt: the key of a place; 0 without -/
theorem k_keyAt {x : Int32} (hk : σ[k]? = some (ekm a b u)) (ha : σ[a]? = some (ear cap kf)) (hu : u ≤ cap) (hc : cap < 2 ^ 29) : MD1 mdX2_keyAt [.ref k, .int x] σ (some (.int (at0 kf u x))) σ := by
  refine md_of [some (.ref k), some (.int x)] rfl (Nat.le_of_ble_eq_true rfl) (by decide) (fun X Post hX hp0 => ?_)
  have hcu : (2 : Nat) ^ 29 = 536870912 := by decide
  have hnu : (nI u).toInt = (u : Int) := nT (by omega)
  refine wp_iload_n hX dX2_keyAt_0 rfl ?_
  refine wp_if_lt (tgt := 21) hX dX2_keyAt_1 (by decide) (fun c => ?_) (fun c => ?_)
  · refine wp_iconst (v := 0) hX dX2_keyAt_21 ic_0 ?_
    refine wp_iret hX dX2_keyAt_22 rfl rfl ?_
    rw [at0_out (fun z => z (Or.inl c))] at hp0
    exact hp0
  · refine wp_iload_n hX dX2_keyAt_4 rfl ?_
    refine wp_aload_n hX dX2_keyAt_5 rfl ?_
    refine wp_get hX dX2_keyAt_6 flX2_7 hk rfl ?_
    refine wp_icmp_ge (tgt := 21) hX dX2_keyAt_9 (by decide) (fun d => ?_) (fun d => ?_)
    · refine wp_iconst (v := 0) hX dX2_keyAt_21 ic_0 ?_
      refine wp_iret hX dX2_keyAt_22 rfl rfl ?_
      rw [at0_out (fun z => by rw [vp_in_iff] at z; rw [ile] at d; omega)] at hp0
      exact hp0
    · have hi : vp_in x u := by rw [vp_in_iff]; rw [ile] at d; rw [ilt] at c; simp at c; omega
      obtain ⟨j, hj, rfl⟩ := vp_in_of hi (by omega)
      refine wp_aload_n hX dX2_keyAt_12 rfl ?_
      refine wp_get hX dX2_keyAt_13 flX2_19 hk rfl ?_
      refine wp_iload_n hX dX2_keyAt_16 rfl ?_
      refine wp_iald hX dX2_keyAt_17 (ha) (vp_in_nI (by omega) (by omega)) ?_
      refine wp_goto (tgt := 22) hX dX2_keyAt_18 (by decide) ?_
      refine wp_iret hX dX2_keyAt_22 rfl rfl ?_
      rw [at0_in hi] at hp0
      exact hp0
set_option maxHeartbeats 4000000 in
set_option maxRecDepth 100000 in
theorem k_valueAt {x : Int32} (hk : σ[k]? = some (ekm a b u)) (hb : σ[b]? = some (ear cap vf)) (hu : u ≤ cap) (hc : cap < 2 ^ 29) : MD1 mdX2_valueAt [.ref k, .int x] σ (some (.int (at0 vf u x))) σ := by
  refine md_of [some (.ref k), some (.int x)] rfl (Nat.le_of_ble_eq_true rfl) (by decide) (fun X Post hX hp0 => ?_)
  have hcu : (2 : Nat) ^ 29 = 536870912 := by decide
  have hnu : (nI u).toInt = (u : Int) := nT (by omega)
  refine wp_iload_n hX dX2_valueAt_0 rfl ?_
  refine wp_if_lt (tgt := 21) hX dX2_valueAt_1 (by decide) (fun c => ?_) (fun c => ?_)
  · refine wp_iconst (v := 0) hX dX2_valueAt_21 ic_0 ?_
    refine wp_iret hX dX2_valueAt_22 rfl rfl ?_
    rw [at0_out (fun z => z (Or.inl c))] at hp0
    exact hp0
  · refine wp_iload_n hX dX2_valueAt_4 rfl ?_
    refine wp_aload_n hX dX2_valueAt_5 rfl ?_
    refine wp_get hX dX2_valueAt_6 flX2_7 hk rfl ?_
    refine wp_icmp_ge (tgt := 21) hX dX2_valueAt_9 (by decide) (fun d => ?_) (fun d => ?_)
    · refine wp_iconst (v := 0) hX dX2_valueAt_21 ic_0 ?_
      refine wp_iret hX dX2_valueAt_22 rfl rfl ?_
      rw [at0_out (fun z => by rw [vp_in_iff] at z; rw [ile] at d; omega)] at hp0
      exact hp0
    · have hi : vp_in x u := by rw [vp_in_iff]; rw [ile] at d; rw [ilt] at c; simp at c; omega
      obtain ⟨j, hj, rfl⟩ := vp_in_of hi (by omega)
      refine wp_aload_n hX dX2_valueAt_12 rfl ?_
      refine wp_get hX dX2_valueAt_13 flX2_23 hk rfl ?_
      refine wp_iload_n hX dX2_valueAt_16 rfl ?_
      refine wp_iald hX dX2_valueAt_17 (hb) (vp_in_nI (by omega) (by omega)) ?_
      refine wp_goto (tgt := 22) hX dX2_valueAt_18 (by decide) ?_
      refine wp_iret hX dX2_valueAt_22 rfl rfl ?_
      rw [at0_in hi] at hp0
      exact hp0
end KM
