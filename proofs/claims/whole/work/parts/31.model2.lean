/-! the reference: its maps -/
/-- a list of changes in three arrays -/
def HA (C : CL) (h : HQ) : Prop := C.length = h.1 ∧ ∀ i, i < h.1 → ∃ g : Bool, C[i]? = some (h.2.1 i, g, h.2.2.1 i) ∧ h.2.2.2 i = b2i g
def TXM (op : Int32) (h : HQ) (tx : Option CL) : Prop := match tx with
  | none => op = 0
  | some C => op = 1 ∧ HA C h
/-- the reference's cells hold this store; before them are the cells c -/
def RM (A : Ab) (c : Nat → aE) (σ : aW) : Prop := match A with
  | (st, (B, W, LG), q, (pl, rc, M, tx)) => ∃ (op : Int32) (jp jr : Nat) (ep bt : Int32) (K : MP) (h : HQ) (bf : Nat → Int32) (z : ZQ) (s : SQ), σ = wM c B W LG q st op jp jr ep bt K h bf z s ∧ h.1 ≤ 600 ∧ (st = 2 → jp = pl ∧ jr = rc ∧ ep = q.1 1 ∧ bt = q.1 2 ∧ KAm M K ∧ TXM op h tx)
section MO
variable {c : Nat → aE} {B W LG : Nat} {q : DQ} {st op : Int32} {pl rc : Nat} {ep bt : Int32} {K : MP} {h : HQ} {bf : Nat → Int32} {z : ZQ} {s : SQ} {m : PM} {key : Int32}
set_option maxHeartbeats 4000000 in
set_option maxRecDepth 100000 in
theorem m_at (hK : KAm m K) (hs : Srt m) (hu : K.1 ≤ 12000) : MD1 mdX5_at [.ref 15, .int key] (wM c B W LG q st op pl rc ep bt K h bf z s) (some (.int (nI (rk m key)))) (wM c B W LG q st op pl rc ep bt K h bf z s) := by
  refine md_of [some (.ref 15), some (.int key), none, none, none] rfl (Nat.le_of_ble_eq_true rfl) (by decide) (fun X Post hX hp => ?_)
  obtain ⟨u, kf, vf⟩ := K
  dsimp only at hu
  have hm : KA m u kf vf := hK
  have mono : ∀ i j, i < j → j < u → kf i < kf j := fun i j hij hj => srt_get hs hij (hm.2 i (by omega)) (hm.2 j hj)
  have loop : ∀ (n lo hi : Nat) (mid : Option Value), lo ≤ hi → hi ≤ u → hi - lo ≤ n → (∀ i, i < lo → kf i < key) → (∀ i, hi ≤ i → i < u → ¬ kf i < key) → Wp X Post 7 [some (.ref 15), some (.int key), some (.int (nI lo)), some (.int (nI hi)), mid] [] (wM c B W LG q st op pl rc ep bt (u, kf, vf) h bf z s) := by
    intro n
    induction n with
    | zero =>
      intro lo hi mid h2 h3 h4 h5 h6
      have e : lo = hi := by omega
      subst e
      refine wp_iload_n hX dX5_at_7 rfl ?_
      refine wp_iload_n hX dX5_at_8 rfl ?_
      refine wp_icmp_ge (tgt := 44) hX dX5_at_9 (by decide) (fun _ => ?_) (fun c_ => absurd (nI_le (Nat.le_refl lo) (by omega)) c_)
      refine wp_iload_n hX dX5_at_44 rfl ?_
      refine wp_iret hX dX5_at_45 rfl rfl ?_
      have e : rk m key = lo := rk_char (by rw [hm.1]; exact h3) (fun i x hi hx => by obtain ⟨_, rfl⟩ := hm.get hx; exact h5 i hi) (fun x hx => by obtain ⟨q, rfl⟩ := hm.get hx; exact h6 _ (Nat.le_refl _) q)
      rw [← e]
      exact hp
    | succ n ih =>
      intro lo hi mid h2 h3 h4 h5 h6
      refine wp_iload_n hX dX5_at_7 rfl ?_
      refine wp_iload_n hX dX5_at_8 rfl ?_
      refine wp_icmp_ge (tgt := 44) hX dX5_at_9 (by decide) (fun d0 => ?_) (fun d0 => ?_)
      · have e : lo = hi := by
          have := (nI_leI (a := hi) (b := lo) (by omega) (by omega)).mp d0
          omega
        subst e
        refine wp_iload_n hX dX5_at_44 rfl ?_
        refine wp_iret hX dX5_at_45 rfl rfl ?_
        have e : rk m key = lo := rk_char (by rw [hm.1]; exact h3) (fun i x hi hx => by obtain ⟨_, rfl⟩ := hm.get hx; exact h5 i hi) (fun x hx => by obtain ⟨q, rfl⟩ := hm.get hx; exact h6 _ (Nat.le_refl _) q)
        rw [← e]
        exact hp
      · have hlt : lo < hi := Nat.lt_of_not_le (fun y => d0 (nI_le y (by omega)))
        obtain ⟨md, hmd⟩ : ∃ md, md = (lo + hi) / 2 := ⟨_, rfl⟩
        refine wp_iload_n hX dX5_at_12 rfl ?_
        refine wp_iload_n hX dX5_at_13 rfl ?_
        refine wp_iadd hX dX5_at_14 ?_
        refine wp_iconst (v := 2) hX dX5_at_15 ic_2 ?_
        refine wp_idiv hX dX5_at_16 (by decide) ?_
        refine wp_ti (y := (nI md)) (by rw [nI_add, hmd]; exact pk_div (a := lo + hi) (d := 2) (by omega) (by decide) (by decide)) ?_
        refine wp_istore hX dX5_at_17 (Nat.le_of_ble_eq_true rfl) rfl ?_
        refine wp_aload_n hX dX5_at_19 rfl ?_
        refine wp_get hX dX5_at_20 flX5_14 rfl rfl ?_
        refine wp_iload hX dX5_at_23 rfl ?_
        refine wp_iald hX dX5_at_25 rfl (vp_in_nI (by omega) (by decide)) ?_
        refine wp_ti (y := (kf md)) (by rw [nI_clamp (by omega)]) ?_
        refine wp_iload_n hX dX5_at_26 rfl ?_
        refine wp_icmp_ge (tgt := 38) hX dX5_at_27 (by decide) (fun d => ?_) (fun d => ?_)
        · refine wp_iload hX dX5_at_38 rfl ?_
          refine wp_istore_n hX dX5_at_40 (Nat.le_of_ble_eq_true rfl) rfl ?_
          refine wp_goto (tgt := 7) hX dX5_at_41 (by decide) ?_
          refine ih lo md (some (.int (nI md))) (by omega) (by omega) (by omega) h5 (fun i q1 q2 => ?_)
          rcases Nat.lt_or_ge md i with y | y
          · have := mono md i y q2
            exact fun z => by rw [ilt] at *; rw [ile] at d; omega
          · have : i = md := by omega
            subst this
            exact fun z => by rw [ilt] at z; rw [ile] at d; omega
        · refine wp_iload hX dX5_at_30 rfl ?_
          refine wp_iconst (v := 1) hX dX5_at_32 ic_1 ?_
          refine wp_iadd hX dX5_at_33 ?_
          refine wp_ti (y := (nI (md + 1))) (nI_1 md) ?_
          refine wp_istore_n hX dX5_at_34 (Nat.le_of_ble_eq_true rfl) rfl ?_
          refine wp_goto (tgt := 41) hX dX5_at_35 (by decide) ?_
          refine wp_goto (tgt := 7) hX dX5_at_41 (by decide) ?_
          refine ih (md + 1) hi (some (.int (nI md))) (by omega) (by omega) (by omega) (fun i q1 => ?_) h6
          have hd : kf md < key := by rw [ilt]; rw [ile] at d; omega
          rcases Nat.lt_or_ge i md with y | y
          · exact i_tr (mono i md y (by omega)) hd
          · have : i = md := by omega
            subst this
            exact hd
  refine wp_iconst (v := 0) hX dX5_at_0 ic_0 ?_
  refine wp_istore_n hX dX5_at_1 (Nat.le_of_ble_eq_true rfl) rfl ?_
  refine wp_aload_n hX dX5_at_2 rfl ?_
  refine wp_get hX dX5_at_3 flX5_97 rfl rfl ?_
  refine wp_istore_n hX dX5_at_6 (Nat.le_of_ble_eq_true rfl) rfl ?_
  exact loop u 0 u none (by omega) (by omega) (by omega) (fun i y => by omega) (fun i q1 q2 => by omega)
theorem shD {f : Nat → Int32} {i n : Nat} (hi : 1 ≤ i) (hn : i ≤ n) : upd (va_cpy f f i (i + 1) (n - i)) i (va_cpy f f i (i + 1) (n - i) (i - 1)) = va_cpy f f (i - 1) i (n - (i - 1)) := by
  funext j
  by_cases h1 : j = i
  · rw [h1, pk_us, pk_cpy_out (by omega), pk_cpy_in (by omega) (by omega)]
    congr 1
    omega
  · rw [pk_un h1]
    by_cases h2 : i + 1 ≤ j ∧ j < i + 1 + (n - i)
    · rw [pk_cpy_in h2.1 h2.2, pk_cpy_in (by omega) (by omega)]
      congr 1
      omega
    · rw [pk_cpy_out (by omega), pk_cpy_out (by omega)]
theorem shU {f : Nat → Int32} {k i : Nat} (hi : k ≤ i) : upd (va_cpy f f (k + 1) k (i - k)) i (va_cpy f f (k + 1) k (i - k) (i + 1)) = va_cpy f f (k + 1) k (i + 1 - k) := by
  funext j
  by_cases h1 : j = i
  · rw [h1, pk_us, pk_cpy_out (by omega), pk_cpy_in (by omega) (by omega)]
    congr 1
    omega
  · rw [pk_un h1]
    by_cases h2 : k ≤ j ∧ j < k + (i - k)
    · rw [pk_cpy_in h2.1 h2.2, pk_cpy_in (by omega) (by omega)]
    · rw [pk_cpy_out (by omega), pk_cpy_out (by omega)]
theorem cpy0 {α : Type} (f g : Nat → α) (a b : Nat) : va_cpy f g a b 0 = g := by
  funext j
  rw [pk_cpy_out (by omega)]
set_option maxHeartbeats 4000000 in
set_option maxRecDepth 100000 in
theorem m_bind {v : Int32} (hK : KAm m K) (hs : Srt m) (hu : K.1 < 12000) : MT mdX5_bind [.ref 15, .int key, .int v] (wM c B W LG q st op pl rc ep bt K h bf z s) (fun r σ1 => ∃ K1, r = none ∧ KAm (ins m key v) K1 ∧ σ1 = wM c B W LG q st op pl rc ep bt K1 h bf z s) := by
  refine mp_of [some (.ref 15), some (.int key), some (.int v), none, none] rfl (Nat.le_of_ble_eq_true rfl) (by decide) (fun X Post hX hp => ?_)
  obtain ⟨u, kf, vf⟩ := K
  dsimp only at hu
  have hm : KA m u kf vf := hK
  have hr := rk_b hm (key := key)
  refine wp_aload_n hX dX5_bind_0 rfl ?_
  refine wp_iload_n hX dX5_bind_1 rfl ?_
  refine wp_cv1 hX dX5_bind_2 mlX5_100 ⟨Nat.le_of_ble_eq_true rfl, Nat.le_of_ble_eq_true rfl⟩ (m_at hK hs (Nat.le_of_lt hu)) rfl (Nat.le_of_ble_eq_true rfl) ?_
  refine wp_istore_n hX dX5_bind_5 (Nat.le_of_ble_eq_true rfl) rfl ?_
  refine wp_iload_n hX dX5_bind_6 rfl ?_
  refine wp_aload_n hX dX5_bind_7 rfl ?_
  refine wp_get hX dX5_bind_8 flX5_97 rfl rfl ?_
  have new : lk m key = none → Wp X Post 24 [some (.ref 15), some (.int key), some (.int v), some (.int (nI (rk m key))), none] [] (wM c B W LG q st op pl rc ep bt (u, kf, vf) h bf z s) := by
    intro hn
    have loop : ∀ (r i : Nat), i = rk m key + r → i ≤ u → Wp X Post 30 [some (.ref 15), some (.int key), some (.int v), some (.int (nI (rk m key))), some (.int (nI i))] [] (wM c B W LG q st op pl rc ep bt (u, va_cpy kf kf i (i + 1) (u - i), va_cpy vf vf i (i + 1) (u - i)) h bf z s) := by
      intro r
      induction r with
      | zero =>
        intro i hi hiu
        rw [show i = rk m key by omega]
        refine wp_iload hX dX5_bind_30 rfl ?_
        refine wp_iload_n hX dX5_bind_32 rfl ?_
        refine wp_icmp_le (tgt := 74) hX dX5_bind_33 (by decide) (fun _ => ?_) (fun c_ => absurd (nI_le (Nat.le_refl _) (by omega)) c_)
        refine wp_aload_n hX dX5_bind_74 rfl ?_
        refine wp_get hX dX5_bind_75 flX5_14 rfl rfl ?_
        refine wp_iload_n hX dX5_bind_78 rfl ?_
        refine wp_iload_n hX dX5_bind_79 rfl ?_
        refine wp_iast hX dX5_bind_80 rfl (vp_in_nI (by omega) (by decide)) ?_
        rw [nI_clamp (by omega)]
        refine wp_aload_n hX dX5_bind_81 rfl ?_
        refine wp_dup hX dX5_bind_82 rfl ?_
        refine wp_get hX dX5_bind_83 flX5_97 rfl rfl ?_
        refine wp_iconst (v := 1) hX dX5_bind_86 ic_1 ?_
        refine wp_iadd hX dX5_bind_87 ?_
        refine wp_ti (y := (nI (u + 1))) (nI_1 _) ?_
        refine wp_put hX dX5_bind_88 fwX5_97 rfl (Nat.le_of_ble_eq_true rfl) rfl rfl ?_
        refine wp_aload_n hX dX5_bind_91 rfl ?_
        refine wp_get hX dX5_bind_92 flX5_17 rfl rfl ?_
        refine wp_iload_n hX dX5_bind_95 rfl ?_
        refine wp_iload_n hX dX5_bind_96 rfl ?_
        refine wp_iast hX dX5_bind_97 rfl (vp_in_nI (by omega) (by decide)) ?_
        rw [nI_clamp (by omega)]
        refine wp_vret hX dX5_bind_98 rfl ?_
        exact hp _ _ ⟨(u + 1, _, _), rfl, hm.ins_new hs hn, rfl⟩
      | succ r ih =>
        intro i hi hiu
        have e1 : nI i - 1 = nI (i - 1) := w1 (by omega)
        refine wp_iload hX dX5_bind_30 rfl ?_
        refine wp_iload_n hX dX5_bind_32 rfl ?_
        refine wp_icmp_le (tgt := 74) hX dX5_bind_33 (by decide) (fun c_ => absurd c_ (nI_ge (by omega) (by omega))) (fun _ => ?_)
        refine wp_aload_n hX dX5_bind_36 rfl ?_
        refine wp_get hX dX5_bind_37 flX5_14 rfl rfl ?_
        refine wp_iload hX dX5_bind_40 rfl ?_
        refine wp_aload_n hX dX5_bind_42 rfl ?_
        refine wp_get hX dX5_bind_43 flX5_14 rfl rfl ?_
        refine wp_iload hX dX5_bind_46 rfl ?_
        refine wp_iconst (v := 1) hX dX5_bind_48 ic_1 ?_
        refine wp_isub hX dX5_bind_49 ?_
        refine wp_ti (y := (nI (i - 1))) (e1) ?_
        refine wp_iald hX dX5_bind_50 rfl (vp_in_nI (by omega) (by decide)) ?_
        refine wp_iast hX dX5_bind_51 rfl (vp_in_nI (by omega) (by decide)) ?_
        rw [nI_clamp (show i - 1 < 2 ^ 31 by omega), nI_clamp (show i < 2 ^ 31 by omega)]
        refine wp_aload_n hX dX5_bind_52 rfl ?_
        refine wp_get hX dX5_bind_53 flX5_17 rfl rfl ?_
        refine wp_iload hX dX5_bind_56 rfl ?_
        refine wp_aload_n hX dX5_bind_58 rfl ?_
        refine wp_get hX dX5_bind_59 flX5_17 rfl rfl ?_
        refine wp_iload hX dX5_bind_62 rfl ?_
        refine wp_iconst (v := 1) hX dX5_bind_64 ic_1 ?_
        refine wp_isub hX dX5_bind_65 ?_
        refine wp_ti (y := (nI (i - 1))) (e1) ?_
        refine wp_iald hX dX5_bind_66 rfl (vp_in_nI (by omega) (by decide)) ?_
        refine wp_iast hX dX5_bind_67 rfl (vp_in_nI (by omega) (by decide)) ?_
        rw [nI_clamp (show i - 1 < 2 ^ 31 by omega), nI_clamp (show i < 2 ^ 31 by omega)]
        refine wp_eqW (σ1 := wM c B W LG q st op pl rc ep bt (u, upd (va_cpy kf kf i (i + 1) (u - i)) i (va_cpy kf kf i (i + 1) (u - i) (i - 1)), upd (va_cpy vf vf i (i + 1) (u - i)) i (va_cpy vf vf i (i + 1) (u - i) (i - 1))) h bf z s) rfl ?_
        rw [shD (by omega) hiu, shD (by omega) hiu]
        refine wp_iinc hX dX5_bind_68 ic_m1 rfl (Nat.le_of_ble_eq_true rfl) rfl ?_
        refine wp_goto (tgt := 30) hX dX5_bind_71 (by decide) ?_
        rw [show nI i + -1 = nI (i - 1) from sb_m1 (by omega)]
        have := ih (i - 1) (by omega) (by omega)
        rw [show i - 1 + 1 = i by omega] at this
        exact this
    refine wp_aload_n hX dX5_bind_24 rfl ?_
    refine wp_get hX dX5_bind_25 flX5_97 rfl rfl ?_
    refine wp_istore hX dX5_bind_28 (Nat.le_of_ble_eq_true rfl) rfl ?_
    have := loop (u - rk m key) u (by omega) (Nat.le_refl _)
    rw [Nat.sub_self, cpy0, cpy0] at this
    exact this
  refine wp_icmp_eq (tgt := 24) hX dX5_bind_11 (by decide) (fun d => ?_) (fun d => ?_)
  · have d1 := (nI_eq (a := rk m key) (b := u) (by omega) (by omega)).mp d
    refine new ?_
    cases e : lk m key with
    | none => rfl
    | some w =>
      have := (List.getElem?_eq_some_iff.mp ((lk_some hs).mp e)).1
      rw [hm.1] at this
      omega
  · have d1 : rk m key < u := by
      have : ¬ rk m key = u := fun y => d (by rw [y])
      omega
    refine wp_aload_n hX dX5_bind_14 rfl ?_
    refine wp_get hX dX5_bind_15 flX5_14 rfl rfl ?_
    refine wp_iload_n hX dX5_bind_18 rfl ?_
    refine wp_iald hX dX5_bind_19 rfl (vp_in_nI (by omega) (by decide)) ?_
    refine wp_ti (y := (kf (rk m key))) (by rw [nI_clamp (by omega)]) ?_
    refine wp_iload_n hX dX5_bind_20 rfl ?_
    refine wp_icmp_eq (tgt := 91) hX dX5_bind_21 (by decide) (fun f => ?_) (fun f => ?_)
    · have hh : (lk m key).isSome = true := by rw [← ka_has hm hs]; exact decide_eq_true ⟨d1, f⟩
      refine wp_aload_n hX dX5_bind_91 rfl ?_
      refine wp_get hX dX5_bind_92 flX5_17 rfl rfl ?_
      refine wp_iload_n hX dX5_bind_95 rfl ?_
      refine wp_iload_n hX dX5_bind_96 rfl ?_
      refine wp_iast hX dX5_bind_97 rfl (vp_in_nI (by omega) (by decide)) ?_
      rw [nI_clamp (by omega)]
      refine wp_vret hX dX5_bind_98 rfl ?_
      exact hp _ _ ⟨(u, kf, upd vf (rk m key) v), rfl, hm.ins_old hs hh, rfl⟩
    · refine new ?_
      have : (lk m key).isSome = false := by rw [← ka_has hm hs]; exact decide_eq_false (fun y => f y.2)
      cases e : lk m key with
      | none => rfl
      | some w => rw [e] at this; cases this
set_option maxHeartbeats 4000000 in
set_option maxRecDepth 100000 in
theorem m_unbind (hK : KAm m K) (hs : Srt m) (hu : K.1 ≤ 12000) : MT mdX5_unbind [.ref 15, .int key] (wM c B W LG q st op pl rc ep bt K h bf z s) (fun r σ1 => ∃ K1, r = none ∧ KAm (del m key) K1 ∧ σ1 = wM c B W LG q st op pl rc ep bt K1 h bf z s) := by
  refine mp_of [some (.ref 15), some (.int key), none, none] rfl (Nat.le_of_ble_eq_true rfl) (by decide) (fun X Post hX hp => ?_)
  obtain ⟨u, kf, vf⟩ := K
  dsimp only at hu
  have hm : KA m u kf vf := hK
  have hr := rk_b hm (key := key)
  refine wp_aload_n hX dX5_unbind_0 rfl ?_
  refine wp_iload_n hX dX5_unbind_1 rfl ?_
  refine wp_cv1 hX dX5_unbind_2 mlX5_100 ⟨Nat.le_of_ble_eq_true rfl, Nat.le_of_ble_eq_true rfl⟩ (m_at hK hs hu) rfl (Nat.le_of_ble_eq_true rfl) ?_
  refine wp_istore_n hX dX5_unbind_5 (Nat.le_of_ble_eq_true rfl) rfl ?_
  refine wp_iload_n hX dX5_unbind_6 rfl ?_
  refine wp_aload_n hX dX5_unbind_7 rfl ?_
  refine wp_get hX dX5_unbind_8 flX5_97 rfl rfl ?_
  refine wp_icmp_eq (tgt := 24) hX dX5_unbind_11 (by decide) (fun d => ?_) (fun d => ?_)
  · have d1 := (nI_eq (a := rk m key) (b := u) (by omega) (by omega)).mp d
    have hn : lk m key = none := by
      cases e : lk m key with
      | none => rfl
      | some w =>
        have := (List.getElem?_eq_some_iff.mp ((lk_some hs).mp e)).1
        rw [hm.1] at this
        omega
    refine wp_vret hX dX5_unbind_24 rfl ?_
    exact hp _ _ ⟨(u, kf, vf), rfl, by rw [del_none hn]; exact hm, rfl⟩
  · have d1 : rk m key < u := by
      have : ¬ rk m key = u := fun y => d (by rw [y])
      omega
    refine wp_aload_n hX dX5_unbind_14 rfl ?_
    refine wp_get hX dX5_unbind_15 flX5_14 rfl rfl ?_
    refine wp_iload_n hX dX5_unbind_18 rfl ?_
    refine wp_iald hX dX5_unbind_19 rfl (vp_in_nI (by omega) (by decide)) ?_
    refine wp_ti (y := (kf (rk m key))) (by rw [nI_clamp (by omega)]) ?_
    refine wp_iload_n hX dX5_unbind_20 rfl ?_
    refine wp_icmp_eq (tgt := 25) hX dX5_unbind_21 (by decide) (fun f => ?_) (fun f => ?_)
    · have hh : (lk m key).isSome = true := by rw [← ka_has hm hs]; exact decide_eq_true ⟨d1, f⟩
      have loop : ∀ (r i : Nat), i + r = u - 1 → rk m key ≤ i → Wp X Post 37 [some (.ref 15), some (.int key), some (.int (nI (rk m key))), some (.int (nI i))] [] (wM c B W LG q st op pl rc ep bt (u - 1, va_cpy kf kf (rk m key + 1) (rk m key) (i - rk m key), va_cpy vf vf (rk m key + 1) (rk m key) (i - rk m key)) h bf z s) := by
        intro r
        induction r with
        | zero =>
          intro i hi hki
          rw [show i = u - 1 by omega]
          refine wp_iload_n hX dX5_unbind_37 rfl ?_
          refine wp_aload_n hX dX5_unbind_38 rfl ?_
          refine wp_get hX dX5_unbind_39 flX5_97 rfl rfl ?_
          refine wp_icmp_ge (tgt := 79) hX dX5_unbind_42 (by decide) (fun _ => ?_) (fun c_ => absurd (nI_le (Nat.le_refl _) (by omega)) c_)
          refine wp_vret hX dX5_unbind_79 rfl ?_
          exact hp _ _ ⟨(u - 1, _, _), rfl, hm.del_ hs hh, rfl⟩
        | succ r ih =>
          intro i hi hki
          refine wp_iload_n hX dX5_unbind_37 rfl ?_
          refine wp_aload_n hX dX5_unbind_38 rfl ?_
          refine wp_get hX dX5_unbind_39 flX5_97 rfl rfl ?_
          refine wp_icmp_ge (tgt := 79) hX dX5_unbind_42 (by decide) (fun c_ => absurd c_ (nI_ge (by omega) (by omega))) (fun _ => ?_)
          refine wp_aload_n hX dX5_unbind_45 rfl ?_
          refine wp_get hX dX5_unbind_46 flX5_14 rfl rfl ?_
          refine wp_iload_n hX dX5_unbind_49 rfl ?_
          refine wp_aload_n hX dX5_unbind_50 rfl ?_
          refine wp_get hX dX5_unbind_51 flX5_14 rfl rfl ?_
          refine wp_iload_n hX dX5_unbind_54 rfl ?_
          refine wp_iconst (v := 1) hX dX5_unbind_55 ic_1 ?_
          refine wp_iadd hX dX5_unbind_56 ?_
          refine wp_ti (y := (nI (i + 1))) (nI_1 _) ?_
          refine wp_iald hX dX5_unbind_57 rfl (vp_in_nI (by omega) (by decide)) ?_
          refine wp_iast hX dX5_unbind_58 rfl (vp_in_nI (by omega) (by decide)) ?_
          rw [nI_clamp (show i + 1 < 2 ^ 31 by omega), nI_clamp (show i < 2 ^ 31 by omega)]
          refine wp_aload_n hX dX5_unbind_59 rfl ?_
          refine wp_get hX dX5_unbind_60 flX5_17 rfl rfl ?_
          refine wp_iload_n hX dX5_unbind_63 rfl ?_
          refine wp_aload_n hX dX5_unbind_64 rfl ?_
          refine wp_get hX dX5_unbind_65 flX5_17 rfl rfl ?_
          refine wp_iload_n hX dX5_unbind_68 rfl ?_
          refine wp_iconst (v := 1) hX dX5_unbind_69 ic_1 ?_
          refine wp_iadd hX dX5_unbind_70 ?_
          refine wp_ti (y := (nI (i + 1))) (nI_1 _) ?_
          refine wp_iald hX dX5_unbind_71 rfl (vp_in_nI (by omega) (by decide)) ?_
          refine wp_iast hX dX5_unbind_72 rfl (vp_in_nI (by omega) (by decide)) ?_
          rw [nI_clamp (show i + 1 < 2 ^ 31 by omega), nI_clamp (show i < 2 ^ 31 by omega)]
          refine wp_eqW (σ1 := wM c B W LG q st op pl rc ep bt (u - 1, upd (va_cpy kf kf (rk m key + 1) (rk m key) (i - rk m key)) i (va_cpy kf kf (rk m key + 1) (rk m key) (i - rk m key) (i + 1)), upd (va_cpy vf vf (rk m key + 1) (rk m key) (i - rk m key)) i (va_cpy vf vf (rk m key + 1) (rk m key) (i - rk m key) (i + 1))) h bf z s) rfl ?_
          rw [shU hki, shU hki]
          refine wp_iinc hX dX5_unbind_73 ic_1 rfl (Nat.le_of_ble_eq_true rfl) rfl ?_
          refine wp_goto (tgt := 37) hX dX5_unbind_76 (by decide) ?_
          rw [nI_1]
          exact ih (i + 1) (by omega) (by omega)
      refine wp_aload_n hX dX5_unbind_25 rfl ?_
      refine wp_dup hX dX5_unbind_26 rfl ?_
      refine wp_get hX dX5_unbind_27 flX5_97 rfl rfl ?_
      refine wp_iconst (v := 1) hX dX5_unbind_30 ic_1 ?_
      refine wp_isub hX dX5_unbind_31 ?_
      refine wp_ti (y := (nI (u - 1))) (w1 (by omega)) ?_
      refine wp_put hX dX5_unbind_32 fwX5_97 rfl (Nat.le_of_ble_eq_true rfl) rfl rfl ?_
      refine wp_iload_n hX dX5_unbind_35 rfl ?_
      refine wp_istore_n hX dX5_unbind_36 (Nat.le_of_ble_eq_true rfl) rfl ?_
      have := loop (u - 1 - rk m key) (rk m key) (by omega) (Nat.le_refl _)
      rw [Nat.sub_self, cpy0, cpy0] at this
      exact this
    · have hn : lk m key = none := by
        have : (lk m key).isSome = false := by rw [← ka_has hm hs]; exact decide_eq_false (fun y => f y.2)
        cases e : lk m key with
        | none => rfl
        | some w => rw [e] at this; cases this
      refine wp_vret hX dX5_unbind_24 rfl ?_
      exact hp _ _ ⟨(u, kf, vf), rfl, by rw [del_none hn]; exact hm, rfl⟩
end MO
