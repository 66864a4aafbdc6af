/-! the reference: what is seen, in order -/
def dh (m : PM) (k : Int32) : PM := match m with
  | [] => []
  | x :: m1 => if x.1 = k then m1 else x :: m1
theorem stepC_cons {x : Int32 × Int32} {m : PM} {a : Int32 × Bool × Int32} (h : x.1 < a.1) : stepC (x :: m) a = x :: stepC m a := by
  unfold stepC
  split
  · show (if x.1 = a.1 then m else x :: del m a.1) = _
    rw [if_neg (i_ne h)]
  · show (if x.1 < a.1 then x :: ins m a.1 a.2.2 else _) = _
    rw [if_pos h]
theorem ov_cons : ∀ {C : CL} {x : Int32 × Int32} {m : PM}, (∀ a ∈ C, x.1 < a.1) → ov (x :: m) C = x :: ov m C
  | [], _, _, _ => rfl
  | a :: C, x, m, h => by
    show ov (stepC (x :: m) a) C = x :: ov (stepC m a) C
    rw [stepC_cons (h a List.mem_cons_self)]
    exact ov_cons (fun b hb => h b (List.mem_cons_of_mem _ hb))
theorem ov_ge {m : PM} {k v : Int32} {g : Bool} {C : CL} (hm : Srt m) (hge : ∀ x ∈ m, k ≤ x.1) (hC : Srt ((k, g, v) :: C)) : ov m ((k, g, v) :: C) = if g then ov (dh m k) C else (k, v) :: ov (dh m k) C := by
  obtain ⟨c1, c2⟩ := List.pairwise_cons.mp hC
  have nlt : ∀ x ∈ m, ¬ x.1 < k := fun x hx => Int32.not_lt.mpr (hge x hx)
  have e1 : del m k = dh m k := by
    cases m with
    | nil => rfl
    | cons x m1 =>
      obtain ⟨h1, h2⟩ := List.pairwise_cons.mp hm
      show (if x.1 = k then m1 else x :: del m1 k) = if x.1 = k then m1 else x :: m1
      by_cases e : x.1 = k
      · rw [if_pos e, if_pos e]
      · rw [if_neg e, if_neg e, del_none (lk_none_of_lt (fun a ha => i_tr (i_tri (nlt x List.mem_cons_self) e) (h1 a ha)))]
  have e2 : ins m k v = (k, v) :: dh m k := by
    cases m with
    | nil => rfl
    | cons x m1 =>
      show (if x.1 < k then x :: ins m1 k v else if x.1 = k then (k, v) :: m1 else (k, v) :: x :: m1) = (k, v) :: (if x.1 = k then m1 else x :: m1)
      rw [if_neg (nlt x List.mem_cons_self)]
      by_cases e : x.1 = k
      · rw [if_pos e, if_pos e]
      · rw [if_neg e, if_neg e]
  show ov (if g then del m k else ins m k v) C = _
  cases g with
  | true =>
    rw [if_pos rfl, if_pos rfl, e1]
  | false =>
    rw [if_neg (by decide), if_neg (by decide), e2]
    exact ov_cons (fun a ha => c1 a ha)
theorem KA.drop {m : PM} {u : Nat} {kf vf : Nat → Int32} (h : KA m u kf vf) {a : Nat} (ha : a < u) : m.drop a = (kf a, vf a) :: m.drop (a + 1) := by
  have hl : a < m.length := by rw [h.1]; exact ha
  have e := h.2 a ha
  rw [List.getElem?_eq_getElem hl] at e
  rw [List.drop_eq_getElem_cons hl, Option.some.inj e]
theorem srt_drop {α : Type} {m : List (Int32 × α)} (h : Srt m) (a : Nat) : Srt (m.drop a) := List.Pairwise.sublist (List.drop_sublist a m) h
/-- the changes that count: those of a transaction, if there is one -/
def TXC (op : Int32) (h : HQ) (C : CL) : Prop := (op = 0 ∧ C = []) ∨ (op = 1 ∧ HA C h)
section MO
variable {c : Nat → aE} {B W LG : Nat} {q : DQ} {st op : Int32} {pl rc : Nat} {ep bt : Int32} {K : MP} {h : HQ} {bf : Nat → Int32} {z : ZQ} {s1 s2 s3 : Int32} {M : PM} {C : CL} {a j : Nat}
set_option maxHeartbeats 8000000 in
set_option maxRecDepth 100000 in
theorem m_next (hK : KAm M K) (hM : Srt M) (hu : K.1 ≤ 12000) (hT : TXC op h C) (hs : Srt C) (hh : h.1 ≤ 600) (ha : a ≤ M.length) (hj : j ≤ C.length) : MT mdX5_next [.ref 15] (wM c B W LG q st op pl rc ep bt K h bf z (s1, s2, s3, a, j)) (fun r σ1 => ∃ s2' s3' a' j', a' ≤ M.length ∧ j' ≤ C.length ∧ σ1 = wM c B W LG q st op pl rc ep bt K h bf z (s1, s2', s3', a', j') ∧
    ((ov (M.drop a) (C.drop j) = [] ∧ r = some (.int 0)) ∨ (r = some (.int 1) ∧ ov (M.drop a) (C.drop j) = (s2', s3') :: ov (M.drop a') (C.drop j')))) := by
  refine mp_of [some (.ref 15), none, none, none] rfl (Nat.le_of_ble_eq_true rfl) (by decide) (fun X Post hX hp => ?_)
  obtain ⟨u, kf, vf⟩ := K
  dsimp only at hu
  have hm : KA M u kf vf := hK
  have hMl : M.length = u := hm.1
  have hCl : C.length ≤ 600 := by
    rcases hT with ⟨-, rfl⟩ | ⟨-, e⟩
    · simp
    · rw [e.1]; exact hh
  have hCg : ∀ i, i < C.length → ∃ g : Bool, C[i]? = some (h.2.1 i, g, h.2.2.1 i) ∧ h.2.2.2 i = b2i g := by
    rcases hT with ⟨-, rfl⟩ | ⟨-, e⟩
    · intro i hi; simp at hi
    · intro i hi; exact e.2 i (by rw [← e.1]; exact hi)
  have cdrop : ∀ i, (hi : i < C.length) → ∃ g : Bool, C.drop i = (h.2.1 i, g, h.2.2.1 i) :: C.drop (i + 1) ∧ h.2.2.2 i = b2i g := fun i hi => by
    obtain ⟨g, e1, e2⟩ := hCg i hi
    rw [List.getElem?_eq_getElem hi] at e1
    exact ⟨g, by rw [List.drop_eq_getElem_cons hi, Option.some.inj e1], e2⟩
  have mge : ∀ a j, a < u → (hj : j < C.length) → h.2.1 j ≤ kf a → ∀ x ∈ M.drop a, h.2.1 j ≤ x.1 := fun a j ha hj hle x hx => by
    obtain ⟨i, hi⟩ := List.getElem?_of_mem hx
    rw [List.getElem?_drop] at hi
    rcases Nat.eq_zero_or_pos i with e | e
    · subst e
      rw [Nat.add_zero, hm.2 a ha] at hi
      cases hi
      exact hle
    · have := srt_get hM (show a < a + i by omega) (hm.2 a ha) hi
      rw [ilt] at this
      rw [ile] at hle ⊢
      dsimp only at this
      omega
  have out : ∀ a j (x2 x3 : Option Value), noL [none, none, x2] 3 = true → a < u → j ≤ C.length → (ov (M.drop a) (C.drop j) = (kf a, vf a) :: ov (M.drop (a + 1)) (C.drop j)) → (∀ l, ov (M.drop a) (C.drop j) = l → ∀ σ1 r, (∃ s2' s3' a' j', a' ≤ M.length ∧ j' ≤ C.length ∧ σ1 = wM c B W LG q st op pl rc ep bt (u, kf, vf) h bf z (s1, s2', s3', a', j') ∧ ((l = [] ∧ r = some (.int 0)) ∨ (r = some (.int 1) ∧ l = (s2', s3') :: ov (M.drop a') (C.drop j')))) → Post r σ1) → Wp X Post 85 [some (.ref 15), some (.int (nI C.length)), x2, x3] [] (wM c B W LG q st op pl rc ep bt (u, kf, vf) h bf z (s1, s2, s3, a, j)) := by
    intro a j x2 x3 _ h1 h2 h3 h4
    refine wp_aload_n hX dX5_next_85 rfl ?_
    refine wp_aload_n hX dX5_next_86 rfl ?_
    refine wp_get hX dX5_next_87 flX5_14 rfl rfl ?_
    refine wp_aload_n hX dX5_next_90 rfl ?_
    refine wp_get hX dX5_next_91 flX5_165 rfl rfl ?_
    refine wp_iald hX dX5_next_94 rfl (vp_in_nI (n := a) (N := 12000) (by omega) (by decide)) ?_
    refine wp_ti (y := (kf a)) (show kf (nI a).toNatClampNeg = kf a by rw [nI_clamp (show a < 2 ^ 31 by omega)]) ?_
    refine wp_put hX dX5_next_95 fwX5_171 rfl (Nat.le_of_ble_eq_true rfl) rfl rfl ?_
    refine wp_aload_n hX dX5_next_98 rfl ?_
    refine wp_aload_n hX dX5_next_99 rfl ?_
    refine wp_get hX dX5_next_100 flX5_17 rfl rfl ?_
    refine wp_aload_n hX dX5_next_103 rfl ?_
    refine wp_get hX dX5_next_104 flX5_165 rfl rfl ?_
    refine wp_iald hX dX5_next_107 rfl (vp_in_nI (n := a) (N := 12000) (by omega) (by decide)) ?_
    refine wp_ti (y := (vf a)) (show vf (nI a).toNatClampNeg = vf a by rw [nI_clamp (show a < 2 ^ 31 by omega)]) ?_
    refine wp_put hX dX5_next_108 fwX5_174 rfl (Nat.le_of_ble_eq_true rfl) rfl rfl ?_
    refine wp_aload_n hX dX5_next_111 rfl ?_
    refine wp_dup hX dX5_next_112 rfl ?_
    refine wp_get hX dX5_next_113 flX5_165 rfl rfl ?_
    refine wp_iconst (v := 1) hX dX5_next_116 ic_1 ?_
    refine wp_iadd hX dX5_next_117 ?_
    refine wp_ti (y := (nI (a + 1))) (nI_1 a) ?_
    refine wp_put hX dX5_next_118 fwX5_165 rfl (Nat.le_of_ble_eq_true rfl) rfl rfl ?_
    refine wp_iconst (v := 1) hX dX5_next_121 ic_1 ?_
    refine wp_iret hX dX5_next_122 rfl rfl ?_
    exact h4 _ h3 _ _ ⟨kf a, vf a, a + 1, j, by omega, h2, rfl, Or.inr ⟨rfl, rfl⟩⟩
  have loop : ∀ (r a j : Nat) (x2 x3 : Option Value), noL [none, none, x2] 3 = true → j + r = C.length → a ≤ u → (∀ l, ov (M.drop a) (C.drop j) = l → ∀ σ1 r, (∃ s2' s3' a' j', a' ≤ M.length ∧ j' ≤ C.length ∧ σ1 = wM c B W LG q st op pl rc ep bt (u, kf, vf) h bf z (s1, s2', s3', a', j') ∧ ((l = [] ∧ r = some (.int 0)) ∨ (r = some (.int 1) ∧ l = (s2', s3') :: ov (M.drop a') (C.drop j')))) → Post r σ1) → Wp X Post 16 [some (.ref 15), some (.int (nI C.length)), x2, x3] [] (wM c B W LG q st op pl rc ep bt (u, kf, vf) h bf z (s1, s2, s3, a, j)) := by
    intro r
    induction r with
    | zero =>
      intro a j x2 x3 hx hr hau h4
      have hjl : j = C.length := by omega
      have hcn : C.drop j = [] := List.drop_eq_nil_of_le (by omega)
      have hov : ov (M.drop a) (C.drop j) = M.drop a := by rw [hcn]; rfl
      by_cases hau2 : a < u
      · refine wp_aload_n hX dX5_next_16 rfl ?_
        refine wp_get hX dX5_next_17 flX5_165 rfl rfl ?_
        refine wp_aload_n hX dX5_next_20 rfl ?_
        refine wp_get hX dX5_next_21 flX5_97 rfl rfl ?_
        refine wp_icmp_lt (tgt := 35) hX dX5_next_24 (by decide) (fun _ => ?_) (fun c_ => absurd (nI_lt (a := a) (b := u) hau2 (by omega)) c_)
        refine wp_aload_n hX dX5_next_35 rfl ?_
        refine wp_get hX dX5_next_36 flX5_168 rfl rfl ?_
        refine wp_iload_n hX dX5_next_39 rfl ?_
        refine wp_icmp_ge (tgt := 79) hX dX5_next_40 (by decide) (fun _ => ?_) (fun c_ => absurd (nI_le (a := C.length) (b := j) (by omega) (by omega)) c_)
        refine wp_iconst (v := 0) hX dX5_next_79 ic_0 ?_
        refine wp_istore_n hX dX5_next_80 (Nat.le_of_ble_eq_true rfl) rfl ?_
        refine wp_iload_n hX dX5_next_81 rfl ?_
        refine wp_if_ne (tgt := 123) hX dX5_next_82 (by decide) (fun c_ => absurd (rfl) c_) (fun _ => ?_)
        exact out a j (some (.int 0)) x3 rfl hau2 (by omega) (by rw [hov, hcn]; exact hm.drop hau2) h4
      · refine wp_aload_n hX dX5_next_16 rfl ?_
        refine wp_get hX dX5_next_17 flX5_165 rfl rfl ?_
        refine wp_aload_n hX dX5_next_20 rfl ?_
        refine wp_get hX dX5_next_21 flX5_97 rfl rfl ?_
        refine wp_icmp_lt (tgt := 35) hX dX5_next_24 (by decide) (fun c_ => absurd c_ (nI_nlt (a := a) (b := u) (by omega) (by omega))) (fun _ => ?_)
        refine wp_aload_n hX dX5_next_27 rfl ?_
        refine wp_get hX dX5_next_28 flX5_168 rfl rfl ?_
        refine wp_iload_n hX dX5_next_31 rfl ?_
        refine wp_icmp_ge (tgt := 211) hX dX5_next_32 (by decide) (fun _ => ?_) (fun c_ => absurd (nI_le (a := C.length) (b := j) (by omega) (by omega)) c_)
        refine wp_iconst (v := 0) hX dX5_next_211 ic_0 ?_
        refine wp_iret hX dX5_next_212 rfl rfl ?_
        refine h4 _ rfl _ _ ⟨s2, s3, a, j, by omega, by omega, rfl, Or.inl ⟨?_, rfl⟩⟩
        rw [hov]
        exact List.drop_eq_nil_of_le (by omega)
    | succ r ih =>
      intro a j x2 x3 hx hr hau h4
      have hjC : j < C.length := by omega
      obtain ⟨g, cd, ge⟩ := cdrop j hjC
      have hsd := srt_drop hs j
      rw [cd] at hsd
      have chg : (∀ x ∈ M.drop a, h.2.1 j ≤ x.1) → Wp X Post 123 [some (.ref 15), some (.int (nI C.length)), some (.int 1), x3] [] (wM c B W LG q st op pl rc ep bt (u, kf, vf) h bf z (s1, s2, s3, a, j)) := by
        intro hge
        have hov := ov_ge (srt_drop hM a) hge hsd
        rw [← cd] at hov
        have tail : ∀ a2, a2 ≤ u → dh (M.drop a) (h.2.1 j) = M.drop a2 → Wp X Post 177 [some (.ref 15), some (.int (nI C.length)), some (.int 1), some (.int (nI j))] [] (wM c B W LG q st op pl rc ep bt (u, kf, vf) h bf z (s1, s2, s3, a2, j + 1)) := by
          intro a2 ha2 hd2
          rw [hd2] at hov
          refine wp_aload_n hX dX5_next_177 rfl ?_
          refine wp_get hX dX5_next_178 flX5_26 rfl rfl ?_
          refine wp_iload_n hX dX5_next_181 rfl ?_
          refine wp_zald hX dX5_next_182 rfl (vp_in_nI (n := j) (N := 600) (by omega) (by decide)) ?_
          refine wp_ti (y := b2i g) (show h.2.2.2 (nI j).toNatClampNeg = b2i g by rw [nI_clamp (show j < 2 ^ 31 by omega)]; exact ge) ?_
          cases g with
          | true =>
            rw [if_pos rfl] at hov
            refine wp_if_eq (tgt := 189) hX dX5_next_183 (by decide) (fun c_ => absurd c_ (by decide)) (fun _ => ?_)
            refine wp_goto (tgt := 16) hX dX5_next_186 (by decide) ?_
            exact ih a2 (j + 1) (some (.int 1)) _ rfl (by omega) ha2 (fun l hl => h4 l (hov.trans hl))
          | false =>
            rw [if_neg (by decide)] at hov
            refine wp_if_eq (tgt := 189) hX dX5_next_183 (by decide) (fun _ => ?_) (fun c_ => absurd (rfl) c_)
            refine wp_aload_n hX dX5_next_189 rfl ?_
            refine wp_aload_n hX dX5_next_190 rfl ?_
            refine wp_get hX dX5_next_191 flX5_20 rfl rfl ?_
            refine wp_iload_n hX dX5_next_194 rfl ?_
            refine wp_iald hX dX5_next_195 rfl (vp_in_nI (n := j) (N := 600) (by omega) (by decide)) ?_
            refine wp_ti (y := (h.2.1 j)) (show h.2.1 (nI j).toNatClampNeg = h.2.1 j by rw [nI_clamp (show j < 2 ^ 31 by omega)]) ?_
            refine wp_put hX dX5_next_196 fwX5_171 rfl (Nat.le_of_ble_eq_true rfl) rfl rfl ?_
            refine wp_aload_n hX dX5_next_199 rfl ?_
            refine wp_aload_n hX dX5_next_200 rfl ?_
            refine wp_get hX dX5_next_201 flX5_23 rfl rfl ?_
            refine wp_iload_n hX dX5_next_204 rfl ?_
            refine wp_iald hX dX5_next_205 rfl (vp_in_nI (n := j) (N := 600) (by omega) (by decide)) ?_
            refine wp_ti (y := (h.2.2.1 j)) (show h.2.2.1 (nI j).toNatClampNeg = h.2.2.1 j by rw [nI_clamp (show j < 2 ^ 31 by omega)]) ?_
            refine wp_put hX dX5_next_206 fwX5_174 rfl (Nat.le_of_ble_eq_true rfl) rfl rfl ?_
            refine wp_iconst (v := 1) hX dX5_next_209 ic_1 ?_
            refine wp_iret hX dX5_next_210 rfl rfl ?_
            exact h4 _ hov _ _ ⟨h.2.1 j, h.2.2.1 j, a2, j + 1, by omega, by omega, rfl, Or.inr ⟨rfl, rfl⟩⟩
        refine wp_aload_n hX dX5_next_123 rfl ?_
        refine wp_get hX dX5_next_124 flX5_168 rfl rfl ?_
        refine wp_istore_n hX dX5_next_127 (Nat.le_of_ble_eq_true rfl) rfl ?_
        refine wp_aload_n hX dX5_next_128 rfl ?_
        refine wp_dup hX dX5_next_129 rfl ?_
        refine wp_get hX dX5_next_130 flX5_168 rfl rfl ?_
        refine wp_iconst (v := 1) hX dX5_next_133 ic_1 ?_
        refine wp_iadd hX dX5_next_134 ?_
        refine wp_ti (y := (nI (j + 1))) (nI_1 j) ?_
        refine wp_put hX dX5_next_135 fwX5_168 rfl (Nat.le_of_ble_eq_true rfl) rfl rfl ?_
        refine wp_aload_n hX dX5_next_138 rfl ?_
        refine wp_get hX dX5_next_139 flX5_165 rfl rfl ?_
        refine wp_aload_n hX dX5_next_142 rfl ?_
        refine wp_get hX dX5_next_143 flX5_97 rfl rfl ?_
        refine wp_eqW (σ1 := wM c B W LG q st op pl rc ep bt (u, kf, vf) h bf z (s1, s2, s3, a, j + 1)) rfl ?_
        refine wp_icmp_ge (tgt := 177) hX dX5_next_146 (by decide) (fun d => ?_) (fun d => ?_)
        · have d1 := (nI_leI (a := u) (b := a) (by omega) (by omega)).mp d
          refine tail a hau ?_
          rw [List.drop_eq_nil_of_le (show M.length ≤ a by omega)]
          rfl
        · have d1 : a < u := Nat.lt_of_not_le (fun y => d (nI_le (a := u) (b := a) y (by omega)))
          refine wp_aload_n hX dX5_next_149 rfl ?_
          refine wp_get hX dX5_next_150 flX5_14 rfl rfl ?_
          refine wp_aload_n hX dX5_next_153 rfl ?_
          refine wp_get hX dX5_next_154 flX5_165 rfl rfl ?_
          refine wp_iald hX dX5_next_157 rfl (vp_in_nI (n := a) (N := 12000) (by omega) (by decide)) ?_
          refine wp_ti (y := (kf a)) (show kf (nI a).toNatClampNeg = kf a by rw [nI_clamp (show a < 2 ^ 31 by omega)]) ?_
          refine wp_aload_n hX dX5_next_158 rfl ?_
          refine wp_get hX dX5_next_159 flX5_20 rfl rfl ?_
          refine wp_iload_n hX dX5_next_162 rfl ?_
          refine wp_iald hX dX5_next_163 rfl (vp_in_nI (n := j) (N := 600) (by omega) (by decide)) ?_
          refine wp_ti (y := h.2.1 j) (show h.2.1 (nI j).toNatClampNeg = h.2.1 j by rw [nI_clamp (show j < 2 ^ 31 by omega)]) ?_
          refine wp_icmp_ne (tgt := 177) hX dX5_next_164 (by decide) (fun f => ?_) (fun f => ?_)
          · refine tail a hau ?_
            rw [hm.drop d1]
            show (if kf a = h.2.1 j then _ else _) = _
            rw [if_neg f]
          · refine wp_aload_n hX dX5_next_167 rfl ?_
            refine wp_dup hX dX5_next_168 rfl ?_
            refine wp_get hX dX5_next_169 flX5_165 rfl rfl ?_
            refine wp_iconst (v := 1) hX dX5_next_172 ic_1 ?_
            refine wp_iadd hX dX5_next_173 ?_
            refine wp_ti (y := (nI (a + 1))) (nI_1 a) ?_
            refine wp_put hX dX5_next_174 fwX5_165 rfl (Nat.le_of_ble_eq_true rfl) rfl rfl ?_
            refine tail (a + 1) (by omega) ?_
            rw [hm.drop d1]
            show (if kf a = h.2.1 j then _ else _) = _
            rw [if_pos f]
      by_cases hau2 : a < u
      · refine wp_aload_n hX dX5_next_16 rfl ?_
        refine wp_get hX dX5_next_17 flX5_165 rfl rfl ?_
        refine wp_aload_n hX dX5_next_20 rfl ?_
        refine wp_get hX dX5_next_21 flX5_97 rfl rfl ?_
        refine wp_icmp_lt (tgt := 35) hX dX5_next_24 (by decide) (fun _ => ?_) (fun c_ => absurd (nI_lt (a := a) (b := u) hau2 (by omega)) c_)
        refine wp_aload_n hX dX5_next_35 rfl ?_
        refine wp_get hX dX5_next_36 flX5_168 rfl rfl ?_
        refine wp_iload_n hX dX5_next_39 rfl ?_
        refine wp_icmp_ge (tgt := 79) hX dX5_next_40 (by decide) (fun c_ => absurd c_ (nI_ge (a := j) (b := C.length) hjC (by omega))) (fun _ => ?_)
        refine wp_aload_n hX dX5_next_43 rfl ?_
        refine wp_get hX dX5_next_44 flX5_165 rfl rfl ?_
        refine wp_aload_n hX dX5_next_47 rfl ?_
        refine wp_get hX dX5_next_48 flX5_97 rfl rfl ?_
        refine wp_icmp_eq (tgt := 75) hX dX5_next_51 (by decide) (fun c_ => absurd c_ (fun y => by have := (nI_eq (a := a) (b := u) (by omega) (by omega)).mp y; omega)) (fun _ => ?_)
        refine wp_aload_n hX dX5_next_54 rfl ?_
        refine wp_get hX dX5_next_55 flX5_20 rfl rfl ?_
        refine wp_aload_n hX dX5_next_58 rfl ?_
        refine wp_get hX dX5_next_59 flX5_168 rfl rfl ?_
        refine wp_iald hX dX5_next_62 rfl (vp_in_nI (n := j) (N := 600) (by omega) (by decide)) ?_
        refine wp_ti (y := (h.2.1 j)) (show h.2.1 (nI j).toNatClampNeg = h.2.1 j by rw [nI_clamp (show j < 2 ^ 31 by omega)]) ?_
        refine wp_aload_n hX dX5_next_63 rfl ?_
        refine wp_get hX dX5_next_64 flX5_14 rfl rfl ?_
        refine wp_aload_n hX dX5_next_67 rfl ?_
        refine wp_get hX dX5_next_68 flX5_165 rfl rfl ?_
        refine wp_iald hX dX5_next_71 rfl (vp_in_nI (n := a) (N := 12000) (by omega) (by decide)) ?_
        refine wp_ti (y := kf a) (show kf (nI a).toNatClampNeg = kf a by rw [nI_clamp (show a < 2 ^ 31 by omega)]) ?_
        refine wp_icmp_gt (tgt := 79) hX dX5_next_72 (by decide) (fun f => ?_) (fun f => ?_)
        · refine wp_iconst (v := 0) hX dX5_next_79 ic_0 ?_
          refine wp_istore_n hX dX5_next_80 (Nat.le_of_ble_eq_true rfl) rfl ?_
          refine wp_iload_n hX dX5_next_81 rfl ?_
          refine wp_if_ne (tgt := 123) hX dX5_next_82 (by decide) (fun c_ => absurd (rfl) c_) (fun _ => ?_)
          refine out a j (some (.int 0)) x3 rfl hau2 (by omega) ?_ h4
          rw [hm.drop hau2]
          refine ov_cons (fun b hb => ?_)
          rw [cd] at hb
          rcases List.mem_cons.mp hb with rfl | hb
          · exact f
          · exact i_tr f ((List.pairwise_cons.mp hsd).1 b hb)
        · refine wp_iconst (v := 1) hX dX5_next_75 ic_1 ?_
          refine wp_goto (tgt := 80) hX dX5_next_76 (by decide) ?_
          refine wp_istore_n hX dX5_next_80 (Nat.le_of_ble_eq_true rfl) rfl ?_
          refine wp_iload_n hX dX5_next_81 rfl ?_
          refine wp_if_ne (tgt := 123) hX dX5_next_82 (by decide) (fun _ => ?_) (fun c_ => absurd c_ (by decide))
          exact chg (mge a j hau2 hjC (Int32.not_lt.mp f))
      · refine wp_aload_n hX dX5_next_16 rfl ?_
        refine wp_get hX dX5_next_17 flX5_165 rfl rfl ?_
        refine wp_aload_n hX dX5_next_20 rfl ?_
        refine wp_get hX dX5_next_21 flX5_97 rfl rfl ?_
        refine wp_icmp_lt (tgt := 35) hX dX5_next_24 (by decide) (fun c_ => absurd c_ (nI_nlt (a := a) (b := u) (by omega) (by omega))) (fun _ => ?_)
        refine wp_aload_n hX dX5_next_27 rfl ?_
        refine wp_get hX dX5_next_28 flX5_168 rfl rfl ?_
        refine wp_iload_n hX dX5_next_31 rfl ?_
        refine wp_icmp_ge (tgt := 211) hX dX5_next_32 (by decide) (fun c_ => absurd c_ (nI_ge (a := j) (b := C.length) hjC (by omega))) (fun _ => ?_)
        refine wp_aload_n hX dX5_next_35 rfl ?_
        refine wp_get hX dX5_next_36 flX5_168 rfl rfl ?_
        refine wp_iload_n hX dX5_next_39 rfl ?_
        refine wp_icmp_ge (tgt := 79) hX dX5_next_40 (by decide) (fun c_ => absurd c_ (nI_ge (a := j) (b := C.length) hjC (by omega))) (fun _ => ?_)
        refine wp_aload_n hX dX5_next_43 rfl ?_
        refine wp_get hX dX5_next_44 flX5_165 rfl rfl ?_
        refine wp_aload_n hX dX5_next_47 rfl ?_
        refine wp_get hX dX5_next_48 flX5_97 rfl rfl ?_
        refine wp_icmp_eq (tgt := 75) hX dX5_next_51 (by decide) (fun _ => ?_) (fun c_ => absurd (show nI a = nI u by rw [show a = u by omega]) c_)
        refine wp_iconst (v := 1) hX dX5_next_75 ic_1 ?_
        refine wp_goto (tgt := 80) hX dX5_next_76 (by decide) ?_
        refine wp_istore_n hX dX5_next_80 (Nat.le_of_ble_eq_true rfl) rfl ?_
        refine wp_iload_n hX dX5_next_81 rfl ?_
        refine wp_if_ne (tgt := 123) hX dX5_next_82 (by decide) (fun _ => ?_) (fun c_ => absurd c_ (by decide))
        refine chg (fun x hx => ?_)
        rw [List.drop_eq_nil_of_le (show M.length ≤ a by omega)] at hx
        cases hx
  have start : Wp X Post 16 [some (.ref 15), some (.int (nI C.length)), none, none] [] (wM c B W LG q st op pl rc ep bt (u, kf, vf) h bf z (s1, s2, s3, a, j)) := loop (C.length - j) a j none none rfl (by omega) (by omega) (fun l hl σ1 r hy => hp r σ1 (by rw [hl]; exact hy))
  rcases hT with ⟨rfl, rfl⟩ | ⟨rfl, e⟩
  · refine wp_aload_n hX dX5_next_0 rfl ?_
    refine wp_get hX dX5_next_1 flX5_56 rfl rfl ?_
    refine wp_if_eq (tgt := 14) hX dX5_next_4 (by decide) (fun _ => ?_) (fun c_ => absurd (rfl) c_)
    refine wp_iconst (v := 0) hX dX5_next_14 ic_0 ?_
    refine wp_istore_n hX dX5_next_15 (Nat.le_of_ble_eq_true rfl) rfl ?_
    exact start
  · refine wp_aload_n hX dX5_next_0 rfl ?_
    refine wp_get hX dX5_next_1 flX5_56 rfl rfl ?_
    refine wp_if_eq (tgt := 14) hX dX5_next_4 (by decide) (fun c_ => absurd c_ (by decide)) (fun _ => ?_)
    refine wp_aload_n hX dX5_next_7 rfl ?_
    refine wp_get hX dX5_next_8 flX5_104 rfl rfl ?_
    refine wp_goto (tgt := 15) hX dX5_next_11 (by decide) ?_
    rw [← e.1]
    refine wp_istore_n hX dX5_next_15 (Nat.le_of_ble_eq_true rfl) rfl ?_
    exact start
end MO
