/-! Journal: what goes to the log -/
/-- page with n ints of g from place 4 on -/
def flP (pf g : Nat → Int32) (n : Nat) : Nat → Int32 := fun j => if 4 ≤ j ∧ j < 4 + n then g (j - 4) else pf j
/-- block p of a record of n ints g -/
def recB (W : Nat) (g : Nat → Int32) (n : Nat) (e num bt : Int32) (p : Nat) : Nat → Int32 := fun j => if j = 0 then e else if j = 1 then num else if j = 2 then nI p else if j = 3 then bt else if j < 4 + min (W - 5) (n - (W - 5) * p) then g ((W - 5) * p + (j - 4)) else 0
/-- n writes of blocks, number i first; whether all happened, and the disk behind -/
def wrN (W : Nat) (f : Nat → Nat × (Nat → Int32)) : Nat → Nat → DQ → Bool × DQ
  | _, 0, q => (true, q)
  | i, n + 1, q => if q.2.2 = 1 then (false, (q.1, q.2.1, 0)) else wrN W f (i + 1) n (wrD q.1 W (f i).1 (f i).2, q.2.1 + 1, pwd q.2.2)
theorem wrN_s (W : Nat) (f : Nat → Nat × (Nat → Int32)) (i n : Nat) (q : DQ) : wrN W f i (n + 1) q = if q.2.2 = 1 then (false, (q.1, q.2.1, 0)) else wrN W f (i + 1) n (wrD q.1 W (f i).1 (f i).2, q.2.1 + 1, pwd q.2.2) := rfl
theorem wrD_congr {wf pf pf1 : Nat → Int32} {W b : Nat} (h : ∀ j, j < W - 1 → pf j = pf1 j) : wrD wf W b pf = wrD wf W b pf1 := by
  have hs : sumD pf 0 (W - 1) = sumD pf1 0 (W - 1) := sumD_congr _ (fun i hi => by rw [Nat.zero_add]; exact h i hi)
  funext j
  unfold wrD
  by_cases h1 : W * b ≤ j ∧ j < W * b + W
  · rw [if_pos h1, if_pos h1]
    by_cases h2 : j = W * b + (W - 1)
    · rw [if_pos h2, if_pos h2, hs]
    · rw [if_neg h2, if_neg h2, h _ (by omega)]
  · rw [if_neg h1, if_neg h1]
section JN
variable {st it : Int32} {B W : Nat} {q : DQ} {pf : Nat → Int32} {jb jp jr tf te : Nat} {C S H : MP} {τ : aW} {Hm Sm : PM}
theorem KA.getD {m : PM} {u : Nat} {kf vf : Nat → Int32} (h : KA m u kf vf) {c : Nat} (hc : c < u) : m.getD c (0, 0) = (kf c, vf c) := by
  rw [List.getD_eq_getElem?_getD, h.2 c hc]
  rfl
set_option maxHeartbeats 4000000 in
set_option maxRecDepth 100000 in
theorem j_recordInt {i : Nat} (hH : KAm Hm H) (hS : KAm Sm S) (hSs : Srt Sm) (hHu : H.1 ≤ 600) (hSu : S.1 ≤ 8700) (hi : i < 1 + 3 * Hm.length) : MD1 mdX1_recordInt [.ref 12, .ref 9, .int (nI i)] (wX st it B W q pf jb jp jr tf te C S H τ) (some (.int (recH Hm Sm i))) (wX st it B W q pf jb jp jr tf te C S H τ) := by
  refine md_of [some (.ref 12), some (.ref 9), some (.int (nI i)), none] rfl (Nat.le_of_ble_eq_true rfl) (by decide) (fun X Post hX hp => ?_)
  have hHl : Hm.length = H.1 := hH.1
  unfold recH at hp
  refine wp_iload_n hX dX1_recordInt_0 rfl ?_
  refine wp_if_ne (tgt := 9) hX dX1_recordInt_1 (by decide) (fun c => ?_) (fun c => ?_)
  · have h0 : ¬ i = 0 := fun z => c (by rw [z]; rfl)
    rw [if_neg h0] at hp
    have hcc : (i - 1) / 3 < H.1 := by omega
    rw [KA.getD hH hcc] at hp
    have e1 : nI i - 1 = nI (i - 1) := pk_sub (a := i) (b := 1) (by omega)
    refine wp_iload_n hX dX1_recordInt_9 rfl ?_
    refine wp_iconst (v := 1) hX dX1_recordInt_10 ic_1 ?_
    refine wp_isub hX dX1_recordInt_11 ?_
    refine wp_ti (y := (nI (i - 1))) (e1) ?_
    refine wp_iconst (v := 3) hX dX1_recordInt_12 ic_3 ?_
    refine wp_idiv hX dX1_recordInt_13 (by decide) ?_
    refine wp_ti (y := (nI ((i - 1) / 3))) (pk_div (a := i - 1) (d := 3) (by omega) (by decide) (by decide)) ?_
    refine wp_istore_n hX dX1_recordInt_14 (Nat.le_of_ble_eq_true rfl) rfl ?_
    refine wp_iload_n hX dX1_recordInt_15 rfl ?_
    refine wp_iconst (v := 1) hX dX1_recordInt_16 ic_1 ?_
    refine wp_isub hX dX1_recordInt_17 ?_
    refine wp_ti (y := (nI (i - 1))) (e1) ?_
    refine wp_iconst (v := 3) hX dX1_recordInt_18 ic_3 ?_
    refine wp_irem hX dX1_recordInt_19 (by decide) ?_
    refine wp_ti (y := nI ((i - 1) % 3)) (pk_rem (a := i - 1) (d := 3) (by omega) (by decide) (by decide)) ?_
    have hm3 : (i - 1) % 3 = 0 ∨ (i - 1) % 3 = 1 ∨ (i - 1) % 3 = 2 := by omega
    rcases hm3 with h3 | h3 | h3
    · rw [if_pos h3] at hp
      rw [h3]
      refine wp_lookup (off := 28) (tgt := 48) hX dX1_recordInt_20 (by decide) (by decide) (by decide) ?_
      refine wp_aload_n hX dX1_recordInt_48 rfl ?_
      refine wp_aload_n hX dX1_recordInt_49 rfl ?_
      refine wp_iload_n hX dX1_recordInt_50 rfl ?_
      refine wp_cv1 hX dX1_recordInt_51 mlX1_77 ⟨Nat.le_of_ble_eq_true rfl, Nat.le_of_ble_eq_true rfl⟩ (k_keyAt rfl rfl hHu (by decide)) rfl (Nat.le_of_ble_eq_true rfl) ?_
      rw [at0_nI (by omega), if_pos hcc]
      refine wp_cv1 hX dX1_recordInt_54 mlX1_80 ⟨Nat.le_of_ble_eq_true rfl, Nat.le_of_ble_eq_true rfl⟩ (k_holds rfl rfl hSu (by decide) hS hSs) rfl (Nat.le_of_ble_eq_true rfl) ?_
      cases hh : (lk Sm (H.2.1 ((i - 1) / 3))).isSome with
      | true =>
        rw [hh] at hp
        refine wp_if_eq (tgt := 64) hX dX1_recordInt_57 (by decide) (fun c => absurd c (by decide)) (fun _ => ?_)
        refine wp_iconst (v := 1) hX dX1_recordInt_60 ic_1 ?_
        refine wp_goto (tgt := 65) hX dX1_recordInt_61 (by decide) ?_
        refine wp_iret hX dX1_recordInt_65 rfl rfl ?_
        exact hp
      | false =>
        rw [hh] at hp
        refine wp_if_eq (tgt := 64) hX dX1_recordInt_57 (by decide) (fun _ => ?_) (fun c => absurd (rfl) c)
        refine wp_iconst (v := 2) hX dX1_recordInt_64 ic_2 ?_
        refine wp_iret hX dX1_recordInt_65 rfl rfl ?_
        exact hp
    · rw [if_neg (by omega), if_pos h3] at hp
      rw [h3]
      refine wp_lookup (off := 46) (tgt := 66) hX dX1_recordInt_20 (by decide) (by decide) (by decide) ?_
      refine wp_aload_n hX dX1_recordInt_66 rfl ?_
      refine wp_iload_n hX dX1_recordInt_67 rfl ?_
      refine wp_cv1 hX dX1_recordInt_68 mlX1_77 ⟨Nat.le_of_ble_eq_true rfl, Nat.le_of_ble_eq_true rfl⟩ (k_keyAt rfl rfl hHu (by decide)) rfl (Nat.le_of_ble_eq_true rfl) ?_
      rw [at0_nI (by omega), if_pos hcc]
      refine wp_iret hX dX1_recordInt_71 rfl rfl ?_
      exact hp
    · rw [if_neg (by omega), if_neg (by omega)] at hp
      rw [h3]
      refine wp_lookup (off := 52) (tgt := 72) hX dX1_recordInt_20 (by decide) (by decide) (by decide) ?_
      refine wp_aload_n hX dX1_recordInt_72 rfl ?_
      refine wp_iload_n hX dX1_recordInt_73 rfl ?_
      refine wp_cv1 hX dX1_recordInt_74 mlX1_83 ⟨Nat.le_of_ble_eq_true rfl, Nat.le_of_ble_eq_true rfl⟩ (k_valueAt rfl rfl hHu (by decide)) rfl (Nat.le_of_ble_eq_true rfl) ?_
      rw [at0_nI (by omega), if_pos hcc]
      refine wp_iret hX dX1_recordInt_77 rfl rfl ?_
      exact hp
  · have h0 : i = 0 := by
      rcases Nat.eq_zero_or_pos i with h | h
      · exact h
      · exact absurd c (nI_ne0 h (by omega))
    rw [if_pos h0, hHl] at hp
    refine wp_aload_n hX dX1_recordInt_4 rfl ?_
    refine wp_cv0 hX dX1_recordInt_5 mlX1_30 ⟨Nat.le_of_ble_eq_true rfl, Nat.le_of_ble_eq_true rfl⟩ (k_entries rfl) rfl (Nat.le_of_ble_eq_true rfl) ?_
    refine wp_iret hX dX1_recordInt_8 rfl rfl ?_
    exact hp
theorem flP_s (g : Nat → Int32) (i : Nat) : upd (flP pf g i) (4 + i) (g i) = flP pf g (i + 1) := by
  funext j
  unfold flP
  by_cases h : j = 4 + i
  · rw [h, pk_us, if_pos (by omega)]
    congr 1
    omega
  · rw [pk_un h]
    by_cases h2 : 4 ≤ j ∧ j < 4 + i
    · rw [if_pos h2, if_pos (by omega)]
    · rw [if_neg h2, if_neg (by omega)]
set_option maxHeartbeats 4000000 in
set_option maxRecDepth 100000 in
theorem j_fillPage {fr : Nat} (hW : 6 ≤ W) (hW2 : W ≤ 64) (hH : KAm Hm H) (hS : KAm Sm S) (hSs : Srt Sm) (hHu : H.1 ≤ 600) (hSu : S.1 ≤ 8700) (hfr : fr ≤ 1 + 3 * Hm.length) : MD1 mdX1_fillPage [.ref 4, .ref 12, .ref 9, .int (nI fr)] (wX st it B W q pf jb jp jr tf te C S H τ) none (wX st it B W q (flP pf (fun k => recH Hm Sm (fr + k)) (min (W - 5) (1 + 3 * Hm.length - fr))) jb jp jr tf te C S H τ) := by
  refine md_of [some (.ref 4), some (.ref 12), some (.ref 9), some (.int (nI fr)), none, none] rfl (Nat.le_of_ble_eq_true rfl) (by decide) (fun X Post hX hp => ?_)
  have hHl : Hm.length = H.1 := hH.1
  have loop : ∀ (r i : Nat), i + r = min (W - 5) (1 + 3 * Hm.length - fr) → Wp X Post 13 [some (.ref 4), some (.ref 12), some (.ref 9), some (.int (nI fr)), some (.int (nI (1 + 3 * Hm.length))), some (.int (nI i))] [] (wX st it B W q (flP pf (fun k => recH Hm Sm (fr + k)) i) jb jp jr tf te C S H τ) := by
    intro r
    induction r with
    | zero =>
      intro i hi
      rw [← hi] at hp
      refine wp_iload hX dX1_fillPage_13 rfl ?_
      refine wp_aload_n hX dX1_fillPage_15 rfl ?_
      refine wp_cv0 hX dX1_fillPage_16 mlX1_45 ⟨Nat.le_of_ble_eq_true rfl, Nat.le_of_ble_eq_true rfl⟩ (j_partInts (by omega)) rfl (Nat.le_of_ble_eq_true rfl) ?_
      refine wp_icmp_ge (tgt := 57) hX dX1_fillPage_19 (by decide) (fun c => ?_) (fun c => ?_)
      · refine wp_vret hX dX1_fillPage_57 rfl ?_
        exact hp
      · have h1 : i < W - 5 := Nat.lt_of_not_le (fun z => c (nI_le z (by omega)))
        refine wp_iload_n hX dX1_fillPage_22 rfl ?_
        refine wp_iload hX dX1_fillPage_23 rfl ?_
        refine wp_iadd hX dX1_fillPage_25 ?_
        refine wp_ti (y := (nI (fr + i))) (nI_add _ _) ?_
        refine wp_iload hX dX1_fillPage_26 rfl ?_
        refine wp_icmp_ge (tgt := 57) hX dX1_fillPage_28 (by decide) (fun _ => ?_) (fun c => absurd (nI_le (by omega) (by omega)) c)
        refine wp_vret hX dX1_fillPage_57 rfl ?_
        exact hp
    | succ r ih =>
      intro i hi
      refine wp_iload hX dX1_fillPage_13 rfl ?_
      refine wp_aload_n hX dX1_fillPage_15 rfl ?_
      refine wp_cv0 hX dX1_fillPage_16 mlX1_45 ⟨Nat.le_of_ble_eq_true rfl, Nat.le_of_ble_eq_true rfl⟩ (j_partInts (by omega)) rfl (Nat.le_of_ble_eq_true rfl) ?_
      refine wp_icmp_ge (tgt := 57) hX dX1_fillPage_19 (by decide) (fun c => absurd c (nI_ge (by omega) (by omega))) (fun _ => ?_)
      refine wp_iload_n hX dX1_fillPage_22 rfl ?_
      refine wp_iload hX dX1_fillPage_23 rfl ?_
      refine wp_iadd hX dX1_fillPage_25 ?_
      refine wp_ti (y := (nI (fr + i))) (nI_add _ _) ?_
      refine wp_iload hX dX1_fillPage_26 rfl ?_
      refine wp_icmp_ge (tgt := 57) hX dX1_fillPage_28 (by decide) (fun c => absurd c (nI_ge (by omega) (by omega))) (fun _ => ?_)
      refine wp_aload_n hX dX1_fillPage_31 rfl ?_
      refine wp_get hX dX1_fillPage_32 flX1_19 rfl rfl ?_
      refine wp_iconst (v := 4) hX dX1_fillPage_35 ic_4 ?_
      refine wp_iload hX dX1_fillPage_36 rfl ?_
      refine wp_iadd hX dX1_fillPage_38 ?_
      refine wp_ti (y := (nI (4 + i))) (nI_add 4 i) ?_
      refine wp_aload_n hX dX1_fillPage_39 rfl ?_
      refine wp_aload_n hX dX1_fillPage_40 rfl ?_
      refine wp_iload_n hX dX1_fillPage_41 rfl ?_
      refine wp_iload hX dX1_fillPage_42 rfl ?_
      refine wp_iadd hX dX1_fillPage_44 ?_
      refine wp_ti (y := (nI (fr + i))) (nI_add _ _) ?_
      refine wp_cs3 hX dX1_fillPage_45 mlX1_73 ⟨Nat.le_of_ble_eq_true rfl, Nat.le_of_ble_eq_true rfl⟩ (j_recordInt hH hS hSs hHu hSu (by omega)) (Nat.le_of_ble_eq_true rfl) ?_
      refine wp_cv2 hX dX1_fillPage_48 mlX1_41 ⟨Nat.le_of_ble_eq_true rfl, Nat.le_of_ble_eq_true rfl⟩ (d_setPage rfl rfl hW2 (by omega)) rfl (Nat.le_of_ble_eq_true rfl) ?_
      refine wp_eqW (σ1 := wX st it B W q (upd (flP pf (fun k => recH Hm Sm (fr + k)) i) (4 + i) (recH Hm Sm (fr + i))) jb jp jr tf te C S H τ) rfl ?_
      rw [flP_s (g := fun k => recH Hm Sm (fr + k))]
      refine wp_iinc hX dX1_fillPage_51 ic_1 rfl (Nat.le_of_ble_eq_true rfl) rfl ?_
      refine wp_goto (tgt := 13) hX dX1_fillPage_54 (by decide) ?_
      rw [nI_1]
      exact ih (i + 1) (by omega)
  refine wp_iconst (v := 1) hX dX1_fillPage_0 ic_1 ?_
  refine wp_iconst (v := 3) hX dX1_fillPage_1 ic_3 ?_
  refine wp_aload_n hX dX1_fillPage_2 rfl ?_
  refine wp_cv0 hX dX1_fillPage_3 mlX1_30 ⟨Nat.le_of_ble_eq_true rfl, Nat.le_of_ble_eq_true rfl⟩ (k_entries rfl) rfl (Nat.le_of_ble_eq_true rfl) ?_
  refine wp_imul hX dX1_fillPage_6 ?_
  refine wp_iadd hX dX1_fillPage_7 ?_
  refine wp_ti (y := (nI (1 + 3 * Hm.length))) (by rw [hHl, show (3 : Int32) = nI 3 from rfl, show (1 : Int32) = nI 1 from rfl, pk_mul, nI_add]) ?_
  refine wp_istore hX dX1_fillPage_8 (Nat.le_of_ble_eq_true rfl) rfl ?_
  refine wp_iconst (v := 0) hX dX1_fillPage_10 ic_0 ?_
  refine wp_istore hX dX1_fillPage_11 (Nat.le_of_ble_eq_true rfl) rfl ?_
  have e : flP pf (fun k => recH Hm Sm (fr + k)) 0 = pf := by
    funext j
    unfold flP
    rw [if_neg (by omega)]
  have := loop (min (W - 5) (1 + 3 * Hm.length - fr)) 0 (by omega)
  rw [e] at this
  exact this
set_option maxHeartbeats 4000000 in
set_option maxRecDepth 100000 in
theorem j_append0 {e bt : Int32} (hW : 6 ≤ W) (hW2 : W ≤ 64) (hH : H.1 = 0) : MD1 mdX1_append [.ref 4, .ref 12, .ref 9, .int e, .int bt] (wX st it B W q pf jb jp jr tf te C S H τ) (some (.int 1)) (wX st it B W q pf jb jp jr tf te C S H τ) := by
  refine md_of [some (.ref 4), some (.ref 12), some (.ref 9), some (.int e), some (.int bt), none, none] rfl (Nat.le_of_ble_eq_true rfl) (by decide) (fun X Post hX hp => ?_)
  refine wp_aload_n hX dX1_append_0 rfl ?_
  refine wp_aload_n hX dX1_append_1 rfl ?_
  refine wp_cv0 hX dX1_append_2 mlX1_30 ⟨Nat.le_of_ble_eq_true rfl, Nat.le_of_ble_eq_true rfl⟩ (k_entries rfl) rfl (Nat.le_of_ble_eq_true rfl) ?_
  rw [hH]
  refine wp_cv1 hX dX1_append_5 mlX1_26 ⟨Nat.le_of_ble_eq_true rfl, Nat.le_of_ble_eq_true rfl⟩ (j_blocksFor hW hW2 (by decide)) rfl (Nat.le_of_ble_eq_true rfl) ?_
  refine wp_istore hX dX1_append_8 (Nat.le_of_ble_eq_true rfl) rfl ?_
  refine wp_iload hX dX1_append_10 rfl ?_
  refine wp_if_ne (tgt := 17) hX dX1_append_12 (by decide) (fun c => absurd (rfl) c) (fun _ => ?_)
  refine wp_iconst (v := 1) hX dX1_append_15 ic_1 ?_
  refine wp_iret hX dX1_append_16 rfl rfl ?_
  exact hp
theorem recB_eq {g : Nat → Int32} {n p : Nat} {e num bt : Int32} (hW : W ≤ 64) : ∀ j, j < W - 1 → flP (upd (upd (upd (upd (fun j => if j < 64 then 0 else pf j) 0 e) 1 num) 2 (nI p)) 3 bt) (fun k => g ((W - 5) * p + k)) (min (W - 5) (n - (W - 5) * p)) j = recB W g n e num bt p j := by
  intro j hj
  unfold flP recB
  by_cases h0 : j = 0
  · subst h0
    rw [if_neg (by omega), if_pos rfl, pk_un (by omega), pk_un (by omega), pk_un (by omega), pk_us]
  · rw [if_neg h0]
    by_cases h1 : j = 1
    · subst h1
      rw [if_neg (by omega), if_pos rfl, pk_un (by omega), pk_un (by omega), pk_us]
    · rw [if_neg h1]
      by_cases h2 : j = 2
      · subst h2
        rw [if_neg (by omega), if_pos rfl, pk_un (by omega), pk_us]
      · rw [if_neg h2]
        by_cases h3 : j = 3
        · subst h3
          rw [if_neg (by omega), if_pos rfl, pk_us]
        · rw [if_neg h3]
          by_cases h4 : j < 4 + min (W - 5) (n - (W - 5) * p)
          · rw [if_pos h4, if_pos (by omega)]
          · rw [if_neg h4, if_neg (by omega), pk_un h3, pk_un h2, pk_un h1, pk_un h0, if_pos (by omega)]
set_option maxHeartbeats 4000000 in
set_option maxRecDepth 100000 in
theorem j_append {e bt : Int32} (hB : B ≤ 512) (hW : 6 ≤ W) (hW2 : W ≤ 64) (hH : KAm Hm H) (hS : KAm Sm S) (hSs : Srt Sm) (hHu : H.1 ≤ 600) (hSu : S.1 ≤ 8700) (hne : ¬ Hm.length = 0) (hr : jr ≤ 1000) (hj : jp + rB W Hm.length ≤ jb) (hb : jb + 1 < B) :
    MT mdX1_append [.ref 4, .ref 12, .ref 9, .int e, .int bt] (wX st it B W q pf jb jp jr tf te C S H τ) (fun r σ1 => ∃ pf1, r = some (.int (b2i (wrN W (fun p => (1 + jp + p, recB W (recH Hm Sm) (1 + 3 * Hm.length) e (nI (jr + 1)) bt p)) 0 (rB W Hm.length) q).1)) ∧
      σ1 = wX st it B W (wrN W (fun p => (1 + jp + p, recB W (recH Hm Sm) (1 + 3 * Hm.length) e (nI (jr + 1)) bt p)) 0 (rB W Hm.length) q).2 pf1 jb (if (wrN W (fun p => (1 + jp + p, recB W (recH Hm Sm) (1 + 3 * Hm.length) e (nI (jr + 1)) bt p)) 0 (rB W Hm.length) q).1 then jp + rB W Hm.length else jp) (if (wrN W (fun p => (1 + jp + p, recB W (recH Hm Sm) (1 + 3 * Hm.length) e (nI (jr + 1)) bt p)) 0 (rB W Hm.length) q).1 then jr + 1 else jr) tf te C S H τ) := by
  refine mp_of [some (.ref 4), some (.ref 12), some (.ref 9), some (.int e), some (.int bt), none, none] rfl (Nat.le_of_ble_eq_true rfl) (by decide) (fun X Post hX hp => ?_)
  have hHl : Hm.length = H.1 := hH.1
  generalize hf : (fun p => (1 + jp + p, recB W (recH Hm Sm) (1 + 3 * Hm.length) e (nI (jr + 1)) bt p)) = f at hp
  have hrb : rB W Hm.length = cdv (1 + 3 * Hm.length) (W - 5) := by unfold rB; rw [if_neg hne]
  have hrb1 : 1 ≤ rB W Hm.length := by rw [hrb]; exact (cdv_lt (by omega)).mpr (by omega)
  have loop : ∀ (n i : Nat) (q1 : DQ) (pf1 : Nat → Int32), i + n = rB W Hm.length → wrN W f i n q1 = wrN W f 0 (rB W Hm.length) q → Wp X Post 20 [some (.ref 4), some (.ref 12), some (.ref 9), some (.int e), some (.int bt), some (.int (nI (rB W Hm.length))), some (.int (nI i))] [] (wX st it B W q1 pf1 jb jp jr tf te C S H τ) := by
    intro n
    induction n with
    | zero =>
      intro i q1 pf1 hi he
      rw [← he] at hp
      refine wp_iload hX dX1_append_20 rfl ?_
      refine wp_iload hX dX1_append_22 rfl ?_
      refine wp_icmp_ge (tgt := 117) hX dX1_append_24 (by decide) (fun _ => ?_) (fun c => absurd (nI_le (by omega) (by omega)) c)
      refine wp_aload_n hX dX1_append_117 rfl ?_
      refine wp_dup hX dX1_append_118 rfl ?_
      refine wp_get hX dX1_append_119 flX1_13 rfl rfl ?_
      refine wp_iload hX dX1_append_122 rfl ?_
      refine wp_iadd hX dX1_append_124 ?_
      refine wp_ti (y := (nI (jp + rB W Hm.length))) (nI_add _ _) ?_
      refine wp_put hX dX1_append_125 fwX1_13 rfl (Nat.le_of_ble_eq_true rfl) rfl rfl ?_
      refine wp_aload_n hX dX1_append_128 rfl ?_
      refine wp_dup hX dX1_append_129 rfl ?_
      refine wp_get hX dX1_append_130 flX1_16 rfl rfl ?_
      refine wp_iconst (v := 1) hX dX1_append_133 ic_1 ?_
      refine wp_iadd hX dX1_append_134 ?_
      refine wp_ti (y := (nI (jr + 1))) (nI_1 _) ?_
      refine wp_put hX dX1_append_135 fwX1_16 rfl (Nat.le_of_ble_eq_true rfl) rfl rfl ?_
      refine wp_iconst (v := 1) hX dX1_append_138 ic_1 ?_
      refine wp_iret hX dX1_append_139 rfl rfl ?_
      exact hp _ _ ⟨pf1, rfl, rfl⟩
    | succ n ih =>
      intro i q1 pf1 hi he
      have hlt : i < rB W Hm.length := by omega
      have hfr : (W - 5) * i < 1 + 3 * Hm.length := by rw [hrb] at hlt; rw [Nat.mul_comm]; exact (cdv_lt (by omega)).mp hlt
      refine wp_iload hX dX1_append_20 rfl ?_
      refine wp_iload hX dX1_append_22 rfl ?_
      refine wp_icmp_ge (tgt := 117) hX dX1_append_24 (by decide) (fun c => absurd c (nI_ge (by omega) (by omega))) (fun _ => ?_)
      refine wp_aload_n hX dX1_append_27 rfl ?_
      refine wp_get hX dX1_append_28 flX1_19 rfl rfl ?_
      refine wp_cv0 hX dX1_append_31 mlX1_36 ⟨Nat.le_of_ble_eq_true rfl, Nat.le_of_ble_eq_true rfl⟩ (d_clearPage rfl rfl) rfl (Nat.le_of_ble_eq_true rfl) ?_
      refine wp_aload_n hX dX1_append_34 rfl ?_
      refine wp_get hX dX1_append_35 flX1_19 rfl rfl ?_
      refine wp_iconst (v := 0) hX dX1_append_38 ic_0 ?_
      refine wp_iload_n hX dX1_append_39 rfl ?_
      refine wp_cv2 hX dX1_append_40 mlX1_41 ⟨Nat.le_of_ble_eq_true rfl, Nat.le_of_ble_eq_true rfl⟩ (d_setPage (i := 0) rfl rfl hW2 (by omega)) rfl (Nat.le_of_ble_eq_true rfl) ?_
      refine wp_aload_n hX dX1_append_43 rfl ?_
      refine wp_get hX dX1_append_44 flX1_19 rfl rfl ?_
      refine wp_iconst (v := 1) hX dX1_append_47 ic_1 ?_
      refine wp_aload_n hX dX1_append_48 rfl ?_
      refine wp_get hX dX1_append_49 flX1_16 rfl rfl ?_
      refine wp_iconst (v := 1) hX dX1_append_52 ic_1 ?_
      refine wp_iadd hX dX1_append_53 ?_
      refine wp_ti (y := (nI (jr + 1))) (nI_1 _) ?_
      refine wp_cv2 hX dX1_append_54 mlX1_41 ⟨Nat.le_of_ble_eq_true rfl, Nat.le_of_ble_eq_true rfl⟩ (d_setPage (i := 1) rfl rfl hW2 (by omega)) rfl (Nat.le_of_ble_eq_true rfl) ?_
      refine wp_aload_n hX dX1_append_57 rfl ?_
      refine wp_get hX dX1_append_58 flX1_19 rfl rfl ?_
      refine wp_iconst (v := 2) hX dX1_append_61 ic_2 ?_
      refine wp_iload hX dX1_append_62 rfl ?_
      refine wp_cv2 hX dX1_append_64 mlX1_41 ⟨Nat.le_of_ble_eq_true rfl, Nat.le_of_ble_eq_true rfl⟩ (d_setPage (i := 2) rfl rfl hW2 (by omega)) rfl (Nat.le_of_ble_eq_true rfl) ?_
      refine wp_aload_n hX dX1_append_67 rfl ?_
      refine wp_get hX dX1_append_68 flX1_19 rfl rfl ?_
      refine wp_iconst (v := 3) hX dX1_append_71 ic_3 ?_
      refine wp_iload hX dX1_append_72 rfl ?_
      refine wp_cv2 hX dX1_append_74 mlX1_41 ⟨Nat.le_of_ble_eq_true rfl, Nat.le_of_ble_eq_true rfl⟩ (d_setPage (i := 3) rfl rfl hW2 (by omega)) rfl (Nat.le_of_ble_eq_true rfl) ?_
      refine wp_eqW (σ1 := wX st it B W q1 (upd (upd (upd (upd (fun j => if j < 64 then 0 else pf1 j) 0 e) 1 (nI (jr + 1))) 2 (nI i)) 3 bt) jb jp jr tf te C S H τ) rfl ?_
      refine wp_aload_n hX dX1_append_77 rfl ?_
      refine wp_aload_n hX dX1_append_78 rfl ?_
      refine wp_aload_n hX dX1_append_79 rfl ?_
      refine wp_iload hX dX1_append_80 rfl ?_
      refine wp_aload_n hX dX1_append_82 rfl ?_
      refine wp_cv0 hX dX1_append_83 mlX1_45 ⟨Nat.le_of_ble_eq_true rfl, Nat.le_of_ble_eq_true rfl⟩ (j_partInts (by omega)) rfl (Nat.le_of_ble_eq_true rfl) ?_
      refine wp_imul hX dX1_append_86 ?_
      refine wp_ti (y := (nI ((W - 5) * i))) (by rw [pk_mul, Nat.mul_comm]) ?_
      refine wp_cv3 hX dX1_append_87 mlX1_48 ⟨Nat.le_of_ble_eq_true rfl, Nat.le_of_ble_eq_true rfl⟩ (j_fillPage hW hW2 hH hS hSs hHu hSu (by omega)) rfl (Nat.le_of_ble_eq_true rfl) ?_
      have hfi : (f i).2 = recB W (recH Hm Sm) (1 + 3 * Hm.length) e (nI (jr + 1)) bt i := by rw [← hf]
      have hfb : (f i).1 = 1 + jp + i := by rw [← hf]
      have hbk : 1 + jp + i < B := by omega
      by_cases h1 : q1.2.2 = 1
      · refine wp_aload_n hX dX1_append_90 rfl ?_
        refine wp_get hX dX1_append_91 flX1_19 rfl rfl ?_
        refine wp_iconst (v := 1) hX dX1_append_94 ic_1 ?_
        refine wp_aload_n hX dX1_append_95 rfl ?_
        refine wp_get hX dX1_append_96 flX1_13 rfl rfl ?_
        refine wp_iadd hX dX1_append_99 ?_
        refine wp_iload hX dX1_append_100 rfl ?_
        refine wp_iadd hX dX1_append_102 ?_
        refine wp_ti (y := (nI (1 + jp + i))) (by rw [show (1 : Int32) = nI 1 from rfl, nI_add, nI_add]) ?_
        refine wp_cv1 hX dX1_append_103 mlX1_52 ⟨Nat.le_of_ble_eq_true rfl, Nat.le_of_ble_eq_true rfl⟩ (d_writePage_no rfl hB hW2 (by omega) hbk h1) rfl (Nat.le_of_ble_eq_true rfl) ?_
        refine wp_if_ne (tgt := 111) hX dX1_append_106 (by decide) (fun c => absurd (rfl) c) (fun _ => ?_)
        refine wp_iconst (v := 0) hX dX1_append_109 ic_0 ?_
        refine wp_iret hX dX1_append_110 rfl rfl ?_
        rw [wrN_s, if_pos h1] at he
        rw [← he] at hp
        exact hp _ _ ⟨_, rfl, rfl⟩
      · refine wp_aload_n hX dX1_append_90 rfl ?_
        refine wp_get hX dX1_append_91 flX1_19 rfl rfl ?_
        refine wp_iconst (v := 1) hX dX1_append_94 ic_1 ?_
        refine wp_aload_n hX dX1_append_95 rfl ?_
        refine wp_get hX dX1_append_96 flX1_13 rfl rfl ?_
        refine wp_iadd hX dX1_append_99 ?_
        refine wp_iload hX dX1_append_100 rfl ?_
        refine wp_iadd hX dX1_append_102 ?_
        refine wp_ti (y := (nI (1 + jp + i))) (by rw [show (1 : Int32) = nI 1 from rfl, nI_add, nI_add]) ?_
        refine wp_cv1 hX dX1_append_103 mlX1_52 ⟨Nat.le_of_ble_eq_true rfl, Nat.le_of_ble_eq_true rfl⟩ (d_writePage_ok rfl rfl rfl hB hW2 (by omega) hbk h1) rfl (Nat.le_of_ble_eq_true rfl) ?_
        refine wp_if_ne (tgt := 111) hX dX1_append_106 (by decide) (fun _ => ?_) (fun c => absurd c (by decide))
        refine wp_iinc hX dX1_append_111 ic_1 rfl (Nat.le_of_ble_eq_true rfl) rfl ?_
        refine wp_goto (tgt := 20) hX dX1_append_114 (by decide) ?_
        rw [nI_1, wrD_congr (recB_eq hW2), ← hfi, ← hfb]
        refine ih (i + 1) (wrD q1.1 W (f i).1 (f i).2, q1.2.1 + 1, pwd q1.2.2) _ (by omega) ?_
        rw [← he, wrN_s, if_neg h1]
  have hl : H.1 < 2 ^ 29 := by
    have hcu : (2 : Nat) ^ 29 = 536870912 := by decide
    omega
  refine wp_aload_n hX dX1_append_0 rfl ?_
  refine wp_aload_n hX dX1_append_1 rfl ?_
  refine wp_cv0 hX dX1_append_2 mlX1_30 ⟨Nat.le_of_ble_eq_true rfl, Nat.le_of_ble_eq_true rfl⟩ (k_entries rfl) rfl (Nat.le_of_ble_eq_true rfl) ?_
  rw [← hHl] at hl ⊢
  refine wp_cv1 hX dX1_append_5 mlX1_26 ⟨Nat.le_of_ble_eq_true rfl, Nat.le_of_ble_eq_true rfl⟩ (j_blocksFor hW hW2 hl) rfl (Nat.le_of_ble_eq_true rfl) ?_
  refine wp_istore hX dX1_append_8 (Nat.le_of_ble_eq_true rfl) rfl ?_
  refine wp_iload hX dX1_append_10 rfl ?_
  refine wp_if_ne (tgt := 17) hX dX1_append_12 (by decide) (fun _ => ?_) (fun c => absurd c (nI_ne0 hrb1 (by omega)))
  refine wp_iconst (v := 0) hX dX1_append_17 ic_0 ?_
  refine wp_istore hX dX1_append_18 (Nat.le_of_ble_eq_true rfl) rfl ?_
  exact loop (rB W Hm.length) 0 q pf (by omega) rfl
end JN
