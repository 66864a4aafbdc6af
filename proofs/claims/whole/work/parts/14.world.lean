/-! the class's world: cells 0 to 14; what is behind them is another's -/
abbrev MP : Type := Nat × (Nat → Int32) × (Nat → Int32)
/-- the disk's words, the writes, the fuse -/
abbrev DQ : Type := (Nat → Int32) × Int32 × Int32
abbrev ejn (jb jp jr : Nat) : aE := .inr (1, [.ref 1, .int (nI jb), .int (nI jp), .int (nI jr)])
abbrev etr (tf te : Nat) : aE := .inr (3, [.ref 1, .int (nI tf), .int (nI te)])
abbrev ebs (st it : Int32) : aE := .inr (4, [.ref 1, .ref 4, .ref 5, .ref 6, .ref 9, .ref 12, .int st, .int it])
abbrev wX (st it : Int32) (B W : Nat) (q : DQ) (pf : Nat → Int32) (jb jp jr tf te : Nat) (C S H : MP) (τ : aW) : aW :=
  ebs st it :: edk B W q.2.1 q.2.2 :: ear 32768 q.1 :: ear 64 pf :: ejn jb jp jr :: etr tf te :: ekm 7 8 C.1 :: ear 8700 C.2.1 :: ear 8700 C.2.2 :: ekm 10 11 S.1 :: ear 8700 S.2.1 :: ear 8700 S.2.2 :: ekm 13 14 H.1 :: ear 600 H.2.1 :: ear 600 H.2.2 :: τ
def KAm (m : PM) (q : MP) : Prop := KA m q.1 q.2.1 q.2.2
/-- the least number of rows of e that hold n -/
def cdv (n e : Nat) : Nat := (n + e - 1) / e
theorem cdv_0 {e : Nat} (he : 1 ≤ e) : cdv 0 e = 0 := by unfold cdv; exact Nat.div_eq_of_lt (by omega)
theorem cdv_s {n e : Nat} (hn : 1 ≤ n) (he : 1 ≤ e) : cdv n e = (n - 1) / e + 1 := by
  unfold cdv
  rw [show n + e - 1 = (n - 1) + e by omega, Nat.add_div_right _ (by omega)]
theorem cdv_le {n e : Nat} (he : 1 ≤ e) : cdv n e ≤ n := by
  rcases Nat.eq_zero_or_pos n with h | h
  · rw [h, cdv_0 he]; exact Nat.le_refl 0
  · rw [cdv_s h he]
    have := Nat.div_le_self (n - 1) e
    omega
theorem cdv_mul {n e : Nat} (he : 1 ≤ e) : n ≤ cdv n e * e := by
  rcases Nat.eq_zero_or_pos n with h | h
  · omega
  · rw [cdv_s h he, Nat.add_mul, Nat.one_mul]
    have h1 := Nat.div_add_mod (n - 1) e
    have h2 := Nat.mod_lt (n - 1) (show e > 0 by omega)
    rw [Nat.mul_comm] at h1
    omega
theorem cdv_lt {n e k : Nat} (he : 1 ≤ e) : k < cdv n e ↔ k * e < n := by
  rcases Nat.eq_zero_or_pos n with h | h
  · rw [h, cdv_0 he]; omega
  · rw [cdv_s h he]
    have : k < (n - 1) / e + 1 ↔ k ≤ (n - 1) / e := by omega
    rw [this, Nat.le_div_iff_mul_le (by omega)]
    omega
section W0
variable {σ : aW}
set_option maxHeartbeats 4000000 in
set_option maxRecDepth 100000 in
theorem b_blocksOf {n e : Nat} (hn : n < 2 ^ 31) (he : 1 ≤ e) (he2 : e < 2 ^ 31) : MD1 mdX4_blocksOf [.int (nI n), .int (nI e)] σ (some (.int (nI (cdv n e)))) σ := by
  refine md_of [some (.int (nI n)), some (.int (nI e))] rfl (Nat.le_of_ble_eq_true rfl) (by decide) (fun X Post hX hp => ?_)
  refine wp_iload_n hX dX4_blocksOf_0 rfl ?_
  refine wp_iconst (v := 1) hX dX4_blocksOf_1 ic_1 ?_
  refine wp_icmp_lt (tgt := 10) hX dX4_blocksOf_2 (by decide) (fun c => ?_) (fun c => ?_)
  · have h0 : n = 0 := by
      have := (nI_ltI (a := n) (b := 1) hn (by decide)).mp c
      omega
    refine wp_iconst (v := 0) hX dX4_blocksOf_10 ic_0 ?_
    refine wp_iret hX dX4_blocksOf_11 rfl rfl ?_
    rw [h0, cdv_0 he] at hp
    exact hp
  · have h1 : 1 ≤ n := Nat.le_of_not_lt (fun q => c (nI_lt (a := n) (b := 1) q (by decide)))
    refine wp_iload_n hX dX4_blocksOf_5 rfl ?_
    refine wp_iconst (v := 1) hX dX4_blocksOf_6 ic_1 ?_
    refine wp_icmp_ge (tgt := 12) hX dX4_blocksOf_7 (by decide) (fun _ => ?_) (fun c => absurd (nI_le (a := 1) (b := e) he he2) c)
    refine wp_iload_n hX dX4_blocksOf_12 rfl ?_
    refine wp_iconst (v := 1) hX dX4_blocksOf_13 ic_1 ?_
    refine wp_isub hX dX4_blocksOf_14 ?_
    refine wp_ti (y := (nI (n - 1))) (pk_sub (a := n) (b := 1) h1) ?_
    refine wp_iload_n hX dX4_blocksOf_15 rfl ?_
    refine wp_idiv hX dX4_blocksOf_16 (nI_ne0 he he2) ?_
    refine wp_ti (y := (nI ((n - 1) / e))) (pk_div (by omega) (by omega) he2) ?_
    refine wp_iconst (v := 1) hX dX4_blocksOf_17 ic_1 ?_
    refine wp_iadd hX dX4_blocksOf_18 ?_
    refine wp_ti (y := nI ((n - 1) / e + 1)) (nI_1 _) ?_
    refine wp_iret hX dX4_blocksOf_19 rfl rfl ?_
    rw [cdv_s h1 he] at hp
    exact hp
end W0
