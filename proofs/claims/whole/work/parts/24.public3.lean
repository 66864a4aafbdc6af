/-! BlockStore: transactions, commit, recover, checkpoint, count -/
section PB
variable {A : Ab} {τ σ : aW}
set_option maxHeartbeats 4000000 in
set_option maxRecDepth 100000 in
theorem x_put {k v : Int32} (hA : AInv A) (hR : RX A τ σ) : MT mdX4_put [.ref 0, .int k, .int v] σ (fun r σ1 => r = some (.int (sPut A k v).1) ∧ RX (sPut A k v).2 τ σ1) := by
  obtain ⟨st, ⟨B, W, LG⟩, q, pl, rc, M, tx⟩ := A
  have hR0 := hR
  obtain ⟨it, pf, jp, jr, tf, C, S, H, rfl, htf, hup⟩ := hR
  refine mp_of [some (.ref 0), some (.int k), some (.int v)] rfl (Nat.le_of_ble_eq_true rfl) (by decide) (fun X Post hX hp => ?_)
  unfold sPut at hp
  dsimp only at hp
  refine wp_aload_n hX dX4_put_0 rfl ?_
  refine wp_get hX dX4_put_1 flX4_47 rfl rfl ?_
  refine wp_iconst (v := 2) hX dX4_put_4 ic_2 ?_
  refine wp_icmp_eq (tgt := 13) hX dX4_put_5 (by decide) (fun c => ?_) (fun c => ?_)
  · subst c
    rw [if_neg (by decide)] at hp
    obtain ⟨u1, u2, u3, u4, u5⟩ := hup rfl
    have hcap := hA.cap
    have h6 := (hA.2.2.2.2 rfl).2.2.2.2.2
    have hMs := (hA.2.2.2.2 rfl).2.2.2.1
    cases tx with
    | none =>
      obtain ⟨u5, u6⟩ := u5
      subst u5
      refine wp_aload_n hX dX4_put_13 rfl ?_
      refine wp_get hX dX4_put_14 flX4_51 rfl rfl ?_
      refine wp_if_ne (tgt := 23) hX dX4_put_17 (by decide) (fun c_ => absurd (rfl) c_) (fun _ => ?_)
      refine wp_bipush (v := (-3)) hX dX4_put_20 bp_m3 ?_
      refine wp_iret hX dX4_put_22 rfl rfl ?_
      exact hp _ _ ⟨rfl, hR0⟩
    | some CC =>
      obtain ⟨u5, u6⟩ := u5
      obtain ⟨k1, k2⟩ := h6
      subst u5
      have hHl : CC.length = H.1 := by rw [← chK_len]; exact u6.1
      have hSl : (ov M CC).length = S.1 := u4.1
      have hol := ov_len (M := M) CC hMs
      refine wp_aload_n hX dX4_put_13 rfl ?_
      refine wp_get hX dX4_put_14 flX4_51 rfl rfl ?_
      refine wp_if_ne (tgt := 23) hX dX4_put_17 (by decide) (fun _ => ?_) (fun c_ => absurd c_ (by decide))
      refine wp_aload_n hX dX4_put_23 rfl ?_
      refine wp_iload_n hX dX4_put_24 rfl ?_
      refine wp_cv1 hX dX4_put_25 mlX4_113 ⟨Nat.le_of_ble_eq_true rfl, Nat.le_of_ble_eq_true rfl⟩ (b_hasRoom u6 (chK_srt k1) (by omega)) rfl (Nat.le_of_ble_eq_true rfl) ?_
      have elk : (lk (chK CC) k).isSome = (lk CC k).isSome := by rw [chK_lk]; cases lk CC k <;> rfl
      rw [elk, chK_len]
      by_cases hf : (lk CC k).isSome = false ∧ CC.length = 600
      · rw [decide_eq_false (fun z => z hf)]
        dsimp only at hp
        rw [if_pos hf] at hp
        refine wp_if_ne (tgt := 34) hX dX4_put_28 (by decide) (fun c_ => absurd (rfl) c_) (fun _ => ?_)
        refine wp_bipush (v := (-6)) hX dX4_put_31 bp_m6 ?_
        refine wp_iret hX dX4_put_33 rfl rfl ?_
        exact hp _ _ ⟨rfl, hR0⟩
      · rw [decide_eq_true hf]
        dsimp only at hp
        rw [if_neg hf] at hp
        have hl1 := ov_len (M := M) (ins CC k (false, v)) hMs
        have hl2 := ins_len CC k (false, v) k1
        have hcl : (ins CC k (false, v)).length ≤ 600 := by
          rw [hl2]
          cases e : (lk CC k).isSome with
          | true => simp; omega
          | false =>
            have : ¬ CC.length = 600 := fun z => hf ⟨e, z⟩
            simp
            omega
        rw [ov_put hMs k1, ins_len _ k v (ov_srt CC hMs)] at hl1
        refine wp_if_ne (tgt := 34) hX dX4_put_28 (by decide) (fun _ => ?_) (fun c_ => absurd c_ (by decide))
        refine wp_aload_n hX dX4_put_34 rfl ?_
        refine wp_get hX dX4_put_35 flX4_44 rfl rfl ?_
        refine wp_iload_n hX dX4_put_38 rfl ?_
        refine wp_iload_n hX dX4_put_39 rfl ?_
        refine wp_cv2p hX dX4_put_40 mlX4_116 ⟨Nat.le_of_ble_eq_true rfl, Nat.le_of_ble_eq_true rfl⟩ (k_enterG (by decide) rfl rfl rfl (by omega) (fun z => by rw [elk] at z; rw [← hHl]; have : ¬ CC.length = 600 := fun y => hf ⟨z, y⟩; omega) (by decide) u6 (chK_srt k1)) rfl (Nat.le_of_ble_eq_true rfl) ?_
        rintro r1 σ1 ⟨rfl, hu, hkf, hvf, hk1, rfl⟩
        refine wp_eqW (σ1 := wX 2 1 B W q pf LG jp jr tf (AR B LG) C S (hu, hkf, hvf) τ) rfl ?_
        refine wp_aload_n hX dX4_put_43 rfl ?_
        refine wp_get hX dX4_put_44 flX4_41 rfl rfl ?_
        refine wp_iload_n hX dX4_put_47 rfl ?_
        refine wp_iload_n hX dX4_put_48 rfl ?_
        refine wp_cv2p hX dX4_put_49 mlX4_116 ⟨Nat.le_of_ble_eq_true rfl, Nat.le_of_ble_eq_true rfl⟩ (k_enterG (by decide) rfl rfl rfl (by omega) (fun z => by rw [show (lk (ov M CC) k).isSome = false from z] at hl1; simp at hl1; omega) (by decide) u4 (ov_srt CC hMs)) rfl (Nat.le_of_ble_eq_true rfl) ?_
        rintro r1 σ1 ⟨rfl, su, skf, svf, hk2, rfl⟩
        refine wp_iconst (v := 0) hX dX4_put_52 ic_0 ?_
        refine wp_iret hX dX4_put_53 rfl rfl ?_
        refine hp _ _ ⟨rfl, 1, pf, jp, jr, tf, C, (su, skf, svf), (hu, hkf, hvf), rfl, htf, fun _ => ⟨u1, u2, u3, ?_, rfl, ?_⟩⟩
        · show KAm (ov M (ins CC k (false, v))) _
          rw [ov_put hMs k1]
          exact hk2
        · rw [chK_ins]
          exact hk1
  · rw [if_pos c] at hp
    refine wp_aload_n hX dX4_put_8 rfl ?_
    refine wp_cv0 hX dX4_put_9 mlX4_64 ⟨Nat.le_of_ble_eq_true rfl, Nat.le_of_ble_eq_true rfl⟩ (b_refusal) rfl (Nat.le_of_ble_eq_true rfl) ?_
    refine wp_iret hX dX4_put_12 rfl rfl ?_
    exact hp _ _ ⟨rfl, hR0⟩
set_option maxHeartbeats 4000000 in
set_option maxRecDepth 100000 in
theorem x_remove {k : Int32} (hA : AInv A) (hR : RX A τ σ) : MT mdX4_remove [.ref 0, .int k] σ (fun r σ1 => r = some (.int (sRemove A k).1) ∧ RX (sRemove A k).2 τ σ1) := by
  obtain ⟨st, ⟨B, W, LG⟩, q, pl, rc, M, tx⟩ := A
  have hR0 := hR
  obtain ⟨it, pf, jp, jr, tf, C, S, H, rfl, htf, hup⟩ := hR
  refine mp_of [some (.ref 0), some (.int k)] rfl (Nat.le_of_ble_eq_true rfl) (by decide) (fun X Post hX hp => ?_)
  unfold sRemove at hp
  dsimp only at hp
  refine wp_aload_n hX dX4_remove_0 rfl ?_
  refine wp_get hX dX4_remove_1 flX4_47 rfl rfl ?_
  refine wp_iconst (v := 2) hX dX4_remove_4 ic_2 ?_
  refine wp_icmp_eq (tgt := 13) hX dX4_remove_5 (by decide) (fun c => ?_) (fun c => ?_)
  · subst c
    rw [if_neg (by decide)] at hp
    obtain ⟨u1, u2, u3, u4, u5⟩ := hup rfl
    have hcap := hA.cap
    have h6 := (hA.2.2.2.2 rfl).2.2.2.2.2
    have hMs := (hA.2.2.2.2 rfl).2.2.2.1
    cases tx with
    | none =>
      obtain ⟨u5, u6⟩ := u5
      subst u5
      refine wp_aload_n hX dX4_remove_13 rfl ?_
      refine wp_get hX dX4_remove_14 flX4_51 rfl rfl ?_
      refine wp_if_ne (tgt := 23) hX dX4_remove_17 (by decide) (fun c_ => absurd (rfl) c_) (fun _ => ?_)
      refine wp_bipush (v := (-3)) hX dX4_remove_20 bp_m3 ?_
      refine wp_iret hX dX4_remove_22 rfl rfl ?_
      exact hp _ _ ⟨rfl, hR0⟩
    | some CC =>
      obtain ⟨u5, u6⟩ := u5
      obtain ⟨k1, k2⟩ := h6
      subst u5
      have hHl : CC.length = H.1 := by rw [← chK_len]; exact u6.1
      have hSl : (ov M CC).length = S.1 := u4.1
      have hol := ov_len (M := M) CC hMs
      dsimp only at hp
      refine wp_aload_n hX dX4_remove_13 rfl ?_
      refine wp_get hX dX4_remove_14 flX4_51 rfl rfl ?_
      refine wp_if_ne (tgt := 23) hX dX4_remove_17 (by decide) (fun _ => ?_) (fun c_ => absurd c_ (by decide))
      refine wp_aload_n hX dX4_remove_23 rfl ?_
      refine wp_get hX dX4_remove_24 flX4_41 rfl rfl ?_
      refine wp_iload_n hX dX4_remove_27 rfl ?_
      refine wp_cv1 hX dX4_remove_28 mlX4_119 ⟨Nat.le_of_ble_eq_true rfl, Nat.le_of_ble_eq_true rfl⟩ (k_holds rfl rfl (by omega) (by decide) u4 (ov_srt CC hMs)) rfl (Nat.le_of_ble_eq_true rfl) ?_
      cases hh : (lk (ov M CC) k).isSome with
      | false =>
        rw [if_pos hh] at hp
        rw [show (lk (seenT M (some CC)) k).isSome = false from hh]
        refine wp_if_ne (tgt := 37) hX dX4_remove_31 (by decide) (fun c_ => absurd (rfl) c_) (fun _ => ?_)
        refine wp_bipush (v := (-5)) hX dX4_remove_34 bp_m5 ?_
        refine wp_iret hX dX4_remove_36 rfl rfl ?_
        exact hp _ _ ⟨rfl, hR0⟩
      | true =>
        rw [if_neg (by rw [hh]; decide)] at hp
        rw [show (lk (seenT M (some CC)) k).isSome = true from hh]
        refine wp_if_ne (tgt := 37) hX dX4_remove_31 (by decide) (fun _ => ?_) (fun c_ => absurd c_ (by decide))
        refine wp_aload_n hX dX4_remove_37 rfl ?_
        refine wp_iload_n hX dX4_remove_38 rfl ?_
        refine wp_cv1 hX dX4_remove_39 mlX4_113 ⟨Nat.le_of_ble_eq_true rfl, Nat.le_of_ble_eq_true rfl⟩ (b_hasRoom u6 (chK_srt k1) (by omega)) rfl (Nat.le_of_ble_eq_true rfl) ?_
        have elk : (lk (chK CC) k).isSome = (lk CC k).isSome := by rw [chK_lk]; cases lk CC k <;> rfl
        rw [elk, chK_len]
        by_cases hf : (lk CC k).isSome = false ∧ CC.length = 600
        · rw [decide_eq_false (fun z => z hf)]
          rw [if_pos hf] at hp
          refine wp_if_ne (tgt := 48) hX dX4_remove_42 (by decide) (fun c_ => absurd (rfl) c_) (fun _ => ?_)
          refine wp_bipush (v := (-6)) hX dX4_remove_45 bp_m6 ?_
          refine wp_iret hX dX4_remove_47 rfl rfl ?_
          exact hp _ _ ⟨rfl, hR0⟩
        · rw [decide_eq_true hf]
          rw [if_neg hf] at hp
          refine wp_if_ne (tgt := 48) hX dX4_remove_42 (by decide) (fun _ => ?_) (fun c_ => absurd c_ (by decide))
          refine wp_aload_n hX dX4_remove_48 rfl ?_
          refine wp_get hX dX4_remove_49 flX4_44 rfl rfl ?_
          refine wp_iload_n hX dX4_remove_52 rfl ?_
          refine wp_iconst (v := 0) hX dX4_remove_53 ic_0 ?_
          refine wp_cv2p hX dX4_remove_54 mlX4_116 ⟨Nat.le_of_ble_eq_true rfl, Nat.le_of_ble_eq_true rfl⟩ (k_enterG (by decide) rfl rfl rfl (by omega) (fun z => by rw [elk] at z; rw [← hHl]; have : ¬ CC.length = 600 := fun y => hf ⟨z, y⟩; omega) (by decide) u6 (chK_srt k1)) rfl (Nat.le_of_ble_eq_true rfl) ?_
          rintro r1 σ1 ⟨rfl, hu, hkf, hvf, hk1, rfl⟩
          refine wp_eqW (σ1 := wX 2 1 B W q pf LG jp jr tf (AR B LG) C S (hu, hkf, hvf) τ) rfl ?_
          refine wp_aload_n hX dX4_remove_57 rfl ?_
          refine wp_get hX dX4_remove_58 flX4_41 rfl rfl ?_
          refine wp_iload_n hX dX4_remove_61 rfl ?_
          refine wp_cv1p hX dX4_remove_62 mlX4_122 ⟨Nat.le_of_ble_eq_true rfl, Nat.le_of_ble_eq_true rfl⟩ (k_drop (by decide) rfl rfl rfl (by omega) (by decide) u4 (ov_srt CC hMs)) rfl (Nat.le_of_ble_eq_true rfl) ?_
          rintro r1 σ1 ⟨rfl, su, skf, svf, hk2, rfl⟩
          refine wp_iconst (v := 0) hX dX4_remove_65 ic_0 ?_
          refine wp_iret hX dX4_remove_66 rfl rfl ?_
          refine hp _ _ ⟨rfl, 1, pf, jp, jr, tf, C, (su, skf, svf), (hu, hkf, hvf), rfl, htf, fun _ => ⟨u1, u2, u3, ?_, rfl, ?_⟩⟩
          · show KAm (ov M (ins CC k (true, 0))) _
            rw [ov_rem hMs k1]
            exact hk2
          · rw [chK_ins]
            exact hk1
  · rw [if_pos c] at hp
    refine wp_aload_n hX dX4_remove_8 rfl ?_
    refine wp_cv0 hX dX4_remove_9 mlX4_64 ⟨Nat.le_of_ble_eq_true rfl, Nat.le_of_ble_eq_true rfl⟩ (b_refusal) rfl (Nat.le_of_ble_eq_true rfl) ?_
    refine wp_iret hX dX4_remove_12 rfl rfl ?_
    exact hp _ _ ⟨rfl, hR0⟩
set_option maxHeartbeats 4000000 in
set_option maxRecDepth 100000 in
theorem x_commit (hA : AInv A) (hR : RX A τ σ) : MT mdX4_commit [.ref 0] σ (fun r σ1 => r = some (.int (sCommit A).1) ∧ RX (sCommit A).2 τ σ1) := by
  obtain ⟨st, ⟨B, W, LG⟩, q, pl, rc, M, tx⟩ := A
  have hR0 := hR
  obtain ⟨it, pf, jp, jr, tf, C, S, H, rfl, htf, hup⟩ := hR
  refine mp_of [some (.ref 0), none, none] rfl (Nat.le_of_ble_eq_true rfl) (by decide) (fun X Post hX hp => ?_)
  unfold sCommit at hp
  dsimp only at hp
  refine wp_aload_n hX dX4_commit_0 rfl ?_
  refine wp_get hX dX4_commit_1 flX4_47 rfl rfl ?_
  refine wp_iconst (v := 2) hX dX4_commit_4 ic_2 ?_
  refine wp_icmp_eq (tgt := 13) hX dX4_commit_5 (by decide) (fun c => ?_) (fun c => ?_)
  · subst c
    rw [if_neg (by decide)] at hp
    obtain ⟨u1, u2, u3, u4, u5⟩ := hup rfl
    subst u1
    subst u2
    have hcap := hA.cap
    obtain ⟨⟨g1, g2, g3, g4, g5, g6, g7⟩, hHd⟩ := hA.geo (by decide)
    obtain ⟨-, hpl, hrc, hMs, -, h6⟩ := hA.2.2.2.2 rfl
    cases tx with
    | none =>
      obtain ⟨u5, u6⟩ := u5
      subst u5
      refine wp_aload_n hX dX4_commit_13 rfl ?_
      refine wp_get hX dX4_commit_14 flX4_51 rfl rfl ?_
      refine wp_if_ne (tgt := 23) hX dX4_commit_17 (by decide) (fun c_ => absurd (rfl) c_) (fun _ => ?_)
      refine wp_bipush (v := (-3)) hX dX4_commit_20 bp_m3 ?_
      refine wp_iret hX dX4_commit_22 rfl rfl ?_
      exact hp _ _ ⟨rfl, hR0⟩
    | some CC =>
      obtain ⟨u5, u6⟩ := u5
      obtain ⟨k1, k2⟩ := h6
      subst u5
      have hHl : CC.length = H.1 := by rw [← chK_len]; exact u6.1
      have hSl : (ov M CC).length = S.1 := u4.1
      have hol := ov_len (M := M) CC hMs
      have hcu : (2 : Nat) ^ 29 = 536870912 := by decide
      dsimp only at hp
      refine wp_aload_n hX dX4_commit_13 rfl ?_
      refine wp_get hX dX4_commit_14 flX4_51 rfl rfl ?_
      refine wp_if_ne (tgt := 23) hX dX4_commit_17 (by decide) (fun _ => ?_) (fun c_ => absurd c_ (by decide))
      refine wp_aload_n hX dX4_commit_23 rfl ?_
      refine wp_get hX dX4_commit_24 flX4_21 rfl rfl ?_
      refine wp_aload_n hX dX4_commit_27 rfl ?_
      refine wp_get hX dX4_commit_28 flX4_44 rfl rfl ?_
      refine wp_cv0 hX dX4_commit_31 mlX4_125 ⟨Nat.le_of_ble_eq_true rfl, Nat.le_of_ble_eq_true rfl⟩ (k_entries rfl) rfl (Nat.le_of_ble_eq_true rfl) ?_
      refine wp_cv1 hX dX4_commit_34 mlX4_128 ⟨Nat.le_of_ble_eq_true rfl, Nat.le_of_ble_eq_true rfl⟩ (j_hasRoom (by omega) g4 (by omega) hpl g6) rfl (Nat.le_of_ble_eq_true rfl) ?_
      rw [← hHl]
      by_cases hf : LG < jp + rB W CC.length
      · rw [if_pos hf] at hp
        rw [decide_eq_false (by omega)]
        refine wp_if_ne (tgt := 43) hX dX4_commit_37 (by decide) (fun c_ => absurd (rfl) c_) (fun _ => ?_)
        refine wp_bipush (v := (-6)) hX dX4_commit_40 bp_m6 ?_
        refine wp_iret hX dX4_commit_42 rfl rfl ?_
        exact hp _ _ ⟨rfl, hR0⟩
      · rw [if_neg hf] at hp
        rw [decide_eq_true (by omega)]
        refine wp_if_ne (tgt := 43) hX dX4_commit_37 (by decide) (fun _ => ?_) (fun c_ => absurd c_ (by decide))
        refine wp_aload_n hX dX4_commit_43 rfl ?_
        refine wp_get hX dX4_commit_44 flX4_10 rfl rfl ?_
        refine wp_iconst (v := 0) hX dX4_commit_47 ic_0 ?_
        refine wp_iconst (v := 1) hX dX4_commit_48 ic_1 ?_
        refine wp_cv2 hX dX4_commit_49 mlX4_68 ⟨Nat.le_of_ble_eq_true rfl, Nat.le_of_ble_eq_true rfl⟩ (d_wordAt rfl rfl g2 g4) rfl (Nat.le_of_ble_eq_true rfl) ?_
        rw [show wA B W q.1 0 1 = q.1 1 from wA_h (i := 1) g2 (by omega) g4 (by omega)]
        refine wp_istore_n hX dX4_commit_52 (Nat.le_of_ble_eq_true rfl) rfl ?_
        refine wp_aload_n hX dX4_commit_53 rfl ?_
        refine wp_get hX dX4_commit_54 flX4_10 rfl rfl ?_
        refine wp_iconst (v := 0) hX dX4_commit_57 ic_0 ?_
        refine wp_iconst (v := 2) hX dX4_commit_58 ic_2 ?_
        refine wp_cv2 hX dX4_commit_59 mlX4_68 ⟨Nat.le_of_ble_eq_true rfl, Nat.le_of_ble_eq_true rfl⟩ (d_wordAt rfl rfl g2 g4) rfl (Nat.le_of_ble_eq_true rfl) ?_
        rw [show wA B W q.1 0 2 = q.1 2 from wA_h (i := 2) g2 (by omega) g4 (by omega)]
        by_cases hz : CC.length = 0
        · have e1 : cmW W jp jr q CC = (true, q) := by
            unfold cmW
            rw [hz]
            rfl
          have e2 : ov M CC = M := by
            rw [List.eq_nil_of_length_eq_zero hz]
            rfl
          rw [e1, if_neg (show ¬ true = false by decide), if_pos hz, hz, e2] at hp
          rw [show seenT M (some CC) = M from e2] at u4
          refine wp_istore_n hX dX4_commit_62 (Nat.le_of_ble_eq_true rfl) rfl ?_
          refine wp_aload_n hX dX4_commit_63 rfl ?_
          refine wp_get hX dX4_commit_64 flX4_21 rfl rfl ?_
          refine wp_aload_n hX dX4_commit_67 rfl ?_
          refine wp_get hX dX4_commit_68 flX4_44 rfl rfl ?_
          refine wp_aload_n hX dX4_commit_71 rfl ?_
          refine wp_get hX dX4_commit_72 flX4_41 rfl rfl ?_
          refine wp_iload_n hX dX4_commit_75 rfl ?_
          refine wp_iload_n hX dX4_commit_76 rfl ?_
          refine wp_cv4 hX dX4_commit_77 mlX4_131 ⟨Nat.le_of_ble_eq_true rfl, Nat.le_of_ble_eq_true rfl⟩ (j_append0 (by omega) g4 (by omega)) rfl (Nat.le_of_ble_eq_true rfl) ?_
          refine wp_if_ne (tgt := 88) hX dX4_commit_80 (by decide) (fun _ => ?_) (fun c_ => absurd c_ (by decide))
          refine wp_aload_n hX dX4_commit_88 rfl ?_
          refine wp_get hX dX4_commit_89 flX4_37 rfl rfl ?_
          refine wp_aload_n hX dX4_commit_92 rfl ?_
          refine wp_get hX dX4_commit_93 flX4_41 rfl rfl ?_
          refine wp_cv1 hX dX4_commit_96 mlX4_135 ⟨Nat.le_of_ble_eq_true rfl, Nat.le_of_ble_eq_true rfl⟩ (k_copyFrom (by decide) rfl rfl rfl rfl rfl rfl (by omega) (by omega) (by decide) (by decide)) rfl (Nat.le_of_ble_eq_true rfl) ?_
          refine wp_eqW (σ1 := wX 2 1 B W q pf LG jp jr tf (AR B LG) (S.1, va_cpy S.2.1 C.2.1 0 0 S.1, va_cpy S.2.2 C.2.2 0 0 S.1) S H τ) rfl ?_
          refine wp_aload_n hX dX4_commit_99 rfl ?_
          refine wp_cv0 hX dX4_commit_100 mlX4_139 ⟨Nat.le_of_ble_eq_true rfl, Nat.le_of_ble_eq_true rfl⟩ (b_endTransaction (C := (S.1, va_cpy S.2.1 C.2.1 0 0 S.1, va_cpy S.2.2 C.2.2 0 0 S.1)) (by show S.1 ≤ 8700; omega)) rfl (Nat.le_of_ble_eq_true rfl) ?_
          refine wp_iconst (v := 0) hX dX4_commit_103 ic_0 ?_
          refine wp_iret hX dX4_commit_104 rfl rfl ?_
          exact hp _ _ ⟨rfl, 0, _, jp, jr, tf, _, _, _, rfl, htf, fun _ => ⟨rfl, rfl, u4.copy, (u4.copy (S := C)).copy, rfl, rfl⟩⟩
        · have hcm : wrN W (fun p => (1 + jp + p, recB W (recH (chK CC) (ov M CC)) (1 + 3 * (chK CC).length) (q.1 1) (nI (jr + 1)) (q.1 2) p)) 0 (rB W (chK CC).length) q = cmW W jp jr q CC := by
            unfold cmW
            rw [chK_len]
            congr 1
            funext p
            rw [recB_congr (fun i hi => recH_C hMs k1 hi)]
          refine wp_istore_n hX dX4_commit_62 (Nat.le_of_ble_eq_true rfl) rfl ?_
          refine wp_aload_n hX dX4_commit_63 rfl ?_
          refine wp_get hX dX4_commit_64 flX4_21 rfl rfl ?_
          refine wp_aload_n hX dX4_commit_67 rfl ?_
          refine wp_get hX dX4_commit_68 flX4_44 rfl rfl ?_
          refine wp_aload_n hX dX4_commit_71 rfl ?_
          refine wp_get hX dX4_commit_72 flX4_41 rfl rfl ?_
          refine wp_iload_n hX dX4_commit_75 rfl ?_
          refine wp_iload_n hX dX4_commit_76 rfl ?_
          refine wp_cv4p hX dX4_commit_77 mlX4_131 ⟨Nat.le_of_ble_eq_true rfl, Nat.le_of_ble_eq_true rfl⟩ (j_append g2 (by omega) g4 u6 u4 (ov_srt CC hMs) (by omega) (by omega) (by rw [chK_len]; exact hz) (by omega) (by rw [chK_len]; omega) (by omega)) rfl (Nat.le_of_ble_eq_true rfl) ?_
          rintro r1 σ1 ⟨pf1, e1, e2⟩
          rw [show seenT M (some CC) = ov M CC from rfl, hcm] at e1 e2
          rw [chK_len] at e2
          subst e1
          subst e2
          generalize hzz : cmW W jp jr q CC = zz at hp ⊢
          obtain ⟨zb, z2⟩ := zz
          cases zb with
          | false =>
            rw [if_pos rfl] at hp
            refine wp_if_ne (tgt := 88) hX dX4_commit_80 (by decide) (fun c_ => absurd (rfl) c_) (fun _ => ?_)
            refine wp_eqW (σ1 := wX 2 1 B W z2 pf1 LG jp jr tf (AR B LG) C S H τ) rfl ?_
            refine wp_aload_n hX dX4_commit_83 rfl ?_
            refine wp_cv0 hX dX4_commit_84 mlX4_82 ⟨Nat.le_of_ble_eq_true rfl, Nat.le_of_ble_eq_true rfl⟩ (b_fail) rfl (Nat.le_of_ble_eq_true rfl) ?_
            refine wp_iret hX dX4_commit_87 rfl rfl ?_
            exact hp _ _ ⟨rfl, 1, _, jp, jr, tf, C, S, H, rfl, fun _ => htf (by decide), fun h => absurd h (by decide)⟩
          | true =>
            rw [if_neg (show ¬ true = false by decide), if_neg hz] at hp
            refine wp_eqW (σ1 := wX 2 1 B W z2 pf1 LG (jp + rB W CC.length) (jr + 1) tf (AR B LG) C S H τ) rfl ?_
            refine wp_if_ne (tgt := 88) hX dX4_commit_80 (by decide) (fun _ => ?_) (fun c_ => absurd c_ (show ¬ b2i true = 0 by decide))
            refine wp_aload_n hX dX4_commit_88 rfl ?_
            refine wp_get hX dX4_commit_89 flX4_37 rfl rfl ?_
            refine wp_aload_n hX dX4_commit_92 rfl ?_
            refine wp_get hX dX4_commit_93 flX4_41 rfl rfl ?_
            refine wp_cv1 hX dX4_commit_96 mlX4_135 ⟨Nat.le_of_ble_eq_true rfl, Nat.le_of_ble_eq_true rfl⟩ (k_copyFrom (by decide) rfl rfl rfl rfl rfl rfl (by omega) (by omega) (by decide) (by decide)) rfl (Nat.le_of_ble_eq_true rfl) ?_
            refine wp_eqW (σ1 := wX 2 1 B W z2 pf1 LG (jp + rB W CC.length) (jr + 1) tf (AR B LG) (S.1, va_cpy S.2.1 C.2.1 0 0 S.1, va_cpy S.2.2 C.2.2 0 0 S.1) S H τ) rfl ?_
            refine wp_aload_n hX dX4_commit_99 rfl ?_
            refine wp_cv0 hX dX4_commit_100 mlX4_139 ⟨Nat.le_of_ble_eq_true rfl, Nat.le_of_ble_eq_true rfl⟩ (b_endTransaction (C := (S.1, va_cpy S.2.1 C.2.1 0 0 S.1, va_cpy S.2.2 C.2.2 0 0 S.1)) (by show S.1 ≤ 8700; omega)) rfl (Nat.le_of_ble_eq_true rfl) ?_
            refine wp_iconst (v := 0) hX dX4_commit_103 ic_0 ?_
            refine wp_iret hX dX4_commit_104 rfl rfl ?_
            exact hp _ _ ⟨rfl, 0, _, _, _, tf, _, _, _, rfl, htf, fun _ => ⟨rfl, rfl, u4.copy, (u4.copy (S := C)).copy, rfl, rfl⟩⟩
  · rw [if_pos c] at hp
    refine wp_aload_n hX dX4_commit_8 rfl ?_
    refine wp_cv0 hX dX4_commit_9 mlX4_64 ⟨Nat.le_of_ble_eq_true rfl, Nat.le_of_ble_eq_true rfl⟩ (b_refusal) rfl (Nat.le_of_ble_eq_true rfl) ?_
    refine wp_iret hX dX4_commit_12 rfl rfl ?_
    exact hp _ _ ⟨rfl, hR0⟩
end PB
