set_option maxHeartbeats 4000000 in
set_option maxRecDepth 100000 in
theorem i_disk {c0 : aE} : MC mdX0_init 2 32832 [.ref 1] [c0, .inr (0, [.null, .null, .int 0, .int 0, .int 0, .int 0])] [c0, edk 0 0 0 0, ear 32768 (fun _ => 0), ear 64 (fun _ => 0)] := by
  refine mc_of [some (.ref 1)] 2 rfl rfl (Nat.le_of_ble_eq_true rfl) (by decide) rfl rfl (fun X hX hI hret => ?_)
  refine wq_aload_n hX dX0_init_0 rfl ?_
  refine wq_obj hX dX0_init_1 obX0 ⟨(Nat.le_of_ble_eq_true rfl), (Nat.le_of_ble_eq_true rfl)⟩ ?_
  refine wq_aload_n hX dX0_init_4 rfl ?_
  refine wq_ldc hX dX0_init_5 lcX0_9 ?_
  refine wq_newI (N := 32768) (n0 := 2) hX dX0_init_7 ar_I (by decide) (by decide) (by decide) rfl (Nat.le_of_ble_eq_true rfl) rfl (Nat.le_of_ble_eq_true rfl) (Nat.le_of_ble_eq_true rfl) ?_
  refine wq_eqW (σ1 := [c0, .inr (0, [.null, .null, .int 0, .int 0, .int 0, .int 0]), ear 32768 (fun _ => 0)]) rfl ?_
  refine wq_putF hX dX0_init_9 hI fxX0_10 rfl (Nat.le_of_ble_eq_true rfl) (Nat.le_of_ble_eq_true rfl) (fun _ => rfl) (fun _ => rfl) ?_
  refine wq_eqW (σ1 := [c0, .inr (0, [.ref 2, .null, .int 0, .int 0, .int 0, .int 0]), ear 32768 (fun _ => 0)]) rfl ?_
  refine wq_aload_n hX dX0_init_12 rfl ?_
  refine wq_bipush (v := 64) hX dX0_init_13 bp_64 ?_
  refine wq_newI (N := 64) (n0 := 3) hX dX0_init_15 ar_I (by decide) (by decide) (by decide) rfl (Nat.le_of_ble_eq_true rfl) rfl (Nat.le_of_ble_eq_true rfl) (Nat.le_of_ble_eq_true rfl) ?_
  refine wq_eqW (σ1 := [c0, .inr (0, [.ref 2, .null, .int 0, .int 0, .int 0, .int 0]), ear 32768 (fun _ => 0), ear 64 (fun _ => 0)]) rfl ?_
  refine wq_putF hX dX0_init_17 hI fxX0_16 rfl (Nat.le_of_ble_eq_true rfl) (Nat.le_of_ble_eq_true rfl) (fun _ => rfl) (fun _ => rfl) ?_
  refine wq_eqW (σ1 := [c0, .inr (0, [.ref 2, .ref 3, .int 0, .int 0, .int 0, .int 0]), ear 32768 (fun _ => 0), ear 64 (fun _ => 0)]) rfl ?_
  refine wq_aload_n hX dX0_init_20 rfl ?_
  refine wq_iconst (v := 0) hX dX0_init_21 ic_0 ?_
  refine wq_put hX dX0_init_22 fwX0_19 rfl (Nat.le_of_ble_eq_true rfl) (Nat.le_of_ble_eq_true rfl) rfl rfl ?_
  refine wq_eqW (σ1 := [c0, .inr (0, [.ref 2, .ref 3, .int 0, .int 0, .int 0, .int 0]), ear 32768 (fun _ => 0), ear 64 (fun _ => 0)]) rfl ?_
  refine wq_aload_n hX dX0_init_25 rfl ?_
  refine wq_iconst (v := 0) hX dX0_init_26 ic_0 ?_
  refine wq_put hX dX0_init_27 fwX0_23 rfl (Nat.le_of_ble_eq_true rfl) (Nat.le_of_ble_eq_true rfl) rfl rfl ?_
  refine wq_eqW (σ1 := [c0, .inr (0, [.ref 2, .ref 3, .int 0, .int 0, .int 0, .int 0]), ear 32768 (fun _ => 0), ear 64 (fun _ => 0)]) rfl ?_
  refine wq_aload_n hX dX0_init_30 rfl ?_
  refine wq_iconst (v := 0) hX dX0_init_31 ic_0 ?_
  refine wq_put hX dX0_init_32 fwX0_26 rfl (Nat.le_of_ble_eq_true rfl) (Nat.le_of_ble_eq_true rfl) rfl rfl ?_
  refine wq_eqW (σ1 := [c0, .inr (0, [.ref 2, .ref 3, .int 0, .int 0, .int 0, .int 0]), ear 32768 (fun _ => 0), ear 64 (fun _ => 0)]) rfl ?_
  refine wq_aload_n hX dX0_init_35 rfl ?_
  refine wq_iconst (v := 0) hX dX0_init_36 ic_0 ?_
  refine wq_put hX dX0_init_37 fwX0_29 rfl (Nat.le_of_ble_eq_true rfl) (Nat.le_of_ble_eq_true rfl) rfl rfl ?_
  refine wq_eqW (σ1 := [c0, .inr (0, [.ref 2, .ref 3, .int 0, .int 0, .int 0, .int 0]), ear 32768 (fun _ => 0), ear 64 (fun _ => 0)]) rfl ?_
  exact hret _ _ dX0_init_40
set_option maxHeartbeats 4000000 in
set_option maxRecDepth 100000 in
theorem i_journal {c0 c1 c2 c3 : aE} : MC mdX1_init 0 0 [.ref 4, .ref 1] [c0, c1, c2, c3, .inr (1, [.null, .int 0, .int 0, .int 0])] [c0, c1, c2, c3, ejn 0 0 0] := by
  refine mc_of [some (.ref 4), some (.ref 1)] 5 rfl rfl (Nat.le_of_ble_eq_true rfl) (by decide) rfl rfl (fun X hX hI hret => ?_)
  refine wq_aload_n hX dX1_init_0 rfl ?_
  refine wq_obj hX dX1_init_1 obX1 ⟨(Nat.le_of_ble_eq_true rfl), (Nat.le_of_ble_eq_true rfl)⟩ ?_
  refine wq_aload_n hX dX1_init_4 rfl ?_
  refine wq_iconst (v := 0) hX dX1_init_5 ic_0 ?_
  refine wq_put hX dX1_init_6 fwX1_7 rfl (Nat.le_of_ble_eq_true rfl) (Nat.le_of_ble_eq_true rfl) rfl rfl ?_
  refine wq_eqW (σ1 := [c0, c1, c2, c3, .inr (1, [.null, .int 0, .int 0, .int 0])]) rfl ?_
  refine wq_aload_n hX dX1_init_9 rfl ?_
  refine wq_iconst (v := 0) hX dX1_init_10 ic_0 ?_
  refine wq_put hX dX1_init_11 fwX1_13 rfl (Nat.le_of_ble_eq_true rfl) (Nat.le_of_ble_eq_true rfl) rfl rfl ?_
  refine wq_eqW (σ1 := [c0, c1, c2, c3, .inr (1, [.null, .int 0, .int 0, .int 0])]) rfl ?_
  refine wq_aload_n hX dX1_init_14 rfl ?_
  refine wq_iconst (v := 0) hX dX1_init_15 ic_0 ?_
  refine wq_put hX dX1_init_16 fwX1_16 rfl (Nat.le_of_ble_eq_true rfl) (Nat.le_of_ble_eq_true rfl) rfl rfl ?_
  refine wq_eqW (σ1 := [c0, c1, c2, c3, .inr (1, [.null, .int 0, .int 0, .int 0])]) rfl ?_
  refine wq_aload_n hX dX1_init_19 rfl ?_
  refine wq_aload_n hX dX1_init_20 rfl ?_
  refine wq_putF hX dX1_init_21 hI fxX1_19 rfl (Nat.le_of_ble_eq_true rfl) (Nat.le_of_ble_eq_true rfl) (fun _ => rfl) (fun _ => rfl) ?_
  refine wq_eqW (σ1 := [c0, c1, c2, c3, .inr (1, [.ref 1, .int 0, .int 0, .int 0])]) rfl ?_
  exact hret _ _ dX1_init_24
set_option maxHeartbeats 4000000 in
set_option maxRecDepth 100000 in
theorem i_tree {c0 c1 c2 c3 c4 : aE} : MC mdX3_init 0 0 [.ref 5, .ref 1] [c0, c1, c2, c3, c4, .inr (3, [.null, .int 0, .int 0])] [c0, c1, c2, c3, c4, etr 0 0] := by
  refine mc_of [some (.ref 5), some (.ref 1)] 6 rfl rfl (Nat.le_of_ble_eq_true rfl) (by decide) rfl rfl (fun X hX hI hret => ?_)
  refine wq_aload_n hX dX3_init_0 rfl ?_
  refine wq_obj hX dX3_init_1 obX3 ⟨(Nat.le_of_ble_eq_true rfl), (Nat.le_of_ble_eq_true rfl)⟩ ?_
  refine wq_aload_n hX dX3_init_4 rfl ?_
  refine wq_iconst (v := 0) hX dX3_init_5 ic_0 ?_
  refine wq_put hX dX3_init_6 fwX3_9 rfl (Nat.le_of_ble_eq_true rfl) (Nat.le_of_ble_eq_true rfl) rfl rfl ?_
  refine wq_eqW (σ1 := [c0, c1, c2, c3, c4, .inr (3, [.null, .int 0, .int 0])]) rfl ?_
  refine wq_aload_n hX dX3_init_9 rfl ?_
  refine wq_iconst (v := 0) hX dX3_init_10 ic_0 ?_
  refine wq_put hX dX3_init_11 fwX3_15 rfl (Nat.le_of_ble_eq_true rfl) (Nat.le_of_ble_eq_true rfl) rfl rfl ?_
  refine wq_eqW (σ1 := [c0, c1, c2, c3, c4, .inr (3, [.null, .int 0, .int 0])]) rfl ?_
  refine wq_aload_n hX dX3_init_14 rfl ?_
  refine wq_aload_n hX dX3_init_15 rfl ?_
  refine wq_putF hX dX3_init_16 hI fxX3_18 rfl (Nat.le_of_ble_eq_true rfl) (Nat.le_of_ble_eq_true rfl) (fun _ => rfl) (fun _ => rfl) ?_
  refine wq_eqW (σ1 := [c0, c1, c2, c3, c4, .inr (3, [.ref 1, .int 0, .int 0])]) rfl ?_
  exact hret _ _ dX3_init_19
set_option maxHeartbeats 4000000 in
set_option maxRecDepth 100000 in
theorem i_map6 {c0 c1 c2 c3 c4 c5 : aE} : MC mdX2_init 2 17400 [.ref 6, .int 8700] [c0, c1, c2, c3, c4, c5, .inr (2, [.null, .null, .int 0])] [c0, c1, c2, c3, c4, c5, ekm 7 8 0, ear 8700 (fun _ => 0), ear 8700 (fun _ => 0)] := by
  refine mc_of [some (.ref 6), some (.int 8700), none] 7 rfl rfl (Nat.le_of_ble_eq_true rfl) (by decide) rfl rfl (fun X hX hI hret => ?_)
  refine wq_aload_n hX dX2_init_0 rfl ?_
  refine wq_obj hX dX2_init_1 obX2 ⟨(Nat.le_of_ble_eq_true rfl), (Nat.le_of_ble_eq_true rfl)⟩ ?_
  refine wq_aload_n hX dX2_init_4 rfl ?_
  refine wq_iconst (v := 0) hX dX2_init_5 ic_0 ?_
  refine wq_put hX dX2_init_6 fwX2_7 rfl (Nat.le_of_ble_eq_true rfl) (Nat.le_of_ble_eq_true rfl) rfl rfl ?_
  refine wq_eqW (σ1 := [c0, c1, c2, c3, c4, c5, .inr (2, [.null, .null, .int 0])]) rfl ?_
  refine wq_iload_n hX dX2_init_9 rfl ?_
  refine wq_iconst (v := 0) hX dX2_init_10 ic_0 ?_
  refine wq_max hX dX2_init_11 mlX2_13b ⟨(Nat.le_of_ble_eq_true rfl), (Nat.le_of_ble_eq_true rfl)⟩ ⟨(Nat.le_of_ble_eq_true rfl), (Nat.le_of_ble_eq_true rfl)⟩ (Nat.le_of_ble_eq_true rfl) ?_
  refine wq_ti (y := 8700) rfl ?_
  refine wq_istore_n hX dX2_init_14 (Nat.le_of_ble_eq_true rfl) rfl ?_
  refine wq_aload_n hX dX2_init_15 rfl ?_
  refine wq_iload_n hX dX2_init_16 rfl ?_
  refine wq_newI (N := 8700) (n0 := 7) hX dX2_init_17 ar_I (by decide) (by decide) (by decide) rfl (Nat.le_of_ble_eq_true rfl) rfl (Nat.le_of_ble_eq_true rfl) (Nat.le_of_ble_eq_true rfl) ?_
  refine wq_eqW (σ1 := [c0, c1, c2, c3, c4, c5, .inr (2, [.null, .null, .int 0]), ear 8700 (fun _ => 0)]) rfl ?_
  refine wq_putF hX dX2_init_19 hI fxX2_19 rfl (Nat.le_of_ble_eq_true rfl) (Nat.le_of_ble_eq_true rfl) (fun _ => rfl) (fun _ => rfl) ?_
  refine wq_eqW (σ1 := [c0, c1, c2, c3, c4, c5, .inr (2, [.ref 7, .null, .int 0]), ear 8700 (fun _ => 0)]) rfl ?_
  refine wq_aload_n hX dX2_init_22 rfl ?_
  refine wq_iload_n hX dX2_init_23 rfl ?_
  refine wq_newI (N := 8700) (n0 := 8) hX dX2_init_24 ar_I (by decide) (by decide) (by decide) rfl (Nat.le_of_ble_eq_true rfl) rfl (Nat.le_of_ble_eq_true rfl) (Nat.le_of_ble_eq_true rfl) ?_
  refine wq_eqW (σ1 := [c0, c1, c2, c3, c4, c5, .inr (2, [.ref 7, .null, .int 0]), ear 8700 (fun _ => 0), ear 8700 (fun _ => 0)]) rfl ?_
  refine wq_putF hX dX2_init_26 hI fxX2_23 rfl (Nat.le_of_ble_eq_true rfl) (Nat.le_of_ble_eq_true rfl) (fun _ => rfl) (fun _ => rfl) ?_
  refine wq_eqW (σ1 := [c0, c1, c2, c3, c4, c5, .inr (2, [.ref 7, .ref 8, .int 0]), ear 8700 (fun _ => 0), ear 8700 (fun _ => 0)]) rfl ?_
  exact hret _ _ dX2_init_29
set_option maxHeartbeats 4000000 in
set_option maxRecDepth 100000 in
theorem i_map9 {c0 c1 c2 c3 c4 c5 c6 c7 c8 : aE} : MC mdX2_init 2 17400 [.ref 9, .int 8700] [c0, c1, c2, c3, c4, c5, c6, c7, c8, .inr (2, [.null, .null, .int 0])] [c0, c1, c2, c3, c4, c5, c6, c7, c8, ekm 10 11 0, ear 8700 (fun _ => 0), ear 8700 (fun _ => 0)] := by
  refine mc_of [some (.ref 9), some (.int 8700), none] 10 rfl rfl (Nat.le_of_ble_eq_true rfl) (by decide) rfl rfl (fun X hX hI hret => ?_)
  refine wq_aload_n hX dX2_init_0 rfl ?_
  refine wq_obj hX dX2_init_1 obX2 ⟨(Nat.le_of_ble_eq_true rfl), (Nat.le_of_ble_eq_true rfl)⟩ ?_
  refine wq_aload_n hX dX2_init_4 rfl ?_
  refine wq_iconst (v := 0) hX dX2_init_5 ic_0 ?_
  refine wq_put hX dX2_init_6 fwX2_7 rfl (Nat.le_of_ble_eq_true rfl) (Nat.le_of_ble_eq_true rfl) rfl rfl ?_
  refine wq_eqW (σ1 := [c0, c1, c2, c3, c4, c5, c6, c7, c8, .inr (2, [.null, .null, .int 0])]) rfl ?_
  refine wq_iload_n hX dX2_init_9 rfl ?_
  refine wq_iconst (v := 0) hX dX2_init_10 ic_0 ?_
  refine wq_max hX dX2_init_11 mlX2_13b ⟨(Nat.le_of_ble_eq_true rfl), (Nat.le_of_ble_eq_true rfl)⟩ ⟨(Nat.le_of_ble_eq_true rfl), (Nat.le_of_ble_eq_true rfl)⟩ (Nat.le_of_ble_eq_true rfl) ?_
  refine wq_ti (y := 8700) rfl ?_
  refine wq_istore_n hX dX2_init_14 (Nat.le_of_ble_eq_true rfl) rfl ?_
  refine wq_aload_n hX dX2_init_15 rfl ?_
  refine wq_iload_n hX dX2_init_16 rfl ?_
  refine wq_newI (N := 8700) (n0 := 10) hX dX2_init_17 ar_I (by decide) (by decide) (by decide) rfl (Nat.le_of_ble_eq_true rfl) rfl (Nat.le_of_ble_eq_true rfl) (Nat.le_of_ble_eq_true rfl) ?_
  refine wq_eqW (σ1 := [c0, c1, c2, c3, c4, c5, c6, c7, c8, .inr (2, [.null, .null, .int 0]), ear 8700 (fun _ => 0)]) rfl ?_
  refine wq_putF hX dX2_init_19 hI fxX2_19 rfl (Nat.le_of_ble_eq_true rfl) (Nat.le_of_ble_eq_true rfl) (fun _ => rfl) (fun _ => rfl) ?_
  refine wq_eqW (σ1 := [c0, c1, c2, c3, c4, c5, c6, c7, c8, .inr (2, [.ref 10, .null, .int 0]), ear 8700 (fun _ => 0)]) rfl ?_
  refine wq_aload_n hX dX2_init_22 rfl ?_
  refine wq_iload_n hX dX2_init_23 rfl ?_
  refine wq_newI (N := 8700) (n0 := 11) hX dX2_init_24 ar_I (by decide) (by decide) (by decide) rfl (Nat.le_of_ble_eq_true rfl) rfl (Nat.le_of_ble_eq_true rfl) (Nat.le_of_ble_eq_true rfl) ?_
  refine wq_eqW (σ1 := [c0, c1, c2, c3, c4, c5, c6, c7, c8, .inr (2, [.ref 10, .null, .int 0]), ear 8700 (fun _ => 0), ear 8700 (fun _ => 0)]) rfl ?_
  refine wq_putF hX dX2_init_26 hI fxX2_23 rfl (Nat.le_of_ble_eq_true rfl) (Nat.le_of_ble_eq_true rfl) (fun _ => rfl) (fun _ => rfl) ?_
  refine wq_eqW (σ1 := [c0, c1, c2, c3, c4, c5, c6, c7, c8, .inr (2, [.ref 10, .ref 11, .int 0]), ear 8700 (fun _ => 0), ear 8700 (fun _ => 0)]) rfl ?_
  exact hret _ _ dX2_init_29
set_option maxHeartbeats 4000000 in
set_option maxRecDepth 100000 in
theorem i_map12 {c0 c1 c2 c3 c4 c5 c6 c7 c8 c9 c10 c11 : aE} : MC mdX2_init 2 1200 [.ref 12, .int 600] [c0, c1, c2, c3, c4, c5, c6, c7, c8, c9, c10, c11, .inr (2, [.null, .null, .int 0])] [c0, c1, c2, c3, c4, c5, c6, c7, c8, c9, c10, c11, ekm 13 14 0, ear 600 (fun _ => 0), ear 600 (fun _ => 0)] := by
  refine mc_of [some (.ref 12), some (.int 600), none] 13 rfl rfl (Nat.le_of_ble_eq_true rfl) (by decide) rfl rfl (fun X hX hI hret => ?_)
  refine wq_aload_n hX dX2_init_0 rfl ?_
  refine wq_obj hX dX2_init_1 obX2 ⟨(Nat.le_of_ble_eq_true rfl), (Nat.le_of_ble_eq_true rfl)⟩ ?_
  refine wq_aload_n hX dX2_init_4 rfl ?_
  refine wq_iconst (v := 0) hX dX2_init_5 ic_0 ?_
  refine wq_put hX dX2_init_6 fwX2_7 rfl (Nat.le_of_ble_eq_true rfl) (Nat.le_of_ble_eq_true rfl) rfl rfl ?_
  refine wq_eqW (σ1 := [c0, c1, c2, c3, c4, c5, c6, c7, c8, c9, c10, c11, .inr (2, [.null, .null, .int 0])]) rfl ?_
  refine wq_iload_n hX dX2_init_9 rfl ?_
  refine wq_iconst (v := 0) hX dX2_init_10 ic_0 ?_
  refine wq_max hX dX2_init_11 mlX2_13b ⟨(Nat.le_of_ble_eq_true rfl), (Nat.le_of_ble_eq_true rfl)⟩ ⟨(Nat.le_of_ble_eq_true rfl), (Nat.le_of_ble_eq_true rfl)⟩ (Nat.le_of_ble_eq_true rfl) ?_
  refine wq_ti (y := 600) rfl ?_
  refine wq_istore_n hX dX2_init_14 (Nat.le_of_ble_eq_true rfl) rfl ?_
  refine wq_aload_n hX dX2_init_15 rfl ?_
  refine wq_iload_n hX dX2_init_16 rfl ?_
  refine wq_newI (N := 600) (n0 := 13) hX dX2_init_17 ar_I (by decide) (by decide) (by decide) rfl (Nat.le_of_ble_eq_true rfl) rfl (Nat.le_of_ble_eq_true rfl) (Nat.le_of_ble_eq_true rfl) ?_
  refine wq_eqW (σ1 := [c0, c1, c2, c3, c4, c5, c6, c7, c8, c9, c10, c11, .inr (2, [.null, .null, .int 0]), ear 600 (fun _ => 0)]) rfl ?_
  refine wq_putF hX dX2_init_19 hI fxX2_19 rfl (Nat.le_of_ble_eq_true rfl) (Nat.le_of_ble_eq_true rfl) (fun _ => rfl) (fun _ => rfl) ?_
  refine wq_eqW (σ1 := [c0, c1, c2, c3, c4, c5, c6, c7, c8, c9, c10, c11, .inr (2, [.ref 13, .null, .int 0]), ear 600 (fun _ => 0)]) rfl ?_
  refine wq_aload_n hX dX2_init_22 rfl ?_
  refine wq_iload_n hX dX2_init_23 rfl ?_
  refine wq_newI (N := 600) (n0 := 14) hX dX2_init_24 ar_I (by decide) (by decide) (by decide) rfl (Nat.le_of_ble_eq_true rfl) rfl (Nat.le_of_ble_eq_true rfl) (Nat.le_of_ble_eq_true rfl) ?_
  refine wq_eqW (σ1 := [c0, c1, c2, c3, c4, c5, c6, c7, c8, c9, c10, c11, .inr (2, [.ref 13, .null, .int 0]), ear 600 (fun _ => 0), ear 600 (fun _ => 0)]) rfl ?_
  refine wq_putF hX dX2_init_26 hI fxX2_23 rfl (Nat.le_of_ble_eq_true rfl) (Nat.le_of_ble_eq_true rfl) (fun _ => rfl) (fun _ => rfl) ?_
  refine wq_eqW (σ1 := [c0, c1, c2, c3, c4, c5, c6, c7, c8, c9, c10, c11, .inr (2, [.ref 13, .ref 14, .int 0]), ear 600 (fun _ => 0), ear 600 (fun _ => 0)]) rfl ?_
  exact hret _ _ dX2_init_29
set_option maxHeartbeats 4000000 in
set_option maxRecDepth 100000 in
theorem i_store : MC mdX4_init 14 68854 [.ref 0] [.inr (4, [.null, .null, .null, .null, .null, .null, .int 0, .int 0])] (wX 0 0 0 0 ((fun _ => 0), 0, 0) (fun _ => 0) 0 0 0 0 0 (0, (fun _ => 0), (fun _ => 0)) (0, (fun _ => 0), (fun _ => 0)) (0, (fun _ => 0), (fun _ => 0)) []) := by
  refine mc_of [some (.ref 0)] 1 rfl rfl (Nat.le_of_ble_eq_true rfl) (by decide) rfl rfl (fun X hX hI hret => ?_)
  refine wq_aload_n hX dX4_init_0 rfl ?_
  refine wq_obj hX dX4_init_1 obX4 ⟨(Nat.le_of_ble_eq_true rfl), (Nat.le_of_ble_eq_true rfl)⟩ ?_
  refine wq_aload_n hX dX4_init_4 rfl ?_
  refine wq_new (n0 := 1) hX dX4_init_5 nkX4_7 rfl (Nat.le_of_ble_eq_true rfl) rfl (Nat.le_of_ble_eq_true rfl) (Nat.le_of_ble_eq_true rfl) ?_
  refine wq_eqW (σ1 := [.inr (4, [.null, .null, .null, .null, .null, .null, .int 0, .int 0]), .inr (0, [.null, .null, .int 0, .int 0, .int 0, .int 0])]) rfl ?_
  refine wq_dup hX dX4_init_8 rfl ?_
  refine wq_cin0 hX dX4_init_9 ⟨mokX0_init, trivial, inX0_init, rfl⟩ (fun s h => h.2) rfl ⟨(Nat.le_of_ble_eq_true rfl), (Nat.le_of_ble_eq_true rfl)⟩ i_disk (Nat.le_of_ble_eq_true rfl) rfl (Nat.le_of_ble_eq_true rfl) ⟨(Nat.le_of_ble_eq_true rfl), (Nat.le_of_ble_eq_true rfl)⟩ ?_
  refine wq_eqW (σ1 := [.inr (4, [.null, .null, .null, .null, .null, .null, .int 0, .int 0]), edk 0 0 0 0, ear 32768 (fun _ => 0), ear 64 (fun _ => 0)]) rfl ?_
  refine wq_putF hX dX4_init_12 hI fxX4_10 rfl (Nat.le_of_ble_eq_true rfl) (Nat.le_of_ble_eq_true rfl) (fun _ => rfl) (fun _ => rfl) ?_
  refine wq_eqW (σ1 := [.inr (4, [.ref 1, .null, .null, .null, .null, .null, .int 0, .int 0]), edk 0 0 0 0, ear 32768 (fun _ => 0), ear 64 (fun _ => 0)]) rfl ?_
  refine wq_aload_n hX dX4_init_15 rfl ?_
  refine wq_new (n0 := 4) hX dX4_init_16 nkX4_16 rfl (Nat.le_of_ble_eq_true rfl) rfl (Nat.le_of_ble_eq_true rfl) (Nat.le_of_ble_eq_true rfl) ?_
  refine wq_eqW (σ1 := [.inr (4, [.ref 1, .null, .null, .null, .null, .null, .int 0, .int 0]), edk 0 0 0 0, ear 32768 (fun _ => 0), ear 64 (fun _ => 0), .inr (1, [.null, .int 0, .int 0, .int 0])]) rfl ?_
  refine wq_dup hX dX4_init_19 rfl ?_
  refine wq_aload_n hX dX4_init_20 rfl ?_
  refine wq_get hX dX4_init_21 flX4_10 rfl rfl ?_
  refine wq_ci1 hX dX4_init_24 miX4_18 rfl ⟨(Nat.le_of_ble_eq_true rfl), (Nat.le_of_ble_eq_true rfl)⟩ i_journal (Nat.le_of_ble_eq_true rfl) rfl (Nat.le_of_ble_eq_true rfl) ⟨(Nat.le_of_ble_eq_true rfl), (Nat.le_of_ble_eq_true rfl)⟩ ?_
  refine wq_eqW (σ1 := [.inr (4, [.ref 1, .null, .null, .null, .null, .null, .int 0, .int 0]), edk 0 0 0 0, ear 32768 (fun _ => 0), ear 64 (fun _ => 0), ejn 0 0 0]) rfl ?_
  refine wq_putF hX dX4_init_27 hI fxX4_21 rfl (Nat.le_of_ble_eq_true rfl) (Nat.le_of_ble_eq_true rfl) (fun _ => rfl) (fun _ => rfl) ?_
  refine wq_eqW (σ1 := [.inr (4, [.ref 1, .ref 4, .null, .null, .null, .null, .int 0, .int 0]), edk 0 0 0 0, ear 32768 (fun _ => 0), ear 64 (fun _ => 0), ejn 0 0 0]) rfl ?_
  refine wq_aload_n hX dX4_init_30 rfl ?_
  refine wq_new (n0 := 5) hX dX4_init_31 nkX4_25 rfl (Nat.le_of_ble_eq_true rfl) rfl (Nat.le_of_ble_eq_true rfl) (Nat.le_of_ble_eq_true rfl) ?_
  refine wq_eqW (σ1 := [.inr (4, [.ref 1, .ref 4, .null, .null, .null, .null, .int 0, .int 0]), edk 0 0 0 0, ear 32768 (fun _ => 0), ear 64 (fun _ => 0), ejn 0 0 0, .inr (3, [.null, .int 0, .int 0])]) rfl ?_
  refine wq_dup hX dX4_init_34 rfl ?_
  refine wq_aload_n hX dX4_init_35 rfl ?_
  refine wq_get hX dX4_init_36 flX4_10 rfl rfl ?_
  refine wq_ci1 hX dX4_init_39 miX4_27 rfl ⟨(Nat.le_of_ble_eq_true rfl), (Nat.le_of_ble_eq_true rfl)⟩ i_tree (Nat.le_of_ble_eq_true rfl) rfl (Nat.le_of_ble_eq_true rfl) ⟨(Nat.le_of_ble_eq_true rfl), (Nat.le_of_ble_eq_true rfl)⟩ ?_
  refine wq_eqW (σ1 := [.inr (4, [.ref 1, .ref 4, .null, .null, .null, .null, .int 0, .int 0]), edk 0 0 0 0, ear 32768 (fun _ => 0), ear 64 (fun _ => 0), ejn 0 0 0, etr 0 0]) rfl ?_
  refine wq_putF hX dX4_init_42 hI fxX4_28 rfl (Nat.le_of_ble_eq_true rfl) (Nat.le_of_ble_eq_true rfl) (fun _ => rfl) (fun _ => rfl) ?_
  refine wq_eqW (σ1 := [.inr (4, [.ref 1, .ref 4, .ref 5, .null, .null, .null, .int 0, .int 0]), edk 0 0 0 0, ear 32768 (fun _ => 0), ear 64 (fun _ => 0), ejn 0 0 0, etr 0 0]) rfl ?_
  refine wq_aload_n hX dX4_init_45 rfl ?_
  refine wq_new (n0 := 6) hX dX4_init_46 nkX4_32 rfl (Nat.le_of_ble_eq_true rfl) rfl (Nat.le_of_ble_eq_true rfl) (Nat.le_of_ble_eq_true rfl) ?_
  refine wq_eqW (σ1 := [.inr (4, [.ref 1, .ref 4, .ref 5, .null, .null, .null, .int 0, .int 0]), edk 0 0 0 0, ear 32768 (fun _ => 0), ear 64 (fun _ => 0), ejn 0 0 0, etr 0 0, .inr (2, [.null, .null, .int 0])]) rfl ?_
  refine wq_dup hX dX4_init_49 rfl ?_
  refine wq_sipush (v := 8700) hX dX4_init_50 (by decide) ?_
  refine wq_ci1 hX dX4_init_53 miX4_34 rfl ⟨(Nat.le_of_ble_eq_true rfl), (Nat.le_of_ble_eq_true rfl)⟩ i_map6 (Nat.le_of_ble_eq_true rfl) rfl (Nat.le_of_ble_eq_true rfl) ⟨(Nat.le_of_ble_eq_true rfl), (Nat.le_of_ble_eq_true rfl)⟩ ?_
  refine wq_eqW (σ1 := [.inr (4, [.ref 1, .ref 4, .ref 5, .null, .null, .null, .int 0, .int 0]), edk 0 0 0 0, ear 32768 (fun _ => 0), ear 64 (fun _ => 0), ejn 0 0 0, etr 0 0, ekm 7 8 0, ear 8700 (fun _ => 0), ear 8700 (fun _ => 0)]) rfl ?_
  refine wq_putF hX dX4_init_56 hI fxX4_37 rfl (Nat.le_of_ble_eq_true rfl) (Nat.le_of_ble_eq_true rfl) (fun _ => rfl) (fun _ => rfl) ?_
  refine wq_eqW (σ1 := [.inr (4, [.ref 1, .ref 4, .ref 5, .ref 6, .null, .null, .int 0, .int 0]), edk 0 0 0 0, ear 32768 (fun _ => 0), ear 64 (fun _ => 0), ejn 0 0 0, etr 0 0, ekm 7 8 0, ear 8700 (fun _ => 0), ear 8700 (fun _ => 0)]) rfl ?_
  refine wq_aload_n hX dX4_init_59 rfl ?_
  refine wq_new (n0 := 9) hX dX4_init_60 nkX4_32 rfl (Nat.le_of_ble_eq_true rfl) rfl (Nat.le_of_ble_eq_true rfl) (Nat.le_of_ble_eq_true rfl) ?_
  refine wq_eqW (σ1 := [.inr (4, [.ref 1, .ref 4, .ref 5, .ref 6, .null, .null, .int 0, .int 0]), edk 0 0 0 0, ear 32768 (fun _ => 0), ear 64 (fun _ => 0), ejn 0 0 0, etr 0 0, ekm 7 8 0, ear 8700 (fun _ => 0), ear 8700 (fun _ => 0), .inr (2, [.null, .null, .int 0])]) rfl ?_
  refine wq_dup hX dX4_init_63 rfl ?_
  refine wq_sipush (v := 8700) hX dX4_init_64 (by decide) ?_
  refine wq_ci1 hX dX4_init_67 miX4_34 rfl ⟨(Nat.le_of_ble_eq_true rfl), (Nat.le_of_ble_eq_true rfl)⟩ i_map9 (Nat.le_of_ble_eq_true rfl) rfl (Nat.le_of_ble_eq_true rfl) ⟨(Nat.le_of_ble_eq_true rfl), (Nat.le_of_ble_eq_true rfl)⟩ ?_
  refine wq_eqW (σ1 := [.inr (4, [.ref 1, .ref 4, .ref 5, .ref 6, .null, .null, .int 0, .int 0]), edk 0 0 0 0, ear 32768 (fun _ => 0), ear 64 (fun _ => 0), ejn 0 0 0, etr 0 0, ekm 7 8 0, ear 8700 (fun _ => 0), ear 8700 (fun _ => 0), ekm 10 11 0, ear 8700 (fun _ => 0), ear 8700 (fun _ => 0)]) rfl ?_
  refine wq_putF hX dX4_init_70 hI fxX4_41 rfl (Nat.le_of_ble_eq_true rfl) (Nat.le_of_ble_eq_true rfl) (fun _ => rfl) (fun _ => rfl) ?_
  refine wq_eqW (σ1 := [.inr (4, [.ref 1, .ref 4, .ref 5, .ref 6, .ref 9, .null, .int 0, .int 0]), edk 0 0 0 0, ear 32768 (fun _ => 0), ear 64 (fun _ => 0), ejn 0 0 0, etr 0 0, ekm 7 8 0, ear 8700 (fun _ => 0), ear 8700 (fun _ => 0), ekm 10 11 0, ear 8700 (fun _ => 0), ear 8700 (fun _ => 0)]) rfl ?_
  refine wq_aload_n hX dX4_init_73 rfl ?_
  refine wq_new (n0 := 12) hX dX4_init_74 nkX4_32 rfl (Nat.le_of_ble_eq_true rfl) rfl (Nat.le_of_ble_eq_true rfl) (Nat.le_of_ble_eq_true rfl) ?_
  refine wq_eqW (σ1 := [.inr (4, [.ref 1, .ref 4, .ref 5, .ref 6, .ref 9, .null, .int 0, .int 0]), edk 0 0 0 0, ear 32768 (fun _ => 0), ear 64 (fun _ => 0), ejn 0 0 0, etr 0 0, ekm 7 8 0, ear 8700 (fun _ => 0), ear 8700 (fun _ => 0), ekm 10 11 0, ear 8700 (fun _ => 0), ear 8700 (fun _ => 0), .inr (2, [.null, .null, .int 0])]) rfl ?_
  refine wq_dup hX dX4_init_77 rfl ?_
  refine wq_sipush (v := 600) hX dX4_init_78 (by decide) ?_
  refine wq_ci1 hX dX4_init_81 miX4_34 rfl ⟨(Nat.le_of_ble_eq_true rfl), (Nat.le_of_ble_eq_true rfl)⟩ i_map12 (Nat.le_of_ble_eq_true rfl) rfl (Nat.le_of_ble_eq_true rfl) ⟨(Nat.le_of_ble_eq_true rfl), (Nat.le_of_ble_eq_true rfl)⟩ ?_
  refine wq_eqW (σ1 := [.inr (4, [.ref 1, .ref 4, .ref 5, .ref 6, .ref 9, .null, .int 0, .int 0]), edk 0 0 0 0, ear 32768 (fun _ => 0), ear 64 (fun _ => 0), ejn 0 0 0, etr 0 0, ekm 7 8 0, ear 8700 (fun _ => 0), ear 8700 (fun _ => 0), ekm 10 11 0, ear 8700 (fun _ => 0), ear 8700 (fun _ => 0), ekm 13 14 0, ear 600 (fun _ => 0), ear 600 (fun _ => 0)]) rfl ?_
  refine wq_putF hX dX4_init_84 hI fxX4_44 rfl (Nat.le_of_ble_eq_true rfl) (Nat.le_of_ble_eq_true rfl) (fun _ => rfl) (fun _ => rfl) ?_
  refine wq_eqW (σ1 := [.inr (4, [.ref 1, .ref 4, .ref 5, .ref 6, .ref 9, .ref 12, .int 0, .int 0]), edk 0 0 0 0, ear 32768 (fun _ => 0), ear 64 (fun _ => 0), ejn 0 0 0, etr 0 0, ekm 7 8 0, ear 8700 (fun _ => 0), ear 8700 (fun _ => 0), ekm 10 11 0, ear 8700 (fun _ => 0), ear 8700 (fun _ => 0), ekm 13 14 0, ear 600 (fun _ => 0), ear 600 (fun _ => 0)]) rfl ?_
  refine wq_aload_n hX dX4_init_87 rfl ?_
  refine wq_iconst (v := 0) hX dX4_init_88 ic_0 ?_
  refine wq_put hX dX4_init_89 fwX4_47 rfl (Nat.le_of_ble_eq_true rfl) (Nat.le_of_ble_eq_true rfl) rfl rfl ?_
  refine wq_eqW (σ1 := [.inr (4, [.ref 1, .ref 4, .ref 5, .ref 6, .ref 9, .ref 12, .int 0, .int 0]), edk 0 0 0 0, ear 32768 (fun _ => 0), ear 64 (fun _ => 0), ejn 0 0 0, etr 0 0, ekm 7 8 0, ear 8700 (fun _ => 0), ear 8700 (fun _ => 0), ekm 10 11 0, ear 8700 (fun _ => 0), ear 8700 (fun _ => 0), ekm 13 14 0, ear 600 (fun _ => 0), ear 600 (fun _ => 0)]) rfl ?_
  refine wq_aload_n hX dX4_init_92 rfl ?_
  refine wq_iconst (v := 0) hX dX4_init_93 ic_0 ?_
  refine wq_put hX dX4_init_94 fwX4_51 rfl (Nat.le_of_ble_eq_true rfl) (Nat.le_of_ble_eq_true rfl) rfl rfl ?_
  refine wq_eqW (σ1 := [.inr (4, [.ref 1, .ref 4, .ref 5, .ref 6, .ref 9, .ref 12, .int 0, .int 0]), edk 0 0 0 0, ear 32768 (fun _ => 0), ear 64 (fun _ => 0), ejn 0 0 0, etr 0 0, ekm 7 8 0, ear 8700 (fun _ => 0), ear 8700 (fun _ => 0), ekm 10 11 0, ear 8700 (fun _ => 0), ear 8700 (fun _ => 0), ekm 13 14 0, ear 600 (fun _ => 0), ear 600 (fun _ => 0)]) rfl ?_
  exact hret _ _ dX4_init_97
set_option maxHeartbeats 4000000 in
set_option maxRecDepth 100000 in
theorem i_model {c : Nat → aE} : MC mdX5_init 10 61457 [.ref 15] [c 0, c 1, c 2, c 3, c 4, c 5, c 6, c 7, c 8, c 9, c 10, c 11, c 12, c 13, c 14, .inr (5, [.null, .int 0, .int 0, .int 0, .int 0, .int 0, .int 0, .int 0, .int 0, .int 0, .int 0, .null, .null, .int 0, .int 0, .null, .null, .null, .int 0, .null, .null, .null, .null, .int 0, .int 0, .int 0, .int 0, .int 0])] (wM c 0 0 0 ((fun _ => 0), 0, 0) 0 0 0 0 0 0 (0, (fun _ => 0), (fun _ => 0)) (0, (fun _ => 0), (fun _ => 0), (fun _ => 0)) (fun _ => 0) ((fun _ => 0), (fun _ => 0), (fun _ => 0)) (0, 0, 0, 0, 0)) := by
  refine mc_of [some (.ref 15)] 16 rfl rfl (Nat.le_of_ble_eq_true rfl) (by decide) rfl rfl (fun X hX hI hret => ?_)
  refine wq_aload_n hX dX5_init_0 rfl ?_
  refine wq_obj hX dX5_init_1 obX5 ⟨(Nat.le_of_ble_eq_true rfl), (Nat.le_of_ble_eq_true rfl)⟩ ?_
  refine wq_aload_n hX dX5_init_4 rfl ?_
  refine wq_ldc hX dX5_init_5 lcX5_7 ?_
  refine wq_newI (N := 32768) (n0 := 16) hX dX5_init_7 ar_I (by decide) (by decide) (by decide) rfl (Nat.le_of_ble_eq_true rfl) rfl (Nat.le_of_ble_eq_true rfl) (Nat.le_of_ble_eq_true rfl) ?_
  refine wq_eqW (σ1 := [c 0, c 1, c 2, c 3, c 4, c 5, c 6, c 7, c 8, c 9, c 10, c 11, c 12, c 13, c 14, .inr (5, [.null, .int 0, .int 0, .int 0, .int 0, .int 0, .int 0, .int 0, .int 0, .int 0, .int 0, .null, .null, .int 0, .int 0, .null, .null, .null, .int 0, .null, .null, .null, .null, .int 0, .int 0, .int 0, .int 0, .int 0]), ear 32768 (fun _ => 0)]) rfl ?_
  refine wq_putF hX dX5_init_9 hI fxX5_8 rfl (Nat.le_of_ble_eq_true rfl) (Nat.le_of_ble_eq_true rfl) (fun _ => rfl) (fun _ => rfl) ?_
  refine wq_eqW (σ1 := [c 0, c 1, c 2, c 3, c 4, c 5, c 6, c 7, c 8, c 9, c 10, c 11, c 12, c 13, c 14, .inr (5, [.ref 16, .int 0, .int 0, .int 0, .int 0, .int 0, .int 0, .int 0, .int 0, .int 0, .int 0, .null, .null, .int 0, .int 0, .null, .null, .null, .int 0, .null, .null, .null, .null, .int 0, .int 0, .int 0, .int 0, .int 0]), ear 32768 (fun _ => 0)]) rfl ?_
  refine wq_aload_n hX dX5_init_12 rfl ?_
  refine wq_sipush (v := 12000) hX dX5_init_13 (by decide) ?_
  refine wq_newI (N := 12000) (n0 := 17) hX dX5_init_16 ar_I (by decide) (by decide) (by decide) rfl (Nat.le_of_ble_eq_true rfl) rfl (Nat.le_of_ble_eq_true rfl) (Nat.le_of_ble_eq_true rfl) ?_
  refine wq_eqW (σ1 := [c 0, c 1, c 2, c 3, c 4, c 5, c 6, c 7, c 8, c 9, c 10, c 11, c 12, c 13, c 14, .inr (5, [.ref 16, .int 0, .int 0, .int 0, .int 0, .int 0, .int 0, .int 0, .int 0, .int 0, .int 0, .null, .null, .int 0, .int 0, .null, .null, .null, .int 0, .null, .null, .null, .null, .int 0, .int 0, .int 0, .int 0, .int 0]), ear 32768 (fun _ => 0), ear 12000 (fun _ => 0)]) rfl ?_
  refine wq_putF hX dX5_init_18 hI fxX5_14 rfl (Nat.le_of_ble_eq_true rfl) (Nat.le_of_ble_eq_true rfl) (fun _ => rfl) (fun _ => rfl) ?_
  refine wq_eqW (σ1 := [c 0, c 1, c 2, c 3, c 4, c 5, c 6, c 7, c 8, c 9, c 10, c 11, c 12, c 13, c 14, .inr (5, [.ref 16, .int 0, .int 0, .int 0, .int 0, .int 0, .int 0, .int 0, .int 0, .int 0, .int 0, .ref 17, .null, .int 0, .int 0, .null, .null, .null, .int 0, .null, .null, .null, .null, .int 0, .int 0, .int 0, .int 0, .int 0]), ear 32768 (fun _ => 0), ear 12000 (fun _ => 0)]) rfl ?_
  refine wq_aload_n hX dX5_init_21 rfl ?_
  refine wq_sipush (v := 12000) hX dX5_init_22 (by decide) ?_
  refine wq_newI (N := 12000) (n0 := 18) hX dX5_init_25 ar_I (by decide) (by decide) (by decide) rfl (Nat.le_of_ble_eq_true rfl) rfl (Nat.le_of_ble_eq_true rfl) (Nat.le_of_ble_eq_true rfl) ?_
  refine wq_eqW (σ1 := [c 0, c 1, c 2, c 3, c 4, c 5, c 6, c 7, c 8, c 9, c 10, c 11, c 12, c 13, c 14, .inr (5, [.ref 16, .int 0, .int 0, .int 0, .int 0, .int 0, .int 0, .int 0, .int 0, .int 0, .int 0, .ref 17, .null, .int 0, .int 0, .null, .null, .null, .int 0, .null, .null, .null, .null, .int 0, .int 0, .int 0, .int 0, .int 0]), ear 32768 (fun _ => 0), ear 12000 (fun _ => 0), ear 12000 (fun _ => 0)]) rfl ?_
  refine wq_putF hX dX5_init_27 hI fxX5_17 rfl (Nat.le_of_ble_eq_true rfl) (Nat.le_of_ble_eq_true rfl) (fun _ => rfl) (fun _ => rfl) ?_
  refine wq_eqW (σ1 := [c 0, c 1, c 2, c 3, c 4, c 5, c 6, c 7, c 8, c 9, c 10, c 11, c 12, c 13, c 14, .inr (5, [.ref 16, .int 0, .int 0, .int 0, .int 0, .int 0, .int 0, .int 0, .int 0, .int 0, .int 0, .ref 17, .ref 18, .int 0, .int 0, .null, .null, .null, .int 0, .null, .null, .null, .null, .int 0, .int 0, .int 0, .int 0, .int 0]), ear 32768 (fun _ => 0), ear 12000 (fun _ => 0), ear 12000 (fun _ => 0)]) rfl ?_
  refine wq_aload_n hX dX5_init_30 rfl ?_
  refine wq_sipush (v := 600) hX dX5_init_31 (by decide) ?_
  refine wq_newI (N := 600) (n0 := 19) hX dX5_init_34 ar_I (by decide) (by decide) (by decide) rfl (Nat.le_of_ble_eq_true rfl) rfl (Nat.le_of_ble_eq_true rfl) (Nat.le_of_ble_eq_true rfl) ?_
  refine wq_eqW (σ1 := [c 0, c 1, c 2, c 3, c 4, c 5, c 6, c 7, c 8, c 9, c 10, c 11, c 12, c 13, c 14, .inr (5, [.ref 16, .int 0, .int 0, .int 0, .int 0, .int 0, .int 0, .int 0, .int 0, .int 0, .int 0, .ref 17, .ref 18, .int 0, .int 0, .null, .null, .null, .int 0, .null, .null, .null, .null, .int 0, .int 0, .int 0, .int 0, .int 0]), ear 32768 (fun _ => 0), ear 12000 (fun _ => 0), ear 12000 (fun _ => 0), ear 600 (fun _ => 0)]) rfl ?_
  refine wq_putF hX dX5_init_36 hI fxX5_20 rfl (Nat.le_of_ble_eq_true rfl) (Nat.le_of_ble_eq_true rfl) (fun _ => rfl) (fun _ => rfl) ?_
  refine wq_eqW (σ1 := [c 0, c 1, c 2, c 3, c 4, c 5, c 6, c 7, c 8, c 9, c 10, c 11, c 12, c 13, c 14, .inr (5, [.ref 16, .int 0, .int 0, .int 0, .int 0, .int 0, .int 0, .int 0, .int 0, .int 0, .int 0, .ref 17, .ref 18, .int 0, .int 0, .ref 19, .null, .null, .int 0, .null, .null, .null, .null, .int 0, .int 0, .int 0, .int 0, .int 0]), ear 32768 (fun _ => 0), ear 12000 (fun _ => 0), ear 12000 (fun _ => 0), ear 600 (fun _ => 0)]) rfl ?_
  refine wq_aload_n hX dX5_init_39 rfl ?_
  refine wq_sipush (v := 600) hX dX5_init_40 (by decide) ?_
  refine wq_newI (N := 600) (n0 := 20) hX dX5_init_43 ar_I (by decide) (by decide) (by decide) rfl (Nat.le_of_ble_eq_true rfl) rfl (Nat.le_of_ble_eq_true rfl) (Nat.le_of_ble_eq_true rfl) ?_
  refine wq_eqW (σ1 := [c 0, c 1, c 2, c 3, c 4, c 5, c 6, c 7, c 8, c 9, c 10, c 11, c 12, c 13, c 14, .inr (5, [.ref 16, .int 0, .int 0, .int 0, .int 0, .int 0, .int 0, .int 0, .int 0, .int 0, .int 0, .ref 17, .ref 18, .int 0, .int 0, .ref 19, .null, .null, .int 0, .null, .null, .null, .null, .int 0, .int 0, .int 0, .int 0, .int 0]), ear 32768 (fun _ => 0), ear 12000 (fun _ => 0), ear 12000 (fun _ => 0), ear 600 (fun _ => 0), ear 600 (fun _ => 0)]) rfl ?_
  refine wq_putF hX dX5_init_45 hI fxX5_23 rfl (Nat.le_of_ble_eq_true rfl) (Nat.le_of_ble_eq_true rfl) (fun _ => rfl) (fun _ => rfl) ?_
  refine wq_eqW (σ1 := [c 0, c 1, c 2, c 3, c 4, c 5, c 6, c 7, c 8, c 9, c 10, c 11, c 12, c 13, c 14, .inr (5, [.ref 16, .int 0, .int 0, .int 0, .int 0, .int 0, .int 0, .int 0, .int 0, .int 0, .int 0, .ref 17, .ref 18, .int 0, .int 0, .ref 19, .ref 20, .null, .int 0, .null, .null, .null, .null, .int 0, .int 0, .int 0, .int 0, .int 0]), ear 32768 (fun _ => 0), ear 12000 (fun _ => 0), ear 12000 (fun _ => 0), ear 600 (fun _ => 0), ear 600 (fun _ => 0)]) rfl ?_
  refine wq_aload_n hX dX5_init_48 rfl ?_
  refine wq_sipush (v := 600) hX dX5_init_49 (by decide) ?_
  refine wq_newZ (N := 600) (n0 := 21) hX dX5_init_52 ar_Z (by decide) (by decide) (by decide) rfl (Nat.le_of_ble_eq_true rfl) rfl (Nat.le_of_ble_eq_true rfl) (Nat.le_of_ble_eq_true rfl) ?_
  refine wq_eqW (σ1 := [c 0, c 1, c 2, c 3, c 4, c 5, c 6, c 7, c 8, c 9, c 10, c 11, c 12, c 13, c 14, .inr (5, [.ref 16, .int 0, .int 0, .int 0, .int 0, .int 0, .int 0, .int 0, .int 0, .int 0, .int 0, .ref 17, .ref 18, .int 0, .int 0, .ref 19, .ref 20, .null, .int 0, .null, .null, .null, .null, .int 0, .int 0, .int 0, .int 0, .int 0]), ear 32768 (fun _ => 0), ear 12000 (fun _ => 0), ear 12000 (fun _ => 0), ear 600 (fun _ => 0), ear 600 (fun _ => 0), .inl (true, 600, (fun _ => 0))]) rfl ?_
  refine wq_putF hX dX5_init_54 hI fxX5_26 rfl (Nat.le_of_ble_eq_true rfl) (Nat.le_of_ble_eq_true rfl) (fun _ => rfl) (fun _ => rfl) ?_
  refine wq_eqW (σ1 := [c 0, c 1, c 2, c 3, c 4, c 5, c 6, c 7, c 8, c 9, c 10, c 11, c 12, c 13, c 14, .inr (5, [.ref 16, .int 0, .int 0, .int 0, .int 0, .int 0, .int 0, .int 0, .int 0, .int 0, .int 0, .ref 17, .ref 18, .int 0, .int 0, .ref 19, .ref 20, .ref 21, .int 0, .null, .null, .null, .null, .int 0, .int 0, .int 0, .int 0, .int 0]), ear 32768 (fun _ => 0), ear 12000 (fun _ => 0), ear 12000 (fun _ => 0), ear 600 (fun _ => 0), ear 600 (fun _ => 0), .inl (true, 600, (fun _ => 0))]) rfl ?_
  refine wq_aload_n hX dX5_init_57 rfl ?_
  refine wq_bipush (v := 64) hX dX5_init_58 bp_64 ?_
  refine wq_newI (N := 64) (n0 := 22) hX dX5_init_60 ar_I (by decide) (by decide) (by decide) rfl (Nat.le_of_ble_eq_true rfl) rfl (Nat.le_of_ble_eq_true rfl) (Nat.le_of_ble_eq_true rfl) ?_
  refine wq_eqW (σ1 := [c 0, c 1, c 2, c 3, c 4, c 5, c 6, c 7, c 8, c 9, c 10, c 11, c 12, c 13, c 14, .inr (5, [.ref 16, .int 0, .int 0, .int 0, .int 0, .int 0, .int 0, .int 0, .int 0, .int 0, .int 0, .ref 17, .ref 18, .int 0, .int 0, .ref 19, .ref 20, .ref 21, .int 0, .null, .null, .null, .null, .int 0, .int 0, .int 0, .int 0, .int 0]), ear 32768 (fun _ => 0), ear 12000 (fun _ => 0), ear 12000 (fun _ => 0), ear 600 (fun _ => 0), ear 600 (fun _ => 0), .inl (true, 600, (fun _ => 0)), ear 64 (fun _ => 0)]) rfl ?_
  refine wq_putF hX dX5_init_62 hI fxX5_30 rfl (Nat.le_of_ble_eq_true rfl) (Nat.le_of_ble_eq_true rfl) (fun _ => rfl) (fun _ => rfl) ?_
  refine wq_eqW (σ1 := [c 0, c 1, c 2, c 3, c 4, c 5, c 6, c 7, c 8, c 9, c 10, c 11, c 12, c 13, c 14, .inr (5, [.ref 16, .int 0, .int 0, .int 0, .int 0, .int 0, .int 0, .int 0, .int 0, .int 0, .int 0, .ref 17, .ref 18, .int 0, .int 0, .ref 19, .ref 20, .ref 21, .int 0, .ref 22, .null, .null, .null, .int 0, .int 0, .int 0, .int 0, .int 0]), ear 32768 (fun _ => 0), ear 12000 (fun _ => 0), ear 12000 (fun _ => 0), ear 600 (fun _ => 0), ear 600 (fun _ => 0), .inl (true, 600, (fun _ => 0)), ear 64 (fun _ => 0)]) rfl ?_
  refine wq_aload_n hX dX5_init_65 rfl ?_
  refine wq_sipush (v := 512) hX dX5_init_66 (by decide) ?_
  refine wq_newI (N := 512) (n0 := 23) hX dX5_init_69 ar_I (by decide) (by decide) (by decide) rfl (Nat.le_of_ble_eq_true rfl) rfl (Nat.le_of_ble_eq_true rfl) (Nat.le_of_ble_eq_true rfl) ?_
  refine wq_eqW (σ1 := [c 0, c 1, c 2, c 3, c 4, c 5, c 6, c 7, c 8, c 9, c 10, c 11, c 12, c 13, c 14, .inr (5, [.ref 16, .int 0, .int 0, .int 0, .int 0, .int 0, .int 0, .int 0, .int 0, .int 0, .int 0, .ref 17, .ref 18, .int 0, .int 0, .ref 19, .ref 20, .ref 21, .int 0, .ref 22, .null, .null, .null, .int 0, .int 0, .int 0, .int 0, .int 0]), ear 32768 (fun _ => 0), ear 12000 (fun _ => 0), ear 12000 (fun _ => 0), ear 600 (fun _ => 0), ear 600 (fun _ => 0), .inl (true, 600, (fun _ => 0)), ear 64 (fun _ => 0), ear 512 (fun _ => 0)]) rfl ?_
  refine wq_putF hX dX5_init_71 hI fxX5_33 rfl (Nat.le_of_ble_eq_true rfl) (Nat.le_of_ble_eq_true rfl) (fun _ => rfl) (fun _ => rfl) ?_
  refine wq_eqW (σ1 := [c 0, c 1, c 2, c 3, c 4, c 5, c 6, c 7, c 8, c 9, c 10, c 11, c 12, c 13, c 14, .inr (5, [.ref 16, .int 0, .int 0, .int 0, .int 0, .int 0, .int 0, .int 0, .int 0, .int 0, .int 0, .ref 17, .ref 18, .int 0, .int 0, .ref 19, .ref 20, .ref 21, .int 0, .ref 22, .ref 23, .null, .null, .int 0, .int 0, .int 0, .int 0, .int 0]), ear 32768 (fun _ => 0), ear 12000 (fun _ => 0), ear 12000 (fun _ => 0), ear 600 (fun _ => 0), ear 600 (fun _ => 0), .inl (true, 600, (fun _ => 0)), ear 64 (fun _ => 0), ear 512 (fun _ => 0)]) rfl ?_
  refine wq_aload_n hX dX5_init_74 rfl ?_
  refine wq_sipush (v := 512) hX dX5_init_75 (by decide) ?_
  refine wq_newI (N := 512) (n0 := 24) hX dX5_init_78 ar_I (by decide) (by decide) (by decide) rfl (Nat.le_of_ble_eq_true rfl) rfl (Nat.le_of_ble_eq_true rfl) (Nat.le_of_ble_eq_true rfl) ?_
  refine wq_eqW (σ1 := [c 0, c 1, c 2, c 3, c 4, c 5, c 6, c 7, c 8, c 9, c 10, c 11, c 12, c 13, c 14, .inr (5, [.ref 16, .int 0, .int 0, .int 0, .int 0, .int 0, .int 0, .int 0, .int 0, .int 0, .int 0, .ref 17, .ref 18, .int 0, .int 0, .ref 19, .ref 20, .ref 21, .int 0, .ref 22, .ref 23, .null, .null, .int 0, .int 0, .int 0, .int 0, .int 0]), ear 32768 (fun _ => 0), ear 12000 (fun _ => 0), ear 12000 (fun _ => 0), ear 600 (fun _ => 0), ear 600 (fun _ => 0), .inl (true, 600, (fun _ => 0)), ear 64 (fun _ => 0), ear 512 (fun _ => 0), ear 512 (fun _ => 0)]) rfl ?_
  refine wq_putF hX dX5_init_80 hI fxX5_36 rfl (Nat.le_of_ble_eq_true rfl) (Nat.le_of_ble_eq_true rfl) (fun _ => rfl) (fun _ => rfl) ?_
  refine wq_eqW (σ1 := [c 0, c 1, c 2, c 3, c 4, c 5, c 6, c 7, c 8, c 9, c 10, c 11, c 12, c 13, c 14, .inr (5, [.ref 16, .int 0, .int 0, .int 0, .int 0, .int 0, .int 0, .int 0, .int 0, .int 0, .int 0, .ref 17, .ref 18, .int 0, .int 0, .ref 19, .ref 20, .ref 21, .int 0, .ref 22, .ref 23, .ref 24, .null, .int 0, .int 0, .int 0, .int 0, .int 0]), ear 32768 (fun _ => 0), ear 12000 (fun _ => 0), ear 12000 (fun _ => 0), ear 600 (fun _ => 0), ear 600 (fun _ => 0), .inl (true, 600, (fun _ => 0)), ear 64 (fun _ => 0), ear 512 (fun _ => 0), ear 512 (fun _ => 0)]) rfl ?_
  refine wq_aload_n hX dX5_init_83 rfl ?_
  refine wq_sipush (v := 1801) hX dX5_init_84 (by decide) ?_
  refine wq_newI (N := 1801) (n0 := 25) hX dX5_init_87 ar_I (by decide) (by decide) (by decide) rfl (Nat.le_of_ble_eq_true rfl) rfl (Nat.le_of_ble_eq_true rfl) (Nat.le_of_ble_eq_true rfl) ?_
  refine wq_eqW (σ1 := [c 0, c 1, c 2, c 3, c 4, c 5, c 6, c 7, c 8, c 9, c 10, c 11, c 12, c 13, c 14, .inr (5, [.ref 16, .int 0, .int 0, .int 0, .int 0, .int 0, .int 0, .int 0, .int 0, .int 0, .int 0, .ref 17, .ref 18, .int 0, .int 0, .ref 19, .ref 20, .ref 21, .int 0, .ref 22, .ref 23, .ref 24, .null, .int 0, .int 0, .int 0, .int 0, .int 0]), ear 32768 (fun _ => 0), ear 12000 (fun _ => 0), ear 12000 (fun _ => 0), ear 600 (fun _ => 0), ear 600 (fun _ => 0), .inl (true, 600, (fun _ => 0)), ear 64 (fun _ => 0), ear 512 (fun _ => 0), ear 512 (fun _ => 0), ear 1801 (fun _ => 0)]) rfl ?_
  refine wq_putF hX dX5_init_89 hI fxX5_39 rfl (Nat.le_of_ble_eq_true rfl) (Nat.le_of_ble_eq_true rfl) (fun _ => rfl) (fun _ => rfl) ?_
  refine wq_eqW (σ1 := [c 0, c 1, c 2, c 3, c 4, c 5, c 6, c 7, c 8, c 9, c 10, c 11, c 12, c 13, c 14, .inr (5, [.ref 16, .int 0, .int 0, .int 0, .int 0, .int 0, .int 0, .int 0, .int 0, .int 0, .int 0, .ref 17, .ref 18, .int 0, .int 0, .ref 19, .ref 20, .ref 21, .int 0, .ref 22, .ref 23, .ref 24, .ref 25, .int 0, .int 0, .int 0, .int 0, .int 0]), ear 32768 (fun _ => 0), ear 12000 (fun _ => 0), ear 12000 (fun _ => 0), ear 600 (fun _ => 0), ear 600 (fun _ => 0), .inl (true, 600, (fun _ => 0)), ear 64 (fun _ => 0), ear 512 (fun _ => 0), ear 512 (fun _ => 0), ear 1801 (fun _ => 0)]) rfl ?_
  exact hret _ _ dX5_init_92
