section Rules
variable {X : CQ} {cs sl : Nat} {cc : ByteArray} {own : String} {nl nb : Nat} {rm : Room} {pc : Nat} {L : List (Option Value)} {S : List Value} {σ : aW}
theorem wq_ci0 {M1 : MD} {mc ms idx q : Nat} {σ1 : aW} (hX : Gq X cc own nl rm nb) (hd : decode cc pc = .ok (.invokespecial idx, 3)) (hm : MOK M1 0 ∧ Cond.methodLink own idx M1.1 ∈ BIG ∧ Cond.instanceMethod M1.1 ∈ BIG ∧ M1.1.name = "<init>") (hret : M1.2.2.2.1 = none) (hr : rmQ rm M1) (hM : MC M1 mc ms (.ref q :: []) σ σ1) (hs : σ.length ≤ 1000) (hnb : nb + cs = σ.length) (hS : (S.map (fun v => v.category)).sum ≤ 8) (hc : cs + mc ≤ rm.cells ∧ sl + ms ≤ rm.slots) (k : Wq X (cs + mc) (sl + ms) (pc + 3) L S σ1) : Wq X cs sl pc L (.ref q :: S) σ := wq_callI (As := []) hX hd hm hret hr hM rfl hs hnb hS hc k
theorem wq_ci1 {M1 : MD} {mc ms idx q : Nat} {a1 : Value} {σ1 : aW} (hX : Gq X cc own nl rm nb) (hd : decode cc pc = .ok (.invokespecial idx, 3)) (hm : MOK M1 1 ∧ Cond.methodLink own idx M1.1 ∈ BIG ∧ Cond.instanceMethod M1.1 ∈ BIG ∧ M1.1.name = "<init>") (hret : M1.2.2.2.1 = none) (hr : rmQ rm M1) (hM : MC M1 mc ms (.ref q :: [a1]) σ σ1) (hs : σ.length ≤ 1000) (hnb : nb + cs = σ.length) (hS : (S.map (fun v => v.category)).sum ≤ 8) (hc : cs + mc ≤ rm.cells ∧ sl + ms ≤ rm.slots) (k : Wq X (cs + mc) (sl + ms) (pc + 3) L S σ1) : Wq X cs sl pc L (a1 :: .ref q :: S) σ := wq_callI (As := [a1]) hX hd hm hret hr hM rfl hs hnb hS hc k
theorem wq_cin0 {M1 : MD} {mc ms idx q : Nat} {σ1 : aW} (hX : Gq X cc own nl rm nb) (hd : decode cc pc = .ok (.invokespecial idx, 3)) (hm : MOK M1 0 ∧ True ∧ Cond.instanceMethod M1.1 ∈ BIG ∧ M1.1.name = "<init>") (hl : ∀ s, N9 s → va_Nw (.methodLinkNest own idx M1.1 "BlockStore") s) (hret : M1.2.2.2.1 = none) (hr : rmQ rm M1) (hM : MC M1 mc ms [.ref q] σ σ1) (hs : σ.length ≤ 1000) (hnb : nb + cs = σ.length) (hS : (S.map (fun v => v.category)).sum ≤ 8) (hc : cs + mc ≤ rm.cells ∧ sl + ms ≤ rm.slots) (k : Wq X (cs + mc) (sl + ms) (pc + 3) L S σ1) : Wq X cs sl pc L (.ref q :: S) σ := wq_callIN (As := []) hX hd hm hl hret hr hM rfl hs hnb hS hc k
theorem wq_cv0 {M1 : MD} {idx q ci : Nat} {fs : List Value} {P1 : aPost} (hX : Gq X cc own nl rm nb) (hd : decode cc pc = .ok (.invokevirtual idx, 3)) (hm : MLV own idx M1 ci 0) (hr : rmQ rm M1) (hM : MT M1 (.ref q :: []) σ P1) (hq : σ[q]? = some (.inr (ci, fs))) (hs : σ.length ≤ 1000) (hS : (S.map (fun v => v.category)).sum ≤ 8) (hc : cs ≤ rm.cells ∧ sl ≤ rm.slots) (k : ∀ r σ1, P1 r σ1 → σ1.length = σ.length → Wq X cs sl (pc + 3) L (r.toList ++ S) σ1) : Wq X cs sl pc L (.ref q :: S) σ := wq_callV (As := []) hX hd hm hr hM hq rfl hs hS hc k
theorem wq_cv1 {M1 : MD} {idx q ci : Nat} {fs : List Value} {a1 : Value} {P1 : aPost} (hX : Gq X cc own nl rm nb) (hd : decode cc pc = .ok (.invokevirtual idx, 3)) (hm : MLV own idx M1 ci 1) (hr : rmQ rm M1) (hM : MT M1 (.ref q :: [a1]) σ P1) (hq : σ[q]? = some (.inr (ci, fs))) (hs : σ.length ≤ 1000) (hS : (S.map (fun v => v.category)).sum ≤ 8) (hc : cs ≤ rm.cells ∧ sl ≤ rm.slots) (k : ∀ r σ1, P1 r σ1 → σ1.length = σ.length → Wq X cs sl (pc + 3) L (r.toList ++ S) σ1) : Wq X cs sl pc L (a1 :: .ref q :: S) σ := wq_callV (As := [a1]) hX hd hm hr hM hq rfl hs hS hc k
theorem wq_cv2 {M1 : MD} {idx q ci : Nat} {fs : List Value} {a1 a2 : Value} {P1 : aPost} (hX : Gq X cc own nl rm nb) (hd : decode cc pc = .ok (.invokevirtual idx, 3)) (hm : MLV own idx M1 ci 2) (hr : rmQ rm M1) (hM : MT M1 (.ref q :: [a1, a2]) σ P1) (hq : σ[q]? = some (.inr (ci, fs))) (hs : σ.length ≤ 1000) (hS : (S.map (fun v => v.category)).sum ≤ 8) (hc : cs ≤ rm.cells ∧ sl ≤ rm.slots) (k : ∀ r σ1, P1 r σ1 → σ1.length = σ.length → Wq X cs sl (pc + 3) L (r.toList ++ S) σ1) : Wq X cs sl pc L (a2 :: a1 :: .ref q :: S) σ := wq_callV (As := [a1, a2]) hX hd hm hr hM hq rfl hs hS hc k
theorem wq_cv3 {M1 : MD} {idx q ci : Nat} {fs : List Value} {a1 a2 a3 : Value} {P1 : aPost} (hX : Gq X cc own nl rm nb) (hd : decode cc pc = .ok (.invokevirtual idx, 3)) (hm : MLV own idx M1 ci 3) (hr : rmQ rm M1) (hM : MT M1 (.ref q :: [a1, a2, a3]) σ P1) (hq : σ[q]? = some (.inr (ci, fs))) (hs : σ.length ≤ 1000) (hS : (S.map (fun v => v.category)).sum ≤ 8) (hc : cs ≤ rm.cells ∧ sl ≤ rm.slots) (k : ∀ r σ1, P1 r σ1 → σ1.length = σ.length → Wq X cs sl (pc + 3) L (r.toList ++ S) σ1) : Wq X cs sl pc L (a3 :: a2 :: a1 :: .ref q :: S) σ := wq_callV (As := [a1, a2, a3]) hX hd hm hr hM hq rfl hs hS hc k
end Rules
abbrev mdX0_init : MD := (yX0_init, cX0_init, 1, none, 1, 40)
theorem mokX0_init : MOK mdX0_init 0 := ⟨by decide +kernel, by decide +kernel, by decide, by decide, by decide +kernel⟩
theorem inX0_init : Cond.instanceMethod mdX0_init.1 ∈ BIG := by decide +kernel
theorem obX0 : Cond.methodLink RX0 3 objectInit ∈ BIG := by decide +kernel
theorem fxX0_10 : FX RX0 10 0 0 (.array .int) := ⟨RX0, TX0, 6, tyX0, rfl, by decide, by decide +kernel, inBX0, rfl, rfl, tyX0_ok, nmX0, rfl⟩
theorem fxX0_16 : FX RX0 16 0 1 (.array .int) := ⟨RX0, TX0, 6, tyX0, rfl, by decide, by decide +kernel, inBX0, rfl, rfl, tyX0_ok, nmX0, rfl⟩
abbrev mdX1_init : MD := (yX1_init, cX1_init, 2, none, 1, 40)
theorem mokX1_init : MOK mdX1_init 1 := ⟨by decide +kernel, by decide +kernel, by decide, by decide, by decide +kernel⟩
theorem inX1_init : Cond.instanceMethod mdX1_init.1 ∈ BIG := by decide +kernel
theorem obX1 : Cond.methodLink RX1 1 objectInit ∈ BIG := by decide +kernel
theorem fxX1_19 : FX RX1 19 1 0 (.object "BlockStore$Disk") := ⟨RX1, TX1, 4, tyX1, rfl, by decide, by decide +kernel, inBX1, rfl, rfl, tyX1_ok, nmX1, rfl⟩
abbrev mdX2_init : MD := (yX2_init, cX2_init, 3, none, 1, 40)
theorem mokX2_init : MOK mdX2_init 1 := ⟨by decide +kernel, by decide +kernel, by decide, by decide, by decide +kernel⟩
theorem inX2_init : Cond.instanceMethod mdX2_init.1 ∈ BIG := by decide +kernel
theorem obX2 : Cond.methodLink RX2 1 objectInit ∈ BIG := by decide +kernel
theorem fxX2_19 : FX RX2 19 2 0 (.array .int) := ⟨RX2, TX2, 3, tyX2, rfl, by decide, by decide +kernel, inBX2, rfl, rfl, tyX2_ok, nmX2, rfl⟩
theorem fxX2_23 : FX RX2 23 2 1 (.array .int) := ⟨RX2, TX2, 3, tyX2, rfl, by decide, by decide +kernel, inBX2, rfl, rfl, tyX2_ok, nmX2, rfl⟩
abbrev mdX3_init : MD := (yX3_init, cX3_init, 2, none, 1, 40)
theorem mokX3_init : MOK mdX3_init 1 := ⟨by decide +kernel, by decide +kernel, by decide, by decide, by decide +kernel⟩
theorem inX3_init : Cond.instanceMethod mdX3_init.1 ∈ BIG := by decide +kernel
theorem obX3 : Cond.methodLink RX3 3 objectInit ∈ BIG := by decide +kernel
theorem fxX3_18 : FX RX3 18 3 0 (.object "BlockStore$Disk") := ⟨RX3, TX3, 3, tyX3, rfl, by decide, by decide +kernel, inBX3, rfl, rfl, tyX3_ok, nmX3, rfl⟩
abbrev mdX4_init : MD := (yX4_init, cX4_init, 1, none, 2, 70)
theorem mokX4_init : MOK mdX4_init 0 := ⟨by decide +kernel, by decide +kernel, by decide, by decide, by decide +kernel⟩
theorem inX4_init : Cond.instanceMethod mdX4_init.1 ∈ BIG := by decide +kernel
theorem obX4 : Cond.methodLink RX4 1 objectInit ∈ BIG := by decide +kernel
theorem fxX4_10 : FX RX4 10 4 0 (.object "BlockStore$Disk") := ⟨RX4, TX4, 8, tyX4, rfl, by decide, by decide +kernel, inBX4, rfl, rfl, tyX4_ok, nmX4, rfl⟩
theorem fxX4_21 : FX RX4 21 4 1 (.object "BlockStore$Journal") := ⟨RX4, TX4, 8, tyX4, rfl, by decide, by decide +kernel, inBX4, rfl, rfl, tyX4_ok, nmX4, rfl⟩
theorem fxX4_28 : FX RX4 28 4 2 (.object "BlockStore$Tree") := ⟨RX4, TX4, 8, tyX4, rfl, by decide, by decide +kernel, inBX4, rfl, rfl, tyX4_ok, nmX4, rfl⟩
theorem fxX4_37 : FX RX4 37 4 3 (.object "BlockStore$KeyMap") := ⟨RX4, TX4, 8, tyX4, rfl, by decide, by decide +kernel, inBX4, rfl, rfl, tyX4_ok, nmX4, rfl⟩
theorem fxX4_41 : FX RX4 41 4 4 (.object "BlockStore$KeyMap") := ⟨RX4, TX4, 8, tyX4, rfl, by decide, by decide +kernel, inBX4, rfl, rfl, tyX4_ok, nmX4, rfl⟩
theorem fxX4_44 : FX RX4 44 4 5 (.object "BlockStore$KeyMap") := ⟨RX4, TX4, 8, tyX4, rfl, by decide, by decide +kernel, inBX4, rfl, rfl, tyX4_ok, nmX4, rfl⟩
abbrev mdX5_init : MD := (yX5_init, cX5_init, 1, none, 1, 40)
theorem mokX5_init : MOK mdX5_init 0 := ⟨by decide +kernel, by decide +kernel, by decide, by decide, by decide +kernel⟩
theorem inX5_init : Cond.instanceMethod mdX5_init.1 ∈ BIG := by decide +kernel
theorem obX5 : Cond.methodLink RX5 1 objectInit ∈ BIG := by decide +kernel
theorem fxX5_8 : FX RX5 8 5 0 (.array .int) := ⟨RX5, TX5, 28, tyX5, rfl, by decide, by decide +kernel, inBX5, rfl, rfl, tyX5_ok, nmX5, rfl⟩
theorem fxX5_14 : FX RX5 14 5 11 (.array .int) := ⟨RX5, TX5, 28, tyX5, rfl, by decide, by decide +kernel, inBX5, rfl, rfl, tyX5_ok, nmX5, rfl⟩
theorem fxX5_17 : FX RX5 17 5 12 (.array .int) := ⟨RX5, TX5, 28, tyX5, rfl, by decide, by decide +kernel, inBX5, rfl, rfl, tyX5_ok, nmX5, rfl⟩
theorem fxX5_20 : FX RX5 20 5 15 (.array .int) := ⟨RX5, TX5, 28, tyX5, rfl, by decide, by decide +kernel, inBX5, rfl, rfl, tyX5_ok, nmX5, rfl⟩
theorem fxX5_23 : FX RX5 23 5 16 (.array .int) := ⟨RX5, TX5, 28, tyX5, rfl, by decide, by decide +kernel, inBX5, rfl, rfl, tyX5_ok, nmX5, rfl⟩
theorem fxX5_26 : FX RX5 26 5 17 (.array .boolean) := ⟨RX5, TX5, 28, tyX5, rfl, by decide, by decide +kernel, inBX5, rfl, rfl, tyX5_ok, nmX5, rfl⟩
theorem fxX5_30 : FX RX5 30 5 19 (.array .int) := ⟨RX5, TX5, 28, tyX5, rfl, by decide, by decide +kernel, inBX5, rfl, rfl, tyX5_ok, nmX5, rfl⟩
theorem fxX5_33 : FX RX5 33 5 20 (.array .int) := ⟨RX5, TX5, 28, tyX5, rfl, by decide, by decide +kernel, inBX5, rfl, rfl, tyX5_ok, nmX5, rfl⟩
theorem fxX5_36 : FX RX5 36 5 21 (.array .int) := ⟨RX5, TX5, 28, tyX5, rfl, by decide, by decide +kernel, inBX5, rfl, rfl, tyX5_ok, nmX5, rfl⟩
theorem fxX5_39 : FX RX5 39 5 22 (.array .int) := ⟨RX5, TX5, 28, tyX5, rfl, by decide, by decide +kernel, inBX5, rfl, rfl, tyX5_ok, nmX5, rfl⟩
theorem nkX4_7 : NK RX4 7 0 [.null, .null, .int 0, .int 0, .int 0, .int 0] := ⟨RX0, TX0, 6, tyX0, rfl, rfl, by decide +kernel, by decide +kernel, by decide +kernel, inBX0, tyX0_ok, fun j hj => by
  have : j = 0 ∨ j = 1 ∨ j = 2 ∨ j = 3 ∨ j = 4 ∨ j = 5 := by omega
  rcases this with rfl | rfl | rfl | rfl | rfl | rfl <;> rfl, fun _ => rfl⟩
theorem nkX4_16 : NK RX4 16 1 [.null, .int 0, .int 0, .int 0] := ⟨RX1, TX1, 4, tyX1, rfl, rfl, by decide +kernel, by decide +kernel, by decide +kernel, inBX1, tyX1_ok, fun j hj => by
  have : j = 0 ∨ j = 1 ∨ j = 2 ∨ j = 3 := by omega
  rcases this with rfl | rfl | rfl | rfl <;> rfl, fun _ => rfl⟩
theorem nkX4_25 : NK RX4 25 3 [.null, .int 0, .int 0] := ⟨RX3, TX3, 3, tyX3, rfl, rfl, by decide +kernel, by decide +kernel, by decide +kernel, inBX3, tyX3_ok, fun j hj => by
  have : j = 0 ∨ j = 1 ∨ j = 2 := by omega
  rcases this with rfl | rfl | rfl <;> rfl, fun _ => rfl⟩
theorem nkX4_32 : NK RX4 32 2 [.null, .null, .int 0] := ⟨RX2, TX2, 3, tyX2, rfl, rfl, by decide +kernel, by decide +kernel, by decide +kernel, inBX2, tyX2_ok, fun j hj => by
  have : j = 0 ∨ j = 1 ∨ j = 2 := by omega
  rcases this with rfl | rfl | rfl <;> rfl, fun _ => rfl⟩
theorem nkL_7 : NK RL 7 4 [.null, .null, .null, .null, .null, .null, .int 0, .int 0] := ⟨RX4, TX4, 8, tyX4, rfl, rfl, by decide +kernel, by decide +kernel, by decide +kernel, inBX4, tyX4_ok, fun j hj => by
  have : j = 0 ∨ j = 1 ∨ j = 2 ∨ j = 3 ∨ j = 4 ∨ j = 5 ∨ j = 6 ∨ j = 7 := by omega
  rcases this with rfl | rfl | rfl | rfl | rfl | rfl | rfl | rfl <;> rfl, fun _ => rfl⟩
theorem nkL_10 : NK RL 10 5 [.null, .int 0, .int 0, .int 0, .int 0, .int 0, .int 0, .int 0, .int 0, .int 0, .int 0, .null, .null, .int 0, .int 0, .null, .null, .null, .int 0, .null, .null, .null, .null, .int 0, .int 0, .int 0, .int 0, .int 0] := ⟨RX5, TX5, 28, tyX5, rfl, rfl, by decide +kernel, by decide +kernel, by decide +kernel, inBX5, tyX5_ok, fun j hj => by
  have : j = 0 ∨ j = 1 ∨ j = 2 ∨ j = 3 ∨ j = 4 ∨ j = 5 ∨ j = 6 ∨ j = 7 ∨ j = 8 ∨ j = 9 ∨ j = 10 ∨ j = 11 ∨ j = 12 ∨ j = 13 ∨ j = 14 ∨ j = 15 ∨ j = 16 ∨ j = 17 ∨ j = 18 ∨ j = 19 ∨ j = 20 ∨ j = 21 ∨ j = 22 ∨ j = 23 ∨ j = 24 ∨ j = 25 ∨ j = 26 ∨ j = 27 := by omega
  rcases this with rfl | rfl | rfl | rfl | rfl | rfl | rfl | rfl | rfl | rfl | rfl | rfl | rfl | rfl | rfl | rfl | rfl | rfl | rfl | rfl | rfl | rfl | rfl | rfl | rfl | rfl | rfl | rfl <;> rfl, fun _ => rfl⟩
theorem miX4_18 : MOK mdX1_init 1 ∧ Cond.methodLink RX4 18 mdX1_init.1 ∈ BIG ∧ Cond.instanceMethod mdX1_init.1 ∈ BIG ∧ mdX1_init.1.name = "<init>" := ⟨mokX1_init, by decide +kernel, inX1_init, rfl⟩
theorem miX4_27 : MOK mdX3_init 1 ∧ Cond.methodLink RX4 27 mdX3_init.1 ∈ BIG ∧ Cond.instanceMethod mdX3_init.1 ∈ BIG ∧ mdX3_init.1.name = "<init>" := ⟨mokX3_init, by decide +kernel, inX3_init, rfl⟩
theorem miX4_34 : MOK mdX2_init 1 ∧ Cond.methodLink RX4 34 mdX2_init.1 ∈ BIG ∧ Cond.instanceMethod mdX2_init.1 ∈ BIG ∧ mdX2_init.1.name = "<init>" := ⟨mokX2_init, by decide +kernel, inX2_init, rfl⟩
theorem miL_9 : MOK mdX4_init 0 ∧ Cond.methodLink RL 9 mdX4_init.1 ∈ BIG ∧ Cond.instanceMethod mdX4_init.1 ∈ BIG ∧ mdX4_init.1.name = "<init>" := ⟨mokX4_init, by decide +kernel, inX4_init, rfl⟩
theorem miL_12 : MOK mdX5_init 0 ∧ Cond.methodLink RL 12 mdX5_init.1 ∈ BIG ∧ Cond.instanceMethod mdX5_init.1 ∈ BIG ∧ mdX5_init.1.name = "<init>" := ⟨mokX5_init, by decide +kernel, inX5_init, rfl⟩
theorem mokX4_disk : MOK mdX4_disk 3 := ⟨by decide +kernel, by decide +kernel, by decide, by decide, by decide +kernel⟩
theorem mlL_13 : MLV RL 13 mdX4_disk 4 3 := ⟨mokX4_disk, by decide +kernel, by decide +kernel, by decide +kernel, TX4, 8, rfl⟩
theorem mokX5_disk : MOK mdX5_disk 3 := ⟨by decide +kernel, by decide +kernel, by decide, by decide, by decide +kernel⟩
theorem mlL_17 : MLV RL 17 mdX5_disk 5 3 := ⟨mokX5_disk, by decide +kernel, by decide +kernel, by decide +kernel, TX5, 28, rfl⟩
theorem mokX4_format : MOK mdX4_format 0 := ⟨by decide +kernel, by decide +kernel, by decide, by decide, by decide +kernel⟩
theorem mlL_18 : MLV RL 18 mdX4_format 4 0 := ⟨mokX4_format, by decide +kernel, by decide +kernel, by decide +kernel, TX4, 8, rfl⟩
theorem mokX5_format : MOK mdX5_format 0 := ⟨by decide +kernel, by decide +kernel, by decide, by decide, by decide +kernel⟩
theorem mlL_22 : MLV RL 22 mdX5_format 5 0 := ⟨mokX5_format, by decide +kernel, by decide +kernel, by decide +kernel, TX5, 28, rfl⟩
theorem mokX4_power : MOK mdX4_power 1 := ⟨by decide +kernel, by decide +kernel, by decide, by decide, by decide +kernel⟩
theorem mlL_23 : MLV RL 23 mdX4_power 4 1 := ⟨mokX4_power, by decide +kernel, by decide +kernel, by decide +kernel, TX4, 8, rfl⟩
theorem mokX5_power : MOK mdX5_power 1 := ⟨by decide +kernel, by decide +kernel, by decide, by decide, by decide +kernel⟩
theorem mlL_27 : MLV RL 27 mdX5_power 5 1 := ⟨mokX5_power, by decide +kernel, by decide +kernel, by decide +kernel, TX5, 28, rfl⟩
theorem mokX4_recover : MOK mdX4_recover 0 := ⟨by decide +kernel, by decide +kernel, by decide, by decide, by decide +kernel⟩
theorem mlL_28 : MLV RL 28 mdX4_recover 4 0 := ⟨mokX4_recover, by decide +kernel, by decide +kernel, by decide +kernel, TX4, 8, rfl⟩
theorem mokX5_recover : MOK mdX5_recover 0 := ⟨by decide +kernel, by decide +kernel, by decide, by decide, by decide +kernel⟩
theorem mlL_31 : MLV RL 31 mdX5_recover 5 0 := ⟨mokX5_recover, by decide +kernel, by decide +kernel, by decide +kernel, TX5, 28, rfl⟩
theorem mokX4_begin : MOK mdX4_begin 0 := ⟨by decide +kernel, by decide +kernel, by decide, by decide, by decide +kernel⟩
theorem mlL_32 : MLV RL 32 mdX4_begin 4 0 := ⟨mokX4_begin, by decide +kernel, by decide +kernel, by decide +kernel, TX4, 8, rfl⟩
theorem mokX5_begin : MOK mdX5_begin 0 := ⟨by decide +kernel, by decide +kernel, by decide, by decide, by decide +kernel⟩
theorem mlL_35 : MLV RL 35 mdX5_begin 5 0 := ⟨mokX5_begin, by decide +kernel, by decide +kernel, by decide +kernel, TX5, 28, rfl⟩
theorem mokX4_put : MOK mdX4_put 2 := ⟨by decide +kernel, by decide +kernel, by decide, by decide, by decide +kernel⟩
theorem mlL_36 : MLV RL 36 mdX4_put 4 2 := ⟨mokX4_put, by decide +kernel, by decide +kernel, by decide +kernel, TX4, 8, rfl⟩
theorem mokX5_put : MOK mdX5_put 2 := ⟨by decide +kernel, by decide +kernel, by decide, by decide, by decide +kernel⟩
theorem mlL_40 : MLV RL 40 mdX5_put 5 2 := ⟨mokX5_put, by decide +kernel, by decide +kernel, by decide +kernel, TX5, 28, rfl⟩
theorem mokX4_remove : MOK mdX4_remove 1 := ⟨by decide +kernel, by decide +kernel, by decide, by decide, by decide +kernel⟩
theorem mlL_41 : MLV RL 41 mdX4_remove 4 1 := ⟨mokX4_remove, by decide +kernel, by decide +kernel, by decide +kernel, TX4, 8, rfl⟩
theorem mokX5_remove : MOK mdX5_remove 1 := ⟨by decide +kernel, by decide +kernel, by decide, by decide, by decide +kernel⟩
theorem mlL_44 : MLV RL 44 mdX5_remove 5 1 := ⟨mokX5_remove, by decide +kernel, by decide +kernel, by decide +kernel, TX5, 28, rfl⟩
theorem mokX4_commit : MOK mdX4_commit 0 := ⟨by decide +kernel, by decide +kernel, by decide, by decide, by decide +kernel⟩
theorem mlL_45 : MLV RL 45 mdX4_commit 4 0 := ⟨mokX4_commit, by decide +kernel, by decide +kernel, by decide +kernel, TX4, 8, rfl⟩
theorem mokX5_commit : MOK mdX5_commit 0 := ⟨by decide +kernel, by decide +kernel, by decide, by decide, by decide +kernel⟩
theorem mlL_48 : MLV RL 48 mdX5_commit 5 0 := ⟨mokX5_commit, by decide +kernel, by decide +kernel, by decide +kernel, TX5, 28, rfl⟩
theorem mokX4_abort : MOK mdX4_abort 0 := ⟨by decide +kernel, by decide +kernel, by decide, by decide, by decide +kernel⟩
theorem mlL_49 : MLV RL 49 mdX4_abort 4 0 := ⟨mokX4_abort, by decide +kernel, by decide +kernel, by decide +kernel, TX4, 8, rfl⟩
theorem mokX5_abort : MOK mdX5_abort 0 := ⟨by decide +kernel, by decide +kernel, by decide, by decide, by decide +kernel⟩
theorem mlL_52 : MLV RL 52 mdX5_abort 5 0 := ⟨mokX5_abort, by decide +kernel, by decide +kernel, by decide +kernel, TX5, 28, rfl⟩
theorem mokX4_checkpoint : MOK mdX4_checkpoint 0 := ⟨by decide +kernel, by decide +kernel, by decide, by decide, by decide +kernel⟩
theorem mlL_53 : MLV RL 53 mdX4_checkpoint 4 0 := ⟨mokX4_checkpoint, by decide +kernel, by decide +kernel, by decide +kernel, TX4, 8, rfl⟩
theorem mokX5_checkpoint : MOK mdX5_checkpoint 0 := ⟨by decide +kernel, by decide +kernel, by decide, by decide, by decide +kernel⟩
theorem mlL_56 : MLV RL 56 mdX5_checkpoint 5 0 := ⟨mokX5_checkpoint, by decide +kernel, by decide +kernel, by decide +kernel, TX5, 28, rfl⟩
theorem mokX4_get : MOK mdX4_get 1 := ⟨by decide +kernel, by decide +kernel, by decide, by decide, by decide +kernel⟩
theorem mlL_57 : MLV RL 57 mdX4_get 4 1 := ⟨mokX4_get, by decide +kernel, by decide +kernel, by decide +kernel, TX4, 8, rfl⟩
theorem mokX5_get : MOK mdX5_get 1 := ⟨by decide +kernel, by decide +kernel, by decide, by decide, by decide +kernel⟩
theorem mlL_60 : MLV RL 60 mdX5_get 5 1 := ⟨mokX5_get, by decide +kernel, by decide +kernel, by decide +kernel, TX5, 28, rfl⟩
theorem mokX4_has : MOK mdX4_has 1 := ⟨by decide +kernel, by decide +kernel, by decide, by decide, by decide +kernel⟩
theorem mlL_61 : MLV RL 61 mdX4_has 4 1 := ⟨mokX4_has, by decide +kernel, by decide +kernel, by decide +kernel, TX4, 8, rfl⟩
theorem mokX5_has : MOK mdX5_has 1 := ⟨by decide +kernel, by decide +kernel, by decide, by decide, by decide +kernel⟩
theorem mlL_65 : MLV RL 65 mdX5_has 5 1 := ⟨mokX5_has, by decide +kernel, by decide +kernel, by decide +kernel, TX5, 28, rfl⟩
theorem mokX4_size : MOK mdX4_size 0 := ⟨by decide +kernel, by decide +kernel, by decide, by decide, by decide +kernel⟩
theorem mlL_66 : MLV RL 66 mdX4_size 4 0 := ⟨mokX4_size, by decide +kernel, by decide +kernel, by decide +kernel, TX4, 8, rfl⟩
theorem mokX5_size : MOK mdX5_size 0 := ⟨by decide +kernel, by decide +kernel, by decide, by decide, by decide +kernel⟩
theorem mlL_69 : MLV RL 69 mdX5_size 5 0 := ⟨mokX5_size, by decide +kernel, by decide +kernel, by decide +kernel, TX5, 28, rfl⟩
theorem mokX4_key : MOK mdX4_key 1 := ⟨by decide +kernel, by decide +kernel, by decide, by decide, by decide +kernel⟩
theorem mlL_70 : MLV RL 70 mdX4_key 4 1 := ⟨mokX4_key, by decide +kernel, by decide +kernel, by decide +kernel, TX4, 8, rfl⟩
theorem mokX5_key : MOK mdX5_key 1 := ⟨by decide +kernel, by decide +kernel, by decide, by decide, by decide +kernel⟩
theorem mlL_73 : MLV RL 73 mdX5_key 5 1 := ⟨mokX5_key, by decide +kernel, by decide +kernel, by decide +kernel, TX5, 28, rfl⟩
theorem mokX4_sum : MOK mdX4_sum 3 := ⟨by decide +kernel, by decide +kernel, by decide, by decide, by decide +kernel⟩
theorem mlL_74 : MLV RL 74 mdX4_sum 4 3 := ⟨mokX4_sum, by decide +kernel, by decide +kernel, by decide +kernel, TX4, 8, rfl⟩
theorem mokX5_sum : MOK mdX5_sum 3 := ⟨by decide +kernel, by decide +kernel, by decide, by decide, by decide +kernel⟩
theorem mlL_78 : MLV RL 78 mdX5_sum 5 3 := ⟨mokX5_sum, by decide +kernel, by decide +kernel, by decide +kernel, TX5, 28, rfl⟩
theorem mokX4_word : MOK mdX4_word 2 := ⟨by decide +kernel, by decide +kernel, by decide, by decide, by decide +kernel⟩
theorem mlL_79 : MLV RL 79 mdX4_word 4 2 := ⟨mokX4_word, by decide +kernel, by decide +kernel, by decide +kernel, TX4, 8, rfl⟩
theorem mokX5_word : MOK mdX5_word 2 := ⟨by decide +kernel, by decide +kernel, by decide, by decide, by decide +kernel⟩
theorem mlL_82 : MLV RL 82 mdX5_word 5 2 := ⟨mokX5_word, by decide +kernel, by decide +kernel, by decide +kernel, TX5, 28, rfl⟩
theorem mokX4_state : MOK mdX4_state 0 := ⟨by decide +kernel, by decide +kernel, by decide, by decide, by decide +kernel⟩
theorem mlL_83 : MLV RL 83 mdX4_state 4 0 := ⟨mokX4_state, by decide +kernel, by decide +kernel, by decide +kernel, TX4, 8, rfl⟩
theorem mokX5_state : MOK mdX5_state 0 := ⟨by decide +kernel, by decide +kernel, by decide, by decide, by decide +kernel⟩
theorem mlL_86 : MLV RL 86 mdX5_state 5 0 := ⟨mokX5_state, by decide +kernel, by decide +kernel, by decide +kernel, TX5, 28, rfl⟩
theorem mokX4_count : MOK mdX4_count 1 := ⟨by decide +kernel, by decide +kernel, by decide, by decide, by decide +kernel⟩
theorem mlL_87 : MLV RL 87 mdX4_count 4 1 := ⟨mokX4_count, by decide +kernel, by decide +kernel, by decide +kernel, TX4, 8, rfl⟩
theorem mokX5_count : MOK mdX5_count 1 := ⟨by decide +kernel, by decide +kernel, by decide, by decide, by decide +kernel⟩
theorem mlL_90 : MLV RL 90 mdX5_count 5 1 := ⟨mokX5_count, by decide +kernel, by decide +kernel, by decide +kernel, TX5, 28, rfl⟩
theorem mlX2_13b : Cond.methodLink RX2 13 Lib.Math.max.name ∈ BIG := by decide +kernel
