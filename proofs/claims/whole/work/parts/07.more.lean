theorem md_of {M : MD} {av : List Value} {σ : aW} {r : Option Value} {σ1 : aW} (L0 : List (Option Value)) (hL : ent av ++ List.replicate (M.2.2.1 - (ent av).length) none = L0) (hn : (ent av).length ≤ M.2.2.1) (hy : plainName M.1.cls = true) (h : ∀ X Post, Gd X M → Post r σ1 → Wp X Post 0 L0 [] σ) : MD1 M av σ r σ1 := mt_of L0 hL hn hy (fun X hX => h X _ hX ⟨rfl, rfl⟩)
theorem mp_of {M : MD} {av : List Value} {σ : aW} {P : aPost} (L0 : List (Option Value)) (hL : ent av ++ List.replicate (M.2.2.1 - (ent av).length) none = L0) (hn : (ent av).length ≤ M.2.2.1) (hy : plainName M.1.cls = true) (h : ∀ X Post, Gd X M → (∀ r σ1, P r σ1 → Post r σ1) → Wp X Post 0 L0 [] σ) : MT M av σ P := mt_of L0 hL hn hy (fun X hX => h X _ hX (fun _ _ h => h))
theorem wp_eqL {X : CX} {Post : aPost} {pc : Nat} {L L1 : List (Option Value)} {S : List Value} {σ : aW} (h : L = L1) (k : Wp X Post pc L1 S σ) : Wp X Post pc L S σ := h ▸ k
theorem wp_eqW {X : CX} {Post : aPost} {pc : Nat} {L : List (Option Value)} {S : List Value} {σ σ1 : aW} (h : σ = σ1) (k : Wp X Post pc L S σ1) : Wp X Post pc L S σ := h ▸ k
theorem wp_eqS {X : CX} {Post : aPost} {pc : Nat} {L : List (Option Value)} {S S1 : List Value} {σ : aW} (h : S = S1) (k : Wp X Post pc L S1 σ) : Wp X Post pc L S σ := h ▸ k
/-! int and boolean answers -/
def b2i (b : Bool) : Int32 := if b then 1 else 0
theorem ilt {a b : Int32} : a < b ↔ a.toInt < b.toInt := Int32.lt_iff_toInt_lt
theorem ile {a b : Int32} : a ≤ b ↔ a.toInt ≤ b.toInt := Int32.le_iff_toInt_le
theorem ieq {a b : Int32} : a = b ↔ a.toInt = b.toInt := Int32.toInt_inj.symm
theorem nT {n : Nat} (h : n < 2 ^ 31) : (nI n).toInt = (n : Int) := nI_toInt h
/-- a place of an array, 0 without -/
def at0 (f : Nat → Int32) (u : Nat) (x : Int32) : Int32 := if x < 0 ∨ u ≤ x.toNatClampNeg then 0 else f x.toNatClampNeg
theorem at0_in {f : Nat → Int32} {u : Nat} {x : Int32} (h : vp_in x u) : at0 f u x = f x.toNatClampNeg := if_neg h
theorem at0_out {f : Nat → Int32} {u : Nat} {x : Int32} (h : ¬ vp_in x u) : at0 f u x = 0 := if_pos (Classical.not_not.mp h)
theorem at0_nI {f : Nat → Int32} {u p : Nat} (hp : p < 2 ^ 31) : at0 f u (nI p) = if p < u then f p else 0 := by
  unfold at0
  rw [nI_clamp hp]
  by_cases h : p < u
  · rw [if_pos h, if_neg (by intro z; rcases z with z | z; exact nI_pos hp z; omega)]
  · rw [if_neg h, if_pos (Or.inr (by omega))]
