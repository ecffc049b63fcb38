/-! A symbol's values taken apart -/
def narS (s : AS) (k : Nat) (lo hi : Int) : AS := sGoW s (sPc s) (sSt s) (wEnv (sW s) (eSet (wE (sW s)) k lo hi))
theorem cover_ok {k : kx_T} {x : ACx} {mn c : Nat} {dT : Nat → ClassId} {w0 : AW} {v0 : VL} {s : AS} {k0 : Nat} {b : Int × Int × Nat × Int} {cs : List (Int × Int)} (he : (wE (sW s))[k0]? = some b) (hcov : ∀ z : Int, b.1 ≤ z → z ≤ b.2.1 → ∃ p ∈ cs, p.1 ≤ z ∧ z ≤ p.2) (h : ∀ p ∈ cs, GS k x mn c dT w0 v0 (narS s k0 p.1 p.2)) : GS k x mn c dT w0 v0 s := fun v I => by
  have hb := I.2.2.1.1 k0 b he
  obtain ⟨p, hp, h1, h2⟩ := hcov _ hb.1 hb.2.1
  exact nar_go he h1 h2 (h p hp) I I.2.2.2.2.1
