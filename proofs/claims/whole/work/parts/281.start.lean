/-! the first state -/
def V0 : Int → Int := fun z => if z = 1 ∨ z = 2 then 16 else if z = 3 then 2 else if z = 7 ∨ z = 8 then 1 else 0
def s05 : Nat → Int32 := fun j => if j = 0 ∨ j = 1 then 16 else if j = 2 then 2 else if j = 6 ∨ j = 7 then 1 else 0
def S0 (pg : Nat → Int32) : Nat → Nat → Int32 := fun k => if k = 5 then s05 else if k = 8 then pg else fun _ => 0
theorem s05_V0 : ∀ k : Nat, k < 12 → s05 k = iI (V0 (1 + (k : Int))) := by decide +kernel
theorem V0_hi {z : Int} (h : 9 ≤ z) : V0 z = 0 := by
  unfold V0
  rw [if_neg (by omega), if_neg (by omega), if_neg (by omega)]
theorem V0_lo {z : Int} (h : z ≤ 0) : V0 z = 0 := by
  unfold V0
  rw [if_neg (by omega), if_neg (by omega), if_neg (by omega)]
theorem lA_V0 : upd (upd (upd (upd (upd (fun _ => (0 : Int32)) 1 16) 2 16) 3 2) 7 1) 8 1 = lA V0 := by
  funext k
  by_cases h : k < 9
  · have : ∀ k : Nat, k < 9 → upd (upd (upd (upd (upd (fun _ => (0 : Int32)) 1 16) 2 16) 3 2) 7 1) 8 1 k = lA V0 k := by decide +kernel
    exact this k h
  · show _ = iI (V0 k)
    rw [V0_hi (by omega)]
    unfold upd
    rw [if_neg (by omega), if_neg (by omega), if_neg (by omega), if_neg (by omega), if_neg (by omega)]
    show (0 : Int32) = iI 0
    decide
theorem pg_start {pg : Nat → Int32} (hpg : f_J7_fill_53178 24 (fun _ => 0) (-4) = some pg) : ∀ s, s < 24 → pg s = iI (-4) := by
  obtain ⟨G, h1, h2⟩ := c_fill (A := fun _ => 0) (x := -4)
  have e : (-4 : Int32) = iI (-4) := by decide
  rw [e] at hpg
  rw [hpg] at h1
  cases h1
  exact h2
theorem x_start {pg : Nat → Int32} (hpg : f_J7_fill_53178 24 (fun _ => 0) (-4) = some pg) (c d : Nat → Int → Int) (H0 H1 H2 H3 H4 : Nat → Nat → Int32) (P : Int → Int) : stI V0 c (S0 pg) d 0 0 (hF H0 H1 H2 H3 H4) P := by
  have e0 : V0 0 = 0 := V0_lo (by omega)
  have e13 : V0 13 = 0 := V0_hi (by omega)
  have eS : ∀ z : Nat → Int32, z = (fun _ => (0 : Int32)) → ∀ s : Int, (z s.toNat).toInt = 0 := by
    intro z hz s
    rw [hz]
    show (0 : Int32).toInt = 0
    decide
  refine ⟨⟨fun k hk => ?_, ?_, ⟨by omega, fun s s0 s1 => ?_, fun s x y s0 s1 => ?_⟩, ⟨⟨by omega, ?_⟩, fun s s0 s1 => ?_, fun p p0 p1 => ?_⟩, fun c hc => ⟨fun s s0 s1 => ?_, fun s s' s0 s1 s2 => ?_⟩⟩, ⟨⟨?_, ?_⟩, ?_, fun s s0 s1 => ?_, fun p p0 p1 => ?_, fun s s0 s1 => ?_, fun s s0 s1 => ?_⟩, fun s s0 s1 => ?_, fun s s0 s1 => ?_, ⟨by omega, by omega, by omega, by omega⟩, fun i i0 i1 => ?_⟩
  · rcases hk with hk | hk
    · exact V0_lo (by omega)
    · exact V0_hi (by omega)
  · unfold vSet
    decide
  · omega
  · omega
  · rw [e13]
    decide
  · omega
  · rw [V0_hi (by omega)]
    omega
  · omega
  · omega
  · rw [e0]
    show (0 : Int32) = iI 0
    decide
  · rw [e13]
    show (0 : Int32) = iI 0
    decide
  · exact s05_V0
  · omega
  · rw [V0_hi (by omega)]
    exact eS _ rfl p
  · rw [if_neg (by omega)]
    show (pg s.toNat).toInt = -4
    rw [pg_start hpg _ (by omega)]
    decide
  · exact Or.inl (eS _ rfl s)
  · omega
  · omega
  · omega
theorem kp_start (SA SB : Nat → Nat → Int32) (Q : Int → Int) : kpR SA SB (fun _ => 0) (fun _ => 0) Q := fun i i0 i1 => ⟨rfl, Or.inl rfl, fun h => absurd h (by show ¬ (0 : Int) = 1; decide)⟩
theorem sp_start (c : Nat → Int → Int) (K N : Int → Int) : spI V0 c K N := fun p p0 p1 => by
  rw [V0_hi (by omega)] at p1
  omega
theorem lA_0 : (fun _ => (0 : Int32)) = lA (fun _ => 0) := by
  funext k
  show (0 : Int32) = iI 0
  decide
