/-! states of the class, and copies of them -/
def sA (S : Nat → Nat → Int32) (k : Nat) : Int → Int := fun z => (S k z.toNat).toInt
def sW (S : Nat → Nat → Int32) : Int → Int32 := fun z => S 4 z.toNat
theorem sA_lA (S : Nat → Nat → Int32) (k : Nat) : S k = lA (sA S k) := lA_of (S k)
theorem sW_lR (S : Nat → Nat → Int32) : S 4 = lR (sW S) := rfl
def sR (V : Int → Int) (S : Nat → Nat → Int32) : Prop :=
  (S 0 0 = iI (V 0) ∧ S 6 0 = iI (V 13)) ∧ (∀ k : Nat, k < 12 → S 5 k = iI (V (1 + k))) ∧
  (∀ s, 0 ≤ s → s < V 0 → sA S 1 s = V (20 + 72 * s + 0) ∧ sA S 2 s = V (20 + 72 * s + 1) ∧ sA S 3 s = V (20 + 72 * s + 2) ∧ vRow V (sW S) s ∧ (0 ≤ V (20 + 72 * s + 3) → sA S 9 s = V (20 + 72 * s + 4) ∧ sA S 10 s = V (20 + 72 * s + 5) ∧ sA S 11 s = V (20 + 72 * s + 6))) ∧
  (∀ p, 0 ≤ p → p < 4 → sA S 7 p = V (14 + p)) ∧ (∀ s, 0 ≤ s → s < 24 → sA S 8 s = if s < V 0 ∧ 0 ≤ V (20 + 72 * s + 3) then V (20 + 72 * s + 3) else -4) ∧ (∀ s, 0 ≤ s → s < 24 → sA S 11 s = 0 ∨ sA S 11 s = 1)
/-- the same in all cells -/
def sEq (S S' : Nat → Nat → Int32) : Prop :=
  (S 0 0 = S' 0 0 ∧ S 6 0 = S' 6 0) ∧ (∀ k : Nat, k < 12 → S 5 k = S' 5 k) ∧ (∀ k : Nat, (k = 1 ∨ k = 2 ∨ k = 3 ∨ k = 8 ∨ k = 9 ∨ k = 10 ∨ k = 11) → ∀ s, s < 24 → S k s = S' k s) ∧ (∀ s, s < 192 → S 4 s = S' 4 s) ∧ (∀ s, s < 4 → S 7 s = S' 7 s)
theorem sEq_A {S S' : Nat → Nat → Int32} (h : sEq S S') {k : Nat} (hk : k = 1 ∨ k = 2 ∨ k = 3 ∨ k = 8 ∨ k = 9 ∨ k = 10 ∨ k = 11) {s : Int} (h0 : 0 ≤ s) (h1 : s < 24) : sA S k s = sA S' k s := by
  unfold sA
  rw [h.2.2.1 k hk s.toNat (by omega)]
theorem sR_eq {V : Int → Int} {S S' : Nat → Nat → Int32} (hi : vImg V) (h : sEq S S') (hr : sR V S') : sR V S := by
  obtain ⟨⟨a1, a2⟩, a3, a4, a5, a6, a7⟩ := hr
  obtain ⟨⟨i0, i1⟩, i2, -⟩ := hi
  refine ⟨⟨by rw [h.1.1, a1], by rw [h.1.2, a2]⟩, fun k hk => by rw [h.2.1 k hk, a3 k hk], fun s s0 s1 => ?_, fun p p0 p1 => ?_, fun s s0 s1 => ?_, fun s s0 s1 => ?_⟩
  · obtain ⟨b1, b2, b3, b4, b5⟩ := a4 s s0 s1
    rw [sEq_A h (by omega) s0 (by omega), sEq_A h (by omega) s0 (by omega), sEq_A h (by omega) s0 (by omega), sEq_A h (by omega) s0 (by omega), sEq_A h (by omega) s0 (by omega), sEq_A h (by omega) s0 (by omega)]
    refine ⟨b1, b2, b3, fun x y x0 x1 y0 y1 => ?_, b5⟩
    have := i2 s s0 s1
    rw [← b4 x y x0 x1 y0 y1]
    unfold sW
    rw [h.2.2.2.1 _ (by omega)]
  · rw [← a5 p p0 p1]
    unfold sA
    rw [h.2.2.2.2 _ (by omega)]
  · rw [sEq_A h (by omega) s0 s1, a6 s s0 s1]
  · rw [sEq_A h (by omega) s0 s1]
    exact a7 s s0 s1
theorem sEq_rf {S : Nat → Nat → Int32} : sEq S S := ⟨⟨rfl, rfl⟩, fun _ _ => rfl, fun _ _ _ _ => rfl, fun _ _ => rfl, fun _ _ => rfl⟩
theorem cpy_at (f g : Nat → Int32) (n : Nat) : ∀ j, j < n → va_cpy f g 0 0 n j = f j := by
  intro j hj
  unfold va_cpy
  rw [if_pos (by omega), Nat.zero_add, Nat.sub_zero]
theorem g_cpy_full {β : Type} (f g : Nat → Int32) {n : Nat} (k : (Nat → Int32) → Option β) (hn : n < 2147483648) {m : Int32} (hm : m = iI n) : g_cpy f n 0 g n 0 m k = k (va_cpy f g 0 0 n) := by
  subst hm
  unfold g_cpy
  have e : (iI (n : Int)).toNatClampNeg = n := by rw [iI_cl (by omega) (by omega)]; omega
  have e0 : (0 : Int32).toNatClampNeg = 0 := by decide
  rw [if_neg (by rw [e, e0, iI_0, iI_lt (by omega) (by omega) (by omega) (by omega), iI_lt (by omega) (by omega) (by omega) (by omega)]; omega), e, e0]
theorem fits_z {x : Int} (h : x = 0 ∨ x = 1) : fits .boolean (.int (iI x)) = true := by
  rcases h with rfl | rfl <;> decide +kernel
theorem g_cpyZ_full {β : Type} (f g : Nat → Int32) {n : Nat} (k : (Nat → Int32) → Option β) (hn : n < 2147483648) {m : Int32} (hm : m = iI n) (hf : ∀ i, i < n → f i = iI 0 ∨ f i = iI 1) : g_cpyZ f n 0 g n 0 m k = k (va_cpy f g 0 0 n) := by
  subst hm
  unfold g_cpyZ
  have e : (iI (n : Int)).toNatClampNeg = n := by rw [iI_cl (by omega) (by omega)]; omega
  have e0 : (0 : Int32).toNatClampNeg = 0 := by decide
  rw [if_neg (by rw [e, e0, iI_0, iI_lt (by omega) (by omega) (by omega) (by omega), iI_lt (by omega) (by omega) (by omega) (by omega)]; omega), e, e0, if_pos]
  intro i hi
  rw [Nat.zero_add]
  rcases hf i hi with h | h
  · rw [h]; exact fits_z (Or.inl rfl)
  · rw [h]; exact fits_z (Or.inr rfl)
theorem sA_nat {S : Nat → Nat → Int32} {k j : Nat} {x : Int} (h : sA S k j = x) : S k j = iI x := by
  have h2 := iI_of (S k j)
  unfold sA at h
  rw [Int.toNat_natCast] at h
  rw [h2, h]
theorem c_copy {V : Int → Int} {S2 : Nat → Nat → Int32} (hv : vSet V) (hr : sR V S2) (S : Nat → Nat → Int32) : ∃ S', f_X8_copyFrom S S2 = some S' ∧ sEq S' S2 := by
  obtain ⟨⟨a1, a2⟩, a3, a4, a5, a6, a7⟩ := hr
  have z7 : S2 5 6 = iI (V 7) := a3 6 (by omega)
  have z9 : S2 5 8 = iI (V 9) := a3 8 (by omega)
  have z10 : S2 5 9 = iI (V 10) := a3 9 (by omega)
  have t11 : ∀ i, i < 24 → S2 11 i = iI 0 ∨ S2 11 i = iI 1 := by
    intro i hi
    rcases a7 i (by omega) (by omega) with h | h
    · exact Or.inl (sA_nat h)
    · exact Or.inr (sA_nat h)
  unfold f_X8_copyFrom f_X6_copyFrom f_X5_copyFrom f_X4_copyFrom
  rw [g_cpy_full _ _ _ (by decide) (by decide +kernel), g_cpy_full _ _ _ (by decide) (by decide +kernel), g_cpy_full _ _ _ (by decide) (by decide +kernel), g_cpy_full _ _ _ (by decide) (by decide +kernel), opt_bind]
  rw [z7, z9, z10, z_iI _ (by unfold vSet at hv; omega), z_iI _ (by unfold vSet at hv; omega), z_iI _ (by unfold vSet at hv; omega), opt_bind]
  rw [g_cpy_full _ _ _ (by decide) (by decide +kernel), g_cpy_full _ _ _ (by decide) (by decide +kernel), g_cpy_full _ _ _ (by decide) (by decide +kernel), g_cpy_full _ _ _ (by decide) (by decide +kernel), g_cpyZ_full _ _ _ (by decide) (by decide +kernel) t11, opt_bind]
  refine ⟨_, rfl, ⟨rfl, rfl⟩, fun k hk => ?_, fun k hk s hs => ?_, fun s hs => ?_, fun s hs => ?_⟩
  · match k, hk with
    | 0, _ => rfl
    | 1, _ => rfl
    | 2, _ => rfl
    | 3, _ => rfl
    | 4, _ => rfl
    | 5, _ => rfl
    | 6, _ => exact z7.symm
    | 7, _ => rfl
    | 8, _ => exact z9.symm
    | 9, _ => exact z10.symm
    | 10, _ => rfl
    | 11, _ => rfl
  · rcases hk with rfl | rfl | rfl | rfl | rfl | rfl | rfl <;> exact cpy_at _ _ 24 s hs
  · exact cpy_at _ _ 192 s hs
  · exact cpy_at _ _ 4 s hs
