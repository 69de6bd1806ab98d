theorem x_pixels {V : Int → Int} {c d : Nat → Int → Int} {S : Nat → Nat → Int32} (hs : vSet V) (hi : vImg V) (hp : vPlc V) (hr : sR V S) (hc : ∀ j, 0 ≤ j → j < V 0 → (0 ≤ c 2 j ∧ c 2 j ≤ 8) ∧ (0 ≤ c 3 j ∧ c 3 j ≤ 8)) (hd : ∀ j, 0 ≤ j → j < V 0 → d 2 j = c 2 j ∧ d 3 j = c 3 j) {p : Int} (p0 : 0 ≤ p ∧ p < 100) (b1 b2 : Int32) (r0 r1 r4 r5 : Nat → Int32) (k : Int32 → Option (Int32 × Int32 × Int32 × (Nat → Int32) × (Nat → Int32) × (Nat → Int32) × (Nat → Int32) × (Nat → Int32) × (Nat → Int32))) :
    ∃ z : Nat, z < 2048 ∧ f_X3_imagePixels S (lA (d 2)) (lA (d 3)) (iI p) = some (iI (z : Int)) ∧ f_X11_fill_L19 (lA V) (iI p) (b1, b2, r0, r1, lA (c 2), lA (c 3), r4, r5) k g_fuel 0 0 = k (iI (z : Int)) := by
  have hn := hi.1
  have h3 : V 3 ≤ 4 := by unfold vSet at hs; omega
  have h13 := hp.1
  have e0 : S 0 0 = iI (V 0) := hr.1.1
  unfold f_X3_imagePixels
  obtain ⟨fu, hfu, hfu2⟩ := fuel_ex; rw [hfu]
  rw [il_0]
  refine lpp (fun n s (u : Int) => (f_X3_imagePixels_L4 S (lA (d 2)) (lA (d 3)) (iI p) n (iI u) (iI s), f_X11_fill_L19 (lA V) (iI p) (b1, b2, r0, r1, lA (c 2), lA (c 3), r4, r5) k n (iI u) (iI s))) (fun r => ∃ z : Nat, z < 2048 ∧ r.1 = some (iI (z : Int)) ∧ r.2 = k (iI (z : Int))) (V 0) (fun s u => 0 ≤ s ∧ 0 ≤ u ∧ u ≤ 64 * s) ?_ ?_ fu 0 0 (by omega) (by omega) (by omega)
  · rintro n u ⟨-, u0, u1⟩
    obtain ⟨z, rfl⟩ : ∃ z : Nat, u = z := ⟨u.toNat, by omega⟩
    refine ⟨z, by omega, ?_, ?_⟩
    · show f_X3_imagePixels_L4 S _ _ _ (n + 1) (iI z) (iI (V 0)) = _
      rw [f_X3_imagePixels_L4, e0, if_pos (Int32.le_refl _)]
    · show f_X11_fill_L19 _ _ _ _ (n + 1) (iI z) (iI (V 0)) = _
      rw [f_X11_fill_L19, il_0, rd_lA _ _ (by omega) (by omega) (by omega), if_pos (Int32.le_refl _)]
  · rintro n s u hs1 ⟨s0, u0, u1⟩ ih
    have hpg := hp.2.1 s s0 hs1
    have e8 := hr.2.2.2.2.1 s s0 (by omega)
    obtain ⟨d2, d3⟩ := hd s s0 hs1
    obtain ⟨c2, c3⟩ := hc s s0 hs1
    show ∃ z : Nat, z < 2048 ∧ f_X3_imagePixels_L4 S _ _ _ (n + 1) (iI u) (iI s) = _ ∧ f_X11_fill_L19 _ _ _ _ (n + 1) (iI u) (iI s) = _
    rw [f_X3_imagePixels_L4, f_X11_fill_L19, e0, sA_lA S 8]
    by_cases hon : V (20 + 72 * s + 3) = p
    · rw [if_pos ⟨hs1, by omega⟩] at e8
      have hm0 : 0 ≤ c 2 s * c 3 s := Int.mul_nonneg c2.1 c3.1
      have hm1 : c 2 s * c 3 s ≤ 8 * 8 := Int.mul_le_mul c2.2 c3.2 c3.1 (by omega)
      have ih := ih (u + c 2 s * c 3 s) (by omega)
      simp (disch := omega) only [↓bd_e, ↓jn_e, ↓opt_bind, ↓reduceIte, iLeT, iLeF, iLtT, iLtF, iEqT, iEqF, il_0, il_1, il_2, il_3, il_4, il_5, il_6, il_7, il_8, il_9, il_10, il_11, il_12, il_13, il_14, il_15, il_16, il_18, il_20, il_24, il_32, il_35, il_40, il_44, il_47, il_48, il_56, il_57, il_58, il_59, il_63, il_64, il_72, il_100, il_120, il_126, il_127, il_160, il_192, il_255, il_349, il_1748, il_6992, iI_add, iI_sub, iI_mul, iI_neg, iI_le, iI_lt, iI_eq, rd_lA, wr_lA, rd_lR, wr_lR, ite_iI, max_iI, min_iI, rem_iI, div_iI, ite_true, ite_false, if_true, if_false, ite_self, and_self, and_true, true_and, and_false, false_and, or_self, or_true, true_or, or_false, false_or, not_true_eq_false, not_false_eq_true, e8, f_X11_at, d2, d3]
      exact ih
    · have ih := ih u (by omega)
      have e8' : ¬ sA S 8 s = p ∧ -4 ≤ sA S 8 s ∧ sA S 8 s < 100 := by
        rw [e8]
        split <;> omega
      simp (disch := omega) only [↓bd_e, ↓jn_e, ↓opt_bind, ↓reduceIte, iLeT, iLeF, iLtT, iLtF, iEqT, iEqF, il_0, il_1, il_2, il_3, il_4, il_5, il_6, il_7, il_8, il_9, il_10, il_11, il_12, il_13, il_14, il_15, il_16, il_18, il_20, il_24, il_32, il_35, il_40, il_44, il_47, il_48, il_56, il_57, il_58, il_59, il_63, il_64, il_72, il_100, il_120, il_126, il_127, il_160, il_192, il_255, il_349, il_1748, il_6992, iI_add, iI_sub, iI_mul, iI_neg, iI_le, iI_lt, iI_eq, rd_lA, wr_lA, rd_lR, wr_lR, ite_iI, max_iI, min_iI, rem_iI, div_iI, ite_true, ite_false, if_true, if_false, ite_self, and_self, and_true, true_and, and_false, false_and, or_self, or_true, true_or, or_false, false_or, not_true_eq_false, not_false_eq_true, f_X11_at]
      rw [Int.add_zero]
      exact ih
theorem x_fill {V : Int → Int} {c : Nat → Int → Int} {S : Nat → Nat → Int32} {d : Nat → Int → Int} {l p : Int} {F : Int → Nat → Nat → Int32} {P : Int → Int} (h : stI V c S d l p F P) (bx bY : Int32) (cm : Nat → Int → Int) {i : Int} (hir : -2147483648 ≤ i ∧ i < 2147483648) (on : Int32) :
    ∃ (a bx' bY' : Int32) (cm' : Nat → Int → Int), f_X10_fill S (lA (d 2)) (lA (d 3)) (iI i) on = some a ∧ f_X11_fill bx bY (lA V) (lA (cm 0)) (lA (cm 1)) (lA (cm 2)) (lA (cm 3)) (lA (cm 4)) (lA (cm 5)) (iI i) on = some (a, bx', bY', lA (cm' 0), lA (cm' 1), lA (cm' 2), lA (cm' 3), lA (cm' 4), lA (cm' 5)) := by
  obtain ⟨g1, g2, g3, g4, g5⟩ := id h
  obtain ⟨go, gs, gi, gp, gg⟩ := id g1
  have h3 : (V 3 ≤ 4 ∧ (4 ≤ V 1 ∧ V 1 ≤ 32) ∧ (4 ≤ V 2 ∧ V 2 ≤ 32)) ∧ (0 ≤ V 7 ∧ V 7 ≤ 1) ∧ (0 ≤ V 8 ∧ V 8 ≤ 3) := by unfold vSet at gs; omega
  have h13 := gp.1
  have e0 : S 5 0 = iI (V 1) := g2.2.1 0 (by omega)
  have e1 : S 5 1 = iI (V 2) := g2.2.1 1 (by omega)
  unfold f_X10_fill f_X11_fill
  rw [c_page g2 (by omega) hir, m_page (by omega) hir, opt_bind, opt_bind]
  by_cases hq : 0 ≤ i ∧ i ≤ V 13 - 1
  · rw [if_pos hq, if_neg (by decide +kernel : ¬ iI 1 = (0 : Int32)), if_neg (by decide +kernel : ¬ iI 1 = (0 : Int32))]
    obtain ⟨bx', bY', c', k1, k2⟩ := m_knows gi h3.2 cm bx bY
    have hD : ∀ j, 0 ≤ j → j < V 0 → vDe c' d j := fun j j0 j1 => vDe_Dd (vDd_cEq (vCat_uniq g3 k2) j0 j1 (cat_r gi g3 j j0 j1).1.1 (g4 j j0 j1))
    rw [k1, opt_bind, jn_e]
    obtain ⟨z, z0, s1, s2⟩ := x_pixels gs gi gp g2 (fun j j0 j1 => by have := (cat_r gi k2 j j0 j1).1; omega) (fun j j0 j1 => ⟨(hD j j0 j1).1, (hD j j0 j1).2.1⟩) (p := i) (by omega) bx' bY' (lA (c' 0)) (lA (c' 1)) (lA (c' 4)) (lA (c' 5)) (fun x3 => g_rd (lA V) 1748 1 fun x5 => g_rd (lA V) 1748 2 fun x6 => g_bd (x5 * x6) fun x7 => g_jn (fun x8 => if on = 0 then (g_nz x8 <| some (x3 / x8, bx', bY', lA (c' 0), lA (c' 1), lA (c' 2), lA (c' 3), lA (c' 4), lA (c' 5))) else (g_nz x8 <| some (x7 / x8, bx', bY', lA (c' 0), lA (c' 1), lA (c' 2), lA (c' 3), lA (c' 4), lA (c' 5)))) fun k118 => f_X11_fill_L95 k118 g_fuel x3 x7)
    have hm0 : 16 ≤ V 1 * V 2 := Int.mul_le_mul (a := 4) (b := 4) h3.1.2.1.1 h3.1.2.2.1 (by omega) (by omega)
    have hm1 : V 1 * V 2 ≤ 32 * 32 := Int.mul_le_mul h3.1.2.1.2 h3.1.2.2.2 (by omega) (by omega)
    obtain ⟨w, hw⟩ : ∃ w : Nat, V 1 * V 2 = w := ⟨(V 1 * V 2).toNat, by omega⟩
    have hg : 0 < Nat.gcd w z := Nat.gcd_pos_of_pos_left z (by omega)
    have hg2 : Nat.gcd w z ≤ w := Nat.gcd_le_left z (by omega)
    rw [s1, opt_bind, e0, e1, iI_mul, hw, bd_e, c_common (by omega) z0, opt_bind, bd_e, nzp_iI _ (by omega) (by omega)]
    refine ⟨_, bx', bY', c', rfl, ?_⟩
    refine Eq.trans s2 ?_
    obtain ⟨fu, hfu, hfu2⟩ := fuel_ex; rw [hfu]
    rw [il_1, il_2, rd_lA _ _ (by omega) (by omega) (by omega), rd_lA _ _ (by omega) (by omega) (by omega), iI_mul, hw, bd_e, jn_e, m_gcd w _ _ _ (by omega) (by omega) (by omega) (by omega), Nat.gcd_comm z w, nzp_iI _ (by omega) (by omega), nzp_iI _ (by omega) (by omega)]
    by_cases ho : on = 0
    · rw [if_pos ho, if_pos ho]
    · rw [if_neg ho, if_neg ho]
  · rw [if_neg hq, if_pos (by decide +kernel : iI 0 = (0 : Int32)), if_pos (by decide +kernel : iI 0 = (0 : Int32))]
    exact ⟨_, bx, bY, cm, rfl, rfl⟩
