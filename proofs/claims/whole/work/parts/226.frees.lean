/-! the reference's free rectangles -/
def bxR (W H m : Int) (X Y BW BH : Int → Int) : Prop := ∀ k, 0 ≤ k → k < m → 0 ≤ X k ∧ 1 ≤ BW k ∧ X k + BW k ≤ W ∧ 0 ≤ Y k ∧ 1 ≤ BH k ∧ Y k + BH k ≤ H
/-- the boxes hold column a somewhere in the rows from u to v -/
def hld (m : Int) (X Y BW BH : Int → Int) (a u v : Int) : Prop := ∃ k, 0 ≤ k ∧ k < m ∧ X k ≤ a ∧ a < X k + BW k ∧ Y k < v ∧ u < Y k + BH k
theorem m_isHeld {W H m : Int} {X Y BW BH : Int → Int} (hm : 0 ≤ m ∧ m ≤ 24) (hr : bxR W H m X Y BW BH) (hW : W ≤ 35) (hH : H ≤ 35) {a u v : Int} (ha : -1 ≤ a ∧ a < 100) (hu : 0 ≤ u ∧ u < 100) (hv : 0 ≤ v ∧ v < 100) : ∃ r, f_X11_isHeld (iI m) (lA X) (lA Y) (lA BW) (lA BH) (iI a) (iI u) (iI v) = some (iI r) ∧ isF r (hld m X Y BW BH a u v) := by
  unfold f_X11_isHeld
  obtain ⟨fu, hfu, hfu2⟩ := fuel_ex; rw [hfu]
  refine lp (fun n k (t : Int) => f_X11_isHeld_L6 (iI m) (lA X) (lA Y) (lA BW) (lA BH) (iI a) (iI u) (iI v) n (iI t) (iI k)) (fun r => ∃ r', r = some (iI r') ∧ isF r' (hld m X Y BW BH a u v)) m
    (fun k t => 0 ≤ k ∧ isF t (∃ j, 0 ≤ j ∧ j < k ∧ X j ≤ a ∧ a < X j + BW j ∧ Y j < v ∧ u < Y j + BH j)) ?_ ?_ fu 0 0 (by omega) (by omega) ⟨by omega, isF_F (fun ⟨j, j0, j1, _⟩ => by omega)⟩
  · rintro n t ⟨-, ht⟩
    have hz : t = 0 ∨ t = 1 := by rcases ht with ⟨h, -⟩ | ⟨h, -⟩ <;> omega
    unfold f_X11_isHeld_L6
    simp (disch := omega) only [↓bd_e, ↓jn_e, ↓opt_bind, ↓reduceIte, iLeT, iLeF, iLtT, iLtF, iEqT, iEqF, il_0, il_1, il_2, il_3, il_4, il_5, il_6, il_7, il_8, il_9, il_10, il_11, il_12, il_13, il_14, il_15, il_16, il_18, il_20, il_24, il_32, il_35, il_40, il_44, il_47, il_48, il_56, il_57, il_58, il_59, il_63, il_64, il_72, il_100, il_120, il_126, il_127, il_160, il_192, il_255, il_349, il_1748, il_6992, iI_add, iI_sub, iI_mul, iI_neg, iI_le, iI_lt, iI_eq, rd_lA, wr_lA, rd_lR, wr_lR, ite_iI, max_iI, min_iI, rem_iI, div_iI, ite_true, ite_false, if_true, if_false, ite_self, and_self, and_true, true_and, and_false, false_and, or_self, or_true, true_or, or_false, false_or, not_true_eq_false, not_false_eq_true, z_iI _ hz]
    exact ⟨t, rfl, ht⟩
  · rintro n k t hk ⟨hk0, ht⟩ ih
    have hb := hr k hk0 hk
    unfold f_X11_isHeld_L6
    rcases ht with ⟨rfl, j, j0, j1, j2⟩ | ⟨rfl, ht⟩
    · simp (disch := omega) only [↓bd_e, ↓jn_e, ↓opt_bind, ↓reduceIte, iLeT, iLeF, iLtT, iLtF, iEqT, iEqF, il_0, il_1, il_2, il_3, il_4, il_5, il_6, il_7, il_8, il_9, il_10, il_11, il_12, il_13, il_14, il_15, il_16, il_18, il_20, il_24, il_32, il_35, il_40, il_44, il_47, il_48, il_56, il_57, il_58, il_59, il_63, il_64, il_72, il_100, il_120, il_126, il_127, il_160, il_192, il_255, il_349, il_1748, il_6992, iI_add, iI_sub, iI_mul, iI_neg, iI_le, iI_lt, iI_eq, rd_lA, wr_lA, rd_lR, wr_lR, ite_iI, max_iI, min_iI, rem_iI, div_iI, ite_true, ite_false, if_true, if_false, ite_self, and_self, and_true, true_and, and_false, false_and, or_self, or_true, true_or, or_false, false_or, not_true_eq_false, not_false_eq_true, z_iI _ (Or.inr (rfl : (1 : Int) = 1))]
      exact ⟨1, rfl, isF_T ⟨j, j0, by omega, j2⟩⟩
    · have hno : ¬ (X k ≤ a ∧ a < X k + BW k ∧ Y k < v ∧ u < Y k + BH k) → ¬ ∃ j, 0 ≤ j ∧ j < k + 1 ∧ X j ≤ a ∧ a < X j + BW j ∧ Y j < v ∧ u < Y j + BH j := by
        rintro hn ⟨j, j0, j1, j2⟩
        by_cases e : j = k
        · rw [e] at j2; exact hn j2
        · exact ht ⟨j, j0, by omega, j2⟩
      have hin := in_iI (a := a) (b := X k) (c := X k + BW k - 1) (by omega) (by omega) (by omega) (by omega) (by omega) (by omega)
      by_cases c1 : X k ≤ a ∧ a ≤ X k + BW k - 1
      · rw [if_pos c1] at hin
        by_cases c2 : v ≤ Y k
        · simp (disch := omega) only [↓bd_e, ↓jn_e, ↓opt_bind, ↓reduceIte, iLeT, iLeF, iLtT, iLtF, iEqT, iEqF, il_0, il_1, il_2, il_3, il_4, il_5, il_6, il_7, il_8, il_9, il_10, il_11, il_12, il_13, il_14, il_15, il_16, il_18, il_20, il_24, il_32, il_35, il_40, il_44, il_47, il_48, il_56, il_57, il_58, il_59, il_63, il_64, il_72, il_100, il_120, il_126, il_127, il_160, il_192, il_255, il_349, il_1748, il_6992, iI_add, iI_sub, iI_mul, iI_neg, iI_le, iI_lt, iI_eq, rd_lA, wr_lA, rd_lR, wr_lR, ite_iI, max_iI, min_iI, rem_iI, div_iI, ite_true, ite_false, if_true, if_false, ite_self, and_self, and_true, true_and, and_false, false_and, or_self, or_true, true_or, or_false, false_or, not_true_eq_false, not_false_eq_true, hin]
          exact ih 0 ⟨by omega, isF_F (hno (fun h => by omega))⟩
        · by_cases c3 : Y k + BH k ≤ u
          · simp (disch := omega) only [↓bd_e, ↓jn_e, ↓opt_bind, ↓reduceIte, iLeT, iLeF, iLtT, iLtF, iEqT, iEqF, il_0, il_1, il_2, il_3, il_4, il_5, il_6, il_7, il_8, il_9, il_10, il_11, il_12, il_13, il_14, il_15, il_16, il_18, il_20, il_24, il_32, il_35, il_40, il_44, il_47, il_48, il_56, il_57, il_58, il_59, il_63, il_64, il_72, il_100, il_120, il_126, il_127, il_160, il_192, il_255, il_349, il_1748, il_6992, iI_add, iI_sub, iI_mul, iI_neg, iI_le, iI_lt, iI_eq, rd_lA, wr_lA, rd_lR, wr_lR, ite_iI, max_iI, min_iI, rem_iI, div_iI, ite_true, ite_false, if_true, if_false, ite_self, and_self, and_true, true_and, and_false, false_and, or_self, or_true, true_or, or_false, false_or, not_true_eq_false, not_false_eq_true, hin]
            exact ih 0 ⟨by omega, isF_F (hno (fun h => by omega))⟩
          · simp (disch := omega) only [↓bd_e, ↓jn_e, ↓opt_bind, ↓reduceIte, iLeT, iLeF, iLtT, iLtF, iEqT, iEqF, il_0, il_1, il_2, il_3, il_4, il_5, il_6, il_7, il_8, il_9, il_10, il_11, il_12, il_13, il_14, il_15, il_16, il_18, il_20, il_24, il_32, il_35, il_40, il_44, il_47, il_48, il_56, il_57, il_58, il_59, il_63, il_64, il_72, il_100, il_120, il_126, il_127, il_160, il_192, il_255, il_349, il_1748, il_6992, iI_add, iI_sub, iI_mul, iI_neg, iI_le, iI_lt, iI_eq, rd_lA, wr_lA, rd_lR, wr_lR, ite_iI, max_iI, min_iI, rem_iI, div_iI, ite_true, ite_false, if_true, if_false, ite_self, and_self, and_true, true_and, and_false, false_and, or_self, or_true, true_or, or_false, false_or, not_true_eq_false, not_false_eq_true, hin]
            exact ih 1 ⟨by omega, isF_T ⟨k, hk0, by omega, by omega⟩⟩
      · rw [if_neg c1] at hin
        simp (disch := omega) only [↓bd_e, ↓jn_e, ↓opt_bind, ↓reduceIte, iLeT, iLeF, iLtT, iLtF, iEqT, iEqF, il_0, il_1, il_2, il_3, il_4, il_5, il_6, il_7, il_8, il_9, il_10, il_11, il_12, il_13, il_14, il_15, il_16, il_18, il_20, il_24, il_32, il_35, il_40, il_44, il_47, il_48, il_56, il_57, il_58, il_59, il_63, il_64, il_72, il_100, il_120, il_126, il_127, il_160, il_192, il_255, il_349, il_1748, il_6992, iI_add, iI_sub, iI_mul, iI_neg, iI_le, iI_lt, iI_eq, rd_lA, wr_lA, rd_lR, wr_lR, ite_iI, max_iI, min_iI, rem_iI, div_iI, ite_true, ite_false, if_true, if_false, ite_self, and_self, and_true, true_and, and_false, false_and, or_self, or_true, true_or, or_false, false_or, not_true_eq_false, not_false_eq_true, hin]
        exact ih 0 ⟨by omega, isF_F (hno (fun h => by omega))⟩
/-- the four arrays hold the rectangles of S in their order -/
def frI (f : Int) (X Y W H : Int → Int) (S : Int → Prop) : Prop := En f (fun k => cd (X k) (Y k) (W k) (H k)) S ∧ ∀ k, 0 ≤ k → k < f → 0 ≤ X k ∧ X k < 64 ∧ 0 ≤ Y k ∧ Y k < 64 ∧ 0 < W k ∧ W k < 64 ∧ 0 < H k ∧ H k < 64
theorem m_isBehind {X Y W : Int → Int} {k x y w : Int} (hk : 0 ≤ k ∧ k < 2000) (h1 : 0 ≤ X k ∧ X k < 64) (h2 : 0 ≤ Y k ∧ Y k < 64) (h3 : 0 ≤ W k ∧ W k < 64) (hx : 0 ≤ x ∧ x < 64) (hy : 0 ≤ y ∧ y < 64) (hw : 0 ≤ w ∧ w < 64) : f_X11_isBehind (lA X) (lA Y) (lA W) (iI k) (iI x) (iI y) (iI w) = some (iI (if y < Y k ∨ (Y k = y ∧ (x < X k ∨ (X k = x ∧ w < W k))) then 1 else 0)) := by
  unfold f_X11_isBehind
  by_cases c1 : y < Y k
  · simp (disch := omega) only [↓bd_e, ↓jn_e, ↓opt_bind, ↓reduceIte, iLeT, iLeF, iLtT, iLtF, iEqT, iEqF, il_0, il_1, il_2, il_3, il_4, il_5, il_6, il_7, il_8, il_9, il_10, il_11, il_12, il_13, il_14, il_15, il_16, il_18, il_20, il_24, il_32, il_35, il_40, il_44, il_47, il_48, il_56, il_57, il_58, il_59, il_63, il_64, il_72, il_100, il_120, il_126, il_127, il_160, il_192, il_255, il_349, il_1748, il_6992, iI_add, iI_sub, iI_mul, iI_neg, iI_le, iI_lt, iI_eq, rd_lA, wr_lA, rd_lR, wr_lR, ite_iI, max_iI, min_iI, rem_iI, div_iI, ite_true, ite_false, if_true, if_false, ite_self, and_self, and_true, true_and, and_false, false_and, or_self, or_true, true_or, or_false, false_or, not_true_eq_false, not_false_eq_true]
  · by_cases c2 : Y k = y
    · by_cases c3 : x < X k
      · simp (disch := omega) only [↓bd_e, ↓jn_e, ↓opt_bind, ↓reduceIte, iLeT, iLeF, iLtT, iLtF, iEqT, iEqF, il_0, il_1, il_2, il_3, il_4, il_5, il_6, il_7, il_8, il_9, il_10, il_11, il_12, il_13, il_14, il_15, il_16, il_18, il_20, il_24, il_32, il_35, il_40, il_44, il_47, il_48, il_56, il_57, il_58, il_59, il_63, il_64, il_72, il_100, il_120, il_126, il_127, il_160, il_192, il_255, il_349, il_1748, il_6992, iI_add, iI_sub, iI_mul, iI_neg, iI_le, iI_lt, iI_eq, rd_lA, wr_lA, rd_lR, wr_lR, ite_iI, max_iI, min_iI, rem_iI, div_iI, ite_true, ite_false, if_true, if_false, ite_self, and_self, and_true, true_and, and_false, false_and, or_self, or_true, true_or, or_false, false_or, not_true_eq_false, not_false_eq_true]
      · by_cases c4 : X k = x
        · by_cases c5 : W k ≤ w
          · simp (disch := omega) only [↓bd_e, ↓jn_e, ↓opt_bind, ↓reduceIte, iLeT, iLeF, iLtT, iLtF, iEqT, iEqF, il_0, il_1, il_2, il_3, il_4, il_5, il_6, il_7, il_8, il_9, il_10, il_11, il_12, il_13, il_14, il_15, il_16, il_18, il_20, il_24, il_32, il_35, il_40, il_44, il_47, il_48, il_56, il_57, il_58, il_59, il_63, il_64, il_72, il_100, il_120, il_126, il_127, il_160, il_192, il_255, il_349, il_1748, il_6992, iI_add, iI_sub, iI_mul, iI_neg, iI_le, iI_lt, iI_eq, rd_lA, wr_lA, rd_lR, wr_lR, ite_iI, max_iI, min_iI, rem_iI, div_iI, ite_true, ite_false, if_true, if_false, ite_self, and_self, and_true, true_and, and_false, false_and, or_self, or_true, true_or, or_false, false_or, not_true_eq_false, not_false_eq_true]
          · simp (disch := omega) only [↓bd_e, ↓jn_e, ↓opt_bind, ↓reduceIte, iLeT, iLeF, iLtT, iLtF, iEqT, iEqF, il_0, il_1, il_2, il_3, il_4, il_5, il_6, il_7, il_8, il_9, il_10, il_11, il_12, il_13, il_14, il_15, il_16, il_18, il_20, il_24, il_32, il_35, il_40, il_44, il_47, il_48, il_56, il_57, il_58, il_59, il_63, il_64, il_72, il_100, il_120, il_126, il_127, il_160, il_192, il_255, il_349, il_1748, il_6992, iI_add, iI_sub, iI_mul, iI_neg, iI_le, iI_lt, iI_eq, rd_lA, wr_lA, rd_lR, wr_lR, ite_iI, max_iI, min_iI, rem_iI, div_iI, ite_true, ite_false, if_true, if_false, ite_self, and_self, and_true, true_and, and_false, false_and, or_self, or_true, true_or, or_false, false_or, not_true_eq_false, not_false_eq_true]
        · simp (disch := omega) only [↓bd_e, ↓jn_e, ↓opt_bind, ↓reduceIte, iLeT, iLeF, iLtT, iLtF, iEqT, iEqF, il_0, il_1, il_2, il_3, il_4, il_5, il_6, il_7, il_8, il_9, il_10, il_11, il_12, il_13, il_14, il_15, il_16, il_18, il_20, il_24, il_32, il_35, il_40, il_44, il_47, il_48, il_56, il_57, il_58, il_59, il_63, il_64, il_72, il_100, il_120, il_126, il_127, il_160, il_192, il_255, il_349, il_1748, il_6992, iI_add, iI_sub, iI_mul, iI_neg, iI_le, iI_lt, iI_eq, rd_lA, wr_lA, rd_lR, wr_lR, ite_iI, max_iI, min_iI, rem_iI, div_iI, ite_true, ite_false, if_true, if_false, ite_self, and_self, and_true, true_and, and_false, false_and, or_self, or_true, true_or, or_false, false_or, not_true_eq_false, not_false_eq_true]
    · simp (disch := omega) only [↓bd_e, ↓jn_e, ↓opt_bind, ↓reduceIte, iLeT, iLeF, iLtT, iLtF, iEqT, iEqF, il_0, il_1, il_2, il_3, il_4, il_5, il_6, il_7, il_8, il_9, il_10, il_11, il_12, il_13, il_14, il_15, il_16, il_18, il_20, il_24, il_32, il_35, il_40, il_44, il_47, il_48, il_56, il_57, il_58, il_59, il_63, il_64, il_72, il_100, il_120, il_126, il_127, il_160, il_192, il_255, il_349, il_1748, il_6992, iI_add, iI_sub, iI_mul, iI_neg, iI_le, iI_lt, iI_eq, rd_lA, wr_lA, rd_lR, wr_lR, ite_iI, max_iI, min_iI, rem_iI, div_iI, ite_true, ite_false, if_true, if_false, ite_self, and_self, and_true, true_and, and_false, false_and, or_self, or_true, true_or, or_false, false_or, not_true_eq_false, not_false_eq_true]
theorem m_put {f x y w h : Int} {X Y W H : Int → Int} {S : Int → Prop} (hf : 0 ≤ f ∧ f < 1000) (hI : frI f X Y W H S) (hx : 0 ≤ x ∧ x < 64) (hy : 0 ≤ y ∧ y < 64) (hw : 0 < w ∧ w < 64) (hh : 0 < h ∧ h < 64) (hz : ¬ S (cd x y w h)) (heq : ∀ k, 0 ≤ k → k < f → Y k = y → X k = x → W k = w → H k = h)
    {P : Option (Int32 × (Nat → Int32) × (Nat → Int32) × (Nat → Int32) × (Nat → Int32)) → Prop} (K : Int32 → (Nat → Int32) → (Nat → Int32) → (Nat → Int32) → (Nat → Int32) → Option (Int32 × (Nat → Int32) × (Nat → Int32) × (Nat → Int32) × (Nat → Int32)))
    (hK : ∀ p X' Y' W' H', 0 ≤ p → p ≤ f → frI (f + 1) (uI X' p x) (uI Y' p y) (uI W' p w) (uI H' p h) (fun q => S q ∨ q = cd x y w h) → P (K (iI p) (lA X') (lA Y') (lA W') (lA H'))) (n : Nat) (hn : 1000 < n) : P (f_X11_offers_L49 (iI x) (iI (x + w)) (iI y) K n (iI f) (lA X) (lA Y) (lA W) (lA H)) := by
  obtain ⟨hE, hR⟩ := hI
  have fin : ∀ p X' Y' W' H', 0 ≤ p → p ≤ f → (∀ j, 0 ≤ j → j < p → X' j = X j ∧ Y' j = Y j ∧ W' j = W j ∧ H' j = H j) → (∀ j, p ≤ j → j < f → X' (j + 1) = X j ∧ Y' (j + 1) = Y j ∧ W' (j + 1) = W j ∧ H' (j + 1) = H j ∧ cd x y w h ≤ cd (X j) (Y j) (W j) (H j)) → (0 < p → cd (X (p - 1)) (Y (p - 1)) (W (p - 1)) (H (p - 1)) ≤ cd x y w h) → frI (f + 1) (uI X' p x) (uI Y' p y) (uI W' p w) (uI H' p h) (fun q => S q ∨ q = cd x y w h) := by
    intro p X' Y' W' H' p0 p1 q1 q2 q3
    refine ⟨En_ins hE hz ⟨p0, p1⟩ (fun j j0 j1 => ?_) ?_ (fun j j0 j1 => ?_), fun k k0 k1 => ?_⟩
    · rw [uI_ne (by omega), uI_ne (by omega), uI_ne (by omega), uI_ne (by omega)]
      obtain ⟨r1, r2, r3, r4⟩ := q1 j j0 j1
      rw [r1, r2, r3, r4]
      refine ⟨rfl, ?_⟩
      have h4 := q3 (by omega)
      by_cases e : j = p - 1
      · rw [e]; exact h4
      · have := hE.2.1 j (p - 1) j0 (by omega) (by omega)
        dsimp only at this
        omega
    · rw [uI_self, uI_self, uI_self, uI_self]
    · rw [uI_ne (by omega), uI_ne (by omega), uI_ne (by omega), uI_ne (by omega)]
      obtain ⟨r1, r2, r3, r4, r5⟩ := q2 j j0 j1
      rw [r1, r2, r3, r4]
      exact ⟨rfl, r5⟩
    · by_cases e : k = p
      · subst e
        rw [uI_self, uI_self, uI_self, uI_self]
        omega
      · rw [uI_ne e, uI_ne e, uI_ne e, uI_ne e]
        by_cases e2 : k < p
        · obtain ⟨r1, r2, r3, r4⟩ := q1 k k0 e2
          rw [r1, r2, r3, r4]
          exact hR k k0 (by omega)
        · obtain ⟨r1, r2, r3, r4, -⟩ := q2 (k - 1) (by omega) (by omega)
          rw [show k - 1 + 1 = k by omega] at r1 r2 r3 r4
          rw [r1, r2, r3, r4]
          exact hR (k - 1) (by omega) (by omega)
  have key : P (f_X11_offers_L49 (iI x) (iI (x + w)) (iI y) K n (iI (f - 0)) (lA X) (lA Y) (lA W) (lA H)) := by
    refine lp (fun n i (t : (Int → Int) × (Int → Int) × (Int → Int) × (Int → Int)) => f_X11_offers_L49 (iI x) (iI (x + w)) (iI y) K n (iI (f - i)) (lA t.1) (lA t.2.1) (lA t.2.2.1) (lA t.2.2.2)) P f
      (fun i t => 0 ≤ i ∧ (∀ j, 0 ≤ j → j < f - i → t.1 j = X j ∧ t.2.1 j = Y j ∧ t.2.2.1 j = W j ∧ t.2.2.2 j = H j) ∧ (∀ j, f - i ≤ j → j < f → t.1 (j + 1) = X j ∧ t.2.1 (j + 1) = Y j ∧ t.2.2.1 (j + 1) = W j ∧ t.2.2.2 (j + 1) = H j ∧ cd x y w h ≤ cd (X j) (Y j) (W j) (H j))) ?_ ?_ n 0 (X, Y, W, H) (by omega) (by omega) ⟨by omega, fun j _ _ => ⟨rfl, rfl, rfl, rfl⟩, fun j _ _ => by omega⟩
    · rintro n ⟨X', Y', W', H'⟩ ⟨-, h1, h2⟩
      dsimp only at h1 h2 ⊢
      rw [show f - f = 0 by omega] at h1 h2 ⊢
      unfold f_X11_offers_L49
      simp (disch := omega) only [↓bd_e, ↓jn_e, ↓opt_bind, ↓reduceIte, iLeT, iLeF, iLtT, iLtF, iEqT, iEqF, il_0, il_1, il_2, il_3, il_4, il_5, il_6, il_7, il_8, il_9, il_10, il_11, il_12, il_13, il_14, il_15, il_16, il_18, il_20, il_24, il_32, il_35, il_40, il_44, il_47, il_48, il_56, il_57, il_58, il_59, il_63, il_64, il_72, il_100, il_120, il_126, il_127, il_160, il_192, il_255, il_349, il_1748, il_6992, iI_add, iI_sub, iI_mul, iI_neg, iI_le, iI_lt, iI_eq, rd_lA, wr_lA, rd_lR, wr_lR, ite_iI, max_iI, min_iI, rem_iI, div_iI, ite_true, ite_false, if_true, if_false, ite_self, and_self, and_true, true_and, and_false, false_and, or_self, or_true, true_or, or_false, false_or, not_true_eq_false, not_false_eq_true]
      exact hK 0 X' Y' W' H' (by omega) hf.1 (fin 0 X' Y' W' H' (by omega) hf.1 (fun j j0 j1 => h1 j j0 j1) (fun j j0 j1 => h2 j j0 j1) (fun h => by omega))
    · rintro n i ⟨X', Y', W', H'⟩ hi ⟨hi0, h1, h2⟩ ih
      dsimp only at h1 h2 ih ⊢
      have hrk := hR (f - i - 1) (by omega) (by omega)
      obtain ⟨r1, r2, r3, r4⟩ := h1 (f - i - 1) (by omega) (by omega)
      have hbe := m_isBehind (X := X') (Y := Y') (W := W') (k := f - i - 1) (x := x) (y := y) (w := w) (by omega) (by omega) (by omega) (by omega) hx hy (by omega)
      rw [r1, r2, r3] at hbe
      have e1 : f - i + -1 = f - (i + 1) := by omega
      have e2 : x + w - x = w := by omega
      have hq := heq (f - i - 1) (by omega) (by omega)
      unfold f_X11_offers_L49
      by_cases hc : y < Y (f - i - 1) ∨ (Y (f - i - 1) = y ∧ (x < X (f - i - 1) ∨ (X (f - i - 1) = x ∧ w < W (f - i - 1))))
      · rw [if_pos hc] at hbe
        have hge : cd x y w h ≤ cd (X (f - i - 1)) (Y (f - i - 1)) (W (f - i - 1)) (H (f - i - 1)) := by
          unfold cd
          omega
        clear hc hq
        simp (disch := omega) only [↓bd_e, ↓jn_e, ↓opt_bind, ↓reduceIte, iLeT, iLeF, iLtT, iLtF, iEqT, iEqF, il_0, il_1, il_2, il_3, il_4, il_5, il_6, il_7, il_8, il_9, il_10, il_11, il_12, il_13, il_14, il_15, il_16, il_18, il_20, il_24, il_32, il_35, il_40, il_44, il_47, il_48, il_56, il_57, il_58, il_59, il_63, il_64, il_72, il_100, il_120, il_126, il_127, il_160, il_192, il_255, il_349, il_1748, il_6992, iI_add, iI_sub, iI_mul, iI_neg, iI_le, iI_lt, iI_eq, rd_lA, wr_lA, rd_lR, wr_lR, ite_iI, max_iI, min_iI, rem_iI, div_iI, ite_true, ite_false, if_true, if_false, ite_self, and_self, and_true, true_and, and_false, false_and, or_self, or_true, true_or, or_false, false_or, not_true_eq_false, not_false_eq_true, e2, hbe, r1, r2, r3, r4, e1]
        refine ih (uI X' (f - i) (X (f - i - 1)), uI Y' (f - i) (Y (f - i - 1)), uI W' (f - i) (W (f - i - 1)), uI H' (f - i) (H (f - i - 1))) ⟨by omega, fun j j0 j1 => ?_, fun j j0 j1 => ?_⟩
        · dsimp only
          rw [uI_ne (by omega), uI_ne (by omega), uI_ne (by omega), uI_ne (by omega)]
          exact h1 j j0 (by omega)
        · dsimp only
          by_cases e : j = f - i - 1
          · subst e
            rw [show f - i - 1 + 1 = f - i by omega, uI_self, uI_self, uI_self, uI_self]
            exact ⟨rfl, rfl, rfl, rfl, hge⟩
          · rw [uI_ne (by omega), uI_ne (by omega), uI_ne (by omega), uI_ne (by omega)]
            exact h2 j (by omega) j1
      · rw [if_neg hc] at hbe
        have hle : cd (X (f - i - 1)) (Y (f - i - 1)) (W (f - i - 1)) (H (f - i - 1)) ≤ cd x y w h := by
          unfold cd
          omega
        clear hc hq
        simp (disch := omega) only [↓bd_e, ↓jn_e, ↓opt_bind, ↓reduceIte, iLeT, iLeF, iLtT, iLtF, iEqT, iEqF, il_0, il_1, il_2, il_3, il_4, il_5, il_6, il_7, il_8, il_9, il_10, il_11, il_12, il_13, il_14, il_15, il_16, il_18, il_20, il_24, il_32, il_35, il_40, il_44, il_47, il_48, il_56, il_57, il_58, il_59, il_63, il_64, il_72, il_100, il_120, il_126, il_127, il_160, il_192, il_255, il_349, il_1748, il_6992, iI_add, iI_sub, iI_mul, iI_neg, iI_le, iI_lt, iI_eq, rd_lA, wr_lA, rd_lR, wr_lR, ite_iI, max_iI, min_iI, rem_iI, div_iI, ite_true, ite_false, if_true, if_false, ite_self, and_self, and_true, true_and, and_false, false_and, or_self, or_true, true_or, or_false, false_or, not_true_eq_false, not_false_eq_true, e2, hbe]
        exact hK (f - i) X' Y' W' H' (by omega) (by omega) (fin (f - i) X' Y' W' H' (by omega) (by omega) h1 h2 (fun _ => hle))
  rw [show f - 0 = f by omega] at key
  exact key
