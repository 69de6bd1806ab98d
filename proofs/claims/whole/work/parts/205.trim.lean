/-! the reference's trim rectangle -/
def trS (W y x p q : Int) : Prop := 0 ≤ p ∧ p < W ∧ 0 ≤ q ∧ (q < y ∨ (q = y ∧ p < x))
def trI (V : Int → Int) (s W H y x a b c d : Int) : Prop :=
  (c = -1 ∧ d = -1 ∧ a = W ∧ b = H ∧ ∀ p q, trS W y x p q → ¬ nzp V s p q) ∨
  ((0 ≤ a ∧ a ≤ c ∧ c < W ∧ 0 ≤ b ∧ b ≤ d ∧ d < H) ∧ (∀ p q, trS W y x p q → nzp V s p q → a ≤ p ∧ p ≤ c ∧ b ≤ q ∧ q ≤ d) ∧
    (∃ q, trS W y x a q ∧ nzp V s a q) ∧ (∃ q, trS W y x c q ∧ nzp V s c q) ∧ (∃ p, trS W y x p b ∧ nzp V s p b) ∧ (∃ p, trS W y x p d ∧ nzp V s p d))
theorem trS_mono {W y x p q : Int} (h : trS W y x p q) : trS W y (x + 1) p q := by unfold trS at h ⊢; omega
theorem trS_row {W y p q : Int} : trS W y W p q ↔ trS W (y + 1) 0 p q := by unfold trS; omega
theorem trS_last {W y x p q : Int} (h : trS W y (x + 1) p q) : trS W y x p q ∨ (p = x ∧ q = y) := by unfold trS at h ⊢; omega
theorem trI_no {V : Int → Int} {s W H y x a b c d : Int} (h : trI V s W H y x a b c d) (hn : ¬ nzp V s x y) : trI V s W H y (x + 1) a b c d := by
  rcases h with ⟨h1, h2, h3, h4, h5⟩ | ⟨h1, h2, ⟨q1, g1⟩, ⟨q2, g2⟩, ⟨p3, g3⟩, ⟨p4, g4⟩⟩
  · refine Or.inl ⟨h1, h2, h3, h4, fun p q hs => ?_⟩
    rcases trS_last hs with h | ⟨rfl, rfl⟩
    · exact h5 p q h
    · exact hn
  · refine Or.inr ⟨h1, fun p q hs hz => ?_, ⟨q1, trS_mono g1.1, g1.2⟩, ⟨q2, trS_mono g2.1, g2.2⟩, ⟨p3, trS_mono g3.1, g3.2⟩, ⟨p4, trS_mono g4.1, g4.2⟩⟩
    rcases trS_last hs with h | ⟨rfl, rfl⟩
    · exact h2 p q h hz
    · exact absurd hz hn
theorem trI_yes {V : Int → Int} {s W H y x a b c d : Int} (h : trI V s W H y x a b c d) (hn : nzp V s x y) (hx : 0 ≤ x) (hxW : x < W) (hy : 0 ≤ y) (hyH : y < H) : trI V s W H y (x + 1) (if a ≤ x then a else x) (if b ≤ y then b else y) (if x ≤ c then c else x) (if y ≤ d then d else y) := by
  have hS : trS W y (x + 1) x y := by unfold trS; omega
  rcases h with ⟨h1, h2, h3, h4, h5⟩ | ⟨h1, h2, ⟨q1, g1, g1'⟩, ⟨q2, g2, g2'⟩, ⟨p3, g3, g3'⟩, ⟨p4, g4, g4'⟩⟩
  · rw [if_neg (by omega), if_neg (by omega), if_neg (by omega), if_neg (by omega)]
    refine Or.inr ⟨by omega, fun p q hs hz => ?_, ⟨y, hS, hn⟩, ⟨y, hS, hn⟩, ⟨x, hS, hn⟩, ⟨x, hS, hn⟩⟩
    rcases trS_last hs with h | ⟨rfl, rfl⟩
    · exact absurd hz (h5 p q h)
    · omega
  · refine Or.inr ⟨?_, fun p q hs hz => ?_, ?_, ?_, ?_, ?_⟩
    · split <;> split <;> split <;> split <;> omega
    · have h6 : (p = x ∧ q = y) ∨ (a ≤ p ∧ p ≤ c ∧ b ≤ q ∧ q ≤ d) := by
        rcases trS_last hs with h | h
        · exact Or.inr (h2 p q h hz)
        · exact Or.inl h
      split <;> split <;> split <;> split <;> omega
    · split
      · exact ⟨q1, trS_mono g1, g1'⟩
      · exact ⟨y, hS, hn⟩
    · split
      · exact ⟨q2, trS_mono g2, g2'⟩
      · exact ⟨y, hS, hn⟩
    · split
      · exact ⟨p3, trS_mono g3, g3'⟩
      · exact ⟨x, hS, hn⟩
    · split
      · exact ⟨p4, trS_mono g4, g4'⟩
      · exact ⟨x, hS, hn⟩
theorem trI_row {V : Int → Int} {s W H y a b c d : Int} (h : trI V s W H y W a b c d) : trI V s W H (y + 1) 0 a b c d := by
  unfold trI at h ⊢
  simp only [trS_row] at h
  exact h
theorem trI_end {V : Int → Int} {s a b c d : Int} (h : trI V s (V (20 + 72 * s + 0)) (V (20 + 72 * s + 1)) (V (20 + 72 * s + 1)) 0 a b c d) : vTrim V s a b (if 0 ≤ c then c - a + 1 else 0) (if 0 ≤ c then d - b + 1 else 0) := by
  have hS : ∀ p q, trS (V (20 + 72 * s + 0)) (V (20 + 72 * s + 1)) 0 p q ↔ (0 ≤ p ∧ p < V (20 + 72 * s + 0) ∧ 0 ≤ q ∧ q < V (20 + 72 * s + 1)) := fun p q => by unfold trS; omega
  unfold trI at h
  simp only [hS] at h
  rcases h with ⟨h1, h2, h3, h4, h5⟩ | ⟨h1, h2, ⟨q1, g1, g1'⟩, ⟨q2, g2, g2'⟩, ⟨p3, g3, g3'⟩, ⟨p4, g4, g4'⟩⟩
  · rw [if_neg (by omega), if_neg (by omega)]
    exact Or.inl ⟨rfl, rfl, fun x y a1 a2 a3 a4 => h5 x y ⟨a1, a2, a3, a4⟩⟩
  · rw [if_pos (by omega), if_pos (by omega)]
    refine Or.inr ⟨by omega, fun x y a1 a2 a3 a4 hz => ?_, ⟨q1, by omega, by omega, g1'⟩, ⟨q2, by omega, by omega, ?_⟩, ⟨p3, by omega, by omega, g3'⟩, ⟨p4, by omega, by omega, ?_⟩⟩
    · have := h2 x y ⟨a1, a2, a3, a4⟩ hz
      omega
    · rw [show a + (c - a + 1) - 1 = c by omega]; exact g2'
    · rw [show b + (d - b + 1) - 1 = d by omega]; exact g4'
theorem m_trims_in {V : Int → Int} {s : Int} (hs : 0 ≤ s ∧ s < 24) (hi : 1 ≤ V (20 + 72 * s + 0) ∧ V (20 + 72 * s + 0) ≤ 8 ∧ 1 ≤ V (20 + 72 * s + 1) ∧ V (20 + 72 * s + 1) ≤ 8) (hp : ∀ x y, 0 ≤ x → x < 8 → 0 ≤ y → y < 8 → 0 ≤ V (20 + 72 * s + 8 + 8 * y + x) ∧ V (20 + 72 * s + 8 + 8 * y + x) ≤ 9) (h7 : 0 ≤ V 7 ∧ V 7 ≤ 1)
    (P : Option ((Nat → Int32) × (Nat → Int32) × (Nat → Int32) × (Nat → Int32)) → Prop) (K) (y : Int) (hy : 0 ≤ y) (hyH : y < V (20 + 72 * s + 1))
    (hK : ∀ a b c d, trI V s (V (20 + 72 * s + 0)) (V (20 + 72 * s + 1)) (y + 1) 0 a b c d → P (K (iI a) (iI b) (iI c) (iI d))) (n : Nat) (a b c d : Int) (hn : 8 < n) (h : trI V s (V (20 + 72 * s + 0)) (V (20 + 72 * s + 1)) y 0 a b c d) :
    P (f_X11_trims_L46 (lA V) (iI s) (iI (V (20 + 72 * s + 0))) (iI y) K n (iI a) (iI b) (iI c) (iI d) (iI 0)) := by
  refine lp (fun n x (t : Int × Int × Int × Int) => f_X11_trims_L46 (lA V) (iI s) (iI (V (20 + 72 * s + 0))) (iI y) K n (iI t.1) (iI t.2.1) (iI t.2.2.1) (iI t.2.2.2) (iI x)) P (V (20 + 72 * s + 0)) (fun x t => 0 ≤ x ∧ trI V s (V (20 + 72 * s + 0)) (V (20 + 72 * s + 1)) y x t.1 t.2.1 t.2.2.1 t.2.2.2) ?_ ?_ n 0 (a, b, c, d) (by omega) (by omega) ⟨by omega, h⟩
  · rintro n ⟨a, b, c, d⟩ ⟨-, h⟩
    dsimp only at h ⊢
    unfold f_X11_trims_L46
    simp (disch := omega) only [↓bd_e, ↓jn_e, ↓opt_bind, ↓reduceIte, iLeT, iLeF, iLtT, iLtF, iEqT, iEqF, il_0, il_1, il_2, il_3, il_4, il_5, il_6, il_7, il_8, il_9, il_10, il_11, il_12, il_13, il_14, il_15, il_16, il_18, il_20, il_24, il_32, il_35, il_40, il_44, il_47, il_48, il_56, il_57, il_58, il_59, il_63, il_64, il_72, il_100, il_120, il_126, il_127, il_160, il_192, il_255, il_349, il_1748, il_6992, iI_add, iI_sub, iI_mul, iI_neg, iI_le, iI_lt, iI_eq, rd_lA, wr_lA, rd_lR, wr_lR, ite_iI, max_iI, min_iI, rem_iI, div_iI, ite_true, ite_false, if_true, if_false, ite_self, and_self, and_true, true_and, and_false, false_and, or_self, or_true, true_or, or_false, false_or, not_true_eq_false, not_false_eq_true]
    exact hK a b c d (trI_row h)
  · rintro n x ⟨a, b, c, d⟩ hx ⟨hx0, h⟩ ih
    dsimp only at h ih ⊢
    have hpx := hp x y (by omega) (by omega) (by omega) (by omega)
    have hab : -1 ≤ a ∧ a ≤ 8 ∧ -1 ≤ b ∧ b ≤ 8 ∧ -1 ≤ c ∧ c ≤ 8 ∧ -1 ≤ d ∧ d ≤ 8 := by
      rcases h with ⟨h1, h2, h3, h4, h5⟩ | ⟨h1, -⟩ <;> omega
    unfold f_X11_trims_L46
    by_cases hz : nzp V s x y
    · have g := ih (_, _, _, _) ⟨by omega, trI_yes h hz (by omega) (by omega) hy hyH⟩
      dsimp only at g
      by_cases hz1 : V (20 + 72 * s + 8 + 8 * y + x) = 0
      · have hz2 : V 7 = 0 := hz.resolve_left (fun q => q hz1)
        simp (disch := omega) only [↓bd_e, ↓jn_e, ↓opt_bind, ↓reduceIte, iLeT, iLeF, iLtT, iLtF, iEqT, iEqF, il_0, il_1, il_2, il_3, il_4, il_5, il_6, il_7, il_8, il_9, il_10, il_11, il_12, il_13, il_14, il_15, il_16, il_18, il_20, il_24, il_32, il_35, il_40, il_44, il_47, il_48, il_56, il_57, il_58, il_59, il_63, il_64, il_72, il_100, il_120, il_126, il_127, il_160, il_192, il_255, il_349, il_1748, il_6992, iI_add, iI_sub, iI_mul, iI_neg, iI_le, iI_lt, iI_eq, rd_lA, wr_lA, rd_lR, wr_lR, ite_iI, max_iI, min_iI, rem_iI, div_iI, ite_true, ite_false, if_true, if_false, ite_self, and_self, and_true, true_and, and_false, false_and, or_self, or_true, true_or, or_false, false_or, not_true_eq_false, not_false_eq_true, f_X11_pixelAt]
        exact g
      · simp (disch := omega) only [↓bd_e, ↓jn_e, ↓opt_bind, ↓reduceIte, iLeT, iLeF, iLtT, iLtF, iEqT, iEqF, il_0, il_1, il_2, il_3, il_4, il_5, il_6, il_7, il_8, il_9, il_10, il_11, il_12, il_13, il_14, il_15, il_16, il_18, il_20, il_24, il_32, il_35, il_40, il_44, il_47, il_48, il_56, il_57, il_58, il_59, il_63, il_64, il_72, il_100, il_120, il_126, il_127, il_160, il_192, il_255, il_349, il_1748, il_6992, iI_add, iI_sub, iI_mul, iI_neg, iI_le, iI_lt, iI_eq, rd_lA, wr_lA, rd_lR, wr_lR, ite_iI, max_iI, min_iI, rem_iI, div_iI, ite_true, ite_false, if_true, if_false, ite_self, and_self, and_true, true_and, and_false, false_and, or_self, or_true, true_or, or_false, false_or, not_true_eq_false, not_false_eq_true, f_X11_pixelAt]
        exact g
    · have g := ih (_, _, _, _) ⟨by omega, trI_no h hz⟩
      dsimp only at g
      have hz1 : V (20 + 72 * s + 8 + 8 * y + x) = 0 := Classical.byContradiction fun q => hz (Or.inl q)
      have hz2 : ¬ V 7 = 0 := fun q => hz (Or.inr q)
      simp (disch := omega) only [↓bd_e, ↓jn_e, ↓opt_bind, ↓reduceIte, iLeT, iLeF, iLtT, iLtF, iEqT, iEqF, il_0, il_1, il_2, il_3, il_4, il_5, il_6, il_7, il_8, il_9, il_10, il_11, il_12, il_13, il_14, il_15, il_16, il_18, il_20, il_24, il_32, il_35, il_40, il_44, il_47, il_48, il_56, il_57, il_58, il_59, il_63, il_64, il_72, il_100, il_120, il_126, il_127, il_160, il_192, il_255, il_349, il_1748, il_6992, iI_add, iI_sub, iI_mul, iI_neg, iI_le, iI_lt, iI_eq, rd_lA, wr_lA, rd_lR, wr_lR, ite_iI, max_iI, min_iI, rem_iI, div_iI, ite_true, ite_false, if_true, if_false, ite_self, and_self, and_true, true_and, and_false, false_and, or_self, or_true, true_or, or_false, false_or, not_true_eq_false, not_false_eq_true, f_X11_pixelAt]
      exact g
theorem m_trims {V : Int → Int} {s : Int} (hs : 0 ≤ s ∧ s < 24) (hi : 1 ≤ V (20 + 72 * s + 0) ∧ V (20 + 72 * s + 0) ≤ 8 ∧ 1 ≤ V (20 + 72 * s + 1) ∧ V (20 + 72 * s + 1) ≤ 8) (hp : ∀ x y, 0 ≤ x → x < 8 → 0 ≤ y → y < 8 → 0 ≤ V (20 + 72 * s + 8 + 8 * y + x) ∧ V (20 + 72 * s + 8 + 8 * y + x) ≤ 9) (h7 : 0 ≤ V 7 ∧ V 7 ≤ 1) (L T W H : Int → Int) :
    ∃ l t w h, vTrim V s l t w h ∧ f_X11_trims (lA V) (lA L) (lA T) (lA W) (lA H) (iI s) = some (lA (uI L s l), lA (uI T s t), lA (uI W s w), lA (uI H s h)) := by
  unfold f_X11_trims
  obtain ⟨fu, hfu, hfu2⟩ := fuel_ex; rw [hfu]
  simp (disch := omega) only [↓bd_e, ↓jn_e, ↓opt_bind, ↓reduceIte, iLeT, iLeF, iLtT, iLtF, iEqT, iEqF, il_0, il_1, il_2, il_3, il_4, il_5, il_6, il_7, il_8, il_9, il_10, il_11, il_12, il_13, il_14, il_15, il_16, il_18, il_20, il_24, il_32, il_35, il_40, il_44, il_47, il_48, il_56, il_57, il_58, il_59, il_63, il_64, il_72, il_100, il_120, il_126, il_127, il_160, il_192, il_255, il_349, il_1748, il_6992, iI_add, iI_sub, iI_mul, iI_neg, iI_le, iI_lt, iI_eq, rd_lA, wr_lA, rd_lR, wr_lR, ite_iI, max_iI, min_iI, rem_iI, div_iI, ite_true, ite_false, if_true, if_false, ite_self, and_self, and_true, true_and, and_false, false_and, or_self, or_true, true_or, or_false, false_or, not_true_eq_false, not_false_eq_true, f_X11_at]
  refine lp (fun n y (t : Int × Int × Int × Int) => f_X11_trims_L37 (lA V) (iI s) (iI (V (20 + 72 * s + 0))) (iI (V (20 + 72 * s + 1))) _ n (iI t.1) (iI t.2.1) (iI t.2.2.1) (iI t.2.2.2) (iI y)) (fun r => ∃ l t w h, vTrim V s l t w h ∧ r = some (lA (uI L s l), lA (uI T s t), lA (uI W s w), lA (uI H s h))) (V (20 + 72 * s + 1)) (fun y t => 0 ≤ y ∧ trI V s (V (20 + 72 * s + 0)) (V (20 + 72 * s + 1)) y 0 t.1 t.2.1 t.2.2.1 t.2.2.2) ?_ ?_ fu 0 (V (20 + 72 * s + 0), V (20 + 72 * s + 1), -1, -1) (by omega) (by omega) ⟨by omega, Or.inl ⟨rfl, rfl, rfl, rfl, fun p q h => ?_⟩⟩
  · rintro n ⟨a, b, c, d⟩ ⟨-, h⟩
    dsimp only at h ⊢
    have hab : -1 ≤ a ∧ a ≤ 8 ∧ -1 ≤ b ∧ b ≤ 8 ∧ -1 ≤ c ∧ c ≤ 8 ∧ -1 ≤ d ∧ d ≤ 8 := by
      rcases h with ⟨h1, h2, h3, h4, h5⟩ | ⟨h1, -⟩ <;> omega
    unfold f_X11_trims_L37
    simp (disch := omega) only [↓bd_e, ↓jn_e, ↓opt_bind, ↓reduceIte, iLeT, iLeF, iLtT, iLtF, iEqT, iEqF, il_0, il_1, il_2, il_3, il_4, il_5, il_6, il_7, il_8, il_9, il_10, il_11, il_12, il_13, il_14, il_15, il_16, il_18, il_20, il_24, il_32, il_35, il_40, il_44, il_47, il_48, il_56, il_57, il_58, il_59, il_63, il_64, il_72, il_100, il_120, il_126, il_127, il_160, il_192, il_255, il_349, il_1748, il_6992, iI_add, iI_sub, iI_mul, iI_neg, iI_le, iI_lt, iI_eq, rd_lA, wr_lA, rd_lR, wr_lR, ite_iI, max_iI, min_iI, rem_iI, div_iI, ite_true, ite_false, if_true, if_false, ite_self, and_self, and_true, true_and, and_false, false_and, or_self, or_true, true_or, or_false, false_or, not_true_eq_false, not_false_eq_true]
    exact ⟨_, _, _, _, trI_end h, rfl⟩
  · rintro n y ⟨a, b, c, d⟩ hy ⟨hy0, h⟩ ih
    dsimp only at h ih ⊢
    unfold f_X11_trims_L37
    rw [hfu]
    simp (disch := omega) only [↓bd_e, ↓jn_e, ↓opt_bind, ↓reduceIte, iLeT, iLeF, iLtT, iLtF, iEqT, iEqF, il_0, il_1, il_2, il_3, il_4, il_5, il_6, il_7, il_8, il_9, il_10, il_11, il_12, il_13, il_14, il_15, il_16, il_18, il_20, il_24, il_32, il_35, il_40, il_44, il_47, il_48, il_56, il_57, il_58, il_59, il_63, il_64, il_72, il_100, il_120, il_126, il_127, il_160, il_192, il_255, il_349, il_1748, il_6992, iI_add, iI_sub, iI_mul, iI_neg, iI_le, iI_lt, iI_eq, rd_lA, wr_lA, rd_lR, wr_lR, ite_iI, max_iI, min_iI, rem_iI, div_iI, ite_true, ite_false, if_true, if_false, ite_self, and_self, and_true, true_and, and_false, false_and, or_self, or_true, true_or, or_false, false_or, not_true_eq_false, not_false_eq_true]
    exact m_trims_in hs hi hp h7 (fun r => ∃ l t w h, vTrim V s l t w h ∧ r = some (lA (uI L s l), lA (uI T s t), lA (uI W s w), lA (uI H s h))) _ y hy0 hy (fun a b c d h => ih (a, b, c, d) ⟨by omega, h⟩) fu a b c d (by omega) h
  · unfold trS at h
    omega
/-! the class's trim rectangle -/
theorem c_rowOf {R : Int → Int32} {s y : Int} (hs : 0 ≤ s ∧ s < 24) (hy : 0 ≤ y ∧ y < 8) : f_X6_rowOf (lR R) (iI s) (iI y) = some (R (s * 8 + y)) := by
  unfold f_X6_rowOf
  simp (disch := omega) only [↓bd_e, ↓jn_e, ↓opt_bind, ↓reduceIte, iLeT, iLeF, iLtT, iLtF, iEqT, iEqF, il_0, il_1, il_2, il_3, il_4, il_5, il_6, il_7, il_8, il_9, il_10, il_11, il_12, il_13, il_14, il_15, il_16, il_18, il_20, il_24, il_32, il_35, il_40, il_44, il_47, il_48, il_56, il_57, il_58, il_59, il_63, il_64, il_72, il_100, il_120, il_126, il_127, il_160, il_192, il_255, il_349, il_1748, il_6992, iI_add, iI_sub, iI_mul, iI_neg, iI_le, iI_lt, iI_eq, rd_lA, wr_lA, rd_lR, wr_lR, ite_iI, max_iI, min_iI, rem_iI, div_iI, ite_true, ite_false, if_true, if_false, ite_self, and_self, and_true, true_and, and_false, false_and, or_self, or_true, true_or, or_false, false_or, not_true_eq_false, not_false_eq_true]
/-- rows: what a row of the class's holds -/
def vRow (V : Int → Int) (R : Int → Int32) (s : Int) : Prop := ∀ x y, 0 ≤ x → x < 8 → 0 ≤ y → y < V (20 + 72 * s + 1) → nib (R (s * 8 + y)) x = iI (if x < V (20 + 72 * s + 0) then V (20 + 72 * s + 8 + 8 * y + x) else 0)
theorem vRow_nz {V : Int → Int} {R : Int → Int32} {s : Int} (hr : vRow V R s) (hi : 1 ≤ V (20 + 72 * s + 0) ∧ V (20 + 72 * s + 0) ≤ 8 ∧ 1 ≤ V (20 + 72 * s + 1) ∧ V (20 + 72 * s + 1) ≤ 8) (hp : ∀ x y, 0 ≤ x → x < 8 → 0 ≤ y → y < 8 → 0 ≤ V (20 + 72 * s + 8 + 8 * y + x) ∧ V (20 + 72 * s + 8 + 8 * y + x) ≤ 9) (h7 : V 7 = 1) {x y : Int} (hx : 0 ≤ x) (hx8 : x < 8) (hy : 0 ≤ y) (hy8 : y < V (20 + 72 * s + 1)) :
    ¬ nib (R (s * 8 + y)) x = 0 ↔ x < V (20 + 72 * s + 0) ∧ nzp V s x y := by
  have h1 := hp x y hx hx8 hy (by omega)
  rw [hr x y hx hx8 hy hy8, iI_0, iI_eq (by split <;> omega) (by split <;> omega) (by omega) (by omega)]
  unfold nzp
  constructor
  · intro h
    by_cases hw : x < V (20 + 72 * s + 0)
    · rw [if_pos hw] at h
      exact ⟨hw, Or.inl h⟩
    · rw [if_neg hw] at h
      exact absurd rfl h
  · rintro ⟨hw, h⟩
    rw [if_pos hw]
    rcases h with h | h
    · exact h
    · omega
def ccI (C : Int32) (x a b : Int) : Prop := (a = 8 ∧ b = 0 ∧ ∀ q, 0 ≤ q → q < x → nib C q = 0) ∨ ((0 ≤ a ∧ a ≤ b ∧ b < x) ∧ ¬ nib C a = 0 ∧ ¬ nib C b = 0 ∧ ∀ q, 0 ≤ q → q < x → ¬ nib C q = 0 → a ≤ q ∧ q ≤ b)
theorem c_trim_cols {C : Int32} (hC : ¬ C = 0) {P : Option ((Nat → Int32) × (Nat → Int32) × (Nat → Int32) × (Nat → Int32)) → Prop} {K : Int32 → Int32 → Option ((Nat → Int32) × (Nat → Int32) × (Nat → Int32) × (Nat → Int32))}
    (hK : ∀ a b, (0 ≤ a ∧ a ≤ b ∧ b < 8) → ¬ nib C a = 0 → ¬ nib C b = 0 → (∀ q, 0 ≤ q → q < 8 → ¬ nib C q = 0 → a ≤ q ∧ q ≤ b) → P (K (iI a) (iI b))) (n : Nat) (hn : 8 < n) : P (f_X0_trim_L95 C K n (iI 8) (iI 0) (iI 0)) := by
  refine lp (fun n x (t : Int × Int) => f_X0_trim_L95 C K n (iI t.1) (iI t.2) (iI x)) P 8 (fun x t => 0 ≤ x ∧ ccI C x t.1 t.2) ?_ ?_ n 0 (8, 0) (by omega) (by omega) ⟨by omega, Or.inl ⟨rfl, rfl, fun q _ _ => by omega⟩⟩
  · rintro n ⟨a, b⟩ ⟨-, h⟩
    dsimp only at h ⊢
    unfold f_X0_trim_L95
    simp (disch := omega) only [↓bd_e, ↓jn_e, ↓opt_bind, ↓reduceIte, iLeT, iLeF, iLtT, iLtF, iEqT, iEqF, il_0, il_1, il_2, il_3, il_4, il_5, il_6, il_7, il_8, il_9, il_10, il_11, il_12, il_13, il_14, il_15, il_16, il_18, il_20, il_24, il_32, il_35, il_40, il_44, il_47, il_48, il_56, il_57, il_58, il_59, il_63, il_64, il_72, il_100, il_120, il_126, il_127, il_160, il_192, il_255, il_349, il_1748, il_6992, iI_add, iI_sub, iI_mul, iI_neg, iI_le, iI_lt, iI_eq, rd_lA, wr_lA, rd_lR, wr_lR, ite_iI, max_iI, min_iI, rem_iI, div_iI, ite_true, ite_false, if_true, if_false, ite_self, and_self, and_true, true_and, and_false, false_and, or_self, or_true, true_or, or_false, false_or, not_true_eq_false, not_false_eq_true]
    rcases h with ⟨h1, h2, h3⟩ | ⟨h1, h2, h3, h4⟩
    · exact absurd ((nib_zero C).mpr h3) hC
    · exact hK a b h1 h2 h3 h4
  · rintro n x ⟨a, b⟩ hx ⟨hx0, h⟩ ih
    dsimp only at h ih ⊢
    have hab : 0 ≤ a ∧ a ≤ 8 ∧ 0 ≤ b ∧ b ≤ 8 := by
      rcases h with ⟨h1, h2, h3⟩ | ⟨h1, -⟩ <;> omega
    unfold f_X0_trim_L95
    by_cases hz : nib C x = 0
    · have g := ih (a, b) ⟨by omega, ?_⟩
      · have hz' : g_ushr C (iI (4 * x)) &&& iI 15 = iI 0 := hz
        simp (disch := omega) only [↓bd_e, ↓jn_e, ↓opt_bind, ↓reduceIte, iLeT, iLeF, iLtT, iLtF, iEqT, iEqF, il_0, il_1, il_2, il_3, il_4, il_5, il_6, il_7, il_8, il_9, il_10, il_11, il_12, il_13, il_14, il_15, il_16, il_18, il_20, il_24, il_32, il_35, il_40, il_44, il_47, il_48, il_56, il_57, il_58, il_59, il_63, il_64, il_72, il_100, il_120, il_126, il_127, il_160, il_192, il_255, il_349, il_1748, il_6992, iI_add, iI_sub, iI_mul, iI_neg, iI_le, iI_lt, iI_eq, rd_lA, wr_lA, rd_lR, wr_lR, ite_iI, max_iI, min_iI, rem_iI, div_iI, ite_true, ite_false, if_true, if_false, ite_self, and_self, and_true, true_and, and_false, false_and, or_self, or_true, true_or, or_false, false_or, not_true_eq_false, not_false_eq_true, hz']
        exact g
      · rcases h with ⟨h1, h2, h3⟩ | ⟨h1, h2, h3, h4⟩
        · refine Or.inl ⟨h1, h2, fun q q1 q2 => ?_⟩
          by_cases hq : q = x
          · rw [hq]; exact hz
          · exact h3 q q1 (by omega)
        · refine Or.inr ⟨by omega, h2, h3, fun q q1 q2 q3 => ?_⟩
          by_cases hq : q = x
          · rw [hq] at q3; exact absurd hz q3
          · exact h4 q q1 (by omega) q3
    · have g := ih (min a x, x) ⟨by omega, ?_⟩
      · have hz' : ¬ g_ushr C (iI (4 * x)) &&& iI 15 = iI 0 := hz
        dsimp only at g
        simp (disch := omega) only [↓bd_e, ↓jn_e, ↓opt_bind, ↓reduceIte, iLeT, iLeF, iLtT, iLtF, iEqT, iEqF, il_0, il_1, il_2, il_3, il_4, il_5, il_6, il_7, il_8, il_9, il_10, il_11, il_12, il_13, il_14, il_15, il_16, il_18, il_20, il_24, il_32, il_35, il_40, il_44, il_47, il_48, il_56, il_57, il_58, il_59, il_63, il_64, il_72, il_100, il_120, il_126, il_127, il_160, il_192, il_255, il_349, il_1748, il_6992, iI_add, iI_sub, iI_mul, iI_neg, iI_le, iI_lt, iI_eq, rd_lA, wr_lA, rd_lR, wr_lR, ite_iI, max_iI, min_iI, rem_iI, div_iI, ite_true, ite_false, if_true, if_false, ite_self, and_self, and_true, true_and, and_false, false_and, or_self, or_true, true_or, or_false, false_or, not_true_eq_false, not_false_eq_true, hz']
        exact g
      · refine Or.inr ?_
        rcases h with ⟨h1, h2, h3⟩ | ⟨h1, h2, h3, h4⟩
        · dsimp only
          rw [show min a x = x by omega]
          refine ⟨by omega, hz, hz, fun q q1 q2 q3 => ?_⟩
          by_cases hq : q = x
          · omega
          · exact absurd (h3 q q1 (by omega)) q3
        · dsimp only
          rw [show min a x = a by omega]
          refine ⟨by omega, h2, hz, fun q q1 q2 q3 => ?_⟩
          by_cases hq : q = x
          · omega
          · have := h4 q q1 (by omega) q3
            omega
def crI (R : Int → Int32) (s y a b : Int) (C : Int32) : Prop := (∀ x, 0 ≤ x → x < 8 → (nib C x = 0 ↔ ∀ q, 0 ≤ q → q < y → nib (R (s * 8 + q)) x = 0)) ∧
  ((a = -4 ∧ b = -4 ∧ ∀ q, 0 ≤ q → q < y → R (s * 8 + q) = 0) ∨ ((0 ≤ a ∧ a ≤ b ∧ b < y) ∧ ¬ R (s * 8 + a) = 0 ∧ ¬ R (s * 8 + b) = 0 ∧ ∀ q, 0 ≤ q → q < y → ¬ R (s * 8 + q) = 0 → a ≤ q ∧ q ≤ b))
theorem c_setTrim (L T W H : Int → Int) {s : Int} (hs : 0 ≤ s ∧ s < 24) (l t w h : Int) : f_X0_setTrim (lA L) (lA T) (lA W) (lA H) (iI s) (iI l) (iI t) (iI w) (iI h) = some (lA (uI L s l), lA (uI T s t), lA (uI W s w), lA (uI H s h)) := by
  unfold f_X0_setTrim
  simp (disch := omega) only [↓bd_e, ↓jn_e, ↓opt_bind, ↓reduceIte, iLeT, iLeF, iLtT, iLtF, iEqT, iEqF, il_0, il_1, il_2, il_3, il_4, il_5, il_6, il_7, il_8, il_9, il_10, il_11, il_12, il_13, il_14, il_15, il_16, il_18, il_20, il_24, il_32, il_35, il_40, il_44, il_47, il_48, il_56, il_57, il_58, il_59, il_63, il_64, il_72, il_100, il_120, il_126, il_127, il_160, il_192, il_255, il_349, il_1748, il_6992, iI_add, iI_sub, iI_mul, iI_neg, iI_le, iI_lt, iI_eq, rd_lA, wr_lA, rd_lR, wr_lR, ite_iI, max_iI, min_iI, rem_iI, div_iI, ite_true, ite_false, if_true, if_false, ite_self, and_self, and_true, true_and, and_false, false_and, or_self, or_true, true_or, or_false, false_or, not_true_eq_false, not_false_eq_true]
def orN (w x : Int) : Int := if w = 0 then -4 else x
theorem c_trim {V : Int → Int} {R : Int → Int32} {s : Int} (hs : 0 ≤ s ∧ s < 24) (hr : vRow V R s) (hi : 1 ≤ V (20 + 72 * s + 0) ∧ V (20 + 72 * s + 0) ≤ 8 ∧ 1 ≤ V (20 + 72 * s + 1) ∧ V (20 + 72 * s + 1) ≤ 8) (hp : ∀ x y, 0 ≤ x → x < 8 → 0 ≤ y → y < 8 → 0 ≤ V (20 + 72 * s + 8 + 8 * y + x) ∧ V (20 + 72 * s + 8 + 8 * y + x) ≤ 9) (h7 : V 7 = 1) (L T W H Hs : Int → Int) (hH : Hs s = V (20 + 72 * s + 1)) :
    ∃ l t w h, vTrim V s l t w h ∧ f_X0_trim (lA L) (lA T) (lA W) (lA H) (lA Hs) (lR R) (iI s) = some (lA (uI L s (orN w l)), lA (uI T s (orN w t)), lA (uI W s w), lA (uI H s h)) := by
  have hnz : ∀ {x y : Int}, 0 ≤ x → x < 8 → 0 ≤ y → y < V (20 + 72 * s + 1) → (¬ nib (R (s * 8 + y)) x = 0 ↔ x < V (20 + 72 * s + 0) ∧ nzp V s x y) := fun h1 h2 h3 h4 => vRow_nz hr hi hp h7 h1 h2 h3 h4
  unfold f_X0_trim
  obtain ⟨fu, hfu, hfu2⟩ := fuel_ex; rw [hfu]
  simp (disch := omega) only [↓bd_e, ↓jn_e, ↓opt_bind, ↓reduceIte, iLeT, iLeF, iLtT, iLtF, iEqT, iEqF, il_0, il_1, il_2, il_3, il_4, il_5, il_6, il_7, il_8, il_9, il_10, il_11, il_12, il_13, il_14, il_15, il_16, il_18, il_20, il_24, il_32, il_35, il_40, il_44, il_47, il_48, il_56, il_57, il_58, il_59, il_63, il_64, il_72, il_100, il_120, il_126, il_127, il_160, il_192, il_255, il_349, il_1748, il_6992, iI_add, iI_sub, iI_mul, iI_neg, iI_le, iI_lt, iI_eq, rd_lA, wr_lA, rd_lR, wr_lR, ite_iI, max_iI, min_iI, rem_iI, div_iI, ite_true, ite_false, if_true, if_false, ite_self, and_self, and_true, true_and, and_false, false_and, or_self, or_true, true_or, or_false, false_or, not_true_eq_false, not_false_eq_true]
  refine lp (fun n y (t : Int × Int × Int32) => f_X0_trim_L13 (lA Hs) (lR R) (iI s) _ n (iI t.1) (iI t.2.1) t.2.2 (iI y)) (fun r => ∃ l t w h, vTrim V s l t w h ∧ r = some (lA (uI L s (orN w l)), lA (uI T s (orN w t)), lA (uI W s w), lA (uI H s h))) (V (20 + 72 * s + 1)) (fun y t => 0 ≤ y ∧ crI R s y t.1 t.2.1 t.2.2) ?_ ?_ fu 0 (-4, -4, iI 0) (by omega) (by omega) ⟨by omega, fun x h1 h2 => ⟨fun _ q h3 h4 => by omega, fun _ => ?_⟩, Or.inl ⟨rfl, rfl, fun q h1 h2 => by omega⟩⟩
  · rintro n ⟨a, b, C⟩ ⟨-, hc, h⟩
    dsimp only at h hc ⊢
    unfold f_X0_trim_L13
    by_cases hC : C = 0
    · have hz : ∀ x y, 0 ≤ x → x < V (20 + 72 * s + 0) → 0 ≤ y → y < V (20 + 72 * s + 1) → ¬ nzp V s x y := by
        intro x y h1 h2 h3 h4 h5
        refine (hnz h1 (by omega) h3 h4).mpr ⟨h2, h5⟩ ?_
        exact (hc x h1 (by omega)).mp ((nib_zero C).mp hC x h1 (by omega)) y h3 h4
      have hC' : C = iI 0 := by rw [hC, iI_0]
      have hab : -4 ≤ a ∧ a ≤ 8 ∧ -4 ≤ b ∧ b ≤ 8 := by
        rcases h with ⟨h1, h2, h3⟩ | ⟨h1, -⟩ <;> omega
      simp (disch := omega) only [↓bd_e, ↓jn_e, ↓opt_bind, ↓reduceIte, iLeT, iLeF, iLtT, iLtF, iEqT, iEqF, il_0, il_1, il_2, il_3, il_4, il_5, il_6, il_7, il_8, il_9, il_10, il_11, il_12, il_13, il_14, il_15, il_16, il_18, il_20, il_24, il_32, il_35, il_40, il_44, il_47, il_48, il_56, il_57, il_58, il_59, il_63, il_64, il_72, il_100, il_120, il_126, il_127, il_160, il_192, il_255, il_349, il_1748, il_6992, iI_add, iI_sub, iI_mul, iI_neg, iI_le, iI_lt, iI_eq, rd_lA, wr_lA, rd_lR, wr_lR, ite_iI, max_iI, min_iI, rem_iI, div_iI, ite_true, ite_false, if_true, if_false, ite_self, and_self, and_true, true_and, and_false, false_and, or_self, or_true, true_or, or_false, false_or, not_true_eq_false, not_false_eq_true, hH, hC', c_setTrim L T W H hs]
      exact ⟨0, 0, 0, 0, Or.inl ⟨rfl, rfl, hz⟩, rfl⟩
    · have hC' : ¬ C = iI 0 := by rw [← iI_0]; exact hC
      rcases h with ⟨h1, h2, h3⟩ | ⟨h1, h2, h3, h4⟩
      · exfalso
        apply hC
        rw [nib_zero]
        intro x x1 x2
        rw [hc x x1 x2]
        intro q q1 q2
        rw [h3 q q1 q2]
        exact (nib_zero 0).mp rfl x x1 x2
      · simp (disch := omega) only [↓bd_e, ↓jn_e, ↓opt_bind, ↓reduceIte, iLeT, iLeF, iLtT, iLtF, iEqT, iEqF, il_0, il_1, il_2, il_3, il_4, il_5, il_6, il_7, il_8, il_9, il_10, il_11, il_12, il_13, il_14, il_15, il_16, il_18, il_20, il_24, il_32, il_35, il_40, il_44, il_47, il_48, il_56, il_57, il_58, il_59, il_63, il_64, il_72, il_100, il_120, il_126, il_127, il_160, il_192, il_255, il_349, il_1748, il_6992, iI_add, iI_sub, iI_mul, iI_neg, iI_le, iI_lt, iI_eq, rd_lA, wr_lA, rd_lR, wr_lR, ite_iI, max_iI, min_iI, rem_iI, div_iI, ite_true, ite_false, if_true, if_false, ite_self, and_self, and_true, true_and, and_false, false_and, or_self, or_true, true_or, or_false, false_or, not_true_eq_false, not_false_eq_true, hH, hC', hfu]
        refine c_trim_cols hC (P := fun r => ∃ l t w h, vTrim V s l t w h ∧ r = some (lA (uI L s (orN w l)), lA (uI T s (orN w t)), lA (uI W s w), lA (uI H s h))) ?_ fu (by omega)
        intro l r e1 e2 e3 e4
        have ex : ∀ x, 0 ≤ x → x < 8 → ¬ nib C x = 0 → ∃ q, 0 ≤ q ∧ q < V (20 + 72 * s + 1) ∧ x < V (20 + 72 * s + 0) ∧ nzp V s x q := by
          intro x x1 x2 x3
          apply Classical.byContradiction
          intro h5
          apply x3
          rw [hc x x1 x2]
          intro q q1 q2
          apply Classical.byContradiction
          intro h6
          obtain ⟨h7, h8⟩ := (hnz x1 x2 q1 q2).mp h6
          exact h5 ⟨q, q1, q2, h7, h8⟩
        have ey : ∀ q, 0 ≤ q → q < V (20 + 72 * s + 1) → ¬ R (s * 8 + q) = 0 → ∃ x, 0 ≤ x ∧ x < V (20 + 72 * s + 0) ∧ nzp V s x q := by
          intro q q1 q2 q3
          apply Classical.byContradiction
          intro h5
          apply q3
          rw [nib_zero]
          intro x x1 x2
          apply Classical.byContradiction
          intro h6
          obtain ⟨h7, h8⟩ := (hnz x1 x2 q1 q2).mp h6
          exact h5 ⟨x, x1, h7, h8⟩
        obtain ⟨ql, ql1, ql2, ql3, ql4⟩ := ex l (by omega) (by omega) e2
        obtain ⟨qr, qr1, qr2, qr3, qr4⟩ := ex r (by omega) (by omega) e3
        obtain ⟨xa, xa1, xa2, xa3⟩ := ey a (by omega) (by omega) h2
        obtain ⟨xb, xb1, xb2, xb3⟩ := ey b (by omega) (by omega) h3
        refine ⟨l, a, r - l + 1, b - a + 1, Or.inr ⟨by omega, fun x y x1 x2 y1 y2 hz => ?_, ⟨ql, ql1, ql2, ql4⟩, ⟨qr, qr1, qr2, ?_⟩, ⟨xa, xa1, xa2, xa3⟩, ⟨xb, xb1, xb2, ?_⟩⟩, ?_⟩
        · have g1 := (hnz x1 (by omega) y1 y2).mpr ⟨x2, hz⟩
          have g2 := e4 x x1 (by omega) (fun h => g1 ((hc x x1 (by omega)).mp h y y1 y2))
          have g3 := h4 y y1 y2 (fun h => g1 (by rw [h]; exact (nib_zero 0).mp rfl x x1 (by omega)))
          omega
        · rw [show l + (r - l + 1) - 1 = r by omega]; exact qr4
        · rw [show a + (b - a + 1) - 1 = b by omega]; exact xb3
        · simp (disch := omega) only [↓bd_e, ↓jn_e, ↓opt_bind, ↓reduceIte, iLeT, iLeF, iLtT, iLtF, iEqT, iEqF, il_0, il_1, il_2, il_3, il_4, il_5, il_6, il_7, il_8, il_9, il_10, il_11, il_12, il_13, il_14, il_15, il_16, il_18, il_20, il_24, il_32, il_35, il_40, il_44, il_47, il_48, il_56, il_57, il_58, il_59, il_63, il_64, il_72, il_100, il_120, il_126, il_127, il_160, il_192, il_255, il_349, il_1748, il_6992, iI_add, iI_sub, iI_mul, iI_neg, iI_le, iI_lt, iI_eq, rd_lA, wr_lA, rd_lR, wr_lR, ite_iI, max_iI, min_iI, rem_iI, div_iI, ite_true, ite_false, if_true, if_false, ite_self, and_self, and_true, true_and, and_false, false_and, or_self, or_true, true_or, or_false, false_or, not_true_eq_false, not_false_eq_true, c_setTrim L T W H hs]
          unfold orN
          rw [if_neg (by omega), if_neg (by omega)]
  · rintro n y ⟨a, b, C⟩ hy ⟨hy0, hc, h⟩ ih
    dsimp only at h hc ih ⊢
    have hab : -4 ≤ a ∧ a ≤ 8 ∧ -4 ≤ b ∧ b ≤ 8 := by
      rcases h with ⟨h1, h2, h3⟩ | ⟨h1, -⟩ <;> omega
    unfold f_X0_trim_L13
    have hrow := c_rowOf (R := R) hs (y := y) (by omega)
    by_cases hz : R (s * 8 + y) = 0
    · have hz' : R (s * 8 + y) = iI 0 := by rw [hz, iI_0]
      simp (disch := omega) only [↓bd_e, ↓jn_e, ↓opt_bind, ↓reduceIte, iLeT, iLeF, iLtT, iLtF, iEqT, iEqF, il_0, il_1, il_2, il_3, il_4, il_5, il_6, il_7, il_8, il_9, il_10, il_11, il_12, il_13, il_14, il_15, il_16, il_18, il_20, il_24, il_32, il_35, il_40, il_44, il_47, il_48, il_56, il_57, il_58, il_59, il_63, il_64, il_72, il_100, il_120, il_126, il_127, il_160, il_192, il_255, il_349, il_1748, il_6992, iI_add, iI_sub, iI_mul, iI_neg, iI_le, iI_lt, iI_eq, rd_lA, wr_lA, rd_lR, wr_lR, ite_iI, max_iI, min_iI, rem_iI, div_iI, ite_true, ite_false, if_true, if_false, ite_self, and_self, and_true, true_and, and_false, false_and, or_self, or_true, true_or, or_false, false_or, not_true_eq_false, not_false_eq_true, hH, hrow, hz']
      refine ih (a, b, C) ⟨by omega, fun x x1 x2 => ?_, ?_⟩
      · rw [hc x x1 x2]
        constructor
        · intro h5 q q1 q2
          by_cases hq : q = y
          · rw [hq, hz]; exact (nib_zero 0).mp rfl x x1 x2
          · exact h5 q q1 (by omega)
        · exact fun h5 q q1 q2 => h5 q q1 (by omega)
      · rcases h with ⟨h1, h2, h3⟩ | ⟨h1, h2, h3, h4⟩
        · refine Or.inl ⟨h1, h2, fun q q1 q2 => ?_⟩
          by_cases hq : q = y
          · rw [hq]; exact hz
          · exact h3 q q1 (by omega)
        · refine Or.inr ⟨by dsimp only; omega, h2, h3, fun q q1 q2 q3 => ?_⟩
          by_cases hq : q = y
          · rw [hq] at q3; exact absurd hz q3
          · exact h4 q q1 (by omega) q3
    · have hz' : ¬ R (s * 8 + y) = iI 0 := by rw [← iI_0]; exact hz
      simp (disch := omega) only [↓bd_e, ↓jn_e, ↓opt_bind, ↓reduceIte, iLeT, iLeF, iLtT, iLtF, iEqT, iEqF, il_0, il_1, il_2, il_3, il_4, il_5, il_6, il_7, il_8, il_9, il_10, il_11, il_12, il_13, il_14, il_15, il_16, il_18, il_20, il_24, il_32, il_35, il_40, il_44, il_47, il_48, il_56, il_57, il_58, il_59, il_63, il_64, il_72, il_100, il_120, il_126, il_127, il_160, il_192, il_255, il_349, il_1748, il_6992, iI_add, iI_sub, iI_mul, iI_neg, iI_le, iI_lt, iI_eq, rd_lA, wr_lA, rd_lR, wr_lR, ite_iI, max_iI, min_iI, rem_iI, div_iI, ite_true, ite_false, if_true, if_false, ite_self, and_self, and_true, true_and, and_false, false_and, or_self, or_true, true_or, or_false, false_or, not_true_eq_false, not_false_eq_true, hH, hrow, hz']
      refine ih (if a = -4 then y else a, y, C ||| R (s * 8 + y)) ⟨by omega, fun x x1 x2 => ?_, ?_⟩
      · dsimp only
        rw [nib_or _ _ x1 x2, hc x x1 x2]
        constructor
        · rintro ⟨h5, h6⟩ q q1 q2
          by_cases hq : q = y
          · rw [hq]; exact h6
          · exact h5 q q1 (by omega)
        · exact fun h5 => ⟨fun q q1 q2 => h5 q q1 (by omega), h5 y hy0 (by omega)⟩
      · dsimp only
        rcases h with ⟨h1, h2, h3⟩ | ⟨h1, h2, h3, h4⟩
        · rw [if_pos h1]
          refine Or.inr ⟨by omega, hz, hz, fun q q1 q2 q3 => ?_⟩
          by_cases hq : q = y
          · omega
          · exact absurd (h3 q q1 (by omega)) q3
        · rw [if_neg (by omega)]
          refine Or.inr ⟨by omega, h2, hz, fun q q1 q2 q3 => ?_⟩
          by_cases hq : q = y
          · omega
          · have := h4 q q1 (by omega) q3
            omega
  · rw [← iI_0]
    exact (nib_zero 0).mp rfl x h1 h2
