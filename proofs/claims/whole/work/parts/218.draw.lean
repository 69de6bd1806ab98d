/-! sprites added -/
theorem iL_add (a b : Int) : iL a + iL b = iL (a + b) := (Int64.ofInt_add a b).symm
theorem iL_sub (a b : Int) : iL a - iL b = iL (a - b) := (Int64.ofInt_sub a b).symm
theorem iL_mul (a b : Int) : iL a * iL b = iL (a * b) := (Int64.ofInt_mul a b).symm
theorem iL_div {a b : Int} (h1 : 0 ≤ a) (h2 : a < 9223372036854775808) (h3 : 0 < b) (h4 : b < 9223372036854775808) : iL a / iL b = iL (a / b) := by
  have e : a.tdiv b = a / b := Int.tdiv_eq_ediv_of_nonneg h1
  rw [← e]
  exact (Int64.ofInt_tdiv (show (-9223372036854775808 : Int) ≤ a by omega) (show a ≤ (9223372036854775807 : Int) by omega) (show (-9223372036854775808 : Int) ≤ b by omega) (show b ≤ (9223372036854775807 : Int) by omega)).symm
theorem iL_rem {a b : Int} (h1 : 0 ≤ a) (h2 : a < 9223372036854775808) (h3 : 0 < b) (h4 : b < 9223372036854775808) : g_remL (iL a) (iL b) = iL (a % b) := by
  unfold g_remL
  rw [iL_div h1 h2 h3 h4, iL_mul, iL_sub, Int.emod_def, Int.mul_comm]
theorem iL_I (a : Int) : (iL a).toInt32 = iI a := Int64.toInt32_ofInt
theorem iI_L {a : Int} (h1 : -2147483648 ≤ a) (h2 : a < 2147483648) : (iI a).toInt64 = iL a := Int32.toInt64_ofInt (show (-2147483648 : Int) ≤ a by omega) (show a ≤ (2147483647 : Int) by omega)
theorem cL_1 : (1103515245 : Int64) = iL 1103515245 := by decide +kernel
theorem cL_2 : (12345 : Int64) = iL 12345 := by decide +kernel
theorem cL_3 : (2147483648 : Int64) = iL 2147483648 := by decide +kernel
theorem cL_4 : (65536 : Int64) = iL 65536 := by decide +kernel
def rnX (z : Int) : Int := (z * 1103515245 + 12345) % 2147483648
theorem rnX_r (z : Int) : 0 ≤ rnX z ∧ rnX z < 2147483648 := by unfold rnX; omega
theorem c_next {z : Int} (h : 0 ≤ z ∧ z < 2147483648) : f_X10_nextRandom (iL z) = (iI (rnX z / 65536), iL (rnX z)) := by
  have hr := rnX_r z
  unfold f_X10_nextRandom
  rw [bd_e, cL_1, cL_2, cL_3, cL_4, iL_mul, iL_add, iL_rem (by omega) (by omega) (by omega) (by omega)]
  show ((iL (rnX z) / iL 65536).toInt32, iL (rnX z)) = _
  rw [iL_div (by omega) (by omega) (by omega) (by omega), iL_I]
theorem m_random {z m : Int} (h : 0 ≤ z ∧ z < 2147483648) (hm : 0 < m ∧ m < 100) : f_X11_random (iL z) (iI m) = some (iI (rnX z / 65536 % m), iL (rnX z)) := by
  have hr := rnX_r z
  unfold f_X11_random
  rw [bd_e, cL_1, cL_2, cL_3, cL_4, iL_mul, iL_add, iL_rem (by omega) (by omega) (by omega) (by omega), nz_iI _ (by omega) (by omega) (by omega)]
  show some (g_rem (iL (rnX z) / iL 65536).toInt32 (iI m), iL (rnX z)) = _
  rw [iL_div (by omega) (by omega) (by omega) (by omega), iL_I, rem_iI (by omega) (by omega) (by omega) (by omega)]
def vA (V : Int → Int) (w h : Int) : Int → Int := fun j => if j = 0 then V 0 + 1 else if 20 + 72 * V 0 ≤ j ∧ j < 20 + 72 * V 0 + 72 ∧ j ≠ 20 + 72 * V 0 + 7 then (if j = 20 + 72 * V 0 then w else if j = 20 + 72 * V 0 + 1 then h else if j = 20 + 72 * V 0 + 3 then -1 else 0) else V j
theorem m_adds {V : Int → Int} (hn : 0 ≤ V 0 ∧ V 0 < 24) {w h : Int} : f_X11_adds (lA V) (iI w) (iI h) = some (lA (vA V w h)) := by
  unfold f_X11_adds
  obtain ⟨fu, hfu, hfu2⟩ := fuel_ex; rw [hfu]
  simp (disch := omega) only [↓bd_e, ↓jn_e, ↓opt_bind, ↓reduceIte, iLeT, iLeF, iLtT, iLtF, iEqT, iEqF, il_0, il_1, il_2, il_3, il_4, il_5, il_6, il_7, il_8, il_9, il_10, il_11, il_12, il_13, il_14, il_15, il_16, il_18, il_20, il_24, il_32, il_35, il_40, il_44, il_47, il_48, il_56, il_57, il_58, il_59, il_63, il_64, il_72, il_100, il_120, il_126, il_127, il_160, il_192, il_255, il_349, il_1748, il_6992, iI_add, iI_sub, iI_mul, iI_neg, iI_le, iI_lt, iI_eq, rd_lA, wr_lA, rd_lR, wr_lR, ite_iI, max_iI, min_iI, rem_iI, div_iI, ite_true, ite_false, if_true, if_false, ite_self, and_self, and_true, true_and, and_false, false_and, or_self, or_true, true_or, or_false, false_or, not_true_eq_false, not_false_eq_true, f_X11_at]
  refine lp (fun n x (A : Int → Int) => f_X11_adds_L98 (iI (V 0)) n (iI x) (lA A)) (fun r => r = some (lA (vA V w h))) 64 (fun x A => 0 ≤ x ∧ ∀ j, A j = if j < 20 + 72 * V 0 + 8 + x then vA V w h j else V j) ?_ ?_ fu 0 _ (by omega) (by omega) ⟨by omega, fun j => ?_⟩
  · rintro n A ⟨-, hA⟩
    unfold f_X11_adds_L98
    simp (disch := omega) only [↓bd_e, ↓jn_e, ↓opt_bind, ↓reduceIte, iLeT, iLeF, iLtT, iLtF, iEqT, iEqF, il_0, il_1, il_2, il_3, il_4, il_5, il_6, il_7, il_8, il_9, il_10, il_11, il_12, il_13, il_14, il_15, il_16, il_18, il_20, il_24, il_32, il_35, il_40, il_44, il_47, il_48, il_56, il_57, il_58, il_59, il_63, il_64, il_72, il_100, il_120, il_126, il_127, il_160, il_192, il_255, il_349, il_1748, il_6992, iI_add, iI_sub, iI_mul, iI_neg, iI_le, iI_lt, iI_eq, rd_lA, wr_lA, rd_lR, wr_lR, ite_iI, max_iI, min_iI, rem_iI, div_iI, ite_true, ite_false, if_true, if_false, ite_self, and_self, and_true, true_and, and_false, false_and, or_self, or_true, true_or, or_false, false_or, not_true_eq_false, not_false_eq_true]
    rw [lA_eq (fun j j0 => ?_)]
    rw [hA j]
    by_cases e : j < 20 + 72 * V 0 + 8 + 64
    · rw [if_pos e]
    · rw [if_neg e]
      unfold vA
      rw [if_neg (by omega), if_neg (by omega)]
  · rintro n x A hx ⟨hx0, hA⟩ ih
    unfold f_X11_adds_L98
    simp (disch := omega) only [↓bd_e, ↓jn_e, ↓opt_bind, ↓reduceIte, iLeT, iLeF, iLtT, iLtF, iEqT, iEqF, il_0, il_1, il_2, il_3, il_4, il_5, il_6, il_7, il_8, il_9, il_10, il_11, il_12, il_13, il_14, il_15, il_16, il_18, il_20, il_24, il_32, il_35, il_40, il_44, il_47, il_48, il_56, il_57, il_58, il_59, il_63, il_64, il_72, il_100, il_120, il_126, il_127, il_160, il_192, il_255, il_349, il_1748, il_6992, iI_add, iI_sub, iI_mul, iI_neg, iI_le, iI_lt, iI_eq, rd_lA, wr_lA, rd_lR, wr_lR, ite_iI, max_iI, min_iI, rem_iI, div_iI, ite_true, ite_false, if_true, if_false, ite_self, and_self, and_true, true_and, and_false, false_and, or_self, or_true, true_or, or_false, false_or, not_true_eq_false, not_false_eq_true, f_X11_at]
    refine ih _ ⟨by omega, fun j => ?_⟩
    rw [uI_at, hA j]
    by_cases e : j = 20 + 72 * V 0 + (8 + x)
    · rw [if_pos e, if_pos (by omega)]
      unfold vA
      rw [if_neg (by omega), if_pos (by omega), if_neg (by omega), if_neg (by omega), if_neg (by omega)]
    · rw [if_neg e]
      by_cases e2 : j < 20 + 72 * V 0 + 8 + x
      · rw [if_pos e2, if_pos (by omega)]
      · rw [if_neg e2, if_neg (by omega)]
  · simp only [uI_at, vA]
    by_cases e0 : j = 0
    · subst e0
      simp (disch := omega) only [↓bd_e, ↓jn_e, ↓opt_bind, ↓reduceIte, iLeT, iLeF, iLtT, iLtF, iEqT, iEqF, il_0, il_1, il_2, il_3, il_4, il_5, il_6, il_7, il_8, il_9, il_10, il_11, il_12, il_13, il_14, il_15, il_16, il_18, il_20, il_24, il_32, il_35, il_40, il_44, il_47, il_48, il_56, il_57, il_58, il_59, il_63, il_64, il_72, il_100, il_120, il_126, il_127, il_160, il_192, il_255, il_349, il_1748, il_6992, iI_add, iI_sub, iI_mul, iI_neg, iI_le, iI_lt, iI_eq, rd_lA, wr_lA, rd_lR, wr_lR, ite_iI, max_iI, min_iI, rem_iI, div_iI, ite_true, ite_false, if_true, if_false, ite_self, and_self, and_true, true_and, and_false, false_and, or_self, or_true, true_or, or_false, false_or, not_true_eq_false, not_false_eq_true]
    · by_cases e1 : j < 20 + 72 * V 0
      · simp (disch := omega) only [↓bd_e, ↓jn_e, ↓opt_bind, ↓reduceIte, iLeT, iLeF, iLtT, iLtF, iEqT, iEqF, il_0, il_1, il_2, il_3, il_4, il_5, il_6, il_7, il_8, il_9, il_10, il_11, il_12, il_13, il_14, il_15, il_16, il_18, il_20, il_24, il_32, il_35, il_40, il_44, il_47, il_48, il_56, il_57, il_58, il_59, il_63, il_64, il_72, il_100, il_120, il_126, il_127, il_160, il_192, il_255, il_349, il_1748, il_6992, iI_add, iI_sub, iI_mul, iI_neg, iI_le, iI_lt, iI_eq, rd_lA, wr_lA, rd_lR, wr_lR, ite_iI, max_iI, min_iI, rem_iI, div_iI, ite_true, ite_false, if_true, if_false, ite_self, and_self, and_true, true_and, and_false, false_and, or_self, or_true, true_or, or_false, false_or, not_true_eq_false, not_false_eq_true]
      · by_cases e2 : j = 20 + 72 * V 0
        · simp (disch := omega) only [↓bd_e, ↓jn_e, ↓opt_bind, ↓reduceIte, iLeT, iLeF, iLtT, iLtF, iEqT, iEqF, il_0, il_1, il_2, il_3, il_4, il_5, il_6, il_7, il_8, il_9, il_10, il_11, il_12, il_13, il_14, il_15, il_16, il_18, il_20, il_24, il_32, il_35, il_40, il_44, il_47, il_48, il_56, il_57, il_58, il_59, il_63, il_64, il_72, il_100, il_120, il_126, il_127, il_160, il_192, il_255, il_349, il_1748, il_6992, iI_add, iI_sub, iI_mul, iI_neg, iI_le, iI_lt, iI_eq, rd_lA, wr_lA, rd_lR, wr_lR, ite_iI, max_iI, min_iI, rem_iI, div_iI, ite_true, ite_false, if_true, if_false, ite_self, and_self, and_true, true_and, and_false, false_and, or_self, or_true, true_or, or_false, false_or, not_true_eq_false, not_false_eq_true]
        · by_cases e3 : j = 20 + 72 * V 0 + 1
          · simp (disch := omega) only [↓bd_e, ↓jn_e, ↓opt_bind, ↓reduceIte, iLeT, iLeF, iLtT, iLtF, iEqT, iEqF, il_0, il_1, il_2, il_3, il_4, il_5, il_6, il_7, il_8, il_9, il_10, il_11, il_12, il_13, il_14, il_15, il_16, il_18, il_20, il_24, il_32, il_35, il_40, il_44, il_47, il_48, il_56, il_57, il_58, il_59, il_63, il_64, il_72, il_100, il_120, il_126, il_127, il_160, il_192, il_255, il_349, il_1748, il_6992, iI_add, iI_sub, iI_mul, iI_neg, iI_le, iI_lt, iI_eq, rd_lA, wr_lA, rd_lR, wr_lR, ite_iI, max_iI, min_iI, rem_iI, div_iI, ite_true, ite_false, if_true, if_false, ite_self, and_self, and_true, true_and, and_false, false_and, or_self, or_true, true_or, or_false, false_or, not_true_eq_false, not_false_eq_true]
          · by_cases e4 : j = 20 + 72 * V 0 + 2
            · simp (disch := omega) only [↓bd_e, ↓jn_e, ↓opt_bind, ↓reduceIte, iLeT, iLeF, iLtT, iLtF, iEqT, iEqF, il_0, il_1, il_2, il_3, il_4, il_5, il_6, il_7, il_8, il_9, il_10, il_11, il_12, il_13, il_14, il_15, il_16, il_18, il_20, il_24, il_32, il_35, il_40, il_44, il_47, il_48, il_56, il_57, il_58, il_59, il_63, il_64, il_72, il_100, il_120, il_126, il_127, il_160, il_192, il_255, il_349, il_1748, il_6992, iI_add, iI_sub, iI_mul, iI_neg, iI_le, iI_lt, iI_eq, rd_lA, wr_lA, rd_lR, wr_lR, ite_iI, max_iI, min_iI, rem_iI, div_iI, ite_true, ite_false, if_true, if_false, ite_self, and_self, and_true, true_and, and_false, false_and, or_self, or_true, true_or, or_false, false_or, not_true_eq_false, not_false_eq_true]
            · by_cases e5 : j = 20 + 72 * V 0 + 3
              · simp (disch := omega) only [↓bd_e, ↓jn_e, ↓opt_bind, ↓reduceIte, iLeT, iLeF, iLtT, iLtF, iEqT, iEqF, il_0, il_1, il_2, il_3, il_4, il_5, il_6, il_7, il_8, il_9, il_10, il_11, il_12, il_13, il_14, il_15, il_16, il_18, il_20, il_24, il_32, il_35, il_40, il_44, il_47, il_48, il_56, il_57, il_58, il_59, il_63, il_64, il_72, il_100, il_120, il_126, il_127, il_160, il_192, il_255, il_349, il_1748, il_6992, iI_add, iI_sub, iI_mul, iI_neg, iI_le, iI_lt, iI_eq, rd_lA, wr_lA, rd_lR, wr_lR, ite_iI, max_iI, min_iI, rem_iI, div_iI, ite_true, ite_false, if_true, if_false, ite_self, and_self, and_true, true_and, and_false, false_and, or_self, or_true, true_or, or_false, false_or, not_true_eq_false, not_false_eq_true]
              · by_cases e6 : j = 20 + 72 * V 0 + 4
                · simp (disch := omega) only [↓bd_e, ↓jn_e, ↓opt_bind, ↓reduceIte, iLeT, iLeF, iLtT, iLtF, iEqT, iEqF, il_0, il_1, il_2, il_3, il_4, il_5, il_6, il_7, il_8, il_9, il_10, il_11, il_12, il_13, il_14, il_15, il_16, il_18, il_20, il_24, il_32, il_35, il_40, il_44, il_47, il_48, il_56, il_57, il_58, il_59, il_63, il_64, il_72, il_100, il_120, il_126, il_127, il_160, il_192, il_255, il_349, il_1748, il_6992, iI_add, iI_sub, iI_mul, iI_neg, iI_le, iI_lt, iI_eq, rd_lA, wr_lA, rd_lR, wr_lR, ite_iI, max_iI, min_iI, rem_iI, div_iI, ite_true, ite_false, if_true, if_false, ite_self, and_self, and_true, true_and, and_false, false_and, or_self, or_true, true_or, or_false, false_or, not_true_eq_false, not_false_eq_true]
                · by_cases e7 : j = 20 + 72 * V 0 + 5
                  · simp (disch := omega) only [↓bd_e, ↓jn_e, ↓opt_bind, ↓reduceIte, iLeT, iLeF, iLtT, iLtF, iEqT, iEqF, il_0, il_1, il_2, il_3, il_4, il_5, il_6, il_7, il_8, il_9, il_10, il_11, il_12, il_13, il_14, il_15, il_16, il_18, il_20, il_24, il_32, il_35, il_40, il_44, il_47, il_48, il_56, il_57, il_58, il_59, il_63, il_64, il_72, il_100, il_120, il_126, il_127, il_160, il_192, il_255, il_349, il_1748, il_6992, iI_add, iI_sub, iI_mul, iI_neg, iI_le, iI_lt, iI_eq, rd_lA, wr_lA, rd_lR, wr_lR, ite_iI, max_iI, min_iI, rem_iI, div_iI, ite_true, ite_false, if_true, if_false, ite_self, and_self, and_true, true_and, and_false, false_and, or_self, or_true, true_or, or_false, false_or, not_true_eq_false, not_false_eq_true]
                  · by_cases e8 : j = 20 + 72 * V 0 + 6
                    · simp (disch := omega) only [↓bd_e, ↓jn_e, ↓opt_bind, ↓reduceIte, iLeT, iLeF, iLtT, iLtF, iEqT, iEqF, il_0, il_1, il_2, il_3, il_4, il_5, il_6, il_7, il_8, il_9, il_10, il_11, il_12, il_13, il_14, il_15, il_16, il_18, il_20, il_24, il_32, il_35, il_40, il_44, il_47, il_48, il_56, il_57, il_58, il_59, il_63, il_64, il_72, il_100, il_120, il_126, il_127, il_160, il_192, il_255, il_349, il_1748, il_6992, iI_add, iI_sub, iI_mul, iI_neg, iI_le, iI_lt, iI_eq, rd_lA, wr_lA, rd_lR, wr_lR, ite_iI, max_iI, min_iI, rem_iI, div_iI, ite_true, ite_false, if_true, if_false, ite_self, and_self, and_true, true_and, and_false, false_and, or_self, or_true, true_or, or_false, false_or, not_true_eq_false, not_false_eq_true]
                    · by_cases e9 : j = 20 + 72 * V 0 + 7
                      · simp (disch := omega) only [↓bd_e, ↓jn_e, ↓opt_bind, ↓reduceIte, iLeT, iLeF, iLtT, iLtF, iEqT, iEqF, il_0, il_1, il_2, il_3, il_4, il_5, il_6, il_7, il_8, il_9, il_10, il_11, il_12, il_13, il_14, il_15, il_16, il_18, il_20, il_24, il_32, il_35, il_40, il_44, il_47, il_48, il_56, il_57, il_58, il_59, il_63, il_64, il_72, il_100, il_120, il_126, il_127, il_160, il_192, il_255, il_349, il_1748, il_6992, iI_add, iI_sub, iI_mul, iI_neg, iI_le, iI_lt, iI_eq, rd_lA, wr_lA, rd_lR, wr_lR, ite_iI, max_iI, min_iI, rem_iI, div_iI, ite_true, ite_false, if_true, if_false, ite_self, and_self, and_true, true_and, and_false, false_and, or_self, or_true, true_or, or_false, false_or, not_true_eq_false, not_false_eq_true]
                      · simp (disch := omega) only [↓bd_e, ↓jn_e, ↓opt_bind, ↓reduceIte, iLeT, iLeF, iLtT, iLtF, iEqT, iEqF, il_0, il_1, il_2, il_3, il_4, il_5, il_6, il_7, il_8, il_9, il_10, il_11, il_12, il_13, il_14, il_15, il_16, il_18, il_20, il_24, il_32, il_35, il_40, il_44, il_47, il_48, il_56, il_57, il_58, il_59, il_63, il_64, il_72, il_100, il_120, il_126, il_127, il_160, il_192, il_255, il_349, il_1748, il_6992, iI_add, iI_sub, iI_mul, iI_neg, iI_le, iI_lt, iI_eq, rd_lA, wr_lA, rd_lR, wr_lR, ite_iI, max_iI, min_iI, rem_iI, div_iI, ite_true, ite_false, if_true, if_false, ite_self, and_self, and_true, true_and, and_false, false_and, or_self, or_true, true_or, or_false, false_or, not_true_eq_false, not_false_eq_true]
theorem vA_old {V : Int → Int} {w h j k : Int} (h0 : 0 ≤ V 0) (hj : 0 ≤ j) (hj1 : j < V 0) (hk : 0 ≤ k ∧ k < 72) : vA V w h (20 + 72 * j + k) = V (20 + 72 * j + k) := by
  unfold vA
  rw [if_neg (by omega), if_neg (by omega)]
theorem vA_lo {V : Int → Int} {w h j : Int} (h0 : 0 ≤ V 0) (hj : 1 ≤ j ∧ j < 20) : vA V w h j = V j := by
  unfold vA
  rw [if_neg (by omega), if_neg (by omega)]
theorem vA_new {V : Int → Int} {w h k : Int} (h0 : 0 ≤ V 0) (hk : 0 ≤ k ∧ k < 72) (hk7 : k ≠ 7) : vA V w h (20 + 72 * V 0 + k) = if k = 0 then w else if k = 1 then h else if k = 3 then -1 else 0 := by
  unfold vA
  rw [if_neg (by omega), if_pos (by omega)]
  by_cases e0 : k = 0
  · simp (disch := omega) only [↓bd_e, ↓jn_e, ↓opt_bind, ↓reduceIte, iLeT, iLeF, iLtT, iLtF, iEqT, iEqF, il_0, il_1, il_2, il_3, il_4, il_5, il_6, il_7, il_8, il_9, il_10, il_11, il_12, il_13, il_14, il_15, il_16, il_18, il_20, il_24, il_32, il_35, il_40, il_44, il_47, il_48, il_56, il_57, il_58, il_59, il_63, il_64, il_72, il_100, il_120, il_126, il_127, il_160, il_192, il_255, il_349, il_1748, il_6992, iI_add, iI_sub, iI_mul, iI_neg, iI_le, iI_lt, iI_eq, rd_lA, wr_lA, rd_lR, wr_lR, ite_iI, max_iI, min_iI, rem_iI, div_iI, ite_true, ite_false, if_true, if_false, ite_self, and_self, and_true, true_and, and_false, false_and, or_self, or_true, true_or, or_false, false_or, not_true_eq_false, not_false_eq_true]
  · by_cases e1 : k = 1
    · simp (disch := omega) only [↓bd_e, ↓jn_e, ↓opt_bind, ↓reduceIte, iLeT, iLeF, iLtT, iLtF, iEqT, iEqF, il_0, il_1, il_2, il_3, il_4, il_5, il_6, il_7, il_8, il_9, il_10, il_11, il_12, il_13, il_14, il_15, il_16, il_18, il_20, il_24, il_32, il_35, il_40, il_44, il_47, il_48, il_56, il_57, il_58, il_59, il_63, il_64, il_72, il_100, il_120, il_126, il_127, il_160, il_192, il_255, il_349, il_1748, il_6992, iI_add, iI_sub, iI_mul, iI_neg, iI_le, iI_lt, iI_eq, rd_lA, wr_lA, rd_lR, wr_lR, ite_iI, max_iI, min_iI, rem_iI, div_iI, ite_true, ite_false, if_true, if_false, ite_self, and_self, and_true, true_and, and_false, false_and, or_self, or_true, true_or, or_false, false_or, not_true_eq_false, not_false_eq_true]
    · by_cases e3 : k = 3
      · simp (disch := omega) only [↓bd_e, ↓jn_e, ↓opt_bind, ↓reduceIte, iLeT, iLeF, iLtT, iLtF, iEqT, iEqF, il_0, il_1, il_2, il_3, il_4, il_5, il_6, il_7, il_8, il_9, il_10, il_11, il_12, il_13, il_14, il_15, il_16, il_18, il_20, il_24, il_32, il_35, il_40, il_44, il_47, il_48, il_56, il_57, il_58, il_59, il_63, il_64, il_72, il_100, il_120, il_126, il_127, il_160, il_192, il_255, il_349, il_1748, il_6992, iI_add, iI_sub, iI_mul, iI_neg, iI_le, iI_lt, iI_eq, rd_lA, wr_lA, rd_lR, wr_lR, ite_iI, max_iI, min_iI, rem_iI, div_iI, ite_true, ite_false, if_true, if_false, ite_self, and_self, and_true, true_and, and_false, false_and, or_self, or_true, true_or, or_false, false_or, not_true_eq_false, not_false_eq_true]
      · simp (disch := omega) only [↓bd_e, ↓jn_e, ↓opt_bind, ↓reduceIte, iLeT, iLeF, iLtT, iLtF, iEqT, iEqF, il_0, il_1, il_2, il_3, il_4, il_5, il_6, il_7, il_8, il_9, il_10, il_11, il_12, il_13, il_14, il_15, il_16, il_18, il_20, il_24, il_32, il_35, il_40, il_44, il_47, il_48, il_56, il_57, il_58, il_59, il_63, il_64, il_72, il_100, il_120, il_126, il_127, il_160, il_192, il_255, il_349, il_1748, il_6992, iI_add, iI_sub, iI_mul, iI_neg, iI_le, iI_lt, iI_eq, rd_lA, wr_lA, rd_lR, wr_lR, ite_iI, max_iI, min_iI, rem_iI, div_iI, ite_true, ite_false, if_true, if_false, ite_self, and_self, and_true, true_and, and_false, false_and, or_self, or_true, true_or, or_false, false_or, not_true_eq_false, not_false_eq_true]
theorem c_fillR {A : Int → Int32} {a b : Int} (ha : 0 ≤ a) (hb : a ≤ b) (hb2 : b ≤ 192) : f_J7_fill_fda19 192 (lR A) (iI a) (iI b) (iI 0) = some (lR (fun j => if a ≤ j ∧ j < b then iI 0 else A j)) := by
  unfold f_J7_fill_fda19 f_J7_rangeCheck_23922
  obtain ⟨fu, hfu, hfu2⟩ := fuel_ex; rw [hfu]
  rw [show Int32.ofNat 192 = iI 192 by decide +kernel]
  simp (disch := omega) only [↓bd_e, ↓jn_e, ↓opt_bind, ↓reduceIte, iLeT, iLeF, iLtT, iLtF, iEqT, iEqF, il_0, il_1, il_2, il_3, il_4, il_5, il_6, il_7, il_8, il_9, il_10, il_11, il_12, il_13, il_14, il_15, il_16, il_18, il_20, il_24, il_32, il_35, il_40, il_44, il_47, il_48, il_56, il_57, il_58, il_59, il_63, il_64, il_72, il_100, il_120, il_126, il_127, il_160, il_192, il_255, il_349, il_1748, il_6992, iI_add, iI_sub, iI_mul, iI_neg, iI_le, iI_lt, iI_eq, rd_lA, wr_lA, rd_lR, wr_lR, ite_iI, max_iI, min_iI, rem_iI, div_iI, ite_true, ite_false, if_true, if_false, ite_self, and_self, and_true, true_and, and_false, false_and, or_self, or_true, true_or, or_false, false_or, not_true_eq_false, not_false_eq_true]
  refine lp (fun n x (B : Int → Int32) => f_J7_fill_fda19_L10 192 (iI b) (iI 0) n (iI x) (lR B)) (fun r => r = some (lR (fun j => if a ≤ j ∧ j < b then iI 0 else A j))) b (fun x B => a ≤ x ∧ ∀ j, B j = if a ≤ j ∧ j < x then iI 0 else A j) ?_ ?_ fu a A hb (by omega) ⟨by omega, fun j => by rw [if_neg (by omega)]⟩
  · rintro n B ⟨-, hB⟩
    unfold f_J7_fill_fda19_L10
    simp (disch := omega) only [↓bd_e, ↓jn_e, ↓opt_bind, ↓reduceIte, iLeT, iLeF, iLtT, iLtF, iEqT, iEqF, il_0, il_1, il_2, il_3, il_4, il_5, il_6, il_7, il_8, il_9, il_10, il_11, il_12, il_13, il_14, il_15, il_16, il_18, il_20, il_24, il_32, il_35, il_40, il_44, il_47, il_48, il_56, il_57, il_58, il_59, il_63, il_64, il_72, il_100, il_120, il_126, il_127, il_160, il_192, il_255, il_349, il_1748, il_6992, iI_add, iI_sub, iI_mul, iI_neg, iI_le, iI_lt, iI_eq, rd_lA, wr_lA, rd_lR, wr_lR, ite_iI, max_iI, min_iI, rem_iI, div_iI, ite_true, ite_false, if_true, if_false, ite_self, and_self, and_true, true_and, and_false, false_and, or_self, or_true, true_or, or_false, false_or, not_true_eq_false, not_false_eq_true]
    rw [show B = fun j => if a ≤ j ∧ j < b then iI 0 else A j from funext hB]
  · rintro n x B hx ⟨hx0, hB⟩ ih
    unfold f_J7_fill_fda19_L10
    simp (disch := omega) only [↓bd_e, ↓jn_e, ↓opt_bind, ↓reduceIte, iLeT, iLeF, iLtT, iLtF, iEqT, iEqF, il_0, il_1, il_2, il_3, il_4, il_5, il_6, il_7, il_8, il_9, il_10, il_11, il_12, il_13, il_14, il_15, il_16, il_18, il_20, il_24, il_32, il_35, il_40, il_44, il_47, il_48, il_56, il_57, il_58, il_59, il_63, il_64, il_72, il_100, il_120, il_126, il_127, il_160, il_192, il_255, il_349, il_1748, il_6992, iI_add, iI_sub, iI_mul, iI_neg, iI_le, iI_lt, iI_eq, rd_lA, wr_lA, rd_lR, wr_lR, ite_iI, max_iI, min_iI, rem_iI, div_iI, ite_true, ite_false, if_true, if_false, ite_self, and_self, and_true, true_and, and_false, false_and, or_self, or_true, true_or, or_false, false_or, not_true_eq_false, not_false_eq_true]
    refine ih _ ⟨by omega, fun j => ?_⟩
    unfold uR
    by_cases e : j = x
    · rw [if_pos e, if_pos (by omega)]
    · rw [if_neg e, hB j]
      by_cases e2 : a ≤ j ∧ j < x
      · rw [if_pos e2, if_pos (by omega)]
      · rw [if_neg e2, if_neg (by omega)]
theorem c_add {n w h : Int} (hn : 0 ≤ n ∧ n < 24) (W H G : Int → Int) (R : Int → Int32) : f_X6_add (iI n) (lA W) (lA H) (lA G) (lR R) (iI w) (iI h) = some (iI n, iI (n + 1), lA (uI W n w), lA (uI H n h), lA (uI G n 0), lR (fun j => if n * 8 ≤ j ∧ j < n * 8 + 8 then iI 0 else R j)) := by
  unfold f_X6_add
  have e := c_fillR (A := R) (a := n * 8) (b := n * 8 + 8) (by omega) (by omega) (by omega)
  simp (disch := omega) only [↓bd_e, ↓jn_e, ↓opt_bind, ↓reduceIte, iLeT, iLeF, iLtT, iLtF, iEqT, iEqF, il_0, il_1, il_2, il_3, il_4, il_5, il_6, il_7, il_8, il_9, il_10, il_11, il_12, il_13, il_14, il_15, il_16, il_18, il_20, il_24, il_32, il_35, il_40, il_44, il_47, il_48, il_56, il_57, il_58, il_59, il_63, il_64, il_72, il_100, il_120, il_126, il_127, il_160, il_192, il_255, il_349, il_1748, il_6992, iI_add, iI_sub, iI_mul, iI_neg, iI_le, iI_lt, iI_eq, rd_lA, wr_lA, rd_lR, wr_lR, ite_iI, max_iI, min_iI, rem_iI, div_iI, ite_true, ite_false, if_true, if_false, ite_self, and_self, and_true, true_and, and_false, false_and, or_self, or_true, true_or, or_false, false_or, not_true_eq_false, not_false_eq_true, e]
/-- the sheet's pieces against the vector -/
def shR (V : Int → Int) (W H G : Int → Int) (R : Int → Int32) : Prop := ∀ s, 0 ≤ s → s < V 0 → W s = V (20 + 72 * s + 0) ∧ H s = V (20 + 72 * s + 1) ∧ G s = V (20 + 72 * s + 2) ∧ vRow V R s
theorem nib_0 {x : Int} (h0 : 0 ≤ x) (h1 : x < 8) : nib (iI 0) x = iI 0 := by
  rw [← iI_0]
  exact (nib_zero 0).mp rfl x h0 h1
theorem vA_px {V : Int → Int} {w h s x y : Int} (h0 : 0 ≤ V 0) (hs : 0 ≤ s) (hs1 : s < V 0) (hx : 0 ≤ x ∧ x < 8) (hy : 0 ≤ y ∧ y < 8) : vA V w h (20 + 72 * s + 8 + 8 * y + x) = V (20 + 72 * s + 8 + 8 * y + x) := by
  have := vA_old (w := w) (h := h) (k := 8 + 8 * y + x) h0 hs hs1 (by omega)
  rw [show 20 + 72 * s + 8 + 8 * y + x = 20 + 72 * s + (8 + 8 * y + x) by omega]
  exact this
theorem vA_pxn {V : Int → Int} {w h x y : Int} (h0 : 0 ≤ V 0) (hx : 0 ≤ x ∧ x < 8) (hy : 0 ≤ y ∧ y < 8) : vA V w h (20 + 72 * (V 0) + 8 + 8 * y + x) = 0 := by
  have := vA_new (V := V) (w := w) (h := h) (k := 8 + 8 * y + x) h0 (by omega) (by omega)
  rw [show 20 + 72 * V 0 + 8 + 8 * y + x = 20 + 72 * V 0 + (8 + 8 * y + x) by omega, this, if_neg (by omega), if_neg (by omega), if_neg (by omega)]
theorem shR_add {V : Int → Int} (hi : vImg V) (hn : V 0 < 24) {W H G : Int → Int} {R : Int → Int32} (hr : shR V W H G R) {w h : Int} (hw : 1 ≤ w ∧ w ≤ 8) (hh : 1 ≤ h ∧ h ≤ 8) : vImg (vA V w h) ∧ shR (vA V w h) (uI W (V 0) w) (uI H (V 0) h) (uI G (V 0) 0) (fun j => if V 0 * 8 ≤ j ∧ j < V 0 * 8 + 8 then iI 0 else R j) := by
  obtain ⟨h0, h1, h2⟩ := hi
  have e0 : vA V w h 0 = V 0 + 1 := rfl
  refine ⟨⟨by rw [e0]; omega, fun s s0 s1 => ?_, fun s x y s0 s1 x0 x1 y0 y1 => ?_⟩, fun s s0 s1 => ?_⟩
  · rw [e0] at s1
    by_cases e : s = V 0
    · subst e
      rw [vA_new h0.1 (by omega) (by omega), vA_new h0.1 (by omega) (by omega), vA_new h0.1 (by omega) (by omega)]
      simp (disch := omega) only [↓bd_e, ↓jn_e, ↓opt_bind, ↓reduceIte, iLeT, iLeF, iLtT, iLtF, iEqT, iEqF, il_0, il_1, il_2, il_3, il_4, il_5, il_6, il_7, il_8, il_9, il_10, il_11, il_12, il_13, il_14, il_15, il_16, il_18, il_20, il_24, il_32, il_35, il_40, il_44, il_47, il_48, il_56, il_57, il_58, il_59, il_63, il_64, il_72, il_100, il_120, il_126, il_127, il_160, il_192, il_255, il_349, il_1748, il_6992, iI_add, iI_sub, iI_mul, iI_neg, iI_le, iI_lt, iI_eq, rd_lA, wr_lA, rd_lR, wr_lR, ite_iI, max_iI, min_iI, rem_iI, div_iI, ite_true, ite_false, if_true, if_false, ite_self, and_self, and_true, true_and, and_false, false_and, or_self, or_true, true_or, or_false, false_or, not_true_eq_false, not_false_eq_true]
    · rw [vA_old h0.1 s0 (by omega) (by omega), vA_old h0.1 s0 (by omega) (by omega), vA_old h0.1 s0 (by omega) (by omega)]
      exact h1 s s0 (by omega)
  · rw [e0] at s1
    by_cases e : s = V 0
    · subst e
      rw [vA_pxn h0.1 ⟨x0, x1⟩ ⟨y0, y1⟩]
      omega
    · rw [vA_px h0.1 s0 (by omega) ⟨x0, x1⟩ ⟨y0, y1⟩]
      exact h2 s x y s0 (by omega) x0 x1 y0 y1
  · rw [e0] at s1
    by_cases e : s = V 0
    · subst e
      refine ⟨?_, ?_, ?_, fun x y x0 x1 y0 y1 => ?_⟩
      · rw [vA_new h0.1 (by omega) (by omega), uI_self, if_pos rfl]
      · rw [vA_new h0.1 (by omega) (by omega), uI_self]
        simp (disch := omega) only [↓bd_e, ↓jn_e, ↓opt_bind, ↓reduceIte, iLeT, iLeF, iLtT, iLtF, iEqT, iEqF, il_0, il_1, il_2, il_3, il_4, il_5, il_6, il_7, il_8, il_9, il_10, il_11, il_12, il_13, il_14, il_15, il_16, il_18, il_20, il_24, il_32, il_35, il_40, il_44, il_47, il_48, il_56, il_57, il_58, il_59, il_63, il_64, il_72, il_100, il_120, il_126, il_127, il_160, il_192, il_255, il_349, il_1748, il_6992, iI_add, iI_sub, iI_mul, iI_neg, iI_le, iI_lt, iI_eq, rd_lA, wr_lA, rd_lR, wr_lR, ite_iI, max_iI, min_iI, rem_iI, div_iI, ite_true, ite_false, if_true, if_false, ite_self, and_self, and_true, true_and, and_false, false_and, or_self, or_true, true_or, or_false, false_or, not_true_eq_false, not_false_eq_true]
      · rw [vA_new h0.1 (by omega) (by omega), uI_self]
        simp (disch := omega) only [↓bd_e, ↓jn_e, ↓opt_bind, ↓reduceIte, iLeT, iLeF, iLtT, iLtF, iEqT, iEqF, il_0, il_1, il_2, il_3, il_4, il_5, il_6, il_7, il_8, il_9, il_10, il_11, il_12, il_13, il_14, il_15, il_16, il_18, il_20, il_24, il_32, il_35, il_40, il_44, il_47, il_48, il_56, il_57, il_58, il_59, il_63, il_64, il_72, il_100, il_120, il_126, il_127, il_160, il_192, il_255, il_349, il_1748, il_6992, iI_add, iI_sub, iI_mul, iI_neg, iI_le, iI_lt, iI_eq, rd_lA, wr_lA, rd_lR, wr_lR, ite_iI, max_iI, min_iI, rem_iI, div_iI, ite_true, ite_false, if_true, if_false, ite_self, and_self, and_true, true_and, and_false, false_and, or_self, or_true, true_or, or_false, false_or, not_true_eq_false, not_false_eq_true]
      · have hy : y < 8 := by
          rw [vA_new h0.1 (by omega) (by omega)] at y1
          simp at y1
          omega
        dsimp only
        rw [if_pos (by omega), nib_0 x0 x1, vA_pxn h0.1 ⟨x0, x1⟩ ⟨y0, hy⟩]
        simp (disch := omega) only [↓bd_e, ↓jn_e, ↓opt_bind, ↓reduceIte, iLeT, iLeF, iLtT, iLtF, iEqT, iEqF, il_0, il_1, il_2, il_3, il_4, il_5, il_6, il_7, il_8, il_9, il_10, il_11, il_12, il_13, il_14, il_15, il_16, il_18, il_20, il_24, il_32, il_35, il_40, il_44, il_47, il_48, il_56, il_57, il_58, il_59, il_63, il_64, il_72, il_100, il_120, il_126, il_127, il_160, il_192, il_255, il_349, il_1748, il_6992, iI_add, iI_sub, iI_mul, iI_neg, iI_le, iI_lt, iI_eq, rd_lA, wr_lA, rd_lR, wr_lR, ite_iI, max_iI, min_iI, rem_iI, div_iI, ite_true, ite_false, if_true, if_false, ite_self, and_self, and_true, true_and, and_false, false_and, or_self, or_true, true_or, or_false, false_or, not_true_eq_false, not_false_eq_true]
    · obtain ⟨b1, b2, b3, b4⟩ := hr s s0 (by omega)
      have := h1 s s0 (by omega)
      rw [uI_ne e, uI_ne e, uI_ne e, vA_old h0.1 s0 (by omega) (by omega), vA_old h0.1 s0 (by omega) (by omega), vA_old h0.1 s0 (by omega) (by omega)]
      refine ⟨b1, b2, b3, fun x y x0 x1 y0 y1 => ?_⟩
      rw [vA_old h0.1 s0 (by omega) (by omega)] at y1
      dsimp only
      rw [if_neg (by omega), vA_old h0.1 s0 (by omega) (by omega), vA_px h0.1 s0 (by omega) ⟨x0, x1⟩ ⟨y0, by omega⟩]
      exact b4 x y x0 x1 y0 y1
/-- the class's state with another sheet -/
def mkS (S : Nat → Nat → Int32) (n : Int) (W H G : Int → Int) (R : Int → Int32) : Nat → Nat → Int32 := updC (updC (updC (updC (updC S 0 (upd (S 0) 0 (iI n))) 1 (lA W)) 2 (lA H)) 3 (lA G)) 4 (lR R)
theorem shR_px {V : Int → Int} (hi : vImg V) {W H G : Int → Int} {R : Int → Int32} (hr : shR V W H G R) {s x y c : Int} (h : isPx V s x y) (hc : 0 ≤ c ∧ c ≤ 9) :
    ∃ R', f_X6_setColor (iI (V 0)) (lA W) (lA H) (lR R) (iI s) (iI x) (iI y) (iI c) = some (lR R') ∧ shR (uI V (20 + 72 * s + 8 + 8 * y + x) c) W H G R' := by
  obtain ⟨R', e, h2⟩ := c_setColor hi (fun j j0 j1 => ⟨(hr j j0 j1).1, (hr j j0 j1).2.1⟩) (fun j j0 j1 => (hr j j0 j1).2.2.2) h hc
  obtain ⟨⟨s0, s1⟩, ⟨x0, x1⟩, ⟨y0, y1⟩⟩ := h
  have h3 := hi.2.1 s s0 s1
  refine ⟨R', e, fun j j0 j1 => ?_⟩
  rw [uI_ne (by omega)] at j1
  obtain ⟨b1, b2, b3, b4⟩ := hr j j0 j1
  rw [uI_ne (by omega), uI_ne (by omega), uI_ne (by omega)]
  exact ⟨b1, b2, b3, h2 j j0 j1⟩
/-- V' is V with sprites added -/
def vMo (V V' : Int → Int) : Prop := V 0 ≤ V' 0 ∧ (∀ j, 1 ≤ j → j < 20 → V' j = V j) ∧ (∀ s k, 0 ≤ s → s < V 0 → 0 ≤ k → k < 72 → V' (20 + 72 * s + k) = V (20 + 72 * s + k)) ∧ ∀ s, V 0 ≤ s → s < V' 0 → V' (20 + 72 * s + 3) = -1 ∧ V' (20 + 72 * s + 2) = 0
theorem vMo_rf (V : Int → Int) : vMo V V := ⟨Int.le_refl _, fun _ _ _ => rfl, fun _ _ _ _ _ _ => rfl, fun s s0 s1 => by omega⟩
theorem vMo_add {V V' : Int → Int} (h : vMo V V') (h0 : 0 ≤ V' 0) (w hh : Int) : vMo V (vA V' w hh) := by
  obtain ⟨a, b, c, d⟩ := h
  have e0 : vA V' w hh 0 = V' 0 + 1 := rfl
  refine ⟨by rw [e0]; omega, fun j j0 j1 => by rw [vA_lo h0 (by omega)]; exact b j j0 j1, fun s k s0 s1 k0 k1 => by rw [vA_old h0 s0 (by omega) ⟨k0, k1⟩]; exact c s k s0 s1 k0 k1, fun s s0 s1 => ?_⟩
  rw [e0] at s1
  by_cases e : s = V' 0
  · subst e
    rw [vA_new h0 (by omega) (by omega), vA_new h0 (by omega) (by omega)]
    simp (disch := omega) only [↓bd_e, ↓jn_e, ↓opt_bind, ↓reduceIte, iLeT, iLeF, iLtT, iLtF, iEqT, iEqF, il_0, il_1, il_2, il_3, il_4, il_5, il_6, il_7, il_8, il_9, il_10, il_11, il_12, il_13, il_14, il_15, il_16, il_18, il_20, il_24, il_32, il_35, il_40, il_44, il_47, il_48, il_56, il_57, il_58, il_59, il_63, il_64, il_72, il_100, il_120, il_126, il_127, il_160, il_192, il_255, il_349, il_1748, il_6992, iI_add, iI_sub, iI_mul, iI_neg, iI_le, iI_lt, iI_eq, rd_lA, wr_lA, rd_lR, wr_lR, ite_iI, max_iI, min_iI, rem_iI, div_iI, ite_true, ite_false, if_true, if_false, ite_self, and_self, and_true, true_and, and_false, false_and, or_self, or_true, true_or, or_false, false_or, not_true_eq_false, not_false_eq_true]
  · by_cases e3 : 0 ≤ s
    · rw [vA_old h0 e3 (by omega) (by omega), vA_old h0 e3 (by omega) (by omega)]
      exact d s s0 (by omega)
    · have := d s s0 (by omega)
      unfold vA
      rw [if_neg (by omega), if_neg (by omega), if_neg (by omega), if_neg (by omega)]
      exact this
theorem vMo_px {V V' : Int → Int} (h : vMo V V') {s x y c : Int} (h0 : 0 ≤ V 0) (hs : V 0 ≤ s) (hx : 0 ≤ x ∧ x < 8) (hy : 0 ≤ y ∧ y < 8) : vMo V (uI V' (20 + 72 * s + 8 + 8 * y + x) c) := by
  obtain ⟨a, b, c', d⟩ := h
  refine ⟨by rw [uI_ne (by omega)]; exact a, fun j j0 j1 => by rw [uI_ne (by omega)]; exact b j j0 j1, fun s' k s0 s1 k0 k1 => by rw [uI_ne (by omega)]; exact c' s' k s0 s1 k0 k1, fun s' s0 s1 => ?_⟩
  rw [uI_ne (by omega)] at s1
  rw [uI_ne (by omega), uI_ne (by omega)]
  exact d s' s0 s1
theorem vOut_add {V : Int → Int} (h : vOut V) (hn : 0 ≤ V 0 ∧ V 0 < 24) (w hh : Int) : vOut (vA V w hh) := fun k hk => by
  unfold vA
  rw [if_neg (by omega), if_neg (by omega)]
  exact h k hk
