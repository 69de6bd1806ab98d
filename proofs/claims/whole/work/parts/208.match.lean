theorem c_colorAt {R : Int → Int32} {s x y : Int} (hs : 0 ≤ s ∧ s < 24) (hy : 0 ≤ y ∧ y < 8) : f_X6_colorAt (lR R) (iI s) (iI x) (iI y) = some (nib (R (s * 8 + y)) x) := by
  unfold f_X6_colorAt nib
  simp (disch := omega) only [↓bd_e, ↓jn_e, ↓opt_bind, ↓reduceIte, iLeT, iLeF, iLtT, iLtF, iEqT, iEqF, il_0, il_1, il_2, il_3, il_4, il_5, il_6, il_7, il_8, il_9, il_10, il_11, il_12, il_13, il_14, il_15, il_16, il_18, il_20, il_24, il_32, il_35, il_40, il_44, il_47, il_48, il_56, il_57, il_58, il_59, il_63, il_64, il_72, il_100, il_120, il_126, il_127, il_160, il_192, il_255, il_349, il_1748, il_6992, iI_add, iI_sub, iI_mul, iI_neg, iI_le, iI_lt, iI_eq, rd_lA, wr_lA, rd_lR, wr_lR, ite_iI, max_iI, min_iI, rem_iI, div_iI, ite_true, ite_false, if_true, if_false, ite_self, and_self, and_true, true_and, and_false, false_and, or_self, or_true, true_or, or_false, false_or, not_true_eq_false, not_false_eq_true]
theorem c_colorIn {V : Int → Int} {R : Int → Int32} {d : Nat → Int → Int} {s q x y : Int} (hs : vSh V d s) (hr : vRow V R s) (hq : 0 ≤ q ∧ q < 8) (hx : 0 ≤ x) (hx2 : x < (if q % 2 = 1 then d 3 s else d 2 s)) (hy : 0 ≤ y) (hy2 : y < (if q % 2 = 1 then d 2 s else d 3 s)) :
    f_X0_colorIn (lA (d 0)) (lA (d 1)) (lA (d 2)) (lA (d 3)) (lR R) (iI s) (iI q) (iI x) (iI y) = some (iI (V (20 + 72 * s + 8 + 8 * (d 1 s + bY q (d 2 s) (d 3 s) x y) + (d 0 s + bX q (d 2 s) (d 3 s) x y)))) := by
  obtain ⟨hs24, ⟨h1, h2, h3, h4, h5, h6⟩, h7, h8⟩ := hs
  have r1 := b_range (w := d 2 s) (h := d 3 s) hq h1 h2 hx hx2 hy hy2
  have hc := c_colorAt (R := R) (s := s) (x := d 0 s + bX q (d 2 s) (d 3 s) x y) (y := d 1 s + bY q (d 2 s) (d 3 s) x y) hs24 (by omega)
  rw [hr _ _ (by omega) (by omega) (by omega) (by omega), if_pos (by omega)] at hc
  rw [← hc]
  unfold f_X0_colorIn bX bY bCol
  clear hx2 hy2 r1
  have h4 : q % 4 = 0 ∨ q % 4 = 1 ∨ q % 4 = 2 ∨ q % 4 = 3 := by omega
  rcases h4 with h4 | h4 | h4 | h4
  all_goals
    by_cases hq4 : q < 4
    · simp (disch := omega) only [↓bd_e, ↓jn_e, ↓opt_bind, ↓reduceIte, iLeT, iLeF, iLtT, iLtF, iEqT, iEqF, il_0, il_1, il_2, il_3, il_4, il_5, il_6, il_7, il_8, il_9, il_10, il_11, il_12, il_13, il_14, il_15, il_16, il_18, il_20, il_24, il_32, il_35, il_40, il_44, il_47, il_48, il_56, il_57, il_58, il_59, il_63, il_64, il_72, il_100, il_120, il_126, il_127, il_160, il_192, il_255, il_349, il_1748, il_6992, iI_add, iI_sub, iI_mul, iI_neg, iI_le, iI_lt, iI_eq, rd_lA, wr_lA, rd_lR, wr_lR, ite_iI, max_iI, min_iI, rem_iI, div_iI, ite_true, ite_false, if_true, if_false, ite_self, and_self, and_true, true_and, and_false, false_and, or_self, or_true, true_or, or_false, false_or, not_true_eq_false, not_false_eq_true, h4]
      cases f_X6_colorAt _ _ _ _ <;> rfl
    · simp (disch := omega) only [↓bd_e, ↓jn_e, ↓opt_bind, ↓reduceIte, iLeT, iLeF, iLtT, iLtF, iEqT, iEqF, il_0, il_1, il_2, il_3, il_4, il_5, il_6, il_7, il_8, il_9, il_10, il_11, il_12, il_13, il_14, il_15, il_16, il_18, il_20, il_24, il_32, il_35, il_40, il_44, il_47, il_48, il_56, il_57, il_58, il_59, il_63, il_64, il_72, il_100, il_120, il_126, il_127, il_160, il_192, il_255, il_349, il_1748, il_6992, iI_add, iI_sub, iI_mul, iI_neg, iI_le, iI_lt, iI_eq, rd_lA, wr_lA, rd_lR, wr_lR, ite_iI, max_iI, min_iI, rem_iI, div_iI, ite_true, ite_false, if_true, if_false, ite_self, and_self, and_true, true_and, and_false, false_and, or_self, or_true, true_or, or_false, false_or, not_true_eq_false, not_false_eq_true, h4]
      cases f_X6_colorAt _ _ _ _ <;> rfl
theorem c_matches {V : Int → Int} {R : Int → Int32} {d : Nat → Int → Int} {s o q : Int} (hs : vSh V d s) (ho : vSh V d o) (hrs : vRow V R s) (hro : vRow V R o) (hps : ∀ x y, 0 ≤ x → x < 8 → 0 ≤ y → y < 8 → 0 ≤ V (20 + 72 * s + 8 + 8 * y + x) ∧ V (20 + 72 * s + 8 + 8 * y + x) ≤ 9) (hpo : ∀ x y, 0 ≤ x → x < 8 → 0 ≤ y → y < 8 → 0 ≤ V (20 + 72 * o + 8 + 8 * y + x) ∧ V (20 + 72 * o + 8 + 8 * y + x) ≤ 9)
    (hq : 0 ≤ q ∧ q < 8) : ∃ r, f_X0_matches (lA (d 0)) (lA (d 1)) (lA (d 2)) (lA (d 3)) (lR R) (iI s) (iI o) (iI q) = some (iI r) ∧ isF r (vLike V d s o q) := by
  have hs' := hs
  have ho' := ho
  obtain ⟨hs24, ⟨h1, h2, h3, h4, h5, h6⟩, h7, h8⟩ := hs'
  obtain ⟨ho24, ⟨g1, g2, g3, g4, g5, g6⟩, g7, g8⟩ := ho'
  unfold f_X0_matches
  by_cases hd : d 2 s = (if q % 2 = 1 then d 3 o else d 2 o) ∧ d 3 s = (if q % 2 = 1 then d 2 o else d 3 o)
  · have key : ∃ r, f_X0_matches_L86 (lA (d 0)) (lA (d 1)) (lA (d 2)) (lA (d 3)) (lR R) (iI s) (iI o) (iI q) (iI (d 2 s)) (iI (d 3 s)) g_fuel (iI 0) = some (iI r) ∧ isF r (vLike V d s o q) := by
      obtain ⟨fu, hfu, hfu2⟩ := fuel_ex; rw [hfu]
      refine lp (fun n y (u : Unit) => f_X0_matches_L86 (lA (d 0)) (lA (d 1)) (lA (d 2)) (lA (d 3)) (lR R) (iI s) (iI o) (iI q) (iI (d 2 s)) (iI (d 3 s)) n (iI y)) (fun r => ∃ r', r = some (iI r') ∧ isF r' (vLike V d s o q)) (d 3 s)
        (fun y u => 0 ≤ y ∧ (∀ x y', 0 ≤ x → x < d 2 s → 0 ≤ y' → y' < y → V (20 + 72 * s + 8 + 8 * (d 1 s + y') + (d 0 s + x)) = V (20 + 72 * o + 8 + 8 * (d 1 o + bY q (d 2 o) (d 3 o) x y') + (d 0 o + bX q (d 2 o) (d 3 o) x y')))) ?_ ?_ fu 0 () (by omega) (by omega) ⟨by omega, fun x y' _ _ _ _ => by omega⟩
      · rintro n u ⟨-, hu⟩
        unfold f_X0_matches_L86
        simp (disch := omega) only [↓bd_e, ↓jn_e, ↓opt_bind, ↓reduceIte, iLeT, iLeF, iLtT, iLtF, iEqT, iEqF, il_0, il_1, il_2, il_3, il_4, il_5, il_6, il_7, il_8, il_9, il_10, il_11, il_12, il_13, il_14, il_15, il_16, il_18, il_20, il_24, il_32, il_35, il_40, il_44, il_47, il_48, il_56, il_57, il_58, il_59, il_63, il_64, il_72, il_100, il_120, il_126, il_127, il_160, il_192, il_255, il_349, il_1748, il_6992, iI_add, iI_sub, iI_mul, iI_neg, iI_le, iI_lt, iI_eq, rd_lA, wr_lA, rd_lR, wr_lR, ite_iI, max_iI, min_iI, rem_iI, div_iI, ite_true, ite_false, if_true, if_false, ite_self, and_self, and_true, true_and, and_false, false_and, or_self, or_true, true_or, or_false, false_or, not_true_eq_false, not_false_eq_true]
        exact ⟨1, rfl, isF_T ⟨hd.1, hd.2, fun x y a1 a2 a3 a4 => hu x y a1 a2 a3 a4⟩⟩
      · rintro n y u hy ⟨hy0, hu⟩ ih
        unfold f_X0_matches_L86
        simp (disch := omega) only [↓bd_e, ↓jn_e, ↓opt_bind, ↓reduceIte, iLeT, iLeF, iLtT, iLtF, iEqT, iEqF, il_0, il_1, il_2, il_3, il_4, il_5, il_6, il_7, il_8, il_9, il_10, il_11, il_12, il_13, il_14, il_15, il_16, il_18, il_20, il_24, il_32, il_35, il_40, il_44, il_47, il_48, il_56, il_57, il_58, il_59, il_63, il_64, il_72, il_100, il_120, il_126, il_127, il_160, il_192, il_255, il_349, il_1748, il_6992, iI_add, iI_sub, iI_mul, iI_neg, iI_le, iI_lt, iI_eq, rd_lA, wr_lA, rd_lR, wr_lR, ite_iI, max_iI, min_iI, rem_iI, div_iI, ite_true, ite_false, if_true, if_false, ite_self, and_self, and_true, true_and, and_false, false_and, or_self, or_true, true_or, or_false, false_or, not_true_eq_false, not_false_eq_true]
        refine lp (fun n x (v : Unit) => f_X0_matches_L96 (lA (d 0)) (lA (d 1)) (lA (d 2)) (lA (d 3)) (lR R) (iI s) (iI o) (iI q) (iI (d 2 s)) (iI y) _ n (iI x)) (fun r => ∃ r', r = some (iI r') ∧ isF r' (vLike V d s o q)) (d 2 s)
          (fun x v => 0 ≤ x ∧ (∀ x', 0 ≤ x' → x' < x → V (20 + 72 * s + 8 + 8 * (d 1 s + y) + (d 0 s + x')) = V (20 + 72 * o + 8 + 8 * (d 1 o + bY q (d 2 o) (d 3 o) x' y) + (d 0 o + bX q (d 2 o) (d 3 o) x' y)))) ?_ ?_ g_fuel 0 () (by omega) (fuel_lt (by omega)) ⟨by omega, fun x' _ _ => by omega⟩
        · rintro n v ⟨-, hv⟩
          unfold f_X0_matches_L96
          simp (disch := omega) only [↓bd_e, ↓jn_e, ↓opt_bind, ↓reduceIte, iLeT, iLeF, iLtT, iLtF, iEqT, iEqF, il_0, il_1, il_2, il_3, il_4, il_5, il_6, il_7, il_8, il_9, il_10, il_11, il_12, il_13, il_14, il_15, il_16, il_18, il_20, il_24, il_32, il_35, il_40, il_44, il_47, il_48, il_56, il_57, il_58, il_59, il_63, il_64, il_72, il_100, il_120, il_126, il_127, il_160, il_192, il_255, il_349, il_1748, il_6992, iI_add, iI_sub, iI_mul, iI_neg, iI_le, iI_lt, iI_eq, rd_lA, wr_lA, rd_lR, wr_lR, ite_iI, max_iI, min_iI, rem_iI, div_iI, ite_true, ite_false, if_true, if_false, ite_self, and_self, and_true, true_and, and_false, false_and, or_self, or_true, true_or, or_false, false_or, not_true_eq_false, not_false_eq_true]
          refine ih () ⟨by omega, fun x y' a1 a2 a3 a4 => ?_⟩
          by_cases e : y' = y
          · rw [e]; exact hv x a1 a2
          · exact hu x y' a1 a2 a3 (by omega)
        · rintro n x v hx ⟨hx0, hv⟩ ih2
          unfold f_X0_matches_L96
          have c1 := c_colorIn (q := 0) (x := x) (y := y) hs hrs (by omega) hx0 (by rw [if_neg (by omega)]; exact hx) hy0 (by rw [if_neg (by omega)]; exact hy)
          have c2 := c_colorIn (q := q) (x := x) (y := y) ho hro hq hx0 (by omega) hy0 (by omega)
          have r2 := b_range (q := q) (w := d 2 o) (h := d 3 o) hq g1 g2 hx0 (x := x) (y := y) (by omega) hy0 (by omega)
          have p1 := vSh_px hs hps (x := x) (y := y) hx0 hx hy0 hy
          have p2 := vSh_px ho hpo (x := bX q (d 2 o) (d 3 o) x y) (y := bY q (d 2 o) (d 3 o) x y) (by omega) (by omega) (by omega) (by omega)
          have b0 : bX 0 (d 2 s) (d 3 s) x y = x ∧ bY 0 (d 2 s) (d 3 s) x y = y := ⟨rfl, rfl⟩
          rw [b0.1, b0.2] at c1
          clear hd
          simp (disch := omega) only [↓bd_e, ↓jn_e, ↓opt_bind, ↓reduceIte, iLeT, iLeF, iLtT, iLtF, iEqT, iEqF, il_0, il_1, il_2, il_3, il_4, il_5, il_6, il_7, il_8, il_9, il_10, il_11, il_12, il_13, il_14, il_15, il_16, il_18, il_20, il_24, il_32, il_35, il_40, il_44, il_47, il_48, il_56, il_57, il_58, il_59, il_63, il_64, il_72, il_100, il_120, il_126, il_127, il_160, il_192, il_255, il_349, il_1748, il_6992, iI_add, iI_sub, iI_mul, iI_neg, iI_le, iI_lt, iI_eq, rd_lA, wr_lA, rd_lR, wr_lR, ite_iI, max_iI, min_iI, rem_iI, div_iI, ite_true, ite_false, if_true, if_false, ite_self, and_self, and_true, true_and, and_false, false_and, or_self, or_true, true_or, or_false, false_or, not_true_eq_false, not_false_eq_true, c1, c2]
          by_cases e : V (20 + 72 * s + 8 + 8 * (d 1 s + y) + (d 0 s + x)) = V (20 + 72 * o + 8 + 8 * (d 1 o + bY q (d 2 o) (d 3 o) x y) + (d 0 o + bX q (d 2 o) (d 3 o) x y))
          · simp (disch := omega) only [↓bd_e, ↓jn_e, ↓opt_bind, ↓reduceIte, iLeT, iLeF, iLtT, iLtF, iEqT, iEqF, il_0, il_1, il_2, il_3, il_4, il_5, il_6, il_7, il_8, il_9, il_10, il_11, il_12, il_13, il_14, il_15, il_16, il_18, il_20, il_24, il_32, il_35, il_40, il_44, il_47, il_48, il_56, il_57, il_58, il_59, il_63, il_64, il_72, il_100, il_120, il_126, il_127, il_160, il_192, il_255, il_349, il_1748, il_6992, iI_add, iI_sub, iI_mul, iI_neg, iI_le, iI_lt, iI_eq, rd_lA, wr_lA, rd_lR, wr_lR, ite_iI, max_iI, min_iI, rem_iI, div_iI, ite_true, ite_false, if_true, if_false, ite_self, and_self, and_true, true_and, and_false, false_and, or_self, or_true, true_or, or_false, false_or, not_true_eq_false, not_false_eq_true]
            refine ih2 () ⟨by omega, fun x' a1 a2 => ?_⟩
            by_cases e2 : x' = x
            · rw [e2]; exact e
            · exact hv x' a1 (by omega)
          · rw [if_neg e]
            exact ⟨0, rfl, isF_F (fun h => e (h.2.2 x y hx0 hx hy0 hy))⟩
    by_cases hm : q % 2 = 1
    · rw [if_pos hm, if_pos hm] at hd
      rw [hd.1, hd.2] at key
      simp (disch := omega) only [↓bd_e, ↓jn_e, ↓opt_bind, ↓reduceIte, iLeT, iLeF, iLtT, iLtF, iEqT, iEqF, il_0, il_1, il_2, il_3, il_4, il_5, il_6, il_7, il_8, il_9, il_10, il_11, il_12, il_13, il_14, il_15, il_16, il_18, il_20, il_24, il_32, il_35, il_40, il_44, il_47, il_48, il_56, il_57, il_58, il_59, il_63, il_64, il_72, il_100, il_120, il_126, il_127, il_160, il_192, il_255, il_349, il_1748, il_6992, iI_add, iI_sub, iI_mul, iI_neg, iI_le, iI_lt, iI_eq, rd_lA, wr_lA, rd_lR, wr_lR, ite_iI, max_iI, min_iI, rem_iI, div_iI, ite_true, ite_false, if_true, if_false, ite_self, and_self, and_true, true_and, and_false, false_and, or_self, or_true, true_or, or_false, false_or, not_true_eq_false, not_false_eq_true]
      exact key
    · rw [if_neg hm, if_neg hm] at hd
      rw [hd.1, hd.2] at key
      simp (disch := omega) only [↓bd_e, ↓jn_e, ↓opt_bind, ↓reduceIte, iLeT, iLeF, iLtT, iLtF, iEqT, iEqF, il_0, il_1, il_2, il_3, il_4, il_5, il_6, il_7, il_8, il_9, il_10, il_11, il_12, il_13, il_14, il_15, il_16, il_18, il_20, il_24, il_32, il_35, il_40, il_44, il_47, il_48, il_56, il_57, il_58, il_59, il_63, il_64, il_72, il_100, il_120, il_126, il_127, il_160, il_192, il_255, il_349, il_1748, il_6992, iI_add, iI_sub, iI_mul, iI_neg, iI_le, iI_lt, iI_eq, rd_lA, wr_lA, rd_lR, wr_lR, ite_iI, max_iI, min_iI, rem_iI, div_iI, ite_true, ite_false, if_true, if_false, ite_self, and_self, and_true, true_and, and_false, false_and, or_self, or_true, true_or, or_false, false_or, not_true_eq_false, not_false_eq_true]
      exact key
  · have hno : ¬ vLike V d s o q := fun h => hd ⟨h.1, h.2.1⟩
    by_cases hm : q % 2 = 1
    · rw [if_pos hm, if_pos hm] at hd
      by_cases h9 : d 2 s = d 3 o
      · have h10 : ¬ d 3 s = d 2 o := fun h => hd ⟨h9, h⟩
        simp (disch := omega) only [↓bd_e, ↓jn_e, ↓opt_bind, ↓reduceIte, iLeT, iLeF, iLtT, iLtF, iEqT, iEqF, il_0, il_1, il_2, il_3, il_4, il_5, il_6, il_7, il_8, il_9, il_10, il_11, il_12, il_13, il_14, il_15, il_16, il_18, il_20, il_24, il_32, il_35, il_40, il_44, il_47, il_48, il_56, il_57, il_58, il_59, il_63, il_64, il_72, il_100, il_120, il_126, il_127, il_160, il_192, il_255, il_349, il_1748, il_6992, iI_add, iI_sub, iI_mul, iI_neg, iI_le, iI_lt, iI_eq, rd_lA, wr_lA, rd_lR, wr_lR, ite_iI, max_iI, min_iI, rem_iI, div_iI, ite_true, ite_false, if_true, if_false, ite_self, and_self, and_true, true_and, and_false, false_and, or_self, or_true, true_or, or_false, false_or, not_true_eq_false, not_false_eq_true]
        exact ⟨0, rfl, isF_F hno⟩
      · simp (disch := omega) only [↓bd_e, ↓jn_e, ↓opt_bind, ↓reduceIte, iLeT, iLeF, iLtT, iLtF, iEqT, iEqF, il_0, il_1, il_2, il_3, il_4, il_5, il_6, il_7, il_8, il_9, il_10, il_11, il_12, il_13, il_14, il_15, il_16, il_18, il_20, il_24, il_32, il_35, il_40, il_44, il_47, il_48, il_56, il_57, il_58, il_59, il_63, il_64, il_72, il_100, il_120, il_126, il_127, il_160, il_192, il_255, il_349, il_1748, il_6992, iI_add, iI_sub, iI_mul, iI_neg, iI_le, iI_lt, iI_eq, rd_lA, wr_lA, rd_lR, wr_lR, ite_iI, max_iI, min_iI, rem_iI, div_iI, ite_true, ite_false, if_true, if_false, ite_self, and_self, and_true, true_and, and_false, false_and, or_self, or_true, true_or, or_false, false_or, not_true_eq_false, not_false_eq_true]
        exact ⟨0, rfl, isF_F hno⟩
    · rw [if_neg hm, if_neg hm] at hd
      by_cases h9 : d 2 s = d 2 o
      · have h10 : ¬ d 3 s = d 3 o := fun h => hd ⟨h9, h⟩
        simp (disch := omega) only [↓bd_e, ↓jn_e, ↓opt_bind, ↓reduceIte, iLeT, iLeF, iLtT, iLtF, iEqT, iEqF, il_0, il_1, il_2, il_3, il_4, il_5, il_6, il_7, il_8, il_9, il_10, il_11, il_12, il_13, il_14, il_15, il_16, il_18, il_20, il_24, il_32, il_35, il_40, il_44, il_47, il_48, il_56, il_57, il_58, il_59, il_63, il_64, il_72, il_100, il_120, il_126, il_127, il_160, il_192, il_255, il_349, il_1748, il_6992, iI_add, iI_sub, iI_mul, iI_neg, iI_le, iI_lt, iI_eq, rd_lA, wr_lA, rd_lR, wr_lR, ite_iI, max_iI, min_iI, rem_iI, div_iI, ite_true, ite_false, if_true, if_false, ite_self, and_self, and_true, true_and, and_false, false_and, or_self, or_true, true_or, or_false, false_or, not_true_eq_false, not_false_eq_true]
        exact ⟨0, rfl, isF_F hno⟩
      · simp (disch := omega) only [↓bd_e, ↓jn_e, ↓opt_bind, ↓reduceIte, iLeT, iLeF, iLtT, iLtF, iEqT, iEqF, il_0, il_1, il_2, il_3, il_4, il_5, il_6, il_7, il_8, il_9, il_10, il_11, il_12, il_13, il_14, il_15, il_16, il_18, il_20, il_24, il_32, il_35, il_40, il_44, il_47, il_48, il_56, il_57, il_58, il_59, il_63, il_64, il_72, il_100, il_120, il_126, il_127, il_160, il_192, il_255, il_349, il_1748, il_6992, iI_add, iI_sub, iI_mul, iI_neg, iI_le, iI_lt, iI_eq, rd_lA, wr_lA, rd_lR, wr_lR, ite_iI, max_iI, min_iI, rem_iI, div_iI, ite_true, ite_false, if_true, if_false, ite_self, and_self, and_true, true_and, and_false, false_and, or_self, or_true, true_or, or_false, false_or, not_true_eq_false, not_false_eq_true]
        exact ⟨0, rfl, isF_F hno⟩
/-- the orientation that orientation q of a turned image is -/
def aft (q : Int) : Int := if q < 4 then (q + 1) % 4 else 4 + (q + 3) % 4
theorem vLk_0 {V : Int → Int} {c : Nat → Int → Int} {s o q : Int} : vLk V c s o 0 q ↔ vLike V c s o q := by
  unfold vLk vLike
  simp only [Int.add_zero, if_true]
  have b0 : ∀ w h x y, bX 0 w h x y = x ∧ bY 0 w h x y = y := fun _ _ _ _ => ⟨rfl, rfl⟩
  simp only [(b0 _ _ _ _).1, (b0 _ _ _ _).2]
theorem aft_b {q w h x y : Int} (hq : 0 ≤ q ∧ q < 8) : bX 1 w h (bX q h w x y) (bY q h w x y) = bX (aft q) w h x y ∧ bY 1 w h (bX q h w x y) (bY q h w x y) = bY (aft q) w h x y := by
  have h8 : q = 0 ∨ q = 1 ∨ q = 2 ∨ q = 3 ∨ q = 4 ∨ q = 5 ∨ q = 6 ∨ q = 7 := by omega
  rcases h8 with rfl | rfl | rfl | rfl | rfl | rfl | rfl | rfl <;> simp [bX, bY, bCol, aft] <;> omega
theorem vLk_1 {V : Int → Int} {c : Nat → Int → Int} {s o q : Int} (hq : 0 ≤ q ∧ q < 8) : vLk V c s o 1 q ↔ vLike V c s o (aft q) := by
  unfold vLk vLike
  simp only [if_neg (show ¬ (1 : Int) = 0 by decide), (aft_b hq).1, (aft_b hq).2]
  have e : (q + 1) % 2 = aft q % 2 := by unfold aft; split <;> omega
  rw [e]
