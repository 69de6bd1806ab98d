/-! choosing a free rectangle -/
def vF (way W H bw bh y : Int) : Int := if way = 0 then min (W - bw) (H - bh) else if way = 1 then max (W - bw) (H - bh) else if way = 2 then W * H - bw * bh else y + bh
def vS (way W H bw bh x : Int) : Int := if way = 0 then max (W - bw) (H - bh) else if way = 3 then x else min (W - bw) (H - bh)
def chC (way X Y W H bw bh a f s : Int) : Prop := bw ≤ W ∧ bh ≤ H ∧ (a = 0 ∨ vF way W H bw bh Y < f ∨ (vF way W H bw bh Y = f ∧ vS way W H bw bh X < s))
theorem vFS_r {way X Y W H bw bh : Int} (hX : 0 ≤ X ∧ X < 64) (hY : 0 ≤ Y ∧ Y < 64) (hW : 0 < W ∧ W < 64) (hH : 0 < H ∧ H < 64) (hw : 1 ≤ bw ∧ bw ≤ 15) (hh : 1 ≤ bh ∧ bh ≤ 15) : (-300 ≤ vF way W H bw bh Y ∧ vF way W H bw bh Y < 5000) ∧ (-300 ≤ vS way W H bw bh X ∧ vS way W H bw bh X < 5000) ∧ (0 ≤ W * H ∧ W * H < 4500) ∧ 0 ≤ bw * bh ∧ bw * bh ≤ 225 := by
  have h1 : W * H ≤ 63 * 63 := Int.mul_le_mul (by omega) (by omega) (by omega) (by omega)
  have h2 : 0 ≤ W * H := Int.mul_nonneg (by omega) (by omega)
  have h3 : bw * bh ≤ 15 * 15 := Int.mul_le_mul (by omega) (by omega) (by omega) (by omega)
  have h4 : 0 ≤ bw * bh := Int.mul_nonneg (by omega) (by omega)
  refine ⟨?_, ?_, by omega, by omega⟩
  · unfold vF
    generalize W * H = A at *
    generalize bw * bh = D at *
    split
    · omega
    · split
      · omega
      · split <;> omega
  · unfold vS
    split
    · omega
    · split <;> omega
theorem c_offer1 {X Y W H t f1 s1 a x y t0 f s : Int} (hX : 0 ≤ X ∧ X < 64) (hY : 0 ≤ Y ∧ Y < 64) (hW : 0 < W ∧ W < 64) (hH : 0 < H ∧ H < 64) (ht : t = 0 ∨ t = 1) (ha : a = 0 ∨ a = 1) (h1 : -5000 ≤ f1 ∧ f1 ≤ 5000) (h2 : -5000 ≤ s1 ∧ s1 ≤ 5000) (h3 : -2147483648 ≤ f ∧ f < 2147483648) (h4 : -2147483648 ≤ s ∧ s < 2147483648) :
    (a = 0 ∨ f1 < f ∨ (f1 = f ∧ s1 < s) → f_X1_offer (iI a) (iI x) (iI y) (iI t0) (iI f) (iI s) (iI (cd X Y W H)) (iI t) (iI f1) (iI s1) = some (iI 1, iI X, iI Y, iI t, iI f1, iI s1)) ∧
    (¬ (a = 0 ∨ f1 < f ∨ (f1 = f ∧ s1 < s)) → f_X1_offer (iI a) (iI x) (iI y) (iI t0) (iI f) (iI s) (iI (cd X Y W H)) (iI t) (iI f1) (iI s1) = some (iI a, iI x, iI y, iI t0, iI f, iI s)) := by
  obtain ⟨d1, d2, d3, d4⟩ := code_dec (x := X) (y := Y) (w := W) (h := H) hX hY (by omega) (by omega)
  constructor
  · intro h
    unfold f_X1_offer
    by_cases c1 : f1 < f
    · by_cases c0 : a = 0
      · simp (disch := omega) only [↓bd_e, ↓jn_e, ↓opt_bind, ↓reduceIte, iLeT, iLeF, iLtT, iLtF, iEqT, iEqF, il_0, il_1, il_2, il_3, il_4, il_5, il_6, il_7, il_8, il_9, il_10, il_11, il_12, il_13, il_14, il_15, il_16, il_18, il_20, il_24, il_32, il_35, il_40, il_44, il_47, il_48, il_56, il_57, il_58, il_59, il_63, il_64, il_72, il_100, il_120, il_126, il_127, il_160, il_192, il_255, il_349, il_1748, il_6992, iI_add, iI_sub, iI_mul, iI_neg, iI_le, iI_lt, iI_eq, rd_lA, wr_lA, rd_lR, wr_lR, ite_iI, max_iI, min_iI, rem_iI, div_iI, ite_true, ite_false, if_true, if_false, ite_self, and_self, and_true, true_and, and_false, false_and, or_self, or_true, true_or, or_false, false_or, not_true_eq_false, not_false_eq_true, d1, d2, z_iI _ ht]
      · simp (disch := omega) only [↓bd_e, ↓jn_e, ↓opt_bind, ↓reduceIte, iLeT, iLeF, iLtT, iLtF, iEqT, iEqF, il_0, il_1, il_2, il_3, il_4, il_5, il_6, il_7, il_8, il_9, il_10, il_11, il_12, il_13, il_14, il_15, il_16, il_18, il_20, il_24, il_32, il_35, il_40, il_44, il_47, il_48, il_56, il_57, il_58, il_59, il_63, il_64, il_72, il_100, il_120, il_126, il_127, il_160, il_192, il_255, il_349, il_1748, il_6992, iI_add, iI_sub, iI_mul, iI_neg, iI_le, iI_lt, iI_eq, rd_lA, wr_lA, rd_lR, wr_lR, ite_iI, max_iI, min_iI, rem_iI, div_iI, ite_true, ite_false, if_true, if_false, ite_self, and_self, and_true, true_and, and_false, false_and, or_self, or_true, true_or, or_false, false_or, not_true_eq_false, not_false_eq_true, d1, d2, z_iI _ ht]
    · by_cases c2 : f1 = f
      · by_cases c3 : s ≤ s1
        · have c0 : a = 0 := by omega
          simp (disch := omega) only [↓bd_e, ↓jn_e, ↓opt_bind, ↓reduceIte, iLeT, iLeF, iLtT, iLtF, iEqT, iEqF, il_0, il_1, il_2, il_3, il_4, il_5, il_6, il_7, il_8, il_9, il_10, il_11, il_12, il_13, il_14, il_15, il_16, il_18, il_20, il_24, il_32, il_35, il_40, il_44, il_47, il_48, il_56, il_57, il_58, il_59, il_63, il_64, il_72, il_100, il_120, il_126, il_127, il_160, il_192, il_255, il_349, il_1748, il_6992, iI_add, iI_sub, iI_mul, iI_neg, iI_le, iI_lt, iI_eq, rd_lA, wr_lA, rd_lR, wr_lR, ite_iI, max_iI, min_iI, rem_iI, div_iI, ite_true, ite_false, if_true, if_false, ite_self, and_self, and_true, true_and, and_false, false_and, or_self, or_true, true_or, or_false, false_or, not_true_eq_false, not_false_eq_true, d1, d2, z_iI _ ht]
        · by_cases c0 : a = 0
          · simp (disch := omega) only [↓bd_e, ↓jn_e, ↓opt_bind, ↓reduceIte, iLeT, iLeF, iLtT, iLtF, iEqT, iEqF, il_0, il_1, il_2, il_3, il_4, il_5, il_6, il_7, il_8, il_9, il_10, il_11, il_12, il_13, il_14, il_15, il_16, il_18, il_20, il_24, il_32, il_35, il_40, il_44, il_47, il_48, il_56, il_57, il_58, il_59, il_63, il_64, il_72, il_100, il_120, il_126, il_127, il_160, il_192, il_255, il_349, il_1748, il_6992, iI_add, iI_sub, iI_mul, iI_neg, iI_le, iI_lt, iI_eq, rd_lA, wr_lA, rd_lR, wr_lR, ite_iI, max_iI, min_iI, rem_iI, div_iI, ite_true, ite_false, if_true, if_false, ite_self, and_self, and_true, true_and, and_false, false_and, or_self, or_true, true_or, or_false, false_or, not_true_eq_false, not_false_eq_true, d1, d2, z_iI _ ht]
          · simp (disch := omega) only [↓bd_e, ↓jn_e, ↓opt_bind, ↓reduceIte, iLeT, iLeF, iLtT, iLtF, iEqT, iEqF, il_0, il_1, il_2, il_3, il_4, il_5, il_6, il_7, il_8, il_9, il_10, il_11, il_12, il_13, il_14, il_15, il_16, il_18, il_20, il_24, il_32, il_35, il_40, il_44, il_47, il_48, il_56, il_57, il_58, il_59, il_63, il_64, il_72, il_100, il_120, il_126, il_127, il_160, il_192, il_255, il_349, il_1748, il_6992, iI_add, iI_sub, iI_mul, iI_neg, iI_le, iI_lt, iI_eq, rd_lA, wr_lA, rd_lR, wr_lR, ite_iI, max_iI, min_iI, rem_iI, div_iI, ite_true, ite_false, if_true, if_false, ite_self, and_self, and_true, true_and, and_false, false_and, or_self, or_true, true_or, or_false, false_or, not_true_eq_false, not_false_eq_true, d1, d2, z_iI _ ht]
      · have c0 : a = 0 := by omega
        simp (disch := omega) only [↓bd_e, ↓jn_e, ↓opt_bind, ↓reduceIte, iLeT, iLeF, iLtT, iLtF, iEqT, iEqF, il_0, il_1, il_2, il_3, il_4, il_5, il_6, il_7, il_8, il_9, il_10, il_11, il_12, il_13, il_14, il_15, il_16, il_18, il_20, il_24, il_32, il_35, il_40, il_44, il_47, il_48, il_56, il_57, il_58, il_59, il_63, il_64, il_72, il_100, il_120, il_126, il_127, il_160, il_192, il_255, il_349, il_1748, il_6992, iI_add, iI_sub, iI_mul, iI_neg, iI_le, iI_lt, iI_eq, rd_lA, wr_lA, rd_lR, wr_lR, ite_iI, max_iI, min_iI, rem_iI, div_iI, ite_true, ite_false, if_true, if_false, ite_self, and_self, and_true, true_and, and_false, false_and, or_self, or_true, true_or, or_false, false_or, not_true_eq_false, not_false_eq_true, d1, d2, z_iI _ ht]
  · intro h
    have c0 : a = 1 := by omega
    have c1 : ¬ f1 < f := fun q => h (Or.inr (Or.inl q))
    unfold f_X1_offer
    by_cases c2 : f1 = f
    · have c3 : s ≤ s1 := by omega
      simp (disch := omega) only [↓bd_e, ↓jn_e, ↓opt_bind, ↓reduceIte, iLeT, iLeF, iLtT, iLtF, iEqT, iEqF, il_0, il_1, il_2, il_3, il_4, il_5, il_6, il_7, il_8, il_9, il_10, il_11, il_12, il_13, il_14, il_15, il_16, il_18, il_20, il_24, il_32, il_35, il_40, il_44, il_47, il_48, il_56, il_57, il_58, il_59, il_63, il_64, il_72, il_100, il_120, il_126, il_127, il_160, il_192, il_255, il_349, il_1748, il_6992, iI_add, iI_sub, iI_mul, iI_neg, iI_le, iI_lt, iI_eq, rd_lA, wr_lA, rd_lR, wr_lR, ite_iI, max_iI, min_iI, rem_iI, div_iI, ite_true, ite_false, if_true, if_false, ite_self, and_self, and_true, true_and, and_false, false_and, or_self, or_true, true_or, or_false, false_or, not_true_eq_false, not_false_eq_true]
    · simp (disch := omega) only [↓bd_e, ↓jn_e, ↓opt_bind, ↓reduceIte, iLeT, iLeF, iLtT, iLtF, iEqT, iEqF, il_0, il_1, il_2, il_3, il_4, il_5, il_6, il_7, il_8, il_9, il_10, il_11, il_12, il_13, il_14, il_15, il_16, il_18, il_20, il_24, il_32, il_35, il_40, il_44, il_47, il_48, il_56, il_57, il_58, il_59, il_63, il_64, il_72, il_100, il_120, il_126, il_127, il_160, il_192, il_255, il_349, il_1748, il_6992, iI_add, iI_sub, iI_mul, iI_neg, iI_le, iI_lt, iI_eq, rd_lA, wr_lA, rd_lR, wr_lR, ite_iI, max_iI, min_iI, rem_iI, div_iI, ite_true, ite_false, if_true, if_false, ite_self, and_self, and_true, true_and, and_false, false_and, or_self, or_true, true_or, or_false, false_or, not_true_eq_false, not_false_eq_true]
theorem c_offer {V : Int → Int} {S : Nat → Nat → Int32} {c d : Nat → Int → Int} (hs : vSet V) (hr : ∀ k : Nat, k < 12 → S 5 k = iI (V (1 + k))) {i t : Int} (hi : 0 ≤ i ∧ i < 24) (hd : d 2 i = c 2 i ∧ d 3 i = c 3 i) (ht : t = 0 ∨ t = 1) (hbw : 1 ≤ bxW V c i t ∧ bxW V c i t ≤ 15) (hbh : 1 ≤ bxH V c i t ∧ bxH V c i t ≤ 15)
    {X Y W H a x y t0 f s : Int} (hX : 0 ≤ X ∧ X < 64) (hY : 0 ≤ Y ∧ Y < 64) (hW : 0 < W ∧ W < 64) (hH : 0 < H ∧ H < 64) (ha : a = 0 ∨ a = 1) (h3 : -2147483648 ≤ f ∧ f < 2147483648) (h4 : -2147483648 ≤ s ∧ s < 2147483648) :
    (chC (V 12) X Y W H (bxW V c i t) (bxH V c i t) a f s → f_X3_offer (iI a) (iI x) (iI y) (iI t0) (iI f) (iI s) S (lA (d 2)) (lA (d 3)) (iI (cd X Y W H)) (iI i) (iI t) = some (iI 1, iI X, iI Y, iI t, iI (vF (V 12) W H (bxW V c i t) (bxH V c i t) Y), iI (vS (V 12) W H (bxW V c i t) (bxH V c i t) X))) ∧
    (¬ chC (V 12) X Y W H (bxW V c i t) (bxH V c i t) a f s → f_X3_offer (iI a) (iI x) (iI y) (iI t0) (iI f) (iI s) S (lA (d 2)) (lA (d 3)) (iI (cd X Y W H)) (iI i) (iI t) = some (iI a, iI x, iI y, iI t0, iI f, iI s)) := by
  obtain ⟨d1, d2, d3, d4⟩ := code_dec (x := X) (y := Y) (w := W) (h := H) hX hY (by omega) (by omega)
  have ew := c_boxW (S := S) (c := c) (d := d) hs hr hi hd ht
  have eh := c_boxH (S := S) (c := c) (d := d) hs hr hi hd ht
  have e11 : S 5 11 = iI (V 12) := hr 11 (by omega)
  have h12 : 0 ≤ V 12 ∧ V 12 ≤ 3 := by unfold vSet at hs; omega
  obtain ⟨q1, q2, q3, q4⟩ := vFS_r (way := V 12) hX hY hW hH hbw hbh
  generalize bxW V c i t = bw at *
  generalize bxH V c i t = bh at *
  obtain ⟨o1, o2⟩ := c_offer1 (X := X) (Y := Y) (W := W) (H := H) (t := t) (f1 := vF (V 12) W H bw bh Y) (s1 := vS (V 12) W H bw bh X) (a := a) (x := x) (y := y) (t0 := t0) (f := f) (s := s) hX hY hW hH ht ha (by omega) (by omega) h3 h4
  -- what the method does when the box fits
  have key : bw ≤ W → bh ≤ H → f_X3_offer (iI a) (iI x) (iI y) (iI t0) (iI f) (iI s) S (lA (d 2)) (lA (d 3)) (iI (cd X Y W H)) (iI i) (iI t) = f_X1_offer (iI a) (iI x) (iI y) (iI t0) (iI f) (iI s) (iI (cd X Y W H)) (iI t) (iI (vF (V 12) W H bw bh Y)) (iI (vS (V 12) W H bw bh X)) := by
    intro f1 f2
    have hb : ∀ r : Option (Int32 × Int32 × Int32 × Int32 × Int32 × Int32), (r.bind fun r7 => some (r7.1, r7.2.1, r7.2.2.1, r7.2.2.2.1, r7.2.2.2.2.1, r7.2.2.2.2.2)) = r := fun r => by cases r <;> rfl
    unfold f_X3_offer
    rw [ew, eh, e11]
    have hw4 : V 12 = 0 ∨ V 12 = 1 ∨ V 12 = 2 ∨ V 12 = 3 := by omega
    unfold vF vS
    clear o1 o2 q1 q2
    rcases hw4 with e | e | e | e
    · rw [e]
      simp (disch := omega) only [↓bd_e, ↓jn_e, ↓opt_bind, ↓reduceIte, iLeT, iLeF, iLtT, iLtF, iEqT, iEqF, il_0, il_1, il_2, il_3, il_4, il_5, il_6, il_7, il_8, il_9, il_10, il_11, il_12, il_13, il_14, il_15, il_16, il_18, il_20, il_24, il_32, il_35, il_40, il_44, il_47, il_48, il_56, il_57, il_58, il_59, il_63, il_64, il_72, il_100, il_120, il_126, il_127, il_160, il_192, il_255, il_349, il_1748, il_6992, iI_add, iI_sub, iI_mul, iI_neg, iI_le, iI_lt, iI_eq, rd_lA, wr_lA, rd_lR, wr_lR, ite_iI, max_iI, min_iI, rem_iI, div_iI, ite_true, ite_false, if_true, if_false, ite_self, and_self, and_true, true_and, and_false, false_and, or_self, or_true, true_or, or_false, false_or, not_true_eq_false, not_false_eq_true, d1, d2, d3, d4, hb]
    · rw [e]
      simp (disch := omega) only [↓bd_e, ↓jn_e, ↓opt_bind, ↓reduceIte, iLeT, iLeF, iLtT, iLtF, iEqT, iEqF, il_0, il_1, il_2, il_3, il_4, il_5, il_6, il_7, il_8, il_9, il_10, il_11, il_12, il_13, il_14, il_15, il_16, il_18, il_20, il_24, il_32, il_35, il_40, il_44, il_47, il_48, il_56, il_57, il_58, il_59, il_63, il_64, il_72, il_100, il_120, il_126, il_127, il_160, il_192, il_255, il_349, il_1748, il_6992, iI_add, iI_sub, iI_mul, iI_neg, iI_le, iI_lt, iI_eq, rd_lA, wr_lA, rd_lR, wr_lR, ite_iI, max_iI, min_iI, rem_iI, div_iI, ite_true, ite_false, if_true, if_false, ite_self, and_self, and_true, true_and, and_false, false_and, or_self, or_true, true_or, or_false, false_or, not_true_eq_false, not_false_eq_true, d1, d2, d3, d4, hb]
    · rw [e]
      simp (disch := omega) only [↓bd_e, ↓jn_e, ↓opt_bind, ↓reduceIte, iLeT, iLeF, iLtT, iLtF, iEqT, iEqF, il_0, il_1, il_2, il_3, il_4, il_5, il_6, il_7, il_8, il_9, il_10, il_11, il_12, il_13, il_14, il_15, il_16, il_18, il_20, il_24, il_32, il_35, il_40, il_44, il_47, il_48, il_56, il_57, il_58, il_59, il_63, il_64, il_72, il_100, il_120, il_126, il_127, il_160, il_192, il_255, il_349, il_1748, il_6992, iI_add, iI_sub, iI_mul, iI_neg, iI_le, iI_lt, iI_eq, rd_lA, wr_lA, rd_lR, wr_lR, ite_iI, max_iI, min_iI, rem_iI, div_iI, ite_true, ite_false, if_true, if_false, ite_self, and_self, and_true, true_and, and_false, false_and, or_self, or_true, true_or, or_false, false_or, not_true_eq_false, not_false_eq_true, d1, d2, d3, d4, hb]
    · rw [e]
      simp (disch := omega) only [↓bd_e, ↓jn_e, ↓opt_bind, ↓reduceIte, iLeT, iLeF, iLtT, iLtF, iEqT, iEqF, il_0, il_1, il_2, il_3, il_4, il_5, il_6, il_7, il_8, il_9, il_10, il_11, il_12, il_13, il_14, il_15, il_16, il_18, il_20, il_24, il_32, il_35, il_40, il_44, il_47, il_48, il_56, il_57, il_58, il_59, il_63, il_64, il_72, il_100, il_120, il_126, il_127, il_160, il_192, il_255, il_349, il_1748, il_6992, iI_add, iI_sub, iI_mul, iI_neg, iI_le, iI_lt, iI_eq, rd_lA, wr_lA, rd_lR, wr_lR, ite_iI, max_iI, min_iI, rem_iI, div_iI, ite_true, ite_false, if_true, if_false, ite_self, and_self, and_true, true_and, and_false, false_and, or_self, or_true, true_or, or_false, false_or, not_true_eq_false, not_false_eq_true, d1, d2, d3, d4, hb]
  constructor
  · rintro ⟨f1, f2, f3⟩
    rw [key f1 f2]
    exact o1 f3
  · intro hn
    by_cases f1 : bw ≤ W
    · by_cases f2 : bh ≤ H
      · rw [key f1 f2]
        exact o2 (fun h => hn ⟨f1, f2, h⟩)
      · unfold f_X3_offer
        rw [ew, eh]
        simp (disch := omega) only [↓bd_e, ↓jn_e, ↓opt_bind, ↓reduceIte, iLeT, iLeF, iLtT, iLtF, iEqT, iEqF, il_0, il_1, il_2, il_3, il_4, il_5, il_6, il_7, il_8, il_9, il_10, il_11, il_12, il_13, il_14, il_15, il_16, il_18, il_20, il_24, il_32, il_35, il_40, il_44, il_47, il_48, il_56, il_57, il_58, il_59, il_63, il_64, il_72, il_100, il_120, il_126, il_127, il_160, il_192, il_255, il_349, il_1748, il_6992, iI_add, iI_sub, iI_mul, iI_neg, iI_le, iI_lt, iI_eq, rd_lA, wr_lA, rd_lR, wr_lR, ite_iI, max_iI, min_iI, rem_iI, div_iI, ite_true, ite_false, if_true, if_false, ite_self, and_self, and_true, true_and, and_false, false_and, or_self, or_true, true_or, or_false, false_or, not_true_eq_false, not_false_eq_true, d3, d4]
    · unfold f_X3_offer
      rw [ew, eh]
      simp (disch := omega) only [↓bd_e, ↓jn_e, ↓opt_bind, ↓reduceIte, iLeT, iLeF, iLtT, iLtF, iEqT, iEqF, il_0, il_1, il_2, il_3, il_4, il_5, il_6, il_7, il_8, il_9, il_10, il_11, il_12, il_13, il_14, il_15, il_16, il_18, il_20, il_24, il_32, il_35, il_40, il_44, il_47, il_48, il_56, il_57, il_58, il_59, il_63, il_64, il_72, il_100, il_120, il_126, il_127, il_160, il_192, il_255, il_349, il_1748, il_6992, iI_add, iI_sub, iI_mul, iI_neg, iI_le, iI_lt, iI_eq, rd_lA, wr_lA, rd_lR, wr_lR, ite_iI, max_iI, min_iI, rem_iI, div_iI, ite_true, ite_false, if_true, if_false, ite_self, and_self, and_true, true_and, and_false, false_and, or_self, or_true, true_or, or_false, false_or, not_true_eq_false, not_false_eq_true, d3, d4]
theorem m_values {V : Int → Int} {c : Nat → Int → Int} (hs : vSet V) {i t : Int} (hi : 0 ≤ i ∧ i < 24) (ht : t = 0 ∨ t = 1) (hbw : 1 ≤ bxW V c i t ∧ bxW V c i t ≤ 15) (hbh : 1 ≤ bxH V c i t ∧ bxH V c i t ≤ 15) {FX FY FW FH : Int → Int} {j k t0 f s : Int} (hj : 0 ≤ j ∧ j < 2000) (hX : 0 ≤ FX j ∧ FX j < 64) (hY : 0 ≤ FY j ∧ FY j < 64) (hW : 0 < FW j ∧ FW j < 64) (hH : 0 < FH j ∧ FH j < 64)
    (hk : -1 ≤ k ∧ k < 2000) (h3 : -2147483648 ≤ f ∧ f < 2147483648) (h4 : -2147483648 ≤ s ∧ s < 2147483648) :
    (chC (V 12) (FX j) (FY j) (FW j) (FH j) (bxW V c i t) (bxH V c i t) (if k < 0 then 0 else 1) f s → f_X11_values (iI k) (iI t0) (iI f) (iI s) (lA V) (lA (c 2)) (lA (c 3)) (lA FX) (lA FY) (lA FW) (lA FH) (iI j) (iI i) (iI t) = some (iI j, iI t, iI (vF (V 12) (FW j) (FH j) (bxW V c i t) (bxH V c i t) (FY j)), iI (vS (V 12) (FW j) (FH j) (bxW V c i t) (bxH V c i t) (FX j)))) ∧
    (¬ chC (V 12) (FX j) (FY j) (FW j) (FH j) (bxW V c i t) (bxH V c i t) (if k < 0 then 0 else 1) f s → f_X11_values (iI k) (iI t0) (iI f) (iI s) (lA V) (lA (c 2)) (lA (c 3)) (lA FX) (lA FY) (lA FW) (lA FH) (iI j) (iI i) (iI t) = some (iI k, iI t0, iI f, iI s)) := by
  have ew := m_boxW (V := V) c hi ht
  have eh := m_boxH (V := V) c hi ht
  have h12 : 0 ≤ V 12 ∧ V 12 ≤ 3 := by unfold vSet at hs; omega
  obtain ⟨q1, q2, q3, q4⟩ := vFS_r (way := V 12) hX hY hW hH hbw hbh
  generalize bxW V c i t = bw at *
  generalize bxH V c i t = bh at *
  have efit : f_X11_fits (lA FW) (lA FH) (iI j) (iI bw) (iI bh) = some (iI (if bw ≤ FW j ∧ bh ≤ FH j then 1 else 0)) := by
    unfold f_X11_fits
    by_cases f1 : FW j < bw
    · simp (disch := omega) only [↓bd_e, ↓jn_e, ↓opt_bind, ↓reduceIte, iLeT, iLeF, iLtT, iLtF, iEqT, iEqF, il_0, il_1, il_2, il_3, il_4, il_5, il_6, il_7, il_8, il_9, il_10, il_11, il_12, il_13, il_14, il_15, il_16, il_18, il_20, il_24, il_32, il_35, il_40, il_44, il_47, il_48, il_56, il_57, il_58, il_59, il_63, il_64, il_72, il_100, il_120, il_126, il_127, il_160, il_192, il_255, il_349, il_1748, il_6992, iI_add, iI_sub, iI_mul, iI_neg, iI_le, iI_lt, iI_eq, rd_lA, wr_lA, rd_lR, wr_lR, ite_iI, max_iI, min_iI, rem_iI, div_iI, ite_true, ite_false, if_true, if_false, ite_self, and_self, and_true, true_and, and_false, false_and, or_self, or_true, true_or, or_false, false_or, not_true_eq_false, not_false_eq_true]
    · by_cases f2 : FH j < bh
      · simp (disch := omega) only [↓bd_e, ↓jn_e, ↓opt_bind, ↓reduceIte, iLeT, iLeF, iLtT, iLtF, iEqT, iEqF, il_0, il_1, il_2, il_3, il_4, il_5, il_6, il_7, il_8, il_9, il_10, il_11, il_12, il_13, il_14, il_15, il_16, il_18, il_20, il_24, il_32, il_35, il_40, il_44, il_47, il_48, il_56, il_57, il_58, il_59, il_63, il_64, il_72, il_100, il_120, il_126, il_127, il_160, il_192, il_255, il_349, il_1748, il_6992, iI_add, iI_sub, iI_mul, iI_neg, iI_le, iI_lt, iI_eq, rd_lA, wr_lA, rd_lR, wr_lR, ite_iI, max_iI, min_iI, rem_iI, div_iI, ite_true, ite_false, if_true, if_false, ite_self, and_self, and_true, true_and, and_false, false_and, or_self, or_true, true_or, or_false, false_or, not_true_eq_false, not_false_eq_true]
      · simp (disch := omega) only [↓bd_e, ↓jn_e, ↓opt_bind, ↓reduceIte, iLeT, iLeF, iLtT, iLtF, iEqT, iEqF, il_0, il_1, il_2, il_3, il_4, il_5, il_6, il_7, il_8, il_9, il_10, il_11, il_12, il_13, il_14, il_15, il_16, il_18, il_20, il_24, il_32, il_35, il_40, il_44, il_47, il_48, il_56, il_57, il_58, il_59, il_63, il_64, il_72, il_100, il_120, il_126, il_127, il_160, il_192, il_255, il_349, il_1748, il_6992, iI_add, iI_sub, iI_mul, iI_neg, iI_le, iI_lt, iI_eq, rd_lA, wr_lA, rd_lR, wr_lR, ite_iI, max_iI, min_iI, rem_iI, div_iI, ite_true, ite_false, if_true, if_false, ite_self, and_self, and_true, true_and, and_false, false_and, or_self, or_true, true_or, or_false, false_or, not_true_eq_false, not_false_eq_true]
  have hw4 : V 12 = 0 ∨ V 12 = 1 ∨ V 12 = 2 ∨ V 12 = 3 := by omega
  have key : bw ≤ FW j → bh ≤ FH j → f_X11_values (iI k) (iI t0) (iI f) (iI s) (lA V) (lA (c 2)) (lA (c 3)) (lA FX) (lA FY) (lA FW) (lA FH) (iI j) (iI i) (iI t) = if k < 0 ∨ vF (V 12) (FW j) (FH j) bw bh (FY j) < f ∨ (vF (V 12) (FW j) (FH j) bw bh (FY j) = f ∧ vS (V 12) (FW j) (FH j) bw bh (FX j) < s) then some (iI j, iI t, iI (vF (V 12) (FW j) (FH j) bw bh (FY j)), iI (vS (V 12) (FW j) (FH j) bw bh (FX j))) else some (iI k, iI t0, iI f, iI s) := by
    intro f1 f2
    rw [if_pos ⟨f1, f2⟩] at efit
    have fin : ∀ F1 S1 : Int, -300 ≤ F1 → F1 < 5000 → -300 ≤ S1 → S1 < 5000 → (if iI k < iI 0 then some (iI j, iI t, iI F1, iI S1) else if iI F1 < iI f then some (iI j, iI t, iI F1, iI S1) else if iI F1 = iI f then (if iI s ≤ iI S1 then some (iI k, iI t0, iI f, iI s) else some (iI j, iI t, iI F1, iI S1)) else some (iI k, iI t0, iI f, iI s)) = if k < 0 ∨ F1 < f ∨ (F1 = f ∧ S1 < s) then some (iI j, iI t, iI F1, iI S1) else some (iI k, iI t0, iI f, iI s) := by
      intro F1 S1 a1 a2 a3 a4
      by_cases b0 : k < 0
      · simp (disch := omega) only [↓bd_e, ↓jn_e, ↓opt_bind, ↓reduceIte, iLeT, iLeF, iLtT, iLtF, iEqT, iEqF, il_0, il_1, il_2, il_3, il_4, il_5, il_6, il_7, il_8, il_9, il_10, il_11, il_12, il_13, il_14, il_15, il_16, il_18, il_20, il_24, il_32, il_35, il_40, il_44, il_47, il_48, il_56, il_57, il_58, il_59, il_63, il_64, il_72, il_100, il_120, il_126, il_127, il_160, il_192, il_255, il_349, il_1748, il_6992, iI_add, iI_sub, iI_mul, iI_neg, iI_le, iI_lt, iI_eq, rd_lA, wr_lA, rd_lR, wr_lR, ite_iI, max_iI, min_iI, rem_iI, div_iI, ite_true, ite_false, if_true, if_false, ite_self, and_self, and_true, true_and, and_false, false_and, or_self, or_true, true_or, or_false, false_or, not_true_eq_false, not_false_eq_true]
      · by_cases b1 : F1 < f
        · simp (disch := omega) only [↓bd_e, ↓jn_e, ↓opt_bind, ↓reduceIte, iLeT, iLeF, iLtT, iLtF, iEqT, iEqF, il_0, il_1, il_2, il_3, il_4, il_5, il_6, il_7, il_8, il_9, il_10, il_11, il_12, il_13, il_14, il_15, il_16, il_18, il_20, il_24, il_32, il_35, il_40, il_44, il_47, il_48, il_56, il_57, il_58, il_59, il_63, il_64, il_72, il_100, il_120, il_126, il_127, il_160, il_192, il_255, il_349, il_1748, il_6992, iI_add, iI_sub, iI_mul, iI_neg, iI_le, iI_lt, iI_eq, rd_lA, wr_lA, rd_lR, wr_lR, ite_iI, max_iI, min_iI, rem_iI, div_iI, ite_true, ite_false, if_true, if_false, ite_self, and_self, and_true, true_and, and_false, false_and, or_self, or_true, true_or, or_false, false_or, not_true_eq_false, not_false_eq_true]
        · by_cases b2 : F1 = f
          · by_cases b3 : s ≤ S1
            · simp (disch := omega) only [↓bd_e, ↓jn_e, ↓opt_bind, ↓reduceIte, iLeT, iLeF, iLtT, iLtF, iEqT, iEqF, il_0, il_1, il_2, il_3, il_4, il_5, il_6, il_7, il_8, il_9, il_10, il_11, il_12, il_13, il_14, il_15, il_16, il_18, il_20, il_24, il_32, il_35, il_40, il_44, il_47, il_48, il_56, il_57, il_58, il_59, il_63, il_64, il_72, il_100, il_120, il_126, il_127, il_160, il_192, il_255, il_349, il_1748, il_6992, iI_add, iI_sub, iI_mul, iI_neg, iI_le, iI_lt, iI_eq, rd_lA, wr_lA, rd_lR, wr_lR, ite_iI, max_iI, min_iI, rem_iI, div_iI, ite_true, ite_false, if_true, if_false, ite_self, and_self, and_true, true_and, and_false, false_and, or_self, or_true, true_or, or_false, false_or, not_true_eq_false, not_false_eq_true]
            · simp (disch := omega) only [↓bd_e, ↓jn_e, ↓opt_bind, ↓reduceIte, iLeT, iLeF, iLtT, iLtF, iEqT, iEqF, il_0, il_1, il_2, il_3, il_4, il_5, il_6, il_7, il_8, il_9, il_10, il_11, il_12, il_13, il_14, il_15, il_16, il_18, il_20, il_24, il_32, il_35, il_40, il_44, il_47, il_48, il_56, il_57, il_58, il_59, il_63, il_64, il_72, il_100, il_120, il_126, il_127, il_160, il_192, il_255, il_349, il_1748, il_6992, iI_add, iI_sub, iI_mul, iI_neg, iI_le, iI_lt, iI_eq, rd_lA, wr_lA, rd_lR, wr_lR, ite_iI, max_iI, min_iI, rem_iI, div_iI, ite_true, ite_false, if_true, if_false, ite_self, and_self, and_true, true_and, and_false, false_and, or_self, or_true, true_or, or_false, false_or, not_true_eq_false, not_false_eq_true]
          · simp (disch := omega) only [↓bd_e, ↓jn_e, ↓opt_bind, ↓reduceIte, iLeT, iLeF, iLtT, iLtF, iEqT, iEqF, il_0, il_1, il_2, il_3, il_4, il_5, il_6, il_7, il_8, il_9, il_10, il_11, il_12, il_13, il_14, il_15, il_16, il_18, il_20, il_24, il_32, il_35, il_40, il_44, il_47, il_48, il_56, il_57, il_58, il_59, il_63, il_64, il_72, il_100, il_120, il_126, il_127, il_160, il_192, il_255, il_349, il_1748, il_6992, iI_add, iI_sub, iI_mul, iI_neg, iI_le, iI_lt, iI_eq, rd_lA, wr_lA, rd_lR, wr_lR, ite_iI, max_iI, min_iI, rem_iI, div_iI, ite_true, ite_false, if_true, if_false, ite_self, and_self, and_true, true_and, and_false, false_and, or_self, or_true, true_or, or_false, false_or, not_true_eq_false, not_false_eq_true]
    have fin := fin _ _ q1.1 q1.2 q2.1 q2.2
    rw [← fin]
    clear fin
    have m1 : (if FH j - bh ≤ FW j - bw then FH j - bh else FW j - bw) = min (FW j - bw) (FH j - bh) := by split <;> omega
    have m2 : (if FH j - bh ≤ FW j - bw then FW j - bw else FH j - bh) = max (FW j - bw) (FH j - bh) := by split <;> omega
    have m1' : (if iI (FH j - bh) ≤ iI (FW j - bw) then iI (FH j - bh) else iI (FW j - bw)) = iI (min (FW j - bw) (FH j - bh)) := by rw [← m1, ← ite_iI]; simp (disch := omega) only [iI_le]
    have m2' : (if iI (FH j - bh) ≤ iI (FW j - bw) then iI (FW j - bw) else iI (FH j - bh)) = iI (max (FW j - bw) (FH j - bh)) := by rw [← m2, ← ite_iI]; simp (disch := omega) only [iI_le]
    have rX : ∀ K : Int32 → Option (Int32 × Int32 × Int32 × Int32), g_rd (lA FX) 2000 (iI j) K = K (iI (FX j)) := fun K => rd_lA _ _ (by omega) (by omega) (by omega)
    have rY : ∀ K : Int32 → Option (Int32 × Int32 × Int32 × Int32), g_rd (lA FY) 2000 (iI j) K = K (iI (FY j)) := fun K => rd_lA _ _ (by omega) (by omega) (by omega)
    have rW : ∀ K : Int32 → Option (Int32 × Int32 × Int32 × Int32), g_rd (lA FW) 2000 (iI j) K = K (iI (FW j)) := fun K => rd_lA _ _ (by omega) (by omega) (by omega)
    have rH : ∀ K : Int32 → Option (Int32 × Int32 × Int32 × Int32), g_rd (lA FH) 2000 (iI j) K = K (iI (FH j)) := fun K => rd_lA _ _ (by omega) (by omega) (by omega)
    have r12 : ∀ K : Int32 → Option (Int32 × Int32 × Int32 × Int32), g_rd (lA V) 1748 12 K = K (iI (V 12)) := fun K => by rw [il_12]; exact rd_lA _ _ (by omega) (by omega) (by omega)
    have z10 : (iI 1 = (0 : Int32)) = False := eq_false (by decide +kernel)
    have z20 : (iI 2 = (0 : Int32)) = False := eq_false (by decide +kernel)
    have z21 : (iI 2 = (1 : Int32)) = False := eq_false (by decide +kernel)
    have z23 : (iI 2 = (3 : Int32)) = False := eq_false (by decide +kernel)
    have z30 : (iI 3 = (0 : Int32)) = False := eq_false (by decide +kernel)
    have z31 : (iI 3 = (1 : Int32)) = False := eq_false (by decide +kernel)
    have z32 : (iI 3 = (2 : Int32)) = False := eq_false (by decide +kernel)
    have z33 : (iI 3 = (3 : Int32)) = True := eq_true (by decide +kernel)
    have z00 : (iI 0 = (0 : Int32)) = True := eq_true (by decide +kernel)
    have z11 : (iI 1 = (1 : Int32)) = True := eq_true (by decide +kernel)
    have z22 : (iI 2 = (2 : Int32)) = True := eq_true (by decide +kernel)
    have z13 : (iI 1 = (3 : Int32)) = False := eq_false (by decide +kernel)
    have y10 : (iI 1 = iI 0) = False := eq_false (by decide +kernel)
    have y20 : (iI 2 = iI 0) = False := eq_false (by decide +kernel)
    have y30 : (iI 3 = iI 0) = False := eq_false (by decide +kernel)
    unfold f_X11_values
    rw [ew, eh, opt_bind, opt_bind, efit, opt_bind, if_neg (show ¬ iI 1 = (0 : Int32) by rw [z10]; exact id), rW, bd_e, rH, bd_e, bd_e, bd_e, r12, iI_sub, iI_sub, m1', m2']
    unfold vF vS
    clear q1 q2
    rcases hw4 with e | e | e | e
    · rw [e] at r12 ⊢
      simp only [↓jn_e, ↓reduceIte, z00, ↓r12, if_true, il_0]
    · rw [e] at r12 ⊢
      simp only [↓jn_e, ↓reduceIte, y10, z10, z11, z13, ↓r12, if_true, if_false, il_0, show ((1 : Int) = 0) = False from eq_false (by decide), show ((1 : Int) = 3) = False from eq_false (by decide)]
    · rw [e] at r12 ⊢
      simp only [↓jn_e, ↓reduceIte, y20, z20, z21, z22, z23, ↓r12, ↓rW, ↓rH, iI_mul, iI_sub, if_true, if_false, il_0, show ((2 : Int) = 0) = False from eq_false (by decide), show ((2 : Int) = 1) = False from eq_false (by decide), show ((2 : Int) = 3) = False from eq_false (by decide)]
    · rw [e] at r12 ⊢
      simp only [↓jn_e, ↓reduceIte, y30, z30, z31, z32, z33, ↓r12, ↓rX, ↓rY, iI_add, if_true, if_false, il_0, show ((3 : Int) = 0) = False from eq_false (by decide), show ((3 : Int) = 1) = False from eq_false (by decide), show ((3 : Int) = 2) = False from eq_false (by decide)]
  constructor
  · rintro ⟨f1, f2, f3⟩
    rw [key f1 f2, if_pos]
    split at f3 <;> omega
  · intro hn
    by_cases f1 : bw ≤ FW j ∧ bh ≤ FH j
    · rw [key f1.1 f1.2, if_neg]
      intro h
      exact hn ⟨f1.1, f1.2, by split <;> omega⟩
    · rw [if_neg f1] at efit
      unfold f_X11_values
      rw [ew, eh, opt_bind, opt_bind, efit, opt_bind, if_pos (show iI 0 = (0 : Int32) by decide +kernel)]
