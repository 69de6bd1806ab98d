theorem c_open {fw fh : Int} (hw : -100 ≤ fw ∧ fw ≤ 35) (hh : -100 ≤ fh ∧ fh ≤ 35) (fr : Nat → Int64) : ∃ F, f_X7_open fr (iI fw) (iI fh) = some (iI (max fw 0), iI (max fh 0), F) ∧ rowsI fw fh (fun _ _ => False) F := by
  unfold f_X7_open f_J7_fill_bad5a f_J7_rangeCheck_23922
  obtain ⟨fu, hfu, hfu2⟩ := fuel_ex; rw [hfu]
  have e1 : min (max fh 0) 35 = max fh 0 := by omega
  rw [show Int32.ofNat 35 = iI 35 by decide +kernel]
  simp (disch := omega) only [↓bd_e, ↓jn_e, ↓opt_bind, ↓reduceIte, iLeT, iLeF, iLtT, iLtF, iEqT, iEqF, il_0, il_1, il_2, il_3, il_4, il_5, il_6, il_7, il_8, il_9, il_10, il_11, il_12, il_13, il_14, il_15, il_16, il_18, il_20, il_24, il_32, il_35, il_40, il_44, il_47, il_48, il_56, il_57, il_58, il_59, il_63, il_64, il_72, il_100, il_120, il_126, il_127, il_160, il_192, il_255, il_349, il_1748, il_6992, iI_add, iI_sub, iI_mul, iI_neg, iI_le, iI_lt, iI_eq, rd_lA, wr_lA, rd_lR, wr_lR, ite_iI, max_iI, min_iI, rem_iI, div_iI, ite_true, ite_false, if_true, if_false, ite_self, and_self, and_true, true_and, and_false, false_and, or_self, or_true, true_or, or_false, false_or, not_true_eq_false, not_false_eq_true, e1]
  have ones : ∀ i, i < 64 → (lb (g_lshl 1 (iI (max fw 0)) - 1) i = true ↔ (i : Int) < fw ∧ ¬ False) := by
    intro i hi
    obtain ⟨a, ha⟩ : ∃ a : Nat, max fw 0 = a := ⟨(max fw 0).toNat, by omega⟩
    rw [ha, iI_nI, lb_ones a (by omega) i hi]
    constructor
    · intro h
      have := of_decide_eq_true h
      exact ⟨by omega, fun h => h⟩
    · rintro ⟨h, -⟩
      exact decide_eq_true (by omega)
  refine lp (fun n k (F : Nat → Int64) => (f_J7_fill_bad5a_L10 35 (iI (max fh 0)) (g_lshl 1 (iI (max fw 0)) - 1) n (iI k) F).bind fun r3 => some (iI (max fw 0), iI (max fh 0), r3)) (fun r => ∃ F, r = some (iI (max fw 0), iI (max fh 0), F) ∧ rowsI fw fh (fun _ _ => False) F) (max fh 0)
    (fun k F => 0 ≤ k ∧ ∀ y i : Nat, (y : Int) < k → i < 64 → (lb (F y) i = true ↔ (i : Int) < fw ∧ ¬ False)) ?_ ?_ fu 0 fr (by omega) (by omega) ⟨by omega, fun y i hy => by omega⟩
  · rintro n F ⟨-, h⟩
    unfold f_J7_fill_bad5a_L10
    simp (disch := omega) only [↓bd_e, ↓jn_e, ↓opt_bind, ↓reduceIte, iLeT, iLeF, iLtT, iLtF, iEqT, iEqF, il_0, il_1, il_2, il_3, il_4, il_5, il_6, il_7, il_8, il_9, il_10, il_11, il_12, il_13, il_14, il_15, il_16, il_18, il_20, il_24, il_32, il_35, il_40, il_44, il_47, il_48, il_56, il_57, il_58, il_59, il_63, il_64, il_72, il_100, il_120, il_126, il_127, il_160, il_192, il_255, il_349, il_1748, il_6992, iI_add, iI_sub, iI_mul, iI_neg, iI_le, iI_lt, iI_eq, rd_lA, wr_lA, rd_lR, wr_lR, ite_iI, max_iI, min_iI, rem_iI, div_iI, ite_true, ite_false, if_true, if_false, ite_self, and_self, and_true, true_and, and_false, false_and, or_self, or_true, true_or, or_false, false_or, not_true_eq_false, not_false_eq_true]
    exact ⟨F, rfl, fun y i hy hi => h y i (by omega) hi⟩
  · rintro n k F hk ⟨hk0, h⟩ ih
    unfold f_J7_fill_bad5a_L10
    simp (disch := omega) only [↓bd_e, ↓jn_e, ↓opt_bind, ↓reduceIte, iLeT, iLeF, iLtT, iLtF, iEqT, iEqF, il_0, il_1, il_2, il_3, il_4, il_5, il_6, il_7, il_8, il_9, il_10, il_11, il_12, il_13, il_14, il_15, il_16, il_18, il_20, il_24, il_32, il_35, il_40, il_44, il_47, il_48, il_56, il_57, il_58, il_59, il_63, il_64, il_72, il_100, il_120, il_126, il_127, il_160, il_192, il_255, il_349, il_1748, il_6992, iI_add, iI_sub, iI_mul, iI_neg, iI_le, iI_lt, iI_eq, rd_lA, wr_lA, rd_lR, wr_lR, ite_iI, max_iI, min_iI, rem_iI, div_iI, ite_true, ite_false, if_true, if_false, ite_self, and_self, and_true, true_and, and_false, false_and, or_self, or_true, true_or, or_false, false_or, not_true_eq_false, not_false_eq_true, wrL_iI]
    refine ih _ ⟨by omega, fun y i hy hi => ?_⟩
    show lb (if y = k.toNat then _ else F y) i = true ↔ _
    by_cases e : y = k.toNat
    · rw [if_pos e]
      exact ones i hi
    · rw [if_neg e]
      exact h y i (by omega) hi
theorem c_block {W H X Y w h : Int} {B : Int → Int → Prop} (hH : H ≤ 35) (hX : 0 ≤ X) (hw : 1 ≤ w) (hXW : X + w ≤ 35) (hY : 0 ≤ Y) (hh : 1 ≤ h) (hYH : Y + h ≤ H) {F : Nat → Int64} (hF : rowsI W H B F) : ∃ F', f_X7_block (iI (max H 0)) F (iI X) (iI Y) (iI w) (iI h) = some F' ∧ rowsI W H (fun x y => B x y ∨ (X ≤ x ∧ x < X + w ∧ Y ≤ y ∧ y < Y + h)) F' := by
  obtain ⟨a, rfl⟩ : ∃ a : Nat, X = a := ⟨X.toNat, by omega⟩
  obtain ⟨l, rfl⟩ : ∃ a : Nat, w = a := ⟨w.toNat, by omega⟩
  unfold f_X7_block
  obtain ⟨fu, hfu, hfu2⟩ := fuel_ex; rw [hfu]
  simp (disch := omega) only [↓bd_e, ↓jn_e, ↓opt_bind, ↓reduceIte, iLeT, iLeF, iLtT, iLtF, iEqT, iEqF, il_0, il_1, il_2, il_3, il_4, il_5, il_6, il_7, il_8, il_9, il_10, il_11, il_12, il_13, il_14, il_15, il_16, il_18, il_20, il_24, il_32, il_35, il_40, il_44, il_47, il_48, il_56, il_57, il_58, il_59, il_63, il_64, il_72, il_100, il_120, il_126, il_127, il_160, il_192, il_255, il_349, il_1748, il_6992, iI_add, iI_sub, iI_mul, iI_neg, iI_le, iI_lt, iI_eq, rd_lA, wr_lA, rd_lR, wr_lR, ite_iI, max_iI, min_iI, rem_iI, div_iI, ite_true, ite_false, if_true, if_false, ite_self, and_self, and_true, true_and, and_false, false_and, or_self, or_true, true_or, or_false, false_or, not_true_eq_false, not_false_eq_true]
  rw [show g_lshl (g_lshl 1 (iI (l : Int)) - 1) (iI (a : Int)) = onesL a l by rw [iI_nI, iI_nI]; rfl, show max Y 0 = Y by omega]
  refine lp (fun n k (G : Nat → Int64) => f_X7_block_L16 (iI (max H 0)) (iI Y) (iI h) (onesL a l) n (iI k) G) (fun r => ∃ F', r = some F' ∧ rowsI W H (fun x y => B x y ∨ ((a : Int) ≤ x ∧ x < a + l ∧ Y ≤ y ∧ y < Y + h)) F') (Y + h)
    (fun k G => Y ≤ k ∧ ∀ y i : Nat, (y : Int) < H → i < 64 → (lb (G y) i = true ↔ (i : Int) < W ∧ ¬ (B i y ∨ ((a : Int) ≤ i ∧ (i : Int) < a + l ∧ Y ≤ y ∧ (y : Int) < k)))) ?_ ?_ fu Y F (by omega) (by omega) ⟨by omega, fun y i hy hi => ?_⟩
  · rintro n G ⟨-, hG⟩
    unfold f_X7_block_L16
    simp (disch := omega) only [↓bd_e, ↓jn_e, ↓opt_bind, ↓reduceIte, iLeT, iLeF, iLtT, iLtF, iEqT, iEqF, il_0, il_1, il_2, il_3, il_4, il_5, il_6, il_7, il_8, il_9, il_10, il_11, il_12, il_13, il_14, il_15, il_16, il_18, il_20, il_24, il_32, il_35, il_40, il_44, il_47, il_48, il_56, il_57, il_58, il_59, il_63, il_64, il_72, il_100, il_120, il_126, il_127, il_160, il_192, il_255, il_349, il_1748, il_6992, iI_add, iI_sub, iI_mul, iI_neg, iI_le, iI_lt, iI_eq, rd_lA, wr_lA, rd_lR, wr_lR, ite_iI, max_iI, min_iI, rem_iI, div_iI, ite_true, ite_false, if_true, if_false, ite_self, and_self, and_true, true_and, and_false, false_and, or_self, or_true, true_or, or_false, false_or, not_true_eq_false, not_false_eq_true]
    exact ⟨G, rfl, hG⟩
  · rintro n k G hk ⟨hk0, hG⟩ ih
    unfold f_X7_block_L16
    simp (disch := omega) only [↓bd_e, ↓jn_e, ↓opt_bind, ↓reduceIte, iLeT, iLeF, iLtT, iLtF, iEqT, iEqF, il_0, il_1, il_2, il_3, il_4, il_5, il_6, il_7, il_8, il_9, il_10, il_11, il_12, il_13, il_14, il_15, il_16, il_18, il_20, il_24, il_32, il_35, il_40, il_44, il_47, il_48, il_56, il_57, il_58, il_59, il_63, il_64, il_72, il_100, il_120, il_126, il_127, il_160, il_192, il_255, il_349, il_1748, il_6992, iI_add, iI_sub, iI_mul, iI_neg, iI_le, iI_lt, iI_eq, rd_lA, wr_lA, rd_lR, wr_lR, ite_iI, max_iI, min_iI, rem_iI, div_iI, ite_true, ite_false, if_true, if_false, ite_self, and_self, and_true, true_and, and_false, false_and, or_self, or_true, true_or, or_false, false_or, not_true_eq_false, not_false_eq_true, rd_iI, wrL_iI]
    refine ih _ ⟨by omega, fun y i hy hi => ?_⟩
    show lb (if y = k.toNat then _ else G y) i = true ↔ _
    by_cases e : y = k.toNat
    · rw [if_pos e, lb_and, lb_not _ hi, lb_run (by omega) hi, Bool.and_eq_true, ← e, hG y i hy hi]
      constructor
      · rintro ⟨⟨q1, q2⟩, q3⟩
        refine ⟨q1, fun q => ?_⟩
        rcases q with q | ⟨q4, q5, q6, q7⟩
        · exact q2 (Or.inl q)
        · rw [decide_eq_true (by omega)] at q3
          cases q3
      · rintro ⟨q1, q2⟩
        refine ⟨⟨q1, fun q => q2 (q.imp id (fun q => by omega))⟩, ?_⟩
        rw [decide_eq_false (fun q => q2 (Or.inr (by omega)))]
        rfl
    · rw [if_neg e, hG y i hy hi]
      constructor
      · rintro ⟨q1, q2⟩
        exact ⟨q1, fun q => q2 (q.imp id (fun q => by omega))⟩
      · rintro ⟨q1, q2⟩
        exact ⟨q1, fun q => q2 (q.imp id (fun q => by omega))⟩
  · rw [hF y i hy hi]
    constructor
    · rintro ⟨q1, q2⟩
      exact ⟨q1, fun q => q.elim q2 (fun q => by omega)⟩
    · rintro ⟨q1, q2⟩
      exact ⟨q1, fun q => q2 (Or.inl q)⟩
theorem c_boxW {V : Int → Int} {S : Nat → Nat → Int32} {c d : Nat → Int → Int} (hs : vSet V) (hr : ∀ k : Nat, k < 12 → S 5 k = iI (V (1 + k))) {s t : Int} (hs24 : 0 ≤ s ∧ s < 24) (hd : d 2 s = c 2 s ∧ d 3 s = c 3 s) (ht : t = 0 ∨ t = 1) : f_X3_boxWidth S (lA (d 2)) (lA (d 3)) (iI s) (iI t) = some (iI (bxW V c s t)) := by
  have e3 : S 5 3 = iI (V 4) := hr 3 (by omega)
  have e5 : S 5 5 = iI (V 6) := hr 5 (by omega)
  obtain ⟨d2, d3⟩ := hd
  unfold f_X3_boxWidth f_X5_boxGrowth bxW
  rw [e3, e5]
  rcases ht with rfl | rfl
  · simp (disch := omega) only [↓bd_e, ↓jn_e, ↓opt_bind, ↓reduceIte, iLeT, iLeF, iLtT, iLtF, iEqT, iEqF, il_0, il_1, il_2, il_3, il_4, il_5, il_6, il_7, il_8, il_9, il_10, il_11, il_12, il_13, il_14, il_15, il_16, il_18, il_20, il_24, il_32, il_35, il_40, il_44, il_47, il_48, il_56, il_57, il_58, il_59, il_63, il_64, il_72, il_100, il_120, il_126, il_127, il_160, il_192, il_255, il_349, il_1748, il_6992, iI_add, iI_sub, iI_mul, iI_neg, iI_le, iI_lt, iI_eq, rd_lA, wr_lA, rd_lR, wr_lR, ite_iI, max_iI, min_iI, rem_iI, div_iI, ite_true, ite_false, if_true, if_false, ite_self, and_self, and_true, true_and, and_false, false_and, or_self, or_true, true_or, or_false, false_or, not_true_eq_false, not_false_eq_true, d2, d3]
    congr 2
    omega
  · simp (disch := omega) only [↓bd_e, ↓jn_e, ↓opt_bind, ↓reduceIte, iLeT, iLeF, iLtT, iLtF, iEqT, iEqF, il_0, il_1, il_2, il_3, il_4, il_5, il_6, il_7, il_8, il_9, il_10, il_11, il_12, il_13, il_14, il_15, il_16, il_18, il_20, il_24, il_32, il_35, il_40, il_44, il_47, il_48, il_56, il_57, il_58, il_59, il_63, il_64, il_72, il_100, il_120, il_126, il_127, il_160, il_192, il_255, il_349, il_1748, il_6992, iI_add, iI_sub, iI_mul, iI_neg, iI_le, iI_lt, iI_eq, rd_lA, wr_lA, rd_lR, wr_lR, ite_iI, max_iI, min_iI, rem_iI, div_iI, ite_true, ite_false, if_true, if_false, ite_self, and_self, and_true, true_and, and_false, false_and, or_self, or_true, true_or, or_false, false_or, not_true_eq_false, not_false_eq_true, d2, d3]
    congr 2
    omega
theorem c_boxH {V : Int → Int} {S : Nat → Nat → Int32} {c d : Nat → Int → Int} (hs : vSet V) (hr : ∀ k : Nat, k < 12 → S 5 k = iI (V (1 + k))) {s t : Int} (hs24 : 0 ≤ s ∧ s < 24) (hd : d 2 s = c 2 s ∧ d 3 s = c 3 s) (ht : t = 0 ∨ t = 1) : f_X3_boxHeight S (lA (d 2)) (lA (d 3)) (iI s) (iI t) = some (iI (bxH V c s t)) := by
  have e3 : S 5 3 = iI (V 4) := hr 3 (by omega)
  have e5 : S 5 5 = iI (V 6) := hr 5 (by omega)
  obtain ⟨d2, d3⟩ := hd
  unfold f_X3_boxHeight f_X5_boxGrowth bxH
  rw [e3, e5]
  rcases ht with rfl | rfl
  · simp (disch := omega) only [↓bd_e, ↓jn_e, ↓opt_bind, ↓reduceIte, iLeT, iLeF, iLtT, iLtF, iEqT, iEqF, il_0, il_1, il_2, il_3, il_4, il_5, il_6, il_7, il_8, il_9, il_10, il_11, il_12, il_13, il_14, il_15, il_16, il_18, il_20, il_24, il_32, il_35, il_40, il_44, il_47, il_48, il_56, il_57, il_58, il_59, il_63, il_64, il_72, il_100, il_120, il_126, il_127, il_160, il_192, il_255, il_349, il_1748, il_6992, iI_add, iI_sub, iI_mul, iI_neg, iI_le, iI_lt, iI_eq, rd_lA, wr_lA, rd_lR, wr_lR, ite_iI, max_iI, min_iI, rem_iI, div_iI, ite_true, ite_false, if_true, if_false, ite_self, and_self, and_true, true_and, and_false, false_and, or_self, or_true, true_or, or_false, false_or, not_true_eq_false, not_false_eq_true, d2, d3]
    congr 2
    omega
  · simp (disch := omega) only [↓bd_e, ↓jn_e, ↓opt_bind, ↓reduceIte, iLeT, iLeF, iLtT, iLtF, iEqT, iEqF, il_0, il_1, il_2, il_3, il_4, il_5, il_6, il_7, il_8, il_9, il_10, il_11, il_12, il_13, il_14, il_15, il_16, il_18, il_20, il_24, il_32, il_35, il_40, il_44, il_47, il_48, il_56, il_57, il_58, il_59, il_63, il_64, il_72, il_100, il_120, il_126, il_127, il_160, il_192, il_255, il_349, il_1748, il_6992, iI_add, iI_sub, iI_mul, iI_neg, iI_le, iI_lt, iI_eq, rd_lA, wr_lA, rd_lR, wr_lR, ite_iI, max_iI, min_iI, rem_iI, div_iI, ite_true, ite_false, if_true, if_false, ite_self, and_self, and_true, true_and, and_false, false_and, or_self, or_true, true_or, or_false, false_or, not_true_eq_false, not_false_eq_true, d2, d3]
    congr 2
    omega
theorem c_fieldW {V : Int → Int} {S : Nat → Nat → Int32} (hr : ∀ k : Nat, k < 12 → S 5 k = iI (V (1 + k))) : f_X5_fieldWidth (S 5 0) (S 5 3) (S 5 4) = iI (fldW V) := by
  have e0 : S 5 0 = iI (V 1) := hr 0 (by omega)
  have e3 : S 5 3 = iI (V 4) := hr 3 (by omega)
  have e4 : S 5 4 = iI (V 5) := hr 4 (by omega)
  unfold f_X5_fieldWidth fldW
  rw [e0, e3, e4]
  simp (disch := omega) only [↓bd_e, ↓jn_e, ↓opt_bind, ↓reduceIte, iLeT, iLeF, iLtT, iLtF, iEqT, iEqF, il_0, il_1, il_2, il_3, il_4, il_5, il_6, il_7, il_8, il_9, il_10, il_11, il_12, il_13, il_14, il_15, il_16, il_18, il_20, il_24, il_32, il_35, il_40, il_44, il_47, il_48, il_56, il_57, il_58, il_59, il_63, il_64, il_72, il_100, il_120, il_126, il_127, il_160, il_192, il_255, il_349, il_1748, il_6992, iI_add, iI_sub, iI_mul, iI_neg, iI_le, iI_lt, iI_eq, rd_lA, wr_lA, rd_lR, wr_lR, ite_iI, max_iI, min_iI, rem_iI, div_iI, ite_true, ite_false, if_true, if_false, ite_self, and_self, and_true, true_and, and_false, false_and, or_self, or_true, true_or, or_false, false_or, not_true_eq_false, not_false_eq_true]
theorem c_fieldH {V : Int → Int} {S : Nat → Nat → Int32} (hr : ∀ k : Nat, k < 12 → S 5 k = iI (V (1 + k))) : f_X5_fieldHeight (S 5 1) (S 5 3) (S 5 4) = iI (fldH V) := by
  have e0 : S 5 1 = iI (V 2) := hr 1 (by omega)
  have e3 : S 5 3 = iI (V 4) := hr 3 (by omega)
  have e4 : S 5 4 = iI (V 5) := hr 4 (by omega)
  unfold f_X5_fieldHeight fldH
  rw [e0, e3, e4]
  simp (disch := omega) only [↓bd_e, ↓jn_e, ↓opt_bind, ↓reduceIte, iLeT, iLeF, iLtT, iLtF, iEqT, iEqF, il_0, il_1, il_2, il_3, il_4, il_5, il_6, il_7, il_8, il_9, il_10, il_11, il_12, il_13, il_14, il_15, il_16, il_18, il_20, il_24, il_32, il_35, il_40, il_44, il_47, il_48, il_56, il_57, il_58, il_59, il_63, il_64, il_72, il_100, il_120, il_126, il_127, il_160, il_192, il_255, il_349, il_1748, il_6992, iI_add, iI_sub, iI_mul, iI_neg, iI_le, iI_lt, iI_eq, rd_lA, wr_lA, rd_lR, wr_lR, ite_iI, max_iI, min_iI, rem_iI, div_iI, ite_true, ite_false, if_true, if_false, ite_self, and_self, and_true, true_and, and_false, false_and, or_self, or_true, true_or, or_false, false_or, not_true_eq_false, not_false_eq_true]
/-- a page surveyed -/
theorem c_survey {V : Int → Int} {S : Nat → Nat → Int32} {c d : Nat → Int → Int} (hs : vSet V) (hi : vImg V) (hb : ∀ j, 0 ≤ j → j < V 0 → vBl V c j) (hpl : vPlc V) (hg : vGeo V c) (hr : sR V S) (hd : ∀ j, 0 ≤ j → j < V 0 → d 2 j = c 2 j ∧ d 3 j = c 3 j) {p : Int} (hp : 0 ≤ p ∧ p < 4) (fr : Nat → Int64) (K N : Int → Int) :
    ∃ w h F n' K', f_X3_survey fr (lA K) (lA N) S (lA (d 2)) (lA (d 3)) (iI p) = some (w, h, F, lA K', lA (uI N p n')) ∧ En n' (fun k => K' (p * 349 + k)) (rS (mxR (fldW V) (fldH V) (blk V c p))) ∧ ∀ j, (j < p * 349 ∨ p * 349 + 349 ≤ j) → K' j = K j := by
  obtain ⟨⟨a1, a2⟩, a3, a4, a5, a6, a7⟩ := hr
  have hWH : -10 ≤ fldW V ∧ fldW V ≤ 35 ∧ -10 ≤ fldH V ∧ fldH V ≤ 35 := by
    unfold vSet at hs
    unfold fldW fldH
    omega
  have hn := hi.1
  obtain ⟨F0, e0, h0⟩ := c_open (fw := fldW V) (fh := fldH V) (by omega) (by omega) fr
  unfold f_X3_survey
  obtain ⟨fu, hfu, hfu2⟩ := fuel_ex; rw [hfu]
  rw [c_fieldW a3, c_fieldH a3, e0]
  simp (disch := omega) only [↓bd_e, ↓jn_e, ↓opt_bind, ↓reduceIte, iLeT, iLeF, iLtT, iLtF, iEqT, iEqF, il_0, il_1, il_2, il_3, il_4, il_5, il_6, il_7, il_8, il_9, il_10, il_11, il_12, il_13, il_14, il_15, il_16, il_18, il_20, il_24, il_32, il_35, il_40, il_44, il_47, il_48, il_56, il_57, il_58, il_59, il_63, il_64, il_72, il_100, il_120, il_126, il_127, il_160, il_192, il_255, il_349, il_1748, il_6992, iI_add, iI_sub, iI_mul, iI_neg, iI_le, iI_lt, iI_eq, rd_lA, wr_lA, rd_lR, wr_lR, ite_iI, max_iI, min_iI, rem_iI, div_iI, ite_true, ite_false, if_true, if_false, ite_self, and_self, and_true, true_and, and_false, false_and, or_self, or_true, true_or, or_false, false_or, not_true_eq_false, not_false_eq_true]
  refine lp (fun m s (F : Nat → Int64) => f_X3_survey_L37 S (lA (d 2)) (lA (d 3)) (iI p) (iI (max (fldW V) 0), iI (max (fldH V) 0), F0) _ m (iI s) F) (fun r => ∃ w h F n' K', r = some (w, h, F, lA K', lA (uI N p n')) ∧ En n' (fun k => K' (p * 349 + k)) (rS (mxR (fldW V) (fldH V) (blk V c p))) ∧ ∀ j, (j < p * 349 ∨ p * 349 + 349 ≤ j) → K' j = K j) (V 0)
    (fun s F => 0 ≤ s ∧ rowsI (fldW V) (fldH V) (fun x y => ∃ i, (onPg V p i ∧ i < s) ∧ V (20 + 72 * i + 4) ≤ x ∧ x < V (20 + 72 * i + 4) + bxW V c i (V (20 + 72 * i + 6)) ∧ V (20 + 72 * i + 5) ≤ y ∧ y < V (20 + 72 * i + 5) + bxH V c i (V (20 + 72 * i + 6))) F) ?_ ?_ fu 0 F0 (by omega) (by omega) ⟨by omega, fun y i hy hi' => ?_⟩
  · rintro m F ⟨-, hF⟩
    have hF' : rowsI (fldW V) (fldH V) (blk V c p) F := by
      intro y i hy hi'
      rw [hF y i hy hi']
      constructor
      · rintro ⟨q1, q2⟩
        exact ⟨q1, fun ⟨s, s1, s2⟩ => q2 ⟨s, ⟨s1, s1.2.1⟩, s2⟩⟩
      · rintro ⟨q1, q2⟩
        exact ⟨q1, fun ⟨s, s1, s2⟩ => q2 ⟨s, s1.1, s2⟩⟩
    obtain ⟨n', K', k1, k2, k3⟩ := c_collect hWH.2.1 hWH.2.2.2 hp (fun n C S he hS => mx_count hs hi hb hg hp.1 he hS) hF' K N
    unfold f_X3_survey_L37
    rw [a1]
    simp (disch := omega) only [↓bd_e, ↓jn_e, ↓opt_bind, ↓reduceIte, iLeT, iLeF, iLtT, iLtF, iEqT, iEqF, il_0, il_1, il_2, il_3, il_4, il_5, il_6, il_7, il_8, il_9, il_10, il_11, il_12, il_13, il_14, il_15, il_16, il_18, il_20, il_24, il_32, il_35, il_40, il_44, il_47, il_48, il_56, il_57, il_58, il_59, il_63, il_64, il_72, il_100, il_120, il_126, il_127, il_160, il_192, il_255, il_349, il_1748, il_6992, iI_add, iI_sub, iI_mul, iI_neg, iI_le, iI_lt, iI_eq, rd_lA, wr_lA, rd_lR, wr_lR, ite_iI, max_iI, min_iI, rem_iI, div_iI, ite_true, ite_false, if_true, if_false, ite_self, and_self, and_true, true_and, and_false, false_and, or_self, or_true, true_or, or_false, false_or, not_true_eq_false, not_false_eq_true, k1]
    exact ⟨_, _, F, n', K', rfl, k2, k3⟩
  · rintro m s F hs1 ⟨hs0, hF⟩ ih
    have h8 := a6 s hs0 (by omega)
    have e8 : S 8 = lA (sA S 8) := sA_lA S 8
    have e9 : S 9 = lA (sA S 9) := sA_lA S 9
    have e10 : S 10 = lA (sA S 10) := sA_lA S 10
    have e11 : S 11 = lA (sA S 11) := sA_lA S 11
    have hpg := hpl.2.1 s hs0 hs1
    have h13 := hpl.1
    have hsl : V 3 ≤ 4 := by unfold vSet at hs; omega
    unfold f_X3_survey_L37
    rw [a1, e8, e9, e10, e11]
    by_cases he : V (20 + 72 * s + 3) = p
    · have hon : onPg V p s := ⟨hs0, hs1, he⟩
      have hge := geo_r hs hb hg hs0 hs1 (by omega)
      obtain ⟨-, -, -, -, b5⟩ := a4 s hs0 hs1
      obtain ⟨b5, b6, b7⟩ := b5 (by omega)
      rw [if_pos ⟨hs1, by omega⟩] at h8
      have ew := c_boxW (S := S) (c := c) (d := d) hs a3 (s := s) (t := V (20 + 72 * s + 6)) (by omega) (hd s hs0 hs1) hge.1
      have eh := c_boxH (S := S) (c := c) (d := d) hs a3 (s := s) (t := V (20 + 72 * s + 6)) (by omega) (hd s hs0 hs1) hge.1
      obtain ⟨F', f1, f2⟩ := c_block (W := fldW V) hWH.2.2.2 hge.2.1 hge.2.2.2.2.2.1 (by omega) hge.2.2.2.1 hge.2.2.2.2.2.2.1 hge.2.2.2.2.1 hF
      simp (disch := omega) only [↓bd_e, ↓jn_e, ↓opt_bind, ↓reduceIte, iLeT, iLeF, iLtT, iLtF, iEqT, iEqF, il_0, il_1, il_2, il_3, il_4, il_5, il_6, il_7, il_8, il_9, il_10, il_11, il_12, il_13, il_14, il_15, il_16, il_18, il_20, il_24, il_32, il_35, il_40, il_44, il_47, il_48, il_56, il_57, il_58, il_59, il_63, il_64, il_72, il_100, il_120, il_126, il_127, il_160, il_192, il_255, il_349, il_1748, il_6992, iI_add, iI_sub, iI_mul, iI_neg, iI_le, iI_lt, iI_eq, rd_lA, wr_lA, rd_lR, wr_lR, ite_iI, max_iI, min_iI, rem_iI, div_iI, ite_true, ite_false, if_true, if_false, ite_self, and_self, and_true, true_and, and_false, false_and, or_self, or_true, true_or, or_false, false_or, not_true_eq_false, not_false_eq_true, h8, b5, b6, b7, ew, eh, f1]
      refine ih F' ⟨by omega, fun y i hy hi' => ?_⟩
      rw [f2 y i hy hi']
      constructor
      · rintro ⟨q1, q2⟩
        refine ⟨q1, fun ⟨j, ⟨j1, j2⟩, j3⟩ => ?_⟩
        by_cases e : j = s
        · subst e; exact q2 (Or.inr j3)
        · exact q2 (Or.inl ⟨j, ⟨j1, by omega⟩, j3⟩)
      · rintro ⟨q1, q2⟩
        refine ⟨q1, fun q => ?_⟩
        rcases q with ⟨j, ⟨j1, j2⟩, j3⟩ | q
        · exact q2 ⟨j, ⟨j1, by omega⟩, j3⟩
        · exact q2 ⟨s, ⟨hon, by omega⟩, q⟩
    · have h8' : sA S 8 s ≠ p := by
        rw [h8]
        split
        · exact he
        · omega
      have h8r : -4 ≤ sA S 8 s ∧ sA S 8 s < 4 := by
        rw [h8]
        split <;> omega
      simp (disch := omega) only [↓bd_e, ↓jn_e, ↓opt_bind, ↓reduceIte, iLeT, iLeF, iLtT, iLtF, iEqT, iEqF, il_0, il_1, il_2, il_3, il_4, il_5, il_6, il_7, il_8, il_9, il_10, il_11, il_12, il_13, il_14, il_15, il_16, il_18, il_20, il_24, il_32, il_35, il_40, il_44, il_47, il_48, il_56, il_57, il_58, il_59, il_63, il_64, il_72, il_100, il_120, il_126, il_127, il_160, il_192, il_255, il_349, il_1748, il_6992, iI_add, iI_sub, iI_mul, iI_neg, iI_le, iI_lt, iI_eq, rd_lA, wr_lA, rd_lR, wr_lR, ite_iI, max_iI, min_iI, rem_iI, div_iI, ite_true, ite_false, if_true, if_false, ite_self, and_self, and_true, true_and, and_false, false_and, or_self, or_true, true_or, or_false, false_or, not_true_eq_false, not_false_eq_true]
      refine ih F ⟨by omega, fun y i hy hi' => ?_⟩
      rw [hF y i hy hi']
      constructor
      · rintro ⟨q1, q2⟩
        refine ⟨q1, fun ⟨j, ⟨j1, j2⟩, j3⟩ => ?_⟩
        have : j ≠ s := fun e => he (e ▸ j1.2.2)
        exact q2 ⟨j, ⟨j1, by omega⟩, j3⟩
      · rintro ⟨q1, q2⟩
        exact ⟨q1, fun ⟨j, ⟨j1, j2⟩, j3⟩ => q2 ⟨j, ⟨j1, by omega⟩, j3⟩⟩
  · rw [h0 y i hy hi']
    constructor
    · rintro ⟨q1, -⟩
      exact ⟨q1, fun ⟨j, ⟨j1, j2⟩, _⟩ => by have := j1.1; omega⟩
    · rintro ⟨q1, -⟩
      exact ⟨q1, fun h => h⟩
