/-- a flag that says whether P holds -/
def isF (r : Int) (P : Prop) : Prop := (r = 1 ∧ P) ∨ (r = 0 ∧ ¬ P)
theorem isF_T {P : Prop} (h : P) : isF 1 P := Or.inl ⟨rfl, h⟩
theorem isF_F {P : Prop} (h : ¬ P) : isF 0 P := Or.inr ⟨rfl, h⟩
theorem isF_iff {r : Int} {P Q : Prop} (h : isF r P) (e : P ↔ Q) : isF r Q := by rw [← propext e]; exact h
theorem vSh_px {V : Int → Int} {c : Nat → Int → Int} {s : Int} (hs : vSh V c s) (hp : ∀ x y, 0 ≤ x → x < 8 → 0 ≤ y → y < 8 → 0 ≤ V (20 + 72 * s + 8 + 8 * y + x) ∧ V (20 + 72 * s + 8 + 8 * y + x) ≤ 9) {x y : Int} (hx : 0 ≤ x) (hx2 : x < c 2 s) (hy : 0 ≤ y) (hy2 : y < c 3 s) : 0 ≤ V (20 + 72 * s + 8 + 8 * (c 1 s + y) + (c 0 s + x)) ∧ V (20 + 72 * s + 8 + 8 * (c 1 s + y) + (c 0 s + x)) ≤ 9 := by
  obtain ⟨-, ⟨h1, h2, h3, h4, h5, h6⟩, h7, h8⟩ := hs
  exact hp _ _ (by omega) (by omega) (by omega) (by omega)
/-- one pixel of the comparison: where the other image's pixel lies -/
def lkX (c : Nat → Int → Int) (o t q x y : Int) : Int := c 0 o + bX t (c 2 o) (c 3 o) (bX q (if t = 0 then c 2 o else c 3 o) (if t = 0 then c 3 o else c 2 o) x y) (bY q (if t = 0 then c 2 o else c 3 o) (if t = 0 then c 3 o else c 2 o) x y)
def lkY (c : Nat → Int → Int) (o t q x y : Int) : Int := c 1 o + bY t (c 2 o) (c 3 o) (bX q (if t = 0 then c 2 o else c 3 o) (if t = 0 then c 3 o else c 2 o) x y) (bY q (if t = 0 then c 2 o else c 3 o) (if t = 0 then c 3 o else c 2 o) x y)
theorem lk_range {V : Int → Int} {c : Nat → Int → Int} {o t q x y : Int} (ho : vSh V c o) (ht : t = 0 ∨ t = 1) (hq : 0 ≤ q ∧ q < 8) (hx : 0 ≤ x) (hx2 : x < (if (q + t) % 2 = 1 then c 3 o else c 2 o)) (hy : 0 ≤ y) (hy2 : y < (if (q + t) % 2 = 1 then c 2 o else c 3 o)) : 0 ≤ lkX c o t q x y ∧ lkX c o t q x y < 8 ∧ 0 ≤ lkY c o t q x y ∧ lkY c o t q x y < 8 ∧ c 0 o ≤ lkX c o t q x y ∧ lkX c o t q x y < c 0 o + c 2 o ∧ c 1 o ≤ lkY c o t q x y ∧ lkY c o t q x y < c 1 o + c 3 o := by
  obtain ⟨ho24, ⟨h1, h2, h3, h4, h5, h6⟩, h7, h8⟩ := ho
  have r1 := b_range (q := q) (w := if t = 0 then c 2 o else c 3 o) (h := if t = 0 then c 3 o else c 2 o) (x := x) (y := y) hq (by split <;> omega) (by split <;> omega) hx (by rcases ht with rfl | rfl <;> simp at hx2 ⊢ <;> split at hx2 <;> split <;> omega) hy (by rcases ht with rfl | rfl <;> simp at hy2 ⊢ <;> split at hy2 <;> split <;> omega)
  unfold lkX lkY
  generalize hX : bX q (if t = 0 then c 2 o else c 3 o) (if t = 0 then c 3 o else c 2 o) x y = X1 at *
  generalize hY : bY q (if t = 0 then c 2 o else c 3 o) (if t = 0 then c 3 o else c 2 o) x y = Y1 at *
  have r2 := b_range (q := t) (w := c 2 o) (h := c 3 o) (x := X1) (y := Y1) (by omega) h1 h2 (by omega) (by rcases ht with rfl | rfl <;> simp at r1 ⊢ <;> omega) (by omega) (by rcases ht with rfl | rfl <;> simp at r1 ⊢ <;> omega)
  omega
theorem m_isLike {V : Int → Int} {c : Nat → Int → Int} {s o t q : Int} (hs : vSh V c s) (ho : vSh V c o) (hps : ∀ x y, 0 ≤ x → x < 8 → 0 ≤ y → y < 8 → 0 ≤ V (20 + 72 * s + 8 + 8 * y + x) ∧ V (20 + 72 * s + 8 + 8 * y + x) ≤ 9) (hpo : ∀ x y, 0 ≤ x → x < 8 → 0 ≤ y → y < 8 → 0 ≤ V (20 + 72 * o + 8 + 8 * y + x) ∧ V (20 + 72 * o + 8 + 8 * y + x) ≤ 9)
    (ht : t = 0 ∨ t = 1) (hq : 0 ≤ q ∧ q < 8) (bx by' : Int32) : ∃ r bx1 by1, f_X11_isLike bx by' (lA V) (lA (c 0)) (lA (c 1)) (lA (c 2)) (lA (c 3)) (iI s) (iI o) (iI t) (iI q) = some (iI r, bx1, by1) ∧ isF r (vLk V c s o t q) := by
  have hs' := hs
  have ho' := ho
  obtain ⟨hs24, ⟨h1, h2, h3, h4, h5, h6⟩, h7, h8⟩ := hs'
  obtain ⟨ho24, ⟨g1, g2, g3, g4, g5, g6⟩, g7, g8⟩ := ho'
  unfold f_X11_isLike
  by_cases hd : c 2 s = (if (q + t) % 2 = 1 then c 3 o else c 2 o) ∧ c 3 s = (if (q + t) % 2 = 1 then c 2 o else c 3 o)
  · have key : ∃ r bx1 by1, f_X11_isLike_L83 (lA V) (lA (c 0)) (lA (c 1)) (lA (c 2)) (lA (c 3)) (iI s) (iI o) (iI t) (iI q) g_fuel (iI 1) (iI 0) bx by' = some (iI r, bx1, by1) ∧ isF r (vLk V c s o t q) := by
      obtain ⟨fu, hfu, hfu2⟩ := fuel_ex; rw [hfu]
      refine lp (fun n y (u : Int × Int32 × Int32) => f_X11_isLike_L83 (lA V) (lA (c 0)) (lA (c 1)) (lA (c 2)) (lA (c 3)) (iI s) (iI o) (iI t) (iI q) n (iI u.1) (iI y) u.2.1 u.2.2) (fun r => ∃ r' bx1 by1, r = some (iI r', bx1, by1) ∧ isF r' (vLk V c s o t q)) (c 3 s)
        (fun y u => 0 ≤ y ∧ isF u.1 (∀ x y', 0 ≤ x → x < c 2 s → 0 ≤ y' → y' < y → V (20 + 72 * s + 8 + 8 * (c 1 s + y') + (c 0 s + x)) = V (20 + 72 * o + 8 + 8 * (lkY c o t q x y') + (lkX c o t q x y')))) ?_ ?_ fu 0 (1, bx, by') (by omega) (by omega) ⟨by omega, isF_T (fun x y' _ _ _ _ => by omega)⟩
      · rintro n ⟨u, ux, uy⟩ ⟨-, hu⟩
        dsimp only at hu ⊢
        unfold f_X11_isLike_L83
        have hz : u = 0 ∨ u = 1 := by rcases hu with ⟨h, -⟩ | ⟨h, -⟩ <;> omega
        simp (disch := omega) only [↓bd_e, ↓jn_e, ↓opt_bind, ↓reduceIte, iLeT, iLeF, iLtT, iLtF, iEqT, iEqF, il_0, il_1, il_2, il_3, il_4, il_5, il_6, il_7, il_8, il_9, il_10, il_11, il_12, il_13, il_14, il_15, il_16, il_18, il_20, il_24, il_32, il_35, il_40, il_44, il_47, il_48, il_56, il_57, il_58, il_59, il_63, il_64, il_72, il_100, il_120, il_126, il_127, il_160, il_192, il_255, il_349, il_1748, il_6992, iI_add, iI_sub, iI_mul, iI_neg, iI_le, iI_lt, iI_eq, rd_lA, wr_lA, rd_lR, wr_lR, ite_iI, max_iI, min_iI, rem_iI, div_iI, ite_true, ite_false, if_true, if_false, ite_self, and_self, and_true, true_and, and_false, false_and, or_self, or_true, true_or, or_false, false_or, not_true_eq_false, not_false_eq_true, z_iI _ hz]
        refine ⟨u, ux, uy, rfl, isF_iff hu ?_⟩
        constructor
        · exact fun h => ⟨hd.1, hd.2, fun x y a1 a2 a3 a4 => h x y a1 a2 a3 a4⟩
        · exact fun h x y a1 a2 a3 a4 => h.2.2 x y a1 a2 a3 a4
      · rintro n y ⟨u, ux, uy⟩ hy ⟨hy0, hu⟩ ih
        dsimp only at hu ih ⊢
        unfold f_X11_isLike_L83
        rcases hu with ⟨rfl, hu⟩ | ⟨rfl, hu⟩
        · simp (disch := omega) only [↓bd_e, ↓jn_e, ↓opt_bind, ↓reduceIte, iLeT, iLeF, iLtT, iLtF, iEqT, iEqF, il_0, il_1, il_2, il_3, il_4, il_5, il_6, il_7, il_8, il_9, il_10, il_11, il_12, il_13, il_14, il_15, il_16, il_18, il_20, il_24, il_32, il_35, il_40, il_44, il_47, il_48, il_56, il_57, il_58, il_59, il_63, il_64, il_72, il_100, il_120, il_126, il_127, il_160, il_192, il_255, il_349, il_1748, il_6992, iI_add, iI_sub, iI_mul, iI_neg, iI_le, iI_lt, iI_eq, rd_lA, wr_lA, rd_lR, wr_lR, ite_iI, max_iI, min_iI, rem_iI, div_iI, ite_true, ite_false, if_true, if_false, ite_self, and_self, and_true, true_and, and_false, false_and, or_self, or_true, true_or, or_false, false_or, not_true_eq_false, not_false_eq_true]
          refine lp (fun n x (v : Int × Int32 × Int32) => f_X11_isLike_L102 (lA V) (lA (c 0)) (lA (c 1)) (lA (c 2)) (lA (c 3)) (iI s) (iI o) (iI t) (iI q) (iI y) _ n (iI v.1) (iI x) v.2.1 v.2.2) (fun r => ∃ r' bx1 by1, r = some (iI r', bx1, by1) ∧ isF r' (vLk V c s o t q)) (c 2 s)
            (fun x v => 0 ≤ x ∧ isF v.1 (∀ x', 0 ≤ x' → x' < x → V (20 + 72 * s + 8 + 8 * (c 1 s + y) + (c 0 s + x')) = V (20 + 72 * o + 8 + 8 * (lkY c o t q x' y) + (lkX c o t q x' y)))) ?_ ?_ g_fuel 0 (1, ux, uy) (by omega) (fuel_lt (by omega)) ⟨by omega, isF_T (fun x' _ _ => by omega)⟩
          · rintro n ⟨v, vx, vy⟩ ⟨-, hv⟩
            dsimp only at hv ⊢
            unfold f_X11_isLike_L102
            simp (disch := omega) only [↓bd_e, ↓jn_e, ↓opt_bind, ↓reduceIte, iLeT, iLeF, iLtT, iLtF, iEqT, iEqF, il_0, il_1, il_2, il_3, il_4, il_5, il_6, il_7, il_8, il_9, il_10, il_11, il_12, il_13, il_14, il_15, il_16, il_18, il_20, il_24, il_32, il_35, il_40, il_44, il_47, il_48, il_56, il_57, il_58, il_59, il_63, il_64, il_72, il_100, il_120, il_126, il_127, il_160, il_192, il_255, il_349, il_1748, il_6992, iI_add, iI_sub, iI_mul, iI_neg, iI_le, iI_lt, iI_eq, rd_lA, wr_lA, rd_lR, wr_lR, ite_iI, max_iI, min_iI, rem_iI, div_iI, ite_true, ite_false, if_true, if_false, ite_self, and_self, and_true, true_and, and_false, false_and, or_self, or_true, true_or, or_false, false_or, not_true_eq_false, not_false_eq_true]
            refine ih (v, vx, vy) ⟨by omega, isF_iff hv ?_⟩
            constructor
            · intro h x y' a1 a2 a3 a4
              by_cases e : y' = y
              · rw [e]; exact h x a1 a2
              · exact hu x y' a1 a2 a3 (by omega)
            · exact fun h x a1 a2 => h x y a1 a2 hy0 (by omega)
          · rintro n x ⟨v, vx, vy⟩ hx ⟨hx0, hv⟩ ih2
            dsimp only at hv ih2 ⊢
            unfold f_X11_isLike_L102
            rcases hv with ⟨rfl, hv⟩ | ⟨rfl, hv⟩
            · obtain ⟨bx1, by1, ec⟩ := m_colorBy (x := x) (y := y) ho ht hq hx0 (by omega) hy0 (by omega)
              have hr := lk_range (x := x) (y := y) ho ht hq hx0 (by omega) hy0 (by omega)
              have p1 := vSh_px hs hps (x := x) (y := y) hx0 hx hy0 hy
              have p2 := hpo (lkX c o t q x y) (lkY c o t q x y) (by omega) (by omega) (by omega) (by omega)
              unfold lkX lkY at p2
              simp (disch := omega) only [↓bd_e, ↓jn_e, ↓opt_bind, ↓reduceIte, iLeT, iLeF, iLtT, iLtF, iEqT, iEqF, il_0, il_1, il_2, il_3, il_4, il_5, il_6, il_7, il_8, il_9, il_10, il_11, il_12, il_13, il_14, il_15, il_16, il_18, il_20, il_24, il_32, il_35, il_40, il_44, il_47, il_48, il_56, il_57, il_58, il_59, il_63, il_64, il_72, il_100, il_120, il_126, il_127, il_160, il_192, il_255, il_349, il_1748, il_6992, iI_add, iI_sub, iI_mul, iI_neg, iI_le, iI_lt, iI_eq, rd_lA, wr_lA, rd_lR, wr_lR, ite_iI, max_iI, min_iI, rem_iI, div_iI, ite_true, ite_false, if_true, if_false, ite_self, and_self, and_true, true_and, and_false, false_and, or_self, or_true, true_or, or_false, false_or, not_true_eq_false, not_false_eq_true, f_X11_pixelAt]
              rw [ec]
              clear hd
              by_cases e : V (20 + 72 * s + 8 + 8 * (c 1 s + y) + (c 0 s + x)) = V (20 + 72 * o + 8 + 8 * (lkY c o t q x y) + (lkX c o t q x y))
              · have e' := e
                unfold lkX lkY at e
                simp (disch := omega) only [↓bd_e, ↓jn_e, ↓opt_bind, ↓reduceIte, iLeT, iLeF, iLtT, iLtF, iEqT, iEqF, il_0, il_1, il_2, il_3, il_4, il_5, il_6, il_7, il_8, il_9, il_10, il_11, il_12, il_13, il_14, il_15, il_16, il_18, il_20, il_24, il_32, il_35, il_40, il_44, il_47, il_48, il_56, il_57, il_58, il_59, il_63, il_64, il_72, il_100, il_120, il_126, il_127, il_160, il_192, il_255, il_349, il_1748, il_6992, iI_add, iI_sub, iI_mul, iI_neg, iI_le, iI_lt, iI_eq, rd_lA, wr_lA, rd_lR, wr_lR, ite_iI, max_iI, min_iI, rem_iI, div_iI, ite_true, ite_false, if_true, if_false, ite_self, and_self, and_true, true_and, and_false, false_and, or_self, or_true, true_or, or_false, false_or, not_true_eq_false, not_false_eq_true]
                refine ih2 (1, bx1, by1) ⟨by omega, isF_T (fun x' a1 a2 => ?_)⟩
                by_cases e2 : x' = x
                · rw [e2]; exact e'
                · exact hv x' a1 (by omega)
              · have e' := e
                unfold lkX lkY at e
                simp (disch := omega) only [↓bd_e, ↓jn_e, ↓opt_bind, ↓reduceIte, iLeT, iLeF, iLtT, iLtF, iEqT, iEqF, il_0, il_1, il_2, il_3, il_4, il_5, il_6, il_7, il_8, il_9, il_10, il_11, il_12, il_13, il_14, il_15, il_16, il_18, il_20, il_24, il_32, il_35, il_40, il_44, il_47, il_48, il_56, il_57, il_58, il_59, il_63, il_64, il_72, il_100, il_120, il_126, il_127, il_160, il_192, il_255, il_349, il_1748, il_6992, iI_add, iI_sub, iI_mul, iI_neg, iI_le, iI_lt, iI_eq, rd_lA, wr_lA, rd_lR, wr_lR, ite_iI, max_iI, min_iI, rem_iI, div_iI, ite_true, ite_false, if_true, if_false, ite_self, and_self, and_true, true_and, and_false, false_and, or_self, or_true, true_or, or_false, false_or, not_true_eq_false, not_false_eq_true, e]
                exact ih2 (0, bx1, by1) ⟨by omega, isF_F (fun h => e' (h x hx0 (by omega)))⟩
            · simp (disch := omega) only [↓bd_e, ↓jn_e, ↓opt_bind, ↓reduceIte, iLeT, iLeF, iLtT, iLtF, iEqT, iEqF, il_0, il_1, il_2, il_3, il_4, il_5, il_6, il_7, il_8, il_9, il_10, il_11, il_12, il_13, il_14, il_15, il_16, il_18, il_20, il_24, il_32, il_35, il_40, il_44, il_47, il_48, il_56, il_57, il_58, il_59, il_63, il_64, il_72, il_100, il_120, il_126, il_127, il_160, il_192, il_255, il_349, il_1748, il_6992, iI_add, iI_sub, iI_mul, iI_neg, iI_le, iI_lt, iI_eq, rd_lA, wr_lA, rd_lR, wr_lR, ite_iI, max_iI, min_iI, rem_iI, div_iI, ite_true, ite_false, if_true, if_false, ite_self, and_self, and_true, true_and, and_false, false_and, or_self, or_true, true_or, or_false, false_or, not_true_eq_false, not_false_eq_true]
              refine ih (0, vx, vy) ⟨by omega, isF_F (fun h => hv (fun x' a1 a2 => h x' y a1 (by omega) hy0 (by omega)))⟩
        · simp (disch := omega) only [↓bd_e, ↓jn_e, ↓opt_bind, ↓reduceIte, iLeT, iLeF, iLtT, iLtF, iEqT, iEqF, il_0, il_1, il_2, il_3, il_4, il_5, il_6, il_7, il_8, il_9, il_10, il_11, il_12, il_13, il_14, il_15, il_16, il_18, il_20, il_24, il_32, il_35, il_40, il_44, il_47, il_48, il_56, il_57, il_58, il_59, il_63, il_64, il_72, il_100, il_120, il_126, il_127, il_160, il_192, il_255, il_349, il_1748, il_6992, iI_add, iI_sub, iI_mul, iI_neg, iI_le, iI_lt, iI_eq, rd_lA, wr_lA, rd_lR, wr_lR, ite_iI, max_iI, min_iI, rem_iI, div_iI, ite_true, ite_false, if_true, if_false, ite_self, and_self, and_true, true_and, and_false, false_and, or_self, or_true, true_or, or_false, false_or, not_true_eq_false, not_false_eq_true, z_iI _ (Or.inl (rfl : (0 : Int) = 0))]
          refine ⟨0, ux, uy, rfl, isF_F (fun h => hu (fun x y' a1 a2 a3 a4 => h.2.2 x y' a1 a2 a3 (by omega)))⟩
    by_cases hm : (q + t) % 2 = 1
    · rw [if_pos hm, if_pos hm] at hd
      simp (disch := omega) only [↓bd_e, ↓jn_e, ↓opt_bind, ↓reduceIte, iLeT, iLeF, iLtT, iLtF, iEqT, iEqF, il_0, il_1, il_2, il_3, il_4, il_5, il_6, il_7, il_8, il_9, il_10, il_11, il_12, il_13, il_14, il_15, il_16, il_18, il_20, il_24, il_32, il_35, il_40, il_44, il_47, il_48, il_56, il_57, il_58, il_59, il_63, il_64, il_72, il_100, il_120, il_126, il_127, il_160, il_192, il_255, il_349, il_1748, il_6992, iI_add, iI_sub, iI_mul, iI_neg, iI_le, iI_lt, iI_eq, rd_lA, wr_lA, rd_lR, wr_lR, ite_iI, max_iI, min_iI, rem_iI, div_iI, ite_true, ite_false, if_true, if_false, ite_self, and_self, and_true, true_and, and_false, false_and, or_self, or_true, true_or, or_false, false_or, not_true_eq_false, not_false_eq_true]
      exact key
    · rw [if_neg hm, if_neg hm] at hd
      simp (disch := omega) only [↓bd_e, ↓jn_e, ↓opt_bind, ↓reduceIte, iLeT, iLeF, iLtT, iLtF, iEqT, iEqF, il_0, il_1, il_2, il_3, il_4, il_5, il_6, il_7, il_8, il_9, il_10, il_11, il_12, il_13, il_14, il_15, il_16, il_18, il_20, il_24, il_32, il_35, il_40, il_44, il_47, il_48, il_56, il_57, il_58, il_59, il_63, il_64, il_72, il_100, il_120, il_126, il_127, il_160, il_192, il_255, il_349, il_1748, il_6992, iI_add, iI_sub, iI_mul, iI_neg, iI_le, iI_lt, iI_eq, rd_lA, wr_lA, rd_lR, wr_lR, ite_iI, max_iI, min_iI, rem_iI, div_iI, ite_true, ite_false, if_true, if_false, ite_self, and_self, and_true, true_and, and_false, false_and, or_self, or_true, true_or, or_false, false_or, not_true_eq_false, not_false_eq_true]
      exact key
  · have hno : ¬ vLk V c s o t q := fun h => hd ⟨h.1, h.2.1⟩
    by_cases hm : (q + t) % 2 = 1
    · rw [if_pos hm, if_pos hm] at hd
      by_cases h9 : c 2 s = c 3 o
      · have h10 : ¬ c 3 s = c 2 o := fun h => hd ⟨h9, h⟩
        simp (disch := omega) only [↓bd_e, ↓jn_e, ↓opt_bind, ↓reduceIte, iLeT, iLeF, iLtT, iLtF, iEqT, iEqF, il_0, il_1, il_2, il_3, il_4, il_5, il_6, il_7, il_8, il_9, il_10, il_11, il_12, il_13, il_14, il_15, il_16, il_18, il_20, il_24, il_32, il_35, il_40, il_44, il_47, il_48, il_56, il_57, il_58, il_59, il_63, il_64, il_72, il_100, il_120, il_126, il_127, il_160, il_192, il_255, il_349, il_1748, il_6992, iI_add, iI_sub, iI_mul, iI_neg, iI_le, iI_lt, iI_eq, rd_lA, wr_lA, rd_lR, wr_lR, ite_iI, max_iI, min_iI, rem_iI, div_iI, ite_true, ite_false, if_true, if_false, ite_self, and_self, and_true, true_and, and_false, false_and, or_self, or_true, true_or, or_false, false_or, not_true_eq_false, not_false_eq_true]
        exact ⟨0, _, _, rfl, isF_F hno⟩
      · simp (disch := omega) only [↓bd_e, ↓jn_e, ↓opt_bind, ↓reduceIte, iLeT, iLeF, iLtT, iLtF, iEqT, iEqF, il_0, il_1, il_2, il_3, il_4, il_5, il_6, il_7, il_8, il_9, il_10, il_11, il_12, il_13, il_14, il_15, il_16, il_18, il_20, il_24, il_32, il_35, il_40, il_44, il_47, il_48, il_56, il_57, il_58, il_59, il_63, il_64, il_72, il_100, il_120, il_126, il_127, il_160, il_192, il_255, il_349, il_1748, il_6992, iI_add, iI_sub, iI_mul, iI_neg, iI_le, iI_lt, iI_eq, rd_lA, wr_lA, rd_lR, wr_lR, ite_iI, max_iI, min_iI, rem_iI, div_iI, ite_true, ite_false, if_true, if_false, ite_self, and_self, and_true, true_and, and_false, false_and, or_self, or_true, true_or, or_false, false_or, not_true_eq_false, not_false_eq_true]
        exact ⟨0, _, _, rfl, isF_F hno⟩
    · rw [if_neg hm, if_neg hm] at hd
      by_cases h9 : c 2 s = c 2 o
      · have h10 : ¬ c 3 s = c 3 o := fun h => hd ⟨h9, h⟩
        simp (disch := omega) only [↓bd_e, ↓jn_e, ↓opt_bind, ↓reduceIte, iLeT, iLeF, iLtT, iLtF, iEqT, iEqF, il_0, il_1, il_2, il_3, il_4, il_5, il_6, il_7, il_8, il_9, il_10, il_11, il_12, il_13, il_14, il_15, il_16, il_18, il_20, il_24, il_32, il_35, il_40, il_44, il_47, il_48, il_56, il_57, il_58, il_59, il_63, il_64, il_72, il_100, il_120, il_126, il_127, il_160, il_192, il_255, il_349, il_1748, il_6992, iI_add, iI_sub, iI_mul, iI_neg, iI_le, iI_lt, iI_eq, rd_lA, wr_lA, rd_lR, wr_lR, ite_iI, max_iI, min_iI, rem_iI, div_iI, ite_true, ite_false, if_true, if_false, ite_self, and_self, and_true, true_and, and_false, false_and, or_self, or_true, true_or, or_false, false_or, not_true_eq_false, not_false_eq_true]
        exact ⟨0, _, _, rfl, isF_F hno⟩
      · simp (disch := omega) only [↓bd_e, ↓jn_e, ↓opt_bind, ↓reduceIte, iLeT, iLeF, iLtT, iLtF, iEqT, iEqF, il_0, il_1, il_2, il_3, il_4, il_5, il_6, il_7, il_8, il_9, il_10, il_11, il_12, il_13, il_14, il_15, il_16, il_18, il_20, il_24, il_32, il_35, il_40, il_44, il_47, il_48, il_56, il_57, il_58, il_59, il_63, il_64, il_72, il_100, il_120, il_126, il_127, il_160, il_192, il_255, il_349, il_1748, il_6992, iI_add, iI_sub, iI_mul, iI_neg, iI_le, iI_lt, iI_eq, rd_lA, wr_lA, rd_lR, wr_lR, ite_iI, max_iI, min_iI, rem_iI, div_iI, ite_true, ite_false, if_true, if_false, ite_self, and_self, and_true, true_and, and_false, false_and, or_self, or_true, true_or, or_false, false_or, not_true_eq_false, not_false_eq_true]
        exact ⟨0, _, _, rfl, isF_F hno⟩
