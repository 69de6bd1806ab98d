theorem cv_keep {T Vb : Int → Int} {st : Nat} {w h : Int} (hb : 0 ≤ Vb 0) (hx : ∀ t q, tS T (st + t) = some q → 0 ≤ q.1 ∧ q.1 ≤ 8 ∧ 0 ≤ q.2.1 ∧ q.2.1 ≤ 7) : ∀ t, vA Vb w h 0 = cv T Vb st w h t 0 ∧ cv T Vb st w h t (20 + 72 * Vb 0 + 0) = w ∧ cv T Vb st w h t (20 + 72 * Vb 0 + 1) = h
  | 0 => ⟨rfl, by show vA Vb w h _ = w; rw [vA_new hb (by omega) (by omega), if_pos rfl], by show vA Vb w h _ = h; rw [vA_new hb (by omega) (by omega), if_neg (by omega), if_pos rfl]⟩
  | t + 1 => by
    obtain ⟨a, b, c⟩ := cv_keep (w := w) (h := h) hb hx t
    unfold cv
    by_cases e : T ((st + t : Nat) : Int) = 47
    · rw [if_pos e]
      exact ⟨a, b, c⟩
    · rw [if_neg e]
      cases e2 : tS T (st + t) with
      | none => exact ⟨a, b, c⟩
      | some q =>
        have := hx t q e2
        show _ = uI (cv T Vb st w h t) _ _ 0 ∧ uI (cv T Vb st w h t) _ _ _ = w ∧ uI (cv T Vb st w h t) _ _ _ = h
        rw [uI_ne (by omega), uI_ne (by omega), uI_ne (by omega)]
        exact ⟨a, b, c⟩
/-- the class adds an image: its characters from st to k -/
theorem c_addImage {T V0 Vb : Int → Int} {len : Nat} (ht : tTx T len) {st k : Nat} {x y w m : Int} (hk : k < len) (h : tS T k = some (x, y, w, (st : Int), m)) (hx : 0 < x) (hw : y = 0 ∨ x = w) (hc : T k = 59) (h00 : 0 ≤ V0 0) (hi : vImg Vb) (ho : vOut Vb) (hm : vMo V0 Vb) (hn : Vb 0 < 24) {W H G : Int → Int} {R : Int → Int32} (hs : shR Vb W H G R) :
    ∃ W' H' G' R', f_X9_addImage (lA T) (iI (Vb 0)) (lA W) (lA H) (lA G) (lR R) (iI st) (iI k) = some (iI (Vb 0 + 1), lA W', lA H', lA G', lR R') ∧ vImg (cv T Vb st x (y + 1) (k - st)) ∧ vOut (cv T Vb st x (y + 1) (k - st)) ∧ vMo V0 (cv T Vb st x (y + 1) (k - st)) ∧ shR (cv T Vb st x (y + 1) (k - st)) W' H' G' R' := by
  obtain ⟨e1, e2⟩ := tImgE h hx hw
  have o := tS_ok h
  unfold tOk at o
  dsimp only at o
  have hl := ht.1
  have hst : st ≤ k := by have := (tImg h).2.1; omega
  have hb := hi.1
  have hm0 := hm.1
  have hch : ∀ i : Nat, st ≤ i → i < k → (48 ≤ T i ∧ T i ≤ 57) ∨ T i = 47 := fun i i0 i1 => by
    obtain ⟨xi, yi, wi, -, -, -, -, -, -, h7⟩ := e2 i (by omega) (by omega)
    omega
  have hv : ∀ v : Int, 0 ≤ v → v < x → st + v < k ∧ 48 ≤ T (st + v) ∧ T (st + v) ≤ 57 := by
    intro v v0 v1
    have hy0 : 0 ≤ y * (x + 1) := Int.mul_nonneg (by omega) (by omega)
    obtain ⟨xi, yi, wi, -, h2, -, h4, h5, h6, h7⟩ := e2 (st + v.toNat) (by omega) (by omega)
    have ev : ((st + v.toNat : Nat) : Int) = st + v := by omega
    rw [ev] at h6 h7
    have hyi : yi = 0 := by
      apply Classical.byContradiction
      intro hne
      have : x + 1 ≤ yi * (x + 1) := by
        have := Int.mul_le_mul_of_nonneg_right (show 1 ≤ yi by omega) (show 0 ≤ x + 1 by omega)
        omega
      omega
    rw [hyi, Int.zero_mul] at h6
    omega
  have hend : (k : Int) ≤ st + x ∨ (¬ (48 ≤ T (st + x) ∧ T (st + x) ≤ 57) ∧ st + x < k) := by
    by_cases e : (k : Int) ≤ st + x
    · exact Or.inl e
    · refine Or.inr ⟨?_, by omega⟩
      obtain ⟨xi, yi, wi, -, h2, -, h4, h5, h6, h7⟩ := e2 (st + x.toNat) (by omega) (by omega)
      have ev : ((st + x.toNat : Nat) : Int) = st + x := by omega
      rw [ev] at h6 h7
      have hyi : yi = 0 := by
        apply Classical.byContradiction
        intro hne
        have : x + 1 ≤ yi * (x + 1) := by
          have := Int.mul_le_mul_of_nonneg_right (show 1 ≤ yi by omega) (show 0 ≤ x + 1 by omega)
          omega
        omega
      rw [hyi, Int.zero_mul] at h6
      omega
  have hhigh : ((k : Int) - st + 1) / (x + 1) = y + 1 := by
    rw [← e1]
    rw [show y * (x + 1) + x + 1 = (y + 1) * (x + 1) by rw [Int.add_mul, Int.one_mul]; omega]
    exact Int.mul_ediv_cancel _ (by omega)
  have hqx : ∀ t q, tS T (st + t) = some q → 0 ≤ q.1 ∧ q.1 ≤ 8 ∧ 0 ≤ q.2.1 ∧ q.2.1 ≤ 7 := fun t q hq => by
    have := tS_ok hq
    unfold tOk at this
    omega
  unfold f_X9_addImage
  obtain ⟨fu, hfu, hfu2⟩ := fuel_ex; rw [hfu]
  simp (disch := omega) only [↓bd_e, ↓jn_e, ↓opt_bind, ↓reduceIte, iLeT, iLeF, iLtT, iLtF, iEqT, iEqF, il_0, il_1, il_2, il_3, il_4, il_5, il_6, il_7, il_8, il_9, il_10, il_11, il_12, il_13, il_14, il_15, il_16, il_18, il_20, il_24, il_32, il_35, il_40, il_44, il_47, il_48, il_56, il_57, il_58, il_59, il_63, il_64, il_72, il_100, il_120, il_126, il_127, il_160, il_192, il_255, il_349, il_1748, il_6992, iI_add, iI_sub, iI_mul, iI_neg, iI_le, iI_lt, iI_eq, rd_lA, wr_lA, rd_lR, wr_lR, ite_iI, max_iI, min_iI, rem_iI, div_iI, ite_true, ite_false, if_true, if_false, ite_self, and_self, and_true, true_and, and_false, false_and, or_self, or_true, true_or, or_false, false_or, not_true_eq_false, not_false_eq_true]
  refine lp (fun n v (u : Unit) => f_X9_addImage_L3 (lA T) (iI st) (iI k) _ n (iI v)) (fun r => ∃ W' H' G' R', r = some (iI (Vb 0 + 1), lA W', lA H', lA G', lR R') ∧ vImg (cv T Vb st x (y + 1) (k - st)) ∧ vOut (cv T Vb st x (y + 1) (k - st)) ∧ vMo V0 (cv T Vb st x (y + 1) (k - st)) ∧ shR (cv T Vb st x (y + 1) (k - st)) W' H' G' R') x (fun v u => 0 ≤ v) ?_ ?_ fu 0 () (by omega) (by omega) (by omega)
  · rintro n u -
    have ea := c_add (n := Vb 0) (w := x) (h := y + 1) (by omega) W H G R
    obtain ⟨g1, g2⟩ := shR_add hi hn hs (w := x) (h := y + 1) (by omega) (by omega)
    have key : ∃ W' H' G' R', f_X9_addImage_L57 (lA T) (iI st) (iI k) (iI x) (iI (Vb 0), iI (Vb 0 + 1), lA (uI W (Vb 0) x), lA (uI H (Vb 0) (y + 1)), lA (uI G (Vb 0) 0), lR (fun j => if Vb 0 * 8 ≤ j ∧ j < Vb 0 * 8 + 8 then iI 0 else R j)) g_fuel (iI st) (lR (fun j => if Vb 0 * 8 ≤ j ∧ j < Vb 0 * 8 + 8 then iI 0 else R j)) = some (iI (Vb 0 + 1), lA W', lA H', lA G', lR R') ∧ vImg (cv T Vb st x (y + 1) (k - st)) ∧ vOut (cv T Vb st x (y + 1) (k - st)) ∧ vMo V0 (cv T Vb st x (y + 1) (k - st)) ∧ shR (cv T Vb st x (y + 1) (k - st)) W' H' G' R' := by
      rw [hfu]
      refine lp (fun n i (Q : Int → Int32) => f_X9_addImage_L57 (lA T) (iI st) (iI k) (iI x) (iI (Vb 0), iI (Vb 0 + 1), lA (uI W (Vb 0) x), lA (uI H (Vb 0) (y + 1)), lA (uI G (Vb 0) 0), lR (fun j => if Vb 0 * 8 ≤ j ∧ j < Vb 0 * 8 + 8 then iI 0 else R j)) n (iI i) (lR Q)) (fun r => ∃ W' H' G' R', r = some (iI (Vb 0 + 1), lA W', lA H', lA G', lR R') ∧ vImg (cv T Vb st x (y + 1) (k - st)) ∧ vOut (cv T Vb st x (y + 1) (k - st)) ∧ vMo V0 (cv T Vb st x (y + 1) (k - st)) ∧ shR (cv T Vb st x (y + 1) (k - st)) W' H' G' R') k
        (fun i Q => (st : Int) ≤ i ∧ vImg (cv T Vb st x (y + 1) (i - st).toNat) ∧ vOut (cv T Vb st x (y + 1) (i - st).toNat) ∧ vMo V0 (cv T Vb st x (y + 1) (i - st).toNat) ∧ shR (cv T Vb st x (y + 1) (i - st).toNat) (uI W (Vb 0) x) (uI H (Vb 0) (y + 1)) (uI G (Vb 0) 0) Q) ?_ ?_ fu st _ (by omega) (by omega) ⟨by omega, ?_⟩
      · rintro n Q ⟨-, q1, q2, q3, q4⟩
        rw [show ((k : Int) - st).toNat = k - st by omega] at q1 q2 q3 q4
        unfold f_X9_addImage_L57
        simp (disch := omega) only [↓bd_e, ↓jn_e, ↓opt_bind, ↓reduceIte, iLeT, iLeF, iLtT, iLtF, iEqT, iEqF, il_0, il_1, il_2, il_3, il_4, il_5, il_6, il_7, il_8, il_9, il_10, il_11, il_12, il_13, il_14, il_15, il_16, il_18, il_20, il_24, il_32, il_35, il_40, il_44, il_47, il_48, il_56, il_57, il_58, il_59, il_63, il_64, il_72, il_100, il_120, il_126, il_127, il_160, il_192, il_255, il_349, il_1748, il_6992, iI_add, iI_sub, iI_mul, iI_neg, iI_le, iI_lt, iI_eq, rd_lA, wr_lA, rd_lR, wr_lR, ite_iI, max_iI, min_iI, rem_iI, div_iI, ite_true, ite_false, if_true, if_false, ite_self, and_self, and_true, true_and, and_false, false_and, or_self, or_true, true_or, or_false, false_or, not_true_eq_false, not_false_eq_true]
        exact ⟨_, _, _, _, rfl, q1, q2, q3, q4⟩
      · rintro n i Q hik ⟨i0, q1, q2, q3, q4⟩ ih
        have hci := ht.2 i (by omega) (by omega)
        obtain ⟨xi, yi, wi, h1, h2, h3, h4, h5, h6, h7⟩ := e2 i.toNat (by omega) (by omega)
        rw [Int.toNat_of_nonneg (by omega)] at h6 h7
        have hnat : (i + 1 - st).toNat = (i - st).toNat + 1 := by omega
        have hsti : st + (i - st).toNat = i.toNat := by omega
        have hcv : cv T Vb st x (y + 1) (i + 1 - st).toNat = if T i = 47 then cv T Vb st x (y + 1) (i - st).toNat else uI (cv T Vb st x (y + 1) (i - st).toNat) (20 + 72 * (Vb 0) + 8 + 8 * yi + xi) (T i - 48) := by
          rw [hnat]
          show (if T ((st + (i - st).toNat : Nat) : Int) = 47 then _ else (tS T (st + (i - st).toNat)).elim _ _) = _
          rw [hsti, Int.toNat_of_nonneg (by omega), h1]
          rfl
        unfold f_X9_addImage_L57
        rcases h7 with ⟨d1, d2, d3⟩ | ⟨d1, d2⟩
        · rw [if_neg (by omega)] at hcv
          obtain ⟨k1, k2, k3⟩ := cv_keep (w := x) (h := y + 1) hb.1 hqx (i - st).toNat
          have hcv0 : cv T Vb st x (y + 1) (i - st).toNat 0 = Vb 0 + 1 := k1.symm
          have hpx : isPx (cv T Vb st x (y + 1) (i - st).toNat) (Vb 0) xi yi := ⟨by omega, by omega, by omega⟩
          obtain ⟨R', s1, s2⟩ := shR_px q1 q4 hpx (c := T i - 48) (by omega)
          rw [hcv0] at s1
          obtain ⟨p1, p2⟩ := place_dm (p := i - st) (r := yi) (c := xi) (b := x + 1) (by omega) h6 h4 (by omega)
          simp (disch := omega) only [↓bd_e, ↓jn_e, ↓opt_bind, ↓reduceIte, iLeT, iLeF, iLtT, iLtF, iEqT, iEqF, il_0, il_1, il_2, il_3, il_4, il_5, il_6, il_7, il_8, il_9, il_10, il_11, il_12, il_13, il_14, il_15, il_16, il_18, il_20, il_24, il_32, il_35, il_40, il_44, il_47, il_48, il_56, il_57, il_58, il_59, il_63, il_64, il_72, il_100, il_120, il_126, il_127, il_160, il_192, il_255, il_349, il_1748, il_6992, iI_add, iI_sub, iI_mul, iI_neg, iI_le, iI_lt, iI_eq, rd_lA, wr_lA, rd_lR, wr_lR, ite_iI, max_iI, min_iI, rem_iI, div_iI, ite_true, ite_false, if_true, if_false, ite_self, and_self, and_true, true_and, and_false, false_and, or_self, or_true, true_or, or_false, false_or, not_true_eq_false, not_false_eq_true, isDigit_iI, nz_iI _ (show x + 1 ≠ 0 by omega) (show -2147483648 ≤ x + 1 by omega) (show x + 1 < 2147483648 by omega), p1, p2, s1]
          refine ih R' ⟨by omega, ?_⟩
          rw [hcv]
          exact ⟨vImg_px q1 hpx (by omega), vOut_uI q2 (by omega), vMo_px q3 h00 hm0 (by omega) (by omega), s2⟩
        · rw [if_pos d1] at hcv
          simp (disch := omega) only [↓bd_e, ↓jn_e, ↓opt_bind, ↓reduceIte, iLeT, iLeF, iLtT, iLtF, iEqT, iEqF, il_0, il_1, il_2, il_3, il_4, il_5, il_6, il_7, il_8, il_9, il_10, il_11, il_12, il_13, il_14, il_15, il_16, il_18, il_20, il_24, il_32, il_35, il_40, il_44, il_47, il_48, il_56, il_57, il_58, il_59, il_63, il_64, il_72, il_100, il_120, il_126, il_127, il_160, il_192, il_255, il_349, il_1748, il_6992, iI_add, iI_sub, iI_mul, iI_neg, iI_le, iI_lt, iI_eq, rd_lA, wr_lA, rd_lR, wr_lR, ite_iI, max_iI, min_iI, rem_iI, div_iI, ite_true, ite_false, if_true, if_false, ite_self, and_self, and_true, true_and, and_false, false_and, or_self, or_true, true_or, or_false, false_or, not_true_eq_false, not_false_eq_true, isDigit_iI]
          refine ih Q ⟨by omega, ?_⟩
          rw [hcv]
          exact ⟨q1, q2, q3, q4⟩
      · rw [show ((st : Int) - st).toNat = 0 by omega]
        exact ⟨g1, vOut_add ho (by omega) _ _, vMo_add hm (by omega) _ _, g2⟩
    rw [hfu] at key
    unfold f_X9_addImage_L3
    rcases hend with hend | ⟨he1, he2⟩
    · simp (disch := omega) only [↓bd_e, ↓jn_e, ↓opt_bind, ↓reduceIte, iLeT, iLeF, iLtT, iLtF, iEqT, iEqF, il_0, il_1, il_2, il_3, il_4, il_5, il_6, il_7, il_8, il_9, il_10, il_11, il_12, il_13, il_14, il_15, il_16, il_18, il_20, il_24, il_32, il_35, il_40, il_44, il_47, il_48, il_56, il_57, il_58, il_59, il_63, il_64, il_72, il_100, il_120, il_126, il_127, il_160, il_192, il_255, il_349, il_1748, il_6992, iI_add, iI_sub, iI_mul, iI_neg, iI_le, iI_lt, iI_eq, rd_lA, wr_lA, rd_lR, wr_lR, ite_iI, max_iI, min_iI, rem_iI, div_iI, ite_true, ite_false, if_true, if_false, ite_self, and_self, and_true, true_and, and_false, false_and, or_self, or_true, true_or, or_false, false_or, not_true_eq_false, not_false_eq_true, nz_iI _ (show x + 1 ≠ 0 by omega) (show -2147483648 ≤ x + 1 by omega) (show x + 1 < 2147483648 by omega), hhigh, ea]
      exact key
    · have hc2 := ht.2 (st + x) (by omega) (by omega)
      simp (disch := omega) only [↓bd_e, ↓jn_e, ↓opt_bind, ↓reduceIte, iLeT, iLeF, iLtT, iLtF, iEqT, iEqF, il_0, il_1, il_2, il_3, il_4, il_5, il_6, il_7, il_8, il_9, il_10, il_11, il_12, il_13, il_14, il_15, il_16, il_18, il_20, il_24, il_32, il_35, il_40, il_44, il_47, il_48, il_56, il_57, il_58, il_59, il_63, il_64, il_72, il_100, il_120, il_126, il_127, il_160, il_192, il_255, il_349, il_1748, il_6992, iI_add, iI_sub, iI_mul, iI_neg, iI_le, iI_lt, iI_eq, rd_lA, wr_lA, rd_lR, wr_lR, ite_iI, max_iI, min_iI, rem_iI, div_iI, ite_true, ite_false, if_true, if_false, ite_self, and_self, and_true, true_and, and_false, false_and, or_self, or_true, true_or, or_false, false_or, not_true_eq_false, not_false_eq_true, isDigit_iI, he1, nz_iI _ (show x + 1 ≠ 0 by omega) (show -2147483648 ≤ x + 1 by omega) (show x + 1 < 2147483648 by omega), hhigh, ea]
      exact key
  · rintro n v u hv1 hv0 ih
    obtain ⟨b1, b2, b3⟩ := hv v hv0 hv1
    have hcv := ht.2 (st + v) (by omega) (by omega)
    unfold f_X9_addImage_L3
    simp (disch := omega) only [↓bd_e, ↓jn_e, ↓opt_bind, ↓reduceIte, iLeT, iLeF, iLtT, iLtF, iEqT, iEqF, il_0, il_1, il_2, il_3, il_4, il_5, il_6, il_7, il_8, il_9, il_10, il_11, il_12, il_13, il_14, il_15, il_16, il_18, il_20, il_24, il_32, il_35, il_40, il_44, il_47, il_48, il_56, il_57, il_58, il_59, il_63, il_64, il_72, il_100, il_120, il_126, il_127, il_160, il_192, il_255, il_349, il_1748, il_6992, iI_add, iI_sub, iI_mul, iI_neg, iI_le, iI_lt, iI_eq, rd_lA, wr_lA, rd_lR, wr_lR, ite_iI, max_iI, min_iI, rem_iI, div_iI, ite_true, ite_false, if_true, if_false, ite_self, and_self, and_true, true_and, and_false, false_and, or_self, or_true, true_or, or_false, false_or, not_true_eq_false, not_false_eq_true, isDigit_iI]
    exact ih () (by omega)
