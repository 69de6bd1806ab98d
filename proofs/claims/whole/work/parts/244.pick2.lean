abbrev tM19 : Type := Int32 × Int32 × Int32 × Int32 × Int32 × Int32 × Int32 × (Nat → Int32) × (Nat → Int32) × (Nat → Int32) × (Nat → Int32) × (Nat → Int32) × (Nat → Int32) × (Nat → Int32) × (Nat → Int32) × (Nat → Int32) × (Nat → Int32) × (Nat → Int32) × (Nat → Int32)
def pkI (V : Int → Int) (c : Nat → Int → Int) (T : Int → Int) (lo b : Int) : Prop := (b = -1 ∧ ∀ s, lo < s → s < V 0 → T s ≠ 0) ∨ ((lo < b ∧ b < V 0) ∧ T b = 0 ∧ ∀ s, lo < s → s < V 0 → T s = 0 → vKy V c b ≤ vKy V c s)
theorem m_pick {V : Int → Int} {c : Nat → Int → Int} (hs : vSet V) (hi : vImg V) (hc : catR V c) {T : Int → Int} (hT : ∀ s, 0 ≤ s → s < V 0 → T s = 0 ∨ T s = 1) {K : Int32 → Option tM19} {P : Option tM19 → Prop}
    (hP : ∀ b, pkI V c T (-1) b → P (K (iI b))) {n : Nat} (hn : 100 < n) : P (f_X11_packs_L61 (lA (c 2)) (lA (c 3)) (lA V) (lA T) K n (iI (-1)) (iI (V 0 - 1))) := by
  have hn24 := hi.1
  refine lpm (fun n (u : Int × Int) => f_X11_packs_L61 (lA (c 2)) (lA (c 3)) (lA V) (lA T) K n (iI u.1) (iI u.2)) P (fun u => (-1 ≤ u.2 ∧ u.2 < V 0 ∧ -1 ≤ u.1 ∧ u.1 < V 0) ∧ pkI V c T u.2 u.1) (fun u => (u.2 + 1).toNat) ?_ n (-1, V 0 - 1) (by show (V 0 - 1 + 1).toNat < n; omega) ⟨by show -1 ≤ V 0 - 1 ∧ V 0 - 1 < V 0 ∧ (-1 : Int) ≤ -1 ∧ -1 < V 0; omega, Or.inl ⟨rfl, fun s h1 h2 => by have h1 : V 0 - 1 < s := h1; omega⟩⟩
  rintro n ⟨b, x⟩ ⟨⟨x0, x1, b0, b1⟩, hI⟩ ih
  have x0 : -1 ≤ x := x0
  have x1 : x < V 0 := x1
  have b0 : -1 ≤ b := b0
  have b1 : b < V 0 := b1
  have hI : pkI V c T x b := hI
  show P (f_X11_packs_L61 _ _ _ _ K (n + 1) (iI b) (iI x))
  rw [f_X11_packs_L61, show (-1 : Int32) = iI (-1) by decide +kernel]
  by_cases hx : x < 0
  · have ex : x = -1 := by omega
    rw [ex] at hI
    simp (disch := omega) only [↓bd_e, ↓jn_e, ↓opt_bind, ↓reduceIte, iLeT, iLeF, iLtT, iLtF, iEqT, iEqF, il_0, il_1, il_2, il_3, il_4, il_5, il_6, il_7, il_8, il_9, il_10, il_11, il_12, il_13, il_14, il_15, il_16, il_18, il_20, il_24, il_32, il_35, il_40, il_44, il_47, il_48, il_56, il_57, il_58, il_59, il_63, il_64, il_72, il_100, il_120, il_126, il_127, il_160, il_192, il_255, il_349, il_1748, il_6992, iI_add, iI_sub, iI_mul, iI_neg, iI_le, iI_lt, iI_eq, rd_lA, wr_lA, rd_lR, wr_lR, ite_iI, max_iI, min_iI, rem_iI, div_iI, ite_true, ite_false, if_true, if_false, ite_self, and_self, and_true, true_and, and_false, false_and, or_self, or_true, true_or, or_false, false_or, not_true_eq_false, not_false_eq_true]
    exact hP b hI
  · have hTx := hT x (by omega) x1
    by_cases ht : T x = 0
    · by_cases hb : b < 0
      · have hI' : pkI V c T (x - 1) x := Or.inr ⟨by omega, ht, fun s s0 s1 s2 => by
          by_cases e : s = x
          · rw [e]; omega
          · rcases hI with ⟨-, h⟩ | ⟨h, -⟩
            · exact absurd s2 (h s (by omega) s1)
            · omega⟩
        have ih := ih (x, x - 1) ⟨by show -1 ≤ x - 1 ∧ x - 1 < V 0 ∧ -1 ≤ x ∧ x < V 0; omega, hI'⟩ (by show (x - 1 + 1).toNat < (x + 1).toNat; omega)
        simp (disch := omega) only [↓bd_e, ↓jn_e, ↓opt_bind, ↓reduceIte, iLeT, iLeF, iLtT, iLtF, iEqT, iEqF, il_0, il_1, il_2, il_3, il_4, il_5, il_6, il_7, il_8, il_9, il_10, il_11, il_12, il_13, il_14, il_15, il_16, il_18, il_20, il_24, il_32, il_35, il_40, il_44, il_47, il_48, il_56, il_57, il_58, il_59, il_63, il_64, il_72, il_100, il_120, il_126, il_127, il_160, il_192, il_255, il_349, il_1748, il_6992, iI_add, iI_sub, iI_mul, iI_neg, iI_le, iI_lt, iI_eq, rd_lA, wr_lA, rd_lR, wr_lR, ite_iI, max_iI, min_iI, rem_iI, div_iI, ite_true, ite_false, if_true, if_false, ite_self, and_self, and_true, true_and, and_false, false_and, or_self, or_true, true_or, or_false, false_or, not_true_eq_false, not_false_eq_true, ht]
        rw [show x + -1 = x - 1 by omega]
        exact ih
      · obtain ⟨hb1, hb2, hb3⟩ := hI.resolve_left (by omega)
        have e1 := (hc x (by omega) x1).1
        have e2 := (hc b (by omega) b1).1
        have hf := m_isFirst (V := V) (c := c) hs (a := x) (b := b) (by omega) (by omega) ⟨e1.1, e1.2.1⟩ ⟨e1.2.2.1, e1.2.2.2⟩ ⟨e2.1, e2.2.1⟩ ⟨e2.2.2.1, e2.2.2.2⟩
        have r1 := vRk_r (V := V) (c := c) (i := x) ⟨e1.1, e1.2.1⟩ ⟨e1.2.2.1, e1.2.2.2⟩
        have r2 := vRk_r (V := V) (c := c) (i := b) ⟨e2.1, e2.2.1⟩ ⟨e2.2.2.1, e2.2.2.2⟩
        by_cases hr : vRk V c b ≤ vRk V c x
        · have hI' : pkI V c T (x - 1) x := Or.inr ⟨by omega, ht, fun s s0 s1 s2 => by
            by_cases e : s = x
            · rw [e]; omega
            · have := hb3 s (by omega) s1 s2
              have : vKy V c x ≤ vKy V c b := by unfold vKy; omega
              omega⟩
          have ih := ih (x, x - 1) ⟨by show -1 ≤ x - 1 ∧ x - 1 < V 0 ∧ -1 ≤ x ∧ x < V 0; omega, hI'⟩ (by show (x - 1 + 1).toNat < (x + 1).toNat; omega)
          rw [if_pos hr] at hf
          simp (disch := omega) only [↓bd_e, ↓jn_e, ↓opt_bind, ↓reduceIte, iLeT, iLeF, iLtT, iLtF, iEqT, iEqF, il_0, il_1, il_2, il_3, il_4, il_5, il_6, il_7, il_8, il_9, il_10, il_11, il_12, il_13, il_14, il_15, il_16, il_18, il_20, il_24, il_32, il_35, il_40, il_44, il_47, il_48, il_56, il_57, il_58, il_59, il_63, il_64, il_72, il_100, il_120, il_126, il_127, il_160, il_192, il_255, il_349, il_1748, il_6992, iI_add, iI_sub, iI_mul, iI_neg, iI_le, iI_lt, iI_eq, rd_lA, wr_lA, rd_lR, wr_lR, ite_iI, max_iI, min_iI, rem_iI, div_iI, ite_true, ite_false, if_true, if_false, ite_self, and_self, and_true, true_and, and_false, false_and, or_self, or_true, true_or, or_false, false_or, not_true_eq_false, not_false_eq_true, ht, hf]
          rw [show x + -1 = x - 1 by omega]
          exact ih
        · have hI' : pkI V c T (x - 1) b := Or.inr ⟨by omega, hb2, fun s s0 s1 s2 => by
            by_cases e : s = x
            · rw [e]
              unfold vKy
              omega
            · exact hb3 s (by omega) s1 s2⟩
          have ih := ih (b, x - 1) ⟨by show -1 ≤ x - 1 ∧ x - 1 < V 0 ∧ -1 ≤ b ∧ b < V 0; omega, hI'⟩ (by show (x - 1 + 1).toNat < (x + 1).toNat; omega)
          rw [if_neg hr] at hf
          simp (disch := omega) only [↓bd_e, ↓jn_e, ↓opt_bind, ↓reduceIte, iLeT, iLeF, iLtT, iLtF, iEqT, iEqF, il_0, il_1, il_2, il_3, il_4, il_5, il_6, il_7, il_8, il_9, il_10, il_11, il_12, il_13, il_14, il_15, il_16, il_18, il_20, il_24, il_32, il_35, il_40, il_44, il_47, il_48, il_56, il_57, il_58, il_59, il_63, il_64, il_72, il_100, il_120, il_126, il_127, il_160, il_192, il_255, il_349, il_1748, il_6992, iI_add, iI_sub, iI_mul, iI_neg, iI_le, iI_lt, iI_eq, rd_lA, wr_lA, rd_lR, wr_lR, ite_iI, max_iI, min_iI, rem_iI, div_iI, ite_true, ite_false, if_true, if_false, ite_self, and_self, and_true, true_and, and_false, false_and, or_self, or_true, true_or, or_false, false_or, not_true_eq_false, not_false_eq_true, ht, hf]
          rw [show x + -1 = x - 1 by omega]
          exact ih
    · have hI' : pkI V c T (x - 1) b := by
        rcases hI with ⟨h1, h2⟩ | ⟨h1, h2, h3⟩
        · refine Or.inl ⟨h1, fun s s0 s1 => ?_⟩
          by_cases e : s = x
          · rw [e]; exact ht
          · exact h2 s (by omega) s1
        · refine Or.inr ⟨by omega, h2, fun s s0 s1 s2 => ?_⟩
          by_cases e : s = x
          · rw [e] at s2; exact absurd s2 ht
          · exact h3 s (by omega) s1 s2
      have ih := ih (b, x - 1) ⟨by show -1 ≤ x - 1 ∧ x - 1 < V 0 ∧ -1 ≤ b ∧ b < V 0; omega, hI'⟩ (by show (x - 1 + 1).toNat < (x + 1).toNat; omega)
      simp (disch := omega) only [↓bd_e, ↓jn_e, ↓opt_bind, ↓reduceIte, iLeT, iLeF, iLtT, iLtF, iEqT, iEqF, il_0, il_1, il_2, il_3, il_4, il_5, il_6, il_7, il_8, il_9, il_10, il_11, il_12, il_13, il_14, il_15, il_16, il_18, il_20, il_24, il_32, il_35, il_40, il_44, il_47, il_48, il_56, il_57, il_58, il_59, il_63, il_64, il_72, il_100, il_120, il_126, il_127, il_160, il_192, il_255, il_349, il_1748, il_6992, iI_add, iI_sub, iI_mul, iI_neg, iI_le, iI_lt, iI_eq, rd_lA, wr_lA, rd_lR, wr_lR, ite_iI, max_iI, min_iI, rem_iI, div_iI, ite_true, ite_false, if_true, if_false, ite_self, and_self, and_true, true_and, and_false, false_and, or_self, or_true, true_or, or_false, false_or, not_true_eq_false, not_false_eq_true, ht]
      rw [show x + -1 = x - 1 by omega]
      exact ih
/-- the flags of the sprites that are not waited for -/
theorem m_tried {V : Int → Int} {c : Nat → Int → Int} (hi : vImg V) (hc : catR V c) {W : Int → Int} (hW : W 0 = V 0) {K : (Nat → Int32) → Option tM19} {P : Option tM19 → Prop}
    (hP : ∀ T, (∀ s, 0 ≤ s → s < V 0 → T s = if 0 < c 2 s ∧ c 4 s = -1 then 0 else 1) → P (K (lA T))) {n : Nat} (hn : 100 < n) (t0 : Nat → Int32) : P (f_X11_packs_L8 (lA (c 2)) (lA (c 4)) (lA W) K n (iI 0) t0) := by
  have hn24 := hi.1
  rw [lA_of t0]
  refine lp (fun n x (T : Int → Int) => f_X11_packs_L8 (lA (c 2)) (lA (c 4)) (lA W) K n (iI x) (lA T)) P (V 0) (fun x T => 0 ≤ x ∧ ∀ s, 0 ≤ s → s < x → T s = if 0 < c 2 s ∧ c 4 s = -1 then 0 else 1) ?_ ?_ n 0 _ (by omega) (by omega) ⟨by omega, fun s h1 h2 => by omega⟩
  · rintro n T ⟨-, h⟩
    have := hP T h
    simp only [f_X11_packs_L8]
    rw [il_0, rd_lA W _ (by omega) (by omega) (by omega), hW]
    simp (disch := omega) only [↓bd_e, ↓jn_e, ↓opt_bind, ↓reduceIte, iLeT, iLeF, iLtT, iLtF, iEqT, iEqF, il_0, il_1, il_2, il_3, il_4, il_5, il_6, il_7, il_8, il_9, il_10, il_11, il_12, il_13, il_14, il_15, il_16, il_18, il_20, il_24, il_32, il_35, il_40, il_44, il_47, il_48, il_56, il_57, il_58, il_59, il_63, il_64, il_72, il_100, il_120, il_126, il_127, il_160, il_192, il_255, il_349, il_1748, il_6992, iI_add, iI_sub, iI_mul, iI_neg, iI_le, iI_lt, iI_eq, rd_lA, wr_lA, rd_lR, wr_lR, ite_iI, max_iI, min_iI, rem_iI, div_iI, ite_true, ite_false, if_true, if_false, ite_self, and_self, and_true, true_and, and_false, false_and, or_self, or_true, true_or, or_false, false_or, not_true_eq_false, not_false_eq_true]
    exact this
  · rintro n x T hx ⟨x0, h⟩ ih
    obtain ⟨⟨c1, c2, c3, c4⟩, c5⟩ := hc x x0 hx
    have ho : f_X11_isOriginal (lA (c 2)) (lA (c 4)) (iI x) = some (iI (if 0 < c 2 x ∧ c 4 x = -1 then 1 else 0)) := by
      unfold f_X11_isOriginal
      by_cases h1 : 0 < c 2 x
      · by_cases h2 : c 4 x = -1
        · rw [if_pos ⟨h1, h2⟩]
          simp (disch := omega) only [↓bd_e, ↓jn_e, ↓opt_bind, ↓reduceIte, iLeT, iLeF, iLtT, iLtF, iEqT, iEqF, il_0, il_1, il_2, il_3, il_4, il_5, il_6, il_7, il_8, il_9, il_10, il_11, il_12, il_13, il_14, il_15, il_16, il_18, il_20, il_24, il_32, il_35, il_40, il_44, il_47, il_48, il_56, il_57, il_58, il_59, il_63, il_64, il_72, il_100, il_120, il_126, il_127, il_160, il_192, il_255, il_349, il_1748, il_6992, iI_add, iI_sub, iI_mul, iI_neg, iI_le, iI_lt, iI_eq, rd_lA, wr_lA, rd_lR, wr_lR, ite_iI, max_iI, min_iI, rem_iI, div_iI, ite_true, ite_false, if_true, if_false, ite_self, and_self, and_true, true_and, and_false, false_and, or_self, or_true, true_or, or_false, false_or, not_true_eq_false, not_false_eq_true, h2]
        · rw [if_neg (fun z => h2 z.2)]
          simp (disch := omega) only [↓bd_e, ↓jn_e, ↓opt_bind, ↓reduceIte, iLeT, iLeF, iLtT, iLtF, iEqT, iEqF, il_0, il_1, il_2, il_3, il_4, il_5, il_6, il_7, il_8, il_9, il_10, il_11, il_12, il_13, il_14, il_15, il_16, il_18, il_20, il_24, il_32, il_35, il_40, il_44, il_47, il_48, il_56, il_57, il_58, il_59, il_63, il_64, il_72, il_100, il_120, il_126, il_127, il_160, il_192, il_255, il_349, il_1748, il_6992, iI_add, iI_sub, iI_mul, iI_neg, iI_le, iI_lt, iI_eq, rd_lA, wr_lA, rd_lR, wr_lR, ite_iI, max_iI, min_iI, rem_iI, div_iI, ite_true, ite_false, if_true, if_false, ite_self, and_self, and_true, true_and, and_false, false_and, or_self, or_true, true_or, or_false, false_or, not_true_eq_false, not_false_eq_true]
      · rw [if_neg (fun z => h1 z.1)]
        simp (disch := omega) only [↓bd_e, ↓jn_e, ↓opt_bind, ↓reduceIte, iLeT, iLeF, iLtT, iLtF, iEqT, iEqF, il_0, il_1, il_2, il_3, il_4, il_5, il_6, il_7, il_8, il_9, il_10, il_11, il_12, il_13, il_14, il_15, il_16, il_18, il_20, il_24, il_32, il_35, il_40, il_44, il_47, il_48, il_56, il_57, il_58, il_59, il_63, il_64, il_72, il_100, il_120, il_126, il_127, il_160, il_192, il_255, il_349, il_1748, il_6992, iI_add, iI_sub, iI_mul, iI_neg, iI_le, iI_lt, iI_eq, rd_lA, wr_lA, rd_lR, wr_lR, ite_iI, max_iI, min_iI, rem_iI, div_iI, ite_true, ite_false, if_true, if_false, ite_self, and_self, and_true, true_and, and_false, false_and, or_self, or_true, true_or, or_false, false_or, not_true_eq_false, not_false_eq_true]
    have ih := ih (uI T x (if 0 < c 2 x ∧ c 4 x = -1 then 0 else 1)) ⟨by omega, fun s s0 s1 => by
      rw [uI_at]
      by_cases e : s = x
      · rw [if_pos e, e]
      · rw [if_neg e]
        exact h s s0 (by omega)⟩
    simp only [f_X11_packs_L8]
    rw [il_0, rd_lA W _ (by omega) (by omega) (by omega), hW, ho]
    by_cases hor : 0 < c 2 x ∧ c 4 x = -1
    · rw [if_pos hor] at ih ⊢
      simp (disch := omega) only [↓bd_e, ↓jn_e, ↓opt_bind, ↓reduceIte, iLeT, iLeF, iLtT, iLtF, iEqT, iEqF, il_0, il_1, il_2, il_3, il_4, il_5, il_6, il_7, il_8, il_9, il_10, il_11, il_12, il_13, il_14, il_15, il_16, il_18, il_20, il_24, il_32, il_35, il_40, il_44, il_47, il_48, il_56, il_57, il_58, il_59, il_63, il_64, il_72, il_100, il_120, il_126, il_127, il_160, il_192, il_255, il_349, il_1748, il_6992, iI_add, iI_sub, iI_mul, iI_neg, iI_le, iI_lt, iI_eq, rd_lA, wr_lA, rd_lR, wr_lR, ite_iI, max_iI, min_iI, rem_iI, div_iI, ite_true, ite_false, if_true, if_false, ite_self, and_self, and_true, true_and, and_false, false_and, or_self, or_true, true_or, or_false, false_or, not_true_eq_false, not_false_eq_true]
      rw [wrZ_lA T _ (Or.inl rfl) (by omega) (by omega) (by omega)]
      exact ih
    · rw [if_neg hor] at ih ⊢
      simp (disch := omega) only [↓bd_e, ↓jn_e, ↓opt_bind, ↓reduceIte, iLeT, iLeF, iLtT, iLtF, iEqT, iEqF, il_0, il_1, il_2, il_3, il_4, il_5, il_6, il_7, il_8, il_9, il_10, il_11, il_12, il_13, il_14, il_15, il_16, il_18, il_20, il_24, il_32, il_35, il_40, il_44, il_47, il_48, il_56, il_57, il_58, il_59, il_63, il_64, il_72, il_100, il_120, il_126, il_127, il_160, il_192, il_255, il_349, il_1748, il_6992, iI_add, iI_sub, iI_mul, iI_neg, iI_le, iI_lt, iI_eq, rd_lA, wr_lA, rd_lR, wr_lR, ite_iI, max_iI, min_iI, rem_iI, div_iI, ite_true, ite_false, if_true, if_false, ite_self, and_self, and_true, true_and, and_false, false_and, or_self, or_true, true_or, or_false, false_or, not_true_eq_false, not_false_eq_true]
      rw [wrZ_lA T _ (Or.inr rfl) (by omega) (by omega) (by omega)]
      exact ih
