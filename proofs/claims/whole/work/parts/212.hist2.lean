/-! the history of both sides -/
def vOut (V : Int → Int) : Prop := ∀ k, (k < 0 ∨ 1748 ≤ k) → V k = 0
def vGood (V : Int → Int) : Prop := vOut V ∧ vSet V ∧ vImg V ∧ vPlc V ∧ ∀ c, vCat V c → vGeo V c
def hF (H0 H1 H2 H3 H4 : Nat → Nat → Int32) (i : Int) : Nat → Nat → Int32 := if i = 0 then H0 else if i = 1 then H1 else if i = 2 then H2 else if i = 3 then H3 else H4
def hR (p l : Int) (F : Int → Nat → Nat → Int32) (P : Int → Int) : Prop := (0 ≤ p ∧ p ≤ 5 ∧ 0 ≤ l ∧ l < 5) ∧ ∀ i, 0 ≤ i → i < p → ∃ W, (∀ k, 0 ≤ k → k < 1748 → P (1748 * i + k) = W k) ∧ vGood W ∧ sR W (F ((l - (p - 1 - i)) % 5))
theorem c_record {V : Int → Int} {S : Nat → Nat → Int32} (hv : vSet V) (hr : sR V S) {l p : Int} (hl : 0 ≤ l ∧ l < 5) (hp : 0 ≤ p ∧ p ≤ 5) (H0 H1 H2 H3 H4 : Nat → Nat → Int32) :
    ∃ K0 K1 K2 K3 K4, f_X2_record (iI l) (iI p) H0 H1 H2 H3 H4 S = some (iI ((l + 1) % 5), iI (min (p + 1) 5), K0, K1, K2, K3, K4) ∧ sEq (hF K0 K1 K2 K3 K4 ((l + 1) % 5)) S ∧ ∀ i, 0 ≤ i → i < 5 → i ≠ (l + 1) % 5 → hF K0 K1 K2 K3 K4 i = hF H0 H1 H2 H3 H4 i := by
  unfold f_X2_record
  have h5 : (l + 1) % 5 = 0 ∨ (l + 1) % 5 = 1 ∨ (l + 1) % 5 = 2 ∨ (l + 1) % 5 = 3 ∨ (l + 1) % 5 = 4 := by omega
  rcases h5 with h | h | h | h | h
  · obtain ⟨S', e, hs⟩ := c_copy hv hr H0
    simp (disch := omega) only [↓bd_e, ↓jn_e, ↓opt_bind, ↓reduceIte, iLeT, iLeF, iLtT, iLtF, iEqT, iEqF, il_0, il_1, il_2, il_3, il_4, il_5, il_6, il_7, il_8, il_9, il_10, il_11, il_12, il_13, il_14, il_15, il_16, il_18, il_20, il_24, il_32, il_35, il_40, il_44, il_47, il_48, il_56, il_57, il_58, il_59, il_63, il_64, il_72, il_100, il_120, il_126, il_127, il_160, il_192, il_255, il_349, il_1748, il_6992, iI_add, iI_sub, iI_mul, iI_neg, iI_le, iI_lt, iI_eq, rd_lA, wr_lA, rd_lR, wr_lR, ite_iI, max_iI, min_iI, rem_iI, div_iI, ite_true, ite_false, if_true, if_false, ite_self, and_self, and_true, true_and, and_false, false_and, or_self, or_true, true_or, or_false, false_or, not_true_eq_false, not_false_eq_true, h, e]
    refine ⟨S', H1, H2, H3, H4, rfl, hs, fun i i0 i1 i2 => ?_⟩
    unfold hF
    rw [if_neg i2, if_neg i2]
  · obtain ⟨S', e, hs⟩ := c_copy hv hr H1
    simp (disch := omega) only [↓bd_e, ↓jn_e, ↓opt_bind, ↓reduceIte, iLeT, iLeF, iLtT, iLtF, iEqT, iEqF, il_0, il_1, il_2, il_3, il_4, il_5, il_6, il_7, il_8, il_9, il_10, il_11, il_12, il_13, il_14, il_15, il_16, il_18, il_20, il_24, il_32, il_35, il_40, il_44, il_47, il_48, il_56, il_57, il_58, il_59, il_63, il_64, il_72, il_100, il_120, il_126, il_127, il_160, il_192, il_255, il_349, il_1748, il_6992, iI_add, iI_sub, iI_mul, iI_neg, iI_le, iI_lt, iI_eq, rd_lA, wr_lA, rd_lR, wr_lR, ite_iI, max_iI, min_iI, rem_iI, div_iI, ite_true, ite_false, if_true, if_false, ite_self, and_self, and_true, true_and, and_false, false_and, or_self, or_true, true_or, or_false, false_or, not_true_eq_false, not_false_eq_true, h, e]
    refine ⟨H0, S', H2, H3, H4, rfl, hs, fun i i0 i1 i2 => ?_⟩
    unfold hF
    rw [if_neg i2, if_neg i2]
  · obtain ⟨S', e, hs⟩ := c_copy hv hr H2
    simp (disch := omega) only [↓bd_e, ↓jn_e, ↓opt_bind, ↓reduceIte, iLeT, iLeF, iLtT, iLtF, iEqT, iEqF, il_0, il_1, il_2, il_3, il_4, il_5, il_6, il_7, il_8, il_9, il_10, il_11, il_12, il_13, il_14, il_15, il_16, il_18, il_20, il_24, il_32, il_35, il_40, il_44, il_47, il_48, il_56, il_57, il_58, il_59, il_63, il_64, il_72, il_100, il_120, il_126, il_127, il_160, il_192, il_255, il_349, il_1748, il_6992, iI_add, iI_sub, iI_mul, iI_neg, iI_le, iI_lt, iI_eq, rd_lA, wr_lA, rd_lR, wr_lR, ite_iI, max_iI, min_iI, rem_iI, div_iI, ite_true, ite_false, if_true, if_false, ite_self, and_self, and_true, true_and, and_false, false_and, or_self, or_true, true_or, or_false, false_or, not_true_eq_false, not_false_eq_true, h, e]
    refine ⟨H0, H1, S', H3, H4, rfl, hs, fun i i0 i1 i2 => ?_⟩
    unfold hF
    rw [if_neg i2, if_neg i2]
  · obtain ⟨S', e, hs⟩ := c_copy hv hr H3
    simp (disch := omega) only [↓bd_e, ↓jn_e, ↓opt_bind, ↓reduceIte, iLeT, iLeF, iLtT, iLtF, iEqT, iEqF, il_0, il_1, il_2, il_3, il_4, il_5, il_6, il_7, il_8, il_9, il_10, il_11, il_12, il_13, il_14, il_15, il_16, il_18, il_20, il_24, il_32, il_35, il_40, il_44, il_47, il_48, il_56, il_57, il_58, il_59, il_63, il_64, il_72, il_100, il_120, il_126, il_127, il_160, il_192, il_255, il_349, il_1748, il_6992, iI_add, iI_sub, iI_mul, iI_neg, iI_le, iI_lt, iI_eq, rd_lA, wr_lA, rd_lR, wr_lR, ite_iI, max_iI, min_iI, rem_iI, div_iI, ite_true, ite_false, if_true, if_false, ite_self, and_self, and_true, true_and, and_false, false_and, or_self, or_true, true_or, or_false, false_or, not_true_eq_false, not_false_eq_true, h, e]
    refine ⟨H0, H1, H2, S', H4, rfl, hs, fun i i0 i1 i2 => ?_⟩
    unfold hF
    rw [if_neg i2, if_neg i2]
  · obtain ⟨S', e, hs⟩ := c_copy hv hr H4
    simp (disch := omega) only [↓bd_e, ↓jn_e, ↓opt_bind, ↓reduceIte, iLeT, iLeF, iLtT, iLtF, iEqT, iEqF, il_0, il_1, il_2, il_3, il_4, il_5, il_6, il_7, il_8, il_9, il_10, il_11, il_12, il_13, il_14, il_15, il_16, il_18, il_20, il_24, il_32, il_35, il_40, il_44, il_47, il_48, il_56, il_57, il_58, il_59, il_63, il_64, il_72, il_100, il_120, il_126, il_127, il_160, il_192, il_255, il_349, il_1748, il_6992, iI_add, iI_sub, iI_mul, iI_neg, iI_le, iI_lt, iI_eq, rd_lA, wr_lA, rd_lR, wr_lR, ite_iI, max_iI, min_iI, rem_iI, div_iI, ite_true, ite_false, if_true, if_false, ite_self, and_self, and_true, true_and, and_false, false_and, or_self, or_true, true_or, or_false, false_or, not_true_eq_false, not_false_eq_true, h, e]
    refine ⟨H0, H1, H2, H3, S', rfl, hs, fun i i0 i1 i2 => ?_⟩
    unfold hF
    by_cases j0 : i = 0
    · rw [if_pos j0, if_pos j0]
    · by_cases j1 : i = 1
      · rw [if_neg j0, if_pos j1, if_neg j0, if_pos j1]
      · by_cases j2 : i = 2
        · rw [if_neg j0, if_neg j1, if_pos j2, if_neg j0, if_neg j1, if_pos j2]
        · rw [if_neg j0, if_neg j1, if_neg j2, if_pos (by omega), if_neg j0, if_neg j1, if_neg j2, if_pos (by omega)]
theorem m_notes_in {V P : Int → Int} {p : Int} (hp : 0 ≤ p ∧ p < 5) {β : Type} (Q : Option β → Prop) (K : (Nat → Int32) → Option β) (hK : ∀ P' : Int → Int, (∀ j, P' j = if 1748 * p ≤ j ∧ j < 1748 * p + 1748 then V (j - 1748 * p) else P j) → Q (K (lA P'))) (G : Nat → Int32 → (Nat → Int32) → Option β)
    (hG0 : ∀ n A, G (n + 1) (iI 1748) (lA A) = K (lA A)) (hGs : ∀ n x A, 0 ≤ x → x < 1748 → G (n + 1) (iI x) (lA A) = G n (iI (x + 1)) (lA (uI A (1748 * p + x) (V x)))) (n : Nat) (hn : 1748 < n) : Q (G n (iI 0) (lA P)) := by
  refine lp (fun n x (A : Int → Int) => G n (iI x) (lA A)) Q 1748 (fun x A => 0 ≤ x ∧ ∀ j, A j = if 1748 * p ≤ j ∧ j < 1748 * p + x then V (j - 1748 * p) else P j) ?_ ?_ n 0 P (by omega) (by omega) ⟨by omega, fun j => by rw [if_neg (by omega)]⟩
  · rintro n A ⟨-, h⟩
    rw [hG0]
    exact hK A h
  · rintro n x A hx ⟨hx0, h⟩ ih
    rw [hGs n x A hx0 hx]
    refine ih _ ⟨by omega, fun j => ?_⟩
    rw [uI_at]
    by_cases e : j = 1748 * p + x
    · rw [if_pos e, if_pos (by omega), e]
      congr 1
      omega
    · rw [if_neg e, h j]
      by_cases e2 : 1748 * p ≤ j ∧ j < 1748 * p + x
      · rw [if_pos e2, if_pos (by omega)]
      · rw [if_neg e2, if_neg (by omega)]
theorem m_notes {V P : Int → Int} {p : Int} (hp : 0 ≤ p ∧ p ≤ 5) : ∃ P', f_X11_notes (iI p) (lA V) (lA P) = some (iI (min (p + 1) 5), lA P') ∧ (∀ k, 0 ≤ k → k < 1748 → P' (1748 * (min (p + 1) 5 - 1) + k) = V k) ∧ ∀ i k, 0 ≤ i → i < min (p + 1) 5 - 1 → 0 ≤ k → k < 1748 → P' (1748 * i + k) = P (1748 * (if p = 5 then i + 1 else i) + k) := by
  unfold f_X11_notes
  obtain ⟨fu, hfu, hfu2⟩ := fuel_ex; rw [hfu]
  by_cases h5 : p = 5
  · subst h5
    simp (disch := omega) only [↓bd_e, ↓jn_e, ↓opt_bind, ↓reduceIte, iLeT, iLeF, iLtT, iLtF, iEqT, iEqF, il_0, il_1, il_2, il_3, il_4, il_5, il_6, il_7, il_8, il_9, il_10, il_11, il_12, il_13, il_14, il_15, il_16, il_18, il_20, il_24, il_32, il_35, il_40, il_44, il_47, il_48, il_56, il_57, il_58, il_59, il_63, il_64, il_72, il_100, il_120, il_126, il_127, il_160, il_192, il_255, il_349, il_1748, il_6992, iI_add, iI_sub, iI_mul, iI_neg, iI_le, iI_lt, iI_eq, rd_lA, wr_lA, rd_lR, wr_lR, ite_iI, max_iI, min_iI, rem_iI, div_iI, ite_true, ite_false, if_true, if_false, ite_self, and_self, and_true, true_and, and_false, false_and, or_self, or_true, true_or, or_false, false_or, not_true_eq_false, not_false_eq_true]
    refine lp (fun n x (A : Int → Int) => f_X11_notes_L10 _ n (iI x) (lA A)) (fun r => ∃ P', r = some (iI 5, lA P') ∧ (∀ k, 0 ≤ k → k < 1748 → P' (1748 * (min (5 + 1) 5 - 1) + k) = V k) ∧ ∀ i k, 0 ≤ i → i < min (5 + 1) 5 - 1 → 0 ≤ k → k < 1748 → P' (1748 * i + k) = P (1748 * (i + 1) + k)) 6992
      (fun x A => 0 ≤ x ∧ ∀ j, A j = if 0 ≤ j ∧ j < x then P (j + 1748) else P j) ?_ ?_ fu 0 P (by omega) (by omega) ⟨by omega, fun j => by rw [if_neg (by omega)]⟩
    · rintro n A ⟨-, h⟩
      unfold f_X11_notes_L10
      simp (disch := omega) only [↓bd_e, ↓jn_e, ↓opt_bind, ↓reduceIte, iLeT, iLeF, iLtT, iLtF, iEqT, iEqF, il_0, il_1, il_2, il_3, il_4, il_5, il_6, il_7, il_8, il_9, il_10, il_11, il_12, il_13, il_14, il_15, il_16, il_18, il_20, il_24, il_32, il_35, il_40, il_44, il_47, il_48, il_56, il_57, il_58, il_59, il_63, il_64, il_72, il_100, il_120, il_126, il_127, il_160, il_192, il_255, il_349, il_1748, il_6992, iI_add, iI_sub, iI_mul, iI_neg, iI_le, iI_lt, iI_eq, rd_lA, wr_lA, rd_lR, wr_lR, ite_iI, max_iI, min_iI, rem_iI, div_iI, ite_true, ite_false, if_true, if_false, ite_self, and_self, and_true, true_and, and_false, false_and, or_self, or_true, true_or, or_false, false_or, not_true_eq_false, not_false_eq_true]
      refine m_notes_in (V := V) (P := A) (p := 4) (by omega) (fun r => ∃ P', r = some (iI 5, lA P') ∧ (∀ k, 0 ≤ k → k < 1748 → P' (1748 * (min (5 + 1) 5 - 1) + k) = V k) ∧ ∀ i k, 0 ≤ i → i < min (5 + 1) 5 - 1 → 0 ≤ k → k < 1748 → P' (1748 * i + k) = P (1748 * (i + 1) + k)) (fun f4 => some (iI 5, f4)) ?_ (fun n x A => f_X11_notes_L46 (lA V) (iI 4) _ n x A) ?_ ?_ fu (by omega)
      · intro P' hP'
        refine ⟨P', rfl, fun k k0 k1 => ?_, fun i k i0 i1 k0 k1 => ?_⟩
        · rw [hP', if_pos (by omega)]
          congr 1
          omega
        · rw [hP', if_neg (by omega), h, if_pos (by omega)]
          congr 1
          omega
      · intro n A
        unfold f_X11_notes_L46
        simp (disch := omega) only [↓bd_e, ↓jn_e, ↓opt_bind, ↓reduceIte, iLeT, iLeF, iLtT, iLtF, iEqT, iEqF, il_0, il_1, il_2, il_3, il_4, il_5, il_6, il_7, il_8, il_9, il_10, il_11, il_12, il_13, il_14, il_15, il_16, il_18, il_20, il_24, il_32, il_35, il_40, il_44, il_47, il_48, il_56, il_57, il_58, il_59, il_63, il_64, il_72, il_100, il_120, il_126, il_127, il_160, il_192, il_255, il_349, il_1748, il_6992, iI_add, iI_sub, iI_mul, iI_neg, iI_le, iI_lt, iI_eq, rd_lA, wr_lA, rd_lR, wr_lR, ite_iI, max_iI, min_iI, rem_iI, div_iI, ite_true, ite_false, if_true, if_false, ite_self, and_self, and_true, true_and, and_false, false_and, or_self, or_true, true_or, or_false, false_or, not_true_eq_false, not_false_eq_true]
        rfl
      · intro n x A x0 x1
        conv => lhs; unfold f_X11_notes_L46
        simp (disch := omega) only [↓bd_e, ↓jn_e, ↓opt_bind, ↓reduceIte, iLeT, iLeF, iLtT, iLtF, iEqT, iEqF, il_0, il_1, il_2, il_3, il_4, il_5, il_6, il_7, il_8, il_9, il_10, il_11, il_12, il_13, il_14, il_15, il_16, il_18, il_20, il_24, il_32, il_35, il_40, il_44, il_47, il_48, il_56, il_57, il_58, il_59, il_63, il_64, il_72, il_100, il_120, il_126, il_127, il_160, il_192, il_255, il_349, il_1748, il_6992, iI_add, iI_sub, iI_mul, iI_neg, iI_le, iI_lt, iI_eq, rd_lA, wr_lA, rd_lR, wr_lR, ite_iI, max_iI, min_iI, rem_iI, div_iI, ite_true, ite_false, if_true, if_false, ite_self, and_self, and_true, true_and, and_false, false_and, or_self, or_true, true_or, or_false, false_or, not_true_eq_false, not_false_eq_true]
    · rintro n x A hx ⟨hx0, h⟩ ih
      unfold f_X11_notes_L10
      simp (disch := omega) only [↓bd_e, ↓jn_e, ↓opt_bind, ↓reduceIte, iLeT, iLeF, iLtT, iLtF, iEqT, iEqF, il_0, il_1, il_2, il_3, il_4, il_5, il_6, il_7, il_8, il_9, il_10, il_11, il_12, il_13, il_14, il_15, il_16, il_18, il_20, il_24, il_32, il_35, il_40, il_44, il_47, il_48, il_56, il_57, il_58, il_59, il_63, il_64, il_72, il_100, il_120, il_126, il_127, il_160, il_192, il_255, il_349, il_1748, il_6992, iI_add, iI_sub, iI_mul, iI_neg, iI_le, iI_lt, iI_eq, rd_lA, wr_lA, rd_lR, wr_lR, ite_iI, max_iI, min_iI, rem_iI, div_iI, ite_true, ite_false, if_true, if_false, ite_self, and_self, and_true, true_and, and_false, false_and, or_self, or_true, true_or, or_false, false_or, not_true_eq_false, not_false_eq_true]
      refine ih _ ⟨by omega, fun j => ?_⟩
      rw [uI_at]
      by_cases e : j = x
      · rw [if_pos e, if_pos (by omega), h, if_neg (by omega), e]
      · rw [if_neg e, h j]
        by_cases e2 : 0 ≤ j ∧ j < x
        · rw [if_pos e2, if_pos (by omega)]
        · rw [if_neg e2, if_neg (by omega)]
  · simp (disch := omega) only [↓bd_e, ↓jn_e, ↓opt_bind, ↓reduceIte, iLeT, iLeF, iLtT, iLtF, iEqT, iEqF, il_0, il_1, il_2, il_3, il_4, il_5, il_6, il_7, il_8, il_9, il_10, il_11, il_12, il_13, il_14, il_15, il_16, il_18, il_20, il_24, il_32, il_35, il_40, il_44, il_47, il_48, il_56, il_57, il_58, il_59, il_63, il_64, il_72, il_100, il_120, il_126, il_127, il_160, il_192, il_255, il_349, il_1748, il_6992, iI_add, iI_sub, iI_mul, iI_neg, iI_le, iI_lt, iI_eq, rd_lA, wr_lA, rd_lR, wr_lR, ite_iI, max_iI, min_iI, rem_iI, div_iI, ite_true, ite_false, if_true, if_false, ite_self, and_self, and_true, true_and, and_false, false_and, or_self, or_true, true_or, or_false, false_or, not_true_eq_false, not_false_eq_true]
    refine m_notes_in (V := V) (P := P) (p := p) (by omega) (fun r => ∃ P', r = some (iI (min (p + 1) 5), lA P') ∧ (∀ k, 0 ≤ k → k < 1748 → P' (1748 * (min (p + 1) 5 - 1) + k) = V k) ∧ ∀ i k, 0 ≤ i → i < min (p + 1) 5 - 1 → 0 ≤ k → k < 1748 → P' (1748 * i + k) = P (1748 * i + k)) (fun f4 => some (iI (p + 1), f4)) ?_ (fun n x A => f_X11_notes_L46 (lA V) (iI p) _ n x A) ?_ ?_ fu (by omega)
    · intro P' hP'
      refine ⟨P', by rw [show min (p + 1) 5 = p + 1 by omega], fun k k0 k1 => ?_, fun i k i0 i1 k0 k1 => ?_⟩
      · rw [hP', if_pos (by omega)]
        congr 1
        omega
      · rw [hP', if_neg (by omega)]
    · intro n A
      unfold f_X11_notes_L46
      simp (disch := omega) only [↓bd_e, ↓jn_e, ↓opt_bind, ↓reduceIte, iLeT, iLeF, iLtT, iLtF, iEqT, iEqF, il_0, il_1, il_2, il_3, il_4, il_5, il_6, il_7, il_8, il_9, il_10, il_11, il_12, il_13, il_14, il_15, il_16, il_18, il_20, il_24, il_32, il_35, il_40, il_44, il_47, il_48, il_56, il_57, il_58, il_59, il_63, il_64, il_72, il_100, il_120, il_126, il_127, il_160, il_192, il_255, il_349, il_1748, il_6992, iI_add, iI_sub, iI_mul, iI_neg, iI_le, iI_lt, iI_eq, rd_lA, wr_lA, rd_lR, wr_lR, ite_iI, max_iI, min_iI, rem_iI, div_iI, ite_true, ite_false, if_true, if_false, ite_self, and_self, and_true, true_and, and_false, false_and, or_self, or_true, true_or, or_false, false_or, not_true_eq_false, not_false_eq_true]
    · intro n x A x0 x1
      conv => lhs; unfold f_X11_notes_L46
      simp (disch := omega) only [↓bd_e, ↓jn_e, ↓opt_bind, ↓reduceIte, iLeT, iLeF, iLtT, iLtF, iEqT, iEqF, il_0, il_1, il_2, il_3, il_4, il_5, il_6, il_7, il_8, il_9, il_10, il_11, il_12, il_13, il_14, il_15, il_16, il_18, il_20, il_24, il_32, il_35, il_40, il_44, il_47, il_48, il_56, il_57, il_58, il_59, il_63, il_64, il_72, il_100, il_120, il_126, il_127, il_160, il_192, il_255, il_349, il_1748, il_6992, iI_add, iI_sub, iI_mul, iI_neg, iI_le, iI_lt, iI_eq, rd_lA, wr_lA, rd_lR, wr_lR, ite_iI, max_iI, min_iI, rem_iI, div_iI, ite_true, ite_false, if_true, if_false, ite_self, and_self, and_true, true_and, and_false, false_and, or_self, or_true, true_or, or_false, false_or, not_true_eq_false, not_false_eq_true]
/-- both note the state -/
theorem hR_step {V : Int → Int} {S : Nat → Nat → Int32} (hg : vGood V) (hr : sR V S) {l p : Int} {F F' : Int → Nat → Nat → Int32} {P P' : Int → Int} (h : hR p l F P) (hs : sEq (F' ((l + 1) % 5)) S) (hF : ∀ i, 0 ≤ i → i < 5 → i ≠ (l + 1) % 5 → F' i = F i)
    (h1 : ∀ k, 0 ≤ k → k < 1748 → P' (1748 * (min (p + 1) 5 - 1) + k) = V k) (h2 : ∀ i k, 0 ≤ i → i < min (p + 1) 5 - 1 → 0 ≤ k → k < 1748 → P' (1748 * i + k) = P (1748 * (if p = 5 then i + 1 else i) + k)) : hR (min (p + 1) 5) ((l + 1) % 5) F' P' := by
  obtain ⟨a, b⟩ := h
  refine ⟨by omega, fun i i0 i1 => ?_⟩
  by_cases e : i = min (p + 1) 5 - 1
  · refine ⟨V, by rw [e]; exact h1, hg, ?_⟩
    rw [show ((l + 1) % 5 - (min (p + 1) 5 - 1 - i)) % 5 = (l + 1) % 5 by omega]
    exact sR_eq hg.2.2.1 hs hr
  · obtain ⟨W, w1, w2, w3⟩ := b (if p = 5 then i + 1 else i) (by split <;> omega) (by split <;> omega)
    refine ⟨W, fun k k0 k1 => ?_, w2, ?_⟩
    · rw [h2 i k i0 (by omega) k0 k1]
      exact w1 k k0 k1
    · have e2 : ((l + 1) % 5 - (min (p + 1) 5 - 1 - i)) % 5 = (l - (p - 1 - if p = 5 then i + 1 else i)) % 5 := by split <;> omega
      rw [hF _ (by omega) (by omega) (by omega), e2]
      exact w3
theorem c_takeBack {W : Int → Int} {l p : Int} (hl : 0 ≤ l ∧ l < 5) (hp : 0 < p ∧ p ≤ 5) (hw : vSet W) (H0 H1 H2 H3 H4 : Nat → Nat → Int32) (hr : sR W (hF H0 H1 H2 H3 H4 l)) (S : Nat → Nat → Int32) :
    ∃ S', f_X2_takeBack (iI l) (iI p) H0 H1 H2 H3 H4 S = some (iI ((l + 4) % 5), iI (p - 1), S') ∧ sEq S' (hF H0 H1 H2 H3 H4 l) := by
  obtain ⟨S', e, hs⟩ := c_copy hw hr S
  refine ⟨S', ?_, hs⟩
  have h5 : l = 0 ∨ l = 1 ∨ l = 2 ∨ l = 3 ∨ l = 4 := by omega
  unfold f_X2_takeBack
  rcases h5 with rfl | rfl | rfl | rfl | rfl
  · have e' : f_X8_copyFrom S H0 = some S' := e
    simp (disch := omega) only [↓bd_e, ↓jn_e, ↓opt_bind, ↓reduceIte, iLeT, iLeF, iLtT, iLtF, iEqT, iEqF, il_0, il_1, il_2, il_3, il_4, il_5, il_6, il_7, il_8, il_9, il_10, il_11, il_12, il_13, il_14, il_15, il_16, il_18, il_20, il_24, il_32, il_35, il_40, il_44, il_47, il_48, il_56, il_57, il_58, il_59, il_63, il_64, il_72, il_100, il_120, il_126, il_127, il_160, il_192, il_255, il_349, il_1748, il_6992, iI_add, iI_sub, iI_mul, iI_neg, iI_le, iI_lt, iI_eq, rd_lA, wr_lA, rd_lR, wr_lR, ite_iI, max_iI, min_iI, rem_iI, div_iI, ite_true, ite_false, if_true, if_false, ite_self, and_self, and_true, true_and, and_false, false_and, or_self, or_true, true_or, or_false, false_or, not_true_eq_false, not_false_eq_true, e']
    rfl
  · have e' : f_X8_copyFrom S H1 = some S' := e
    simp (disch := omega) only [↓bd_e, ↓jn_e, ↓opt_bind, ↓reduceIte, iLeT, iLeF, iLtT, iLtF, iEqT, iEqF, il_0, il_1, il_2, il_3, il_4, il_5, il_6, il_7, il_8, il_9, il_10, il_11, il_12, il_13, il_14, il_15, il_16, il_18, il_20, il_24, il_32, il_35, il_40, il_44, il_47, il_48, il_56, il_57, il_58, il_59, il_63, il_64, il_72, il_100, il_120, il_126, il_127, il_160, il_192, il_255, il_349, il_1748, il_6992, iI_add, iI_sub, iI_mul, iI_neg, iI_le, iI_lt, iI_eq, rd_lA, wr_lA, rd_lR, wr_lR, ite_iI, max_iI, min_iI, rem_iI, div_iI, ite_true, ite_false, if_true, if_false, ite_self, and_self, and_true, true_and, and_false, false_and, or_self, or_true, true_or, or_false, false_or, not_true_eq_false, not_false_eq_true, e']
    rfl
  · have e' : f_X8_copyFrom S H2 = some S' := e
    simp (disch := omega) only [↓bd_e, ↓jn_e, ↓opt_bind, ↓reduceIte, iLeT, iLeF, iLtT, iLtF, iEqT, iEqF, il_0, il_1, il_2, il_3, il_4, il_5, il_6, il_7, il_8, il_9, il_10, il_11, il_12, il_13, il_14, il_15, il_16, il_18, il_20, il_24, il_32, il_35, il_40, il_44, il_47, il_48, il_56, il_57, il_58, il_59, il_63, il_64, il_72, il_100, il_120, il_126, il_127, il_160, il_192, il_255, il_349, il_1748, il_6992, iI_add, iI_sub, iI_mul, iI_neg, iI_le, iI_lt, iI_eq, rd_lA, wr_lA, rd_lR, wr_lR, ite_iI, max_iI, min_iI, rem_iI, div_iI, ite_true, ite_false, if_true, if_false, ite_self, and_self, and_true, true_and, and_false, false_and, or_self, or_true, true_or, or_false, false_or, not_true_eq_false, not_false_eq_true, e']
    rfl
  · have e' : f_X8_copyFrom S H3 = some S' := e
    simp (disch := omega) only [↓bd_e, ↓jn_e, ↓opt_bind, ↓reduceIte, iLeT, iLeF, iLtT, iLtF, iEqT, iEqF, il_0, il_1, il_2, il_3, il_4, il_5, il_6, il_7, il_8, il_9, il_10, il_11, il_12, il_13, il_14, il_15, il_16, il_18, il_20, il_24, il_32, il_35, il_40, il_44, il_47, il_48, il_56, il_57, il_58, il_59, il_63, il_64, il_72, il_100, il_120, il_126, il_127, il_160, il_192, il_255, il_349, il_1748, il_6992, iI_add, iI_sub, iI_mul, iI_neg, iI_le, iI_lt, iI_eq, rd_lA, wr_lA, rd_lR, wr_lR, ite_iI, max_iI, min_iI, rem_iI, div_iI, ite_true, ite_false, if_true, if_false, ite_self, and_self, and_true, true_and, and_false, false_and, or_self, or_true, true_or, or_false, false_or, not_true_eq_false, not_false_eq_true, e']
    rfl
  · have e' : f_X8_copyFrom S H4 = some S' := e
    simp (disch := omega) only [↓bd_e, ↓jn_e, ↓opt_bind, ↓reduceIte, iLeT, iLeF, iLtT, iLtF, iEqT, iEqF, il_0, il_1, il_2, il_3, il_4, il_5, il_6, il_7, il_8, il_9, il_10, il_11, il_12, il_13, il_14, il_15, il_16, il_18, il_20, il_24, il_32, il_35, il_40, il_44, il_47, il_48, il_56, il_57, il_58, il_59, il_63, il_64, il_72, il_100, il_120, il_126, il_127, il_160, il_192, il_255, il_349, il_1748, il_6992, iI_add, iI_sub, iI_mul, iI_neg, iI_le, iI_lt, iI_eq, rd_lA, wr_lA, rd_lR, wr_lR, ite_iI, max_iI, min_iI, rem_iI, div_iI, ite_true, ite_false, if_true, if_false, ite_self, and_self, and_true, true_and, and_false, false_and, or_self, or_true, true_or, or_false, false_or, not_true_eq_false, not_false_eq_true, e']
    rfl
/-- a loop of the reference's that copies a state out of a row of states -/
theorem m_bring {V P W : Int → Int} {o : Int} (hV : vOut V) (hW : vOut W) (h : ∀ k, 0 ≤ k → k < 1748 → P (o + k) = W k) {β : Type} (K : (Nat → Int32) → Option β) (G : Nat → Int32 → (Nat → Int32) → Option β)
    (hG0 : ∀ n A, G (n + 1) (iI 1748) (lA A) = K (lA A)) (hGs : ∀ n x A, 0 ≤ x → x < 1748 → G (n + 1) (iI x) (lA A) = G n (iI (x + 1)) (lA (uI A x (P (o + x))))) (n : Nat) (hn : 1748 < n) : G n (iI 0) (lA V) = K (lA W) := by
  refine lp (fun n x (A : Int → Int) => G n (iI x) (lA A)) (fun r => r = K (lA W)) 1748 (fun x A => 0 ≤ x ∧ ∀ j, A j = if 0 ≤ j ∧ j < x then W j else V j) ?_ ?_ n 0 V (by omega) (by omega) ⟨by omega, fun j => by rw [if_neg (by omega)]⟩
  · rintro n A ⟨-, h⟩
    rw [hG0]
    congr 1
    refine lA_eq (fun j j0 => ?_)
    rw [h j]
    by_cases e : 0 ≤ j ∧ j < 1748
    · rw [if_pos e]
    · rw [if_neg e, hV j (by omega), hW j (by omega)]
  · rintro n x A hx ⟨hx0, hA⟩ ih
    rw [hGs n x A hx0 hx]
    refine ih _ ⟨by omega, fun j => ?_⟩
    rw [uI_at, h x hx0 hx]
    by_cases e : j = x
    · rw [if_pos e, if_pos (by omega), e]
    · rw [if_neg e, hA j]
      by_cases e2 : 0 ≤ j ∧ j < x
      · rw [if_pos e2, if_pos (by omega)]
      · rw [if_neg e2, if_neg (by omega)]
theorem m_undo {V P W : Int → Int} {p : Int} (hp : 0 < p ∧ p ≤ 5) (hV : vOut V) (hW : vOut W) (h : ∀ k, 0 ≤ k → k < 1748 → P (1748 * (p - 1) + k) = W k) : f_X11_undo (iI p) (lA V) (lA P) = some (iI (p - 1), iI (p - 1), lA W) := by
  unfold f_X11_undo
  obtain ⟨fu, hfu, hfu2⟩ := fuel_ex; rw [hfu]
  simp (disch := omega) only [↓bd_e, ↓jn_e, ↓opt_bind, ↓reduceIte, iLeT, iLeF, iLtT, iLtF, iEqT, iEqF, il_0, il_1, il_2, il_3, il_4, il_5, il_6, il_7, il_8, il_9, il_10, il_11, il_12, il_13, il_14, il_15, il_16, il_18, il_20, il_24, il_32, il_35, il_40, il_44, il_47, il_48, il_56, il_57, il_58, il_59, il_63, il_64, il_72, il_100, il_120, il_126, il_127, il_160, il_192, il_255, il_349, il_1748, il_6992, iI_add, iI_sub, iI_mul, iI_neg, iI_le, iI_lt, iI_eq, rd_lA, wr_lA, rd_lR, wr_lR, ite_iI, max_iI, min_iI, rem_iI, div_iI, ite_true, ite_false, if_true, if_false, ite_self, and_self, and_true, true_and, and_false, false_and, or_self, or_true, true_or, or_false, false_or, not_true_eq_false, not_false_eq_true]
  refine m_bring (o := 1748 * (p - 1)) hV hW h (fun f2 => some (iI (p - 1), iI (p - 1), f2)) (fun n x A => f_X11_undo_L22 (lA P) (iI (p - 1)) (fun f2 => some (iI (p - 1), iI (p - 1), f2)) n x A) ?_ ?_ fu (by omega)
  · intro n A
    unfold f_X11_undo_L22
    simp (disch := omega) only [↓bd_e, ↓jn_e, ↓opt_bind, ↓reduceIte, iLeT, iLeF, iLtT, iLtF, iEqT, iEqF, il_0, il_1, il_2, il_3, il_4, il_5, il_6, il_7, il_8, il_9, il_10, il_11, il_12, il_13, il_14, il_15, il_16, il_18, il_20, il_24, il_32, il_35, il_40, il_44, il_47, il_48, il_56, il_57, il_58, il_59, il_63, il_64, il_72, il_100, il_120, il_126, il_127, il_160, il_192, il_255, il_349, il_1748, il_6992, iI_add, iI_sub, iI_mul, iI_neg, iI_le, iI_lt, iI_eq, rd_lA, wr_lA, rd_lR, wr_lR, ite_iI, max_iI, min_iI, rem_iI, div_iI, ite_true, ite_false, if_true, if_false, ite_self, and_self, and_true, true_and, and_false, false_and, or_self, or_true, true_or, or_false, false_or, not_true_eq_false, not_false_eq_true]
  · intro n x A x0 x1
    conv => lhs; unfold f_X11_undo_L22
    simp (disch := omega) only [↓bd_e, ↓jn_e, ↓opt_bind, ↓reduceIte, iLeT, iLeF, iLtT, iLtF, iEqT, iEqF, il_0, il_1, il_2, il_3, il_4, il_5, il_6, il_7, il_8, il_9, il_10, il_11, il_12, il_13, il_14, il_15, il_16, il_18, il_20, il_24, il_32, il_35, il_40, il_44, il_47, il_48, il_56, il_57, il_58, il_59, il_63, il_64, il_72, il_100, il_120, il_126, il_127, il_160, il_192, il_255, il_349, il_1748, il_6992, iI_add, iI_sub, iI_mul, iI_neg, iI_le, iI_lt, iI_eq, rd_lA, wr_lA, rd_lR, wr_lR, ite_iI, max_iI, min_iI, rem_iI, div_iI, ite_true, ite_false, if_true, if_false, ite_self, and_self, and_true, true_and, and_false, false_and, or_self, or_true, true_or, or_false, false_or, not_true_eq_false, not_false_eq_true]
