/-! originals and copies -/
def cB (L T W H O Q : Int → Int) : Nat → Int → Int
  | 0 => L
  | 1 => T
  | 2 => W
  | 3 => H
  | 4 => O
  | _ => Q
theorem vLike_ag {V : Int → Int} {c c' : Nat → Int → Int} {s o q : Int} (hs : ∀ k, k < 4 → c k s = c' k s) (ho : ∀ k, k < 4 → c k o = c' k o) : vLike V c s o q ↔ vLike V c' s o q := by
  unfold vLike
  rw [hs 0 (by omega), hs 1 (by omega), hs 2 (by omega), hs 3 (by omega), ho 0 (by omega), ho 1 (by omega), ho 2 (by omega), ho 3 (by omega)]
theorem vCp_ag {V : Int → Int} {c c' : Nat → Int → Int} {s o q : Int} (hs : ∀ k, k < 4 → c k s = c' k s) (ho : ∀ k j, k < 5 → 0 ≤ j → j < s → c k j = c' k j) : vCp V c s o q ↔ vCp V c' s o q := by
  unfold vCp
  constructor
  · rintro ⟨h1, h2, h3, h4, h5, h6, h7⟩
    exact ⟨h1, h2, h3, h4, by rw [← ho 2 o (by omega) h1 h2]; exact h5, by rw [← ho 4 o (by omega) h1 h2]; exact h6, (vLike_ag hs (fun k hk => ho k o (by omega) h1 h2)).mp h7⟩
  · rintro ⟨h1, h2, h3, h4, h5, h6, h7⟩
    exact ⟨h1, h2, h3, h4, by rw [ho 2 o (by omega) h1 h2]; exact h5, by rw [ho 4 o (by omega) h1 h2]; exact h6, (vLike_ag hs (fun k hk => ho k o (by omega) h1 h2)).mpr h7⟩
theorem vOrig_ag {V : Int → Int} {c c' : Nat → Int → Int} {s : Int} (h0 : 0 ≤ s) (h : ∀ k j, k < 6 → 0 ≤ j → j ≤ s → c k j = c' k j) : vOrig V c s ↔ vOrig V c' s := by
  have e : ∀ o q, vCp V c s o q ↔ vCp V c' s o q := fun o q => vCp_ag (fun k _ => h k s (by omega) h0 (by omega)) (fun k j _ h1 h2 => h k j (by omega) h1 (by omega))
  unfold vOrig
  rw [h 2 s (by omega) h0 (by omega), h 4 s (by omega) h0 (by omega), h 5 s (by omega) h0 (by omega)]
  simp only [e]
theorem m_orient {V : Int → Int} (h8 : 0 ≤ V 8 ∧ V 8 ≤ 3) : f_X11_orientations (lA V) = some (iI (vLim V)) := by
  unfold f_X11_orientations vLim
  by_cases h3 : V 8 = 3
  · simp (disch := omega) only [↓bd_e, ↓jn_e, ↓opt_bind, ↓reduceIte, iLeT, iLeF, iLtT, iLtF, iEqT, iEqF, il_0, il_1, il_2, il_3, il_4, il_5, il_6, il_7, il_8, il_9, il_10, il_11, il_12, il_13, il_14, il_15, il_16, il_18, il_20, il_24, il_32, il_35, il_40, il_44, il_47, il_48, il_56, il_57, il_58, il_59, il_63, il_64, il_72, il_100, il_120, il_126, il_127, il_160, il_192, il_255, il_349, il_1748, il_6992, iI_add, iI_sub, iI_mul, iI_neg, iI_le, iI_lt, iI_eq, rd_lA, wr_lA, rd_lR, wr_lR, ite_iI, max_iI, min_iI, rem_iI, div_iI, ite_true, ite_false, if_true, if_false, ite_self, and_self, and_true, true_and, and_false, false_and, or_self, or_true, true_or, or_false, false_or, not_true_eq_false, not_false_eq_true, h3]
  · by_cases h2 : V 8 = 2
    · simp (disch := omega) only [↓bd_e, ↓jn_e, ↓opt_bind, ↓reduceIte, iLeT, iLeF, iLtT, iLtF, iEqT, iEqF, il_0, il_1, il_2, il_3, il_4, il_5, il_6, il_7, il_8, il_9, il_10, il_11, il_12, il_13, il_14, il_15, il_16, il_18, il_20, il_24, il_32, il_35, il_40, il_44, il_47, il_48, il_56, il_57, il_58, il_59, il_63, il_64, il_72, il_100, il_120, il_126, il_127, il_160, il_192, il_255, il_349, il_1748, il_6992, iI_add, iI_sub, iI_mul, iI_neg, iI_le, iI_lt, iI_eq, rd_lA, wr_lA, rd_lR, wr_lR, ite_iI, max_iI, min_iI, rem_iI, div_iI, ite_true, ite_false, if_true, if_false, ite_self, and_self, and_true, true_and, and_false, false_and, or_self, or_true, true_or, or_false, false_or, not_true_eq_false, not_false_eq_true, h2]
    · simp (disch := omega) only [↓bd_e, ↓jn_e, ↓opt_bind, ↓reduceIte, iLeT, iLeF, iLtT, iLtF, iEqT, iEqF, il_0, il_1, il_2, il_3, il_4, il_5, il_6, il_7, il_8, il_9, il_10, il_11, il_12, il_13, il_14, il_15, il_16, il_18, il_20, il_24, il_32, il_35, il_40, il_44, il_47, il_48, il_56, il_57, il_58, il_59, il_63, il_64, il_72, il_100, il_120, il_126, il_127, il_160, il_192, il_255, il_349, il_1748, il_6992, iI_add, iI_sub, iI_mul, iI_neg, iI_le, iI_lt, iI_eq, rd_lA, wr_lA, rd_lR, wr_lR, ite_iI, max_iI, min_iI, rem_iI, div_iI, ite_true, ite_false, if_true, if_false, ite_self, and_self, and_true, true_and, and_false, false_and, or_self, or_true, true_or, or_false, false_or, not_true_eq_false, not_false_eq_true]
theorem vLim_r {V : Int → Int} (h8 : 0 ≤ V 8 ∧ V 8 ≤ 3) : 0 ≤ vLim V ∧ vLim V ≤ 8 := by
  unfold vLim
  split
  · omega
  · split <;> omega
def vPx (V : Int → Int) (s : Int) : Prop := ∀ x y, 0 ≤ x → x < 8 → 0 ≤ y → y < 8 → 0 ≤ V (20 + 72 * s + 8 + 8 * y + x) ∧ V (20 + 72 * s + 8 + 8 * y + x) ≤ 9
def vBl (V : Int → Int) (c : Nat → Int → Int) (s : Int) : Prop := c 2 s = 0 ∨ vSh V c s
/-- the best pair so far -/
def soI (V : Int → Int) (c : Nat → Int → Int) (s : Int) (B : Int → Int → Prop) (o' q' : Int) : Prop :=
  (o' = -1 ∧ ∀ o q, vCp V c s o q → B o q) ∨ (vCp V c s o' q' ∧ ∀ o q, vCp V c s o q → o' < o ∨ (o = o' ∧ q' ≤ q))
def soR (V : Int → Int) (c : Nat → Int → Int) (s o q : Int) : Prop := (0 < c 2 s ∧ vCp V c s o q ∧ ∀ o' q', vCp V c s o' q' → o < o' ∨ (o' = o ∧ q ≤ q')) ∨ (o = -1 ∧ (0 < c 2 s → ∀ o' q', ¬ vCp V c s o' q'))
theorem m_seeks {V : Int → Int} {c : Nat → Int → Int} {s : Int} (hs : 0 ≤ s ∧ s < 24) (h8 : 0 ≤ V 8 ∧ V 8 ≤ 3) (hb : ∀ j, 0 ≤ j → j ≤ s → vBl V c j) (ho : ∀ j, 0 ≤ j → j < s → -1 ≤ c 4 j ∧ c 4 j < 24) (hp : ∀ j, 0 ≤ j → j ≤ s → vPx V j) (bx by' : Int32) :
    ∃ o q bx1 by1, f_X11_seeks bx by' (lA V) (lA (c 0)) (lA (c 1)) (lA (c 2)) (lA (c 3)) (lA (c 4)) (lA (c 5)) (iI s) = some (bx1, by1, lA (uI (c 4) s o), lA (uI (c 5) s q)) ∧ soR V c s o q := by
  have hl := vLim_r h8
  have hor := m_orient h8
  have hws : 0 ≤ c 2 s ∧ c 2 s ≤ 8 := by
    rcases hb s hs.1 (by omega) with h | ⟨-, h, h'⟩ <;> omega
  unfold f_X11_seeks
  obtain ⟨fu, hfu, hfu2⟩ := fuel_ex; rw [hfu]
  simp (disch := omega) only [↓bd_e, ↓jn_e, ↓opt_bind, ↓reduceIte, iLeT, iLeF, iLtT, iLtF, iEqT, iEqF, il_0, il_1, il_2, il_3, il_4, il_5, il_6, il_7, il_8, il_9, il_10, il_11, il_12, il_13, il_14, il_15, il_16, il_18, il_20, il_24, il_32, il_35, il_40, il_44, il_47, il_48, il_56, il_57, il_58, il_59, il_63, il_64, il_72, il_100, il_120, il_126, il_127, il_160, il_192, il_255, il_349, il_1748, il_6992, iI_add, iI_sub, iI_mul, iI_neg, iI_le, iI_lt, iI_eq, rd_lA, wr_lA, rd_lR, wr_lR, ite_iI, max_iI, min_iI, rem_iI, div_iI, ite_true, ite_false, if_true, if_false, ite_self, and_self, and_true, true_and, and_false, false_and, or_self, or_true, true_or, or_false, false_or, not_true_eq_false, not_false_eq_true]
  refine lp (fun n x (u : (Int × Int) × Int32 × Int32) => f_X11_seeks_L16 (lA V) (lA (c 0)) (lA (c 1)) (lA (c 2)) (lA (c 3)) (iI s) n (iI x) u.2.1 u.2.2 (lA (uI (c 4) s u.1.1)) (lA (uI (c 5) s u.1.2)))
    (fun r => ∃ o q bx1 by1, r = some (bx1, by1, lA (uI (c 4) s o), lA (uI (c 5) s q)) ∧ soR V c s o q) s
    (fun x u => 0 ≤ x ∧ soI V c s (fun o q => x ≤ o) u.1.1 u.1.2) ?_ ?_ fu 0 ((-1, 0), bx, by') (by omega) (by omega) ⟨by omega, Or.inl ⟨rfl, fun o q h => h.1⟩⟩
  · rintro n ⟨⟨o, q⟩, ux, uy⟩ ⟨-, h⟩
    dsimp only at h ⊢
    unfold f_X11_seeks_L16
    simp (disch := omega) only [↓bd_e, ↓jn_e, ↓opt_bind, ↓reduceIte, iLeT, iLeF, iLtT, iLtF, iEqT, iEqF, il_0, il_1, il_2, il_3, il_4, il_5, il_6, il_7, il_8, il_9, il_10, il_11, il_12, il_13, il_14, il_15, il_16, il_18, il_20, il_24, il_32, il_35, il_40, il_44, il_47, il_48, il_56, il_57, il_58, il_59, il_63, il_64, il_72, il_100, il_120, il_126, il_127, il_160, il_192, il_255, il_349, il_1748, il_6992, iI_add, iI_sub, iI_mul, iI_neg, iI_le, iI_lt, iI_eq, rd_lA, wr_lA, rd_lR, wr_lR, ite_iI, max_iI, min_iI, rem_iI, div_iI, ite_true, ite_false, if_true, if_false, ite_self, and_self, and_true, true_and, and_false, false_and, or_self, or_true, true_or, or_false, false_or, not_true_eq_false, not_false_eq_true]
    refine ⟨o, q, ux, uy, rfl, ?_⟩
    rcases h with ⟨h1, h2⟩ | ⟨h1, h2⟩
    · exact Or.inr ⟨h1, fun _ o' q' h3 => by have := h2 o' q' h3; have := h3.2.1; omega⟩
    · by_cases hw : 0 < c 2 s
      · exact Or.inl ⟨hw, h1, h2⟩
      · exfalso
        have e := h1.2.2.2.2.2.2
        have e1 := h1.2.2.2.2.1
        have e2 := hb o h1.1 (by have := h1.2.1; omega)
        rcases e2 with e2 | ⟨-, e2, -⟩
        · omega
        · have := e.1
          split at this <;> omega
  · rintro n x ⟨⟨o, q⟩, ux, uy⟩ hx ⟨hx0, h⟩ ih
    dsimp only at h ih ⊢
    by_cases hw : c 2 s ≤ 0
    · unfold f_X11_seeks_L16
      simp (disch := omega) only [↓bd_e, ↓jn_e, ↓opt_bind, ↓reduceIte, iLeT, iLeF, iLtT, iLtF, iEqT, iEqF, il_0, il_1, il_2, il_3, il_4, il_5, il_6, il_7, il_8, il_9, il_10, il_11, il_12, il_13, il_14, il_15, il_16, il_18, il_20, il_24, il_32, il_35, il_40, il_44, il_47, il_48, il_56, il_57, il_58, il_59, il_63, il_64, il_72, il_100, il_120, il_126, il_127, il_160, il_192, il_255, il_349, il_1748, il_6992, iI_add, iI_sub, iI_mul, iI_neg, iI_le, iI_lt, iI_eq, rd_lA, wr_lA, rd_lR, wr_lR, ite_iI, max_iI, min_iI, rem_iI, div_iI, ite_true, ite_false, if_true, if_false, ite_self, and_self, and_true, true_and, and_false, false_and, or_self, or_true, true_or, or_false, false_or, not_true_eq_false, not_false_eq_true]
      rcases h with ⟨h1, h2⟩ | ⟨h1, h2⟩
      · exact ⟨o, q, ux, uy, rfl, Or.inr ⟨h1, fun h => by omega⟩⟩
      · exfalso
        have e := h1.2.2.2.2.2.2
        have e1 := h1.2.2.2.2.1
        have e2 := hb o h1.1 (by have := h1.2.1; omega)
        rcases e2 with e2 | ⟨-, e2, -⟩
        · omega
        · have := e.1
          split at this <;> omega
    · have hss : vSh V c s := (hb s hs.1 (by omega)).resolve_left (by omega)
      unfold f_X11_seeks_L16
      rcases h with ⟨rfl, h2⟩ | ⟨h1, h2⟩
      · simp (disch := omega) only [↓bd_e, ↓jn_e, ↓opt_bind, ↓reduceIte, iLeT, iLeF, iLtT, iLtF, iEqT, iEqF, il_0, il_1, il_2, il_3, il_4, il_5, il_6, il_7, il_8, il_9, il_10, il_11, il_12, il_13, il_14, il_15, il_16, il_18, il_20, il_24, il_32, il_35, il_40, il_44, il_47, il_48, il_56, il_57, il_58, il_59, il_63, il_64, il_72, il_100, il_120, il_126, il_127, il_160, il_192, il_255, il_349, il_1748, il_6992, iI_add, iI_sub, iI_mul, iI_neg, iI_le, iI_lt, iI_eq, rd_lA, wr_lA, rd_lR, wr_lR, ite_iI, max_iI, min_iI, rem_iI, div_iI, ite_true, ite_false, if_true, if_false, ite_self, and_self, and_true, true_and, and_false, false_and, or_self, or_true, true_or, or_false, false_or, not_true_eq_false, not_false_eq_true, uI_self, hfu]
        refine lp (fun n y (u : (Int × Int) × Int32 × Int32) => f_X11_seeks_L41 (lA V) (lA (c 0)) (lA (c 1)) (lA (c 2)) (lA (c 3)) (iI s) (iI x) _ n (iI y) u.2.1 u.2.2 (lA (uI (c 4) s u.1.1)) (lA (uI (c 5) s u.1.2)))
          (fun r => ∃ o q bx1 by1, r = some (bx1, by1, lA (uI (c 4) s o), lA (uI (c 5) s q)) ∧ soR V c s o q) (vLim V)
          (fun y u => 0 ≤ y ∧ soI V c s (fun o q => x < o ∨ (o = x ∧ y ≤ q)) u.1.1 u.1.2) ?_ ?_ fu 0 ((-1, q), ux, uy) (by omega) (by omega) ⟨by omega, Or.inl ⟨rfl, fun o q h => by have := h2 o q h; have := h.2.2.1; omega⟩⟩
        · rintro n ⟨⟨o, q⟩, ux, uy⟩ ⟨-, h⟩
          dsimp only at h ⊢
          unfold f_X11_seeks_L41
          simp (disch := omega) only [↓bd_e, ↓jn_e, ↓opt_bind, ↓reduceIte, iLeT, iLeF, iLtT, iLtF, iEqT, iEqF, il_0, il_1, il_2, il_3, il_4, il_5, il_6, il_7, il_8, il_9, il_10, il_11, il_12, il_13, il_14, il_15, il_16, il_18, il_20, il_24, il_32, il_35, il_40, il_44, il_47, il_48, il_56, il_57, il_58, il_59, il_63, il_64, il_72, il_100, il_120, il_126, il_127, il_160, il_192, il_255, il_349, il_1748, il_6992, iI_add, iI_sub, iI_mul, iI_neg, iI_le, iI_lt, iI_eq, rd_lA, wr_lA, rd_lR, wr_lR, ite_iI, max_iI, min_iI, rem_iI, div_iI, ite_true, ite_false, if_true, if_false, ite_self, and_self, and_true, true_and, and_false, false_and, or_self, or_true, true_or, or_false, false_or, not_true_eq_false, not_false_eq_true, hor]
          refine ih ((o, q), ux, uy) ⟨by omega, ?_⟩
          rcases h with ⟨h1, h3⟩ | ⟨h1, h3⟩
          · exact Or.inl ⟨h1, fun o q h => by have := h3 o q h; have := h.2.2.2.1; omega⟩
          · exact Or.inr ⟨h1, h3⟩
        · rintro n y ⟨⟨o, q⟩, ux, uy⟩ hy ⟨hy0, h⟩ ih2
          dsimp only at h ih2 ⊢
          unfold f_X11_seeks_L41
          rcases h with ⟨rfl, h3⟩ | ⟨h1, h3⟩
          · have hcx : uI (c 4) s (-1) x = c 4 x := uI_ne (by omega)
            have hox := ho x hx0 hx
            have hwx : 0 ≤ c 2 x ∧ c 2 x ≤ 8 := by
              rcases hb x hx0 (by omega) with h | ⟨-, h, h'⟩ <;> omega
            have hnot : ¬ vCp V c s x y → ∀ o q, vCp V c s o q → x < o ∨ (o = x ∧ y + 1 ≤ q) := by
              intro hn o q h
              have := h3 o q h
              by_cases e : o = x ∧ q = y
              · obtain ⟨rfl, rfl⟩ := e
                exact absurd h hn
              · omega
            by_cases hw0 : c 2 x ≤ 0
            · simp (disch := omega) only [↓bd_e, ↓jn_e, ↓opt_bind, ↓reduceIte, iLeT, iLeF, iLtT, iLtF, iEqT, iEqF, il_0, il_1, il_2, il_3, il_4, il_5, il_6, il_7, il_8, il_9, il_10, il_11, il_12, il_13, il_14, il_15, il_16, il_18, il_20, il_24, il_32, il_35, il_40, il_44, il_47, il_48, il_56, il_57, il_58, il_59, il_63, il_64, il_72, il_100, il_120, il_126, il_127, il_160, il_192, il_255, il_349, il_1748, il_6992, iI_add, iI_sub, iI_mul, iI_neg, iI_le, iI_lt, iI_eq, rd_lA, wr_lA, rd_lR, wr_lR, ite_iI, max_iI, min_iI, rem_iI, div_iI, ite_true, ite_false, if_true, if_false, ite_self, and_self, and_true, true_and, and_false, false_and, or_self, or_true, true_or, or_false, false_or, not_true_eq_false, not_false_eq_true, uI_self, hor]
              exact ih2 ((-1, q), ux, uy) ⟨by omega, Or.inl ⟨rfl, hnot (fun h => by have := h.2.2.2.2.1; omega)⟩⟩
            · by_cases hox0 : 0 ≤ c 4 x
              · simp (disch := omega) only [↓bd_e, ↓jn_e, ↓opt_bind, ↓reduceIte, iLeT, iLeF, iLtT, iLtF, iEqT, iEqF, il_0, il_1, il_2, il_3, il_4, il_5, il_6, il_7, il_8, il_9, il_10, il_11, il_12, il_13, il_14, il_15, il_16, il_18, il_20, il_24, il_32, il_35, il_40, il_44, il_47, il_48, il_56, il_57, il_58, il_59, il_63, il_64, il_72, il_100, il_120, il_126, il_127, il_160, il_192, il_255, il_349, il_1748, il_6992, iI_add, iI_sub, iI_mul, iI_neg, iI_le, iI_lt, iI_eq, rd_lA, wr_lA, rd_lR, wr_lR, ite_iI, max_iI, min_iI, rem_iI, div_iI, ite_true, ite_false, if_true, if_false, ite_self, and_self, and_true, true_and, and_false, false_and, or_self, or_true, true_or, or_false, false_or, not_true_eq_false, not_false_eq_true, uI_self, hor, hcx]
                exact ih2 ((-1, q), ux, uy) ⟨by omega, Or.inl ⟨rfl, hnot (fun h => by have := h.2.2.2.2.2.1; omega)⟩⟩
              · have hsx : vSh V c x := (hb x hx0 (by omega)).resolve_left (by omega)
                obtain ⟨r, bx1, by1, e1, e2⟩ := m_isLike (t := 0) (q := y) hss hsx (hp s hs.1 (by omega)) (hp x hx0 (by omega)) (Or.inl rfl) (by omega) ux uy
                rcases e2 with ⟨rfl, e2⟩ | ⟨rfl, e2⟩
                · simp (disch := omega) only [↓bd_e, ↓jn_e, ↓opt_bind, ↓reduceIte, iLeT, iLeF, iLtT, iLtF, iEqT, iEqF, il_0, il_1, il_2, il_3, il_4, il_5, il_6, il_7, il_8, il_9, il_10, il_11, il_12, il_13, il_14, il_15, il_16, il_18, il_20, il_24, il_32, il_35, il_40, il_44, il_47, il_48, il_56, il_57, il_58, il_59, il_63, il_64, il_72, il_100, il_120, il_126, il_127, il_160, il_192, il_255, il_349, il_1748, il_6992, iI_add, iI_sub, iI_mul, iI_neg, iI_le, iI_lt, iI_eq, rd_lA, wr_lA, rd_lR, wr_lR, ite_iI, max_iI, min_iI, rem_iI, div_iI, ite_true, ite_false, if_true, if_false, ite_self, and_self, and_true, true_and, and_false, false_and, or_self, or_true, true_or, or_false, false_or, not_true_eq_false, not_false_eq_true, uI_self, hor, hcx, e1, uI_twice]
                  have hcp : vCp V c s x y := ⟨hx0, hx, hy0, hy, by omega, by omega, vLk_0.mp e2⟩
                  exact ih2 ((x, y), bx1, by1) ⟨by omega, Or.inr ⟨hcp, fun o q h => by have := h3 o q h; dsimp only; omega⟩⟩
                · simp (disch := omega) only [↓bd_e, ↓jn_e, ↓opt_bind, ↓reduceIte, iLeT, iLeF, iLtT, iLtF, iEqT, iEqF, il_0, il_1, il_2, il_3, il_4, il_5, il_6, il_7, il_8, il_9, il_10, il_11, il_12, il_13, il_14, il_15, il_16, il_18, il_20, il_24, il_32, il_35, il_40, il_44, il_47, il_48, il_56, il_57, il_58, il_59, il_63, il_64, il_72, il_100, il_120, il_126, il_127, il_160, il_192, il_255, il_349, il_1748, il_6992, iI_add, iI_sub, iI_mul, iI_neg, iI_le, iI_lt, iI_eq, rd_lA, wr_lA, rd_lR, wr_lR, ite_iI, max_iI, min_iI, rem_iI, div_iI, ite_true, ite_false, if_true, if_false, ite_self, and_self, and_true, true_and, and_false, false_and, or_self, or_true, true_or, or_false, false_or, not_true_eq_false, not_false_eq_true, uI_self, hor, hcx, e1]
                  exact ih2 ((-1, q), bx1, by1) ⟨by omega, Or.inl ⟨rfl, hnot (fun h => e2 (vLk_0.mpr h.2.2.2.2.2.2))⟩⟩
          · have ho0 := h1.1
            have ho1 := h1.2.1
            simp (disch := omega) only [↓bd_e, ↓jn_e, ↓opt_bind, ↓reduceIte, iLeT, iLeF, iLtT, iLtF, iEqT, iEqF, il_0, il_1, il_2, il_3, il_4, il_5, il_6, il_7, il_8, il_9, il_10, il_11, il_12, il_13, il_14, il_15, il_16, il_18, il_20, il_24, il_32, il_35, il_40, il_44, il_47, il_48, il_56, il_57, il_58, il_59, il_63, il_64, il_72, il_100, il_120, il_126, il_127, il_160, il_192, il_255, il_349, il_1748, il_6992, iI_add, iI_sub, iI_mul, iI_neg, iI_le, iI_lt, iI_eq, rd_lA, wr_lA, rd_lR, wr_lR, ite_iI, max_iI, min_iI, rem_iI, div_iI, ite_true, ite_false, if_true, if_false, ite_self, and_self, and_true, true_and, and_false, false_and, or_self, or_true, true_or, or_false, false_or, not_true_eq_false, not_false_eq_true, uI_self, hor]
            exact ih ((o, q), ux, uy) ⟨by omega, Or.inr ⟨h1, h3⟩⟩
      · have ho0 := h1.1
        have ho1 := h1.2.1
        simp (disch := omega) only [↓bd_e, ↓jn_e, ↓opt_bind, ↓reduceIte, iLeT, iLeF, iLtT, iLtF, iEqT, iEqF, il_0, il_1, il_2, il_3, il_4, il_5, il_6, il_7, il_8, il_9, il_10, il_11, il_12, il_13, il_14, il_15, il_16, il_18, il_20, il_24, il_32, il_35, il_40, il_44, il_47, il_48, il_56, il_57, il_58, il_59, il_63, il_64, il_72, il_100, il_120, il_126, il_127, il_160, il_192, il_255, il_349, il_1748, il_6992, iI_add, iI_sub, iI_mul, iI_neg, iI_le, iI_lt, iI_eq, rd_lA, wr_lA, rd_lR, wr_lR, ite_iI, max_iI, min_iI, rem_iI, div_iI, ite_true, ite_false, if_true, if_false, ite_self, and_self, and_true, true_and, and_false, false_and, or_self, or_true, true_or, or_false, false_or, not_true_eq_false, not_false_eq_true, uI_self]
        exact ⟨o, q, ux, uy, rfl, Or.inl ⟨by omega, h1, h2⟩⟩
/-- how the class's tables d stand to c, for the sprites below n -/
def vDe (c d : Nat → Int → Int) (j : Int) : Prop := d 2 j = c 2 j ∧ d 3 j = c 3 j ∧ (0 < c 2 j → d 0 j = c 0 j ∧ d 1 j = c 1 j)
def or4 (x y : Int) : Int := if x = -1 then -4 else y
theorem vSh_De {V : Int → Int} {c d : Nat → Int → Int} {j : Int} (h : vDe c d j) (hs : vSh V c j) : vSh V d j := by
  obtain ⟨h1, ⟨h2, h3, h4, h5, h6, h7⟩, h8⟩ := hs
  obtain ⟨e1, e2, e3⟩ := h
  obtain ⟨e4, e5⟩ := e3 h2
  refine ⟨h1, ?_, h8⟩
  rw [e1, e2, e4, e5]
  exact ⟨h2, h3, h4, h5, h6, h7⟩
theorem vLike_De {V : Int → Int} {c d : Nat → Int → Int} {s o q : Int} (hs : vDe c d s) (ho : vDe c d o) (h1 : 0 < c 2 s) (h2 : 0 < c 2 o) : vLike V d s o q ↔ vLike V c s o q := by
  obtain ⟨s1, s2, s3⟩ := hs
  obtain ⟨o1, o2, o3⟩ := ho
  obtain ⟨s3, s4⟩ := s3 h1
  obtain ⟨o3, o4⟩ := o3 h2
  unfold vLike
  rw [s1, s2, s3, s4, o1, o2, o3, o4]
theorem c_isOriginal {c d : Nat → Int → Int} {j : Int} (hj : 0 ≤ j ∧ j < 24) (hw : 0 ≤ c 2 j ∧ c 2 j ≤ 8) (h2 : d 2 j = c 2 j) (h4 : d 4 j = or4 (c 4 j) (c 4 j)) (h5 : -1 ≤ c 4 j ∧ c 4 j < 24) : f_X0_isOriginal (lA (d 2)) (lA (d 4)) (iI j) = some (iI (if 0 < c 2 j ∧ c 4 j = -1 then 1 else 0)) := by
  unfold f_X0_isOriginal f_X0_isBlank
  unfold or4 at h4
  by_cases h1 : c 2 j = 0
  · simp (disch := omega) only [↓bd_e, ↓jn_e, ↓opt_bind, ↓reduceIte, iLeT, iLeF, iLtT, iLtF, iEqT, iEqF, il_0, il_1, il_2, il_3, il_4, il_5, il_6, il_7, il_8, il_9, il_10, il_11, il_12, il_13, il_14, il_15, il_16, il_18, il_20, il_24, il_32, il_35, il_40, il_44, il_47, il_48, il_56, il_57, il_58, il_59, il_63, il_64, il_72, il_100, il_120, il_126, il_127, il_160, il_192, il_255, il_349, il_1748, il_6992, iI_add, iI_sub, iI_mul, iI_neg, iI_le, iI_lt, iI_eq, rd_lA, wr_lA, rd_lR, wr_lR, ite_iI, max_iI, min_iI, rem_iI, div_iI, ite_true, ite_false, if_true, if_false, ite_self, and_self, and_true, true_and, and_false, false_and, or_self, or_true, true_or, or_false, false_or, not_true_eq_false, not_false_eq_true, h2]
  · by_cases h6 : c 4 j = -1
    · rw [if_pos h6] at h4
      simp (disch := omega) only [↓bd_e, ↓jn_e, ↓opt_bind, ↓reduceIte, iLeT, iLeF, iLtT, iLtF, iEqT, iEqF, il_0, il_1, il_2, il_3, il_4, il_5, il_6, il_7, il_8, il_9, il_10, il_11, il_12, il_13, il_14, il_15, il_16, il_18, il_20, il_24, il_32, il_35, il_40, il_44, il_47, il_48, il_56, il_57, il_58, il_59, il_63, il_64, il_72, il_100, il_120, il_126, il_127, il_160, il_192, il_255, il_349, il_1748, il_6992, iI_add, iI_sub, iI_mul, iI_neg, iI_le, iI_lt, iI_eq, rd_lA, wr_lA, rd_lR, wr_lR, ite_iI, max_iI, min_iI, rem_iI, div_iI, ite_true, ite_false, if_true, if_false, ite_self, and_self, and_true, true_and, and_false, false_and, or_self, or_true, true_or, or_false, false_or, not_true_eq_false, not_false_eq_true, h2, h4]
    · rw [if_neg h6] at h4
      simp (disch := omega) only [↓bd_e, ↓jn_e, ↓opt_bind, ↓reduceIte, iLeT, iLeF, iLtT, iLtF, iEqT, iEqF, il_0, il_1, il_2, il_3, il_4, il_5, il_6, il_7, il_8, il_9, il_10, il_11, il_12, il_13, il_14, il_15, il_16, il_18, il_20, il_24, il_32, il_35, il_40, il_44, il_47, il_48, il_56, il_57, il_58, il_59, il_63, il_64, il_72, il_100, il_120, il_126, il_127, il_160, il_192, il_255, il_349, il_1748, il_6992, iI_add, iI_sub, iI_mul, iI_neg, iI_le, iI_lt, iI_eq, rd_lA, wr_lA, rd_lR, wr_lR, ite_iI, max_iI, min_iI, rem_iI, div_iI, ite_true, ite_false, if_true, if_false, ite_self, and_self, and_true, true_and, and_false, false_and, or_self, or_true, true_or, or_false, false_or, not_true_eq_false, not_false_eq_true, h2, h4]
theorem c_isBlank {d : Nat → Int → Int} {j : Int} (hj : 0 ≤ j ∧ j < 24) (hw : 0 ≤ d 2 j ∧ d 2 j ≤ 8) : f_X0_isBlank (lA (d 2)) (iI j) = some (iI (if d 2 j = 0 then 1 else 0)) := by
  unfold f_X0_isBlank
  by_cases h1 : d 2 j = 0
  · simp (disch := omega) only [↓bd_e, ↓jn_e, ↓opt_bind, ↓reduceIte, iLeT, iLeF, iLtT, iLtF, iEqT, iEqF, il_0, il_1, il_2, il_3, il_4, il_5, il_6, il_7, il_8, il_9, il_10, il_11, il_12, il_13, il_14, il_15, il_16, il_18, il_20, il_24, il_32, il_35, il_40, il_44, il_47, il_48, il_56, il_57, il_58, il_59, il_63, il_64, il_72, il_100, il_120, il_126, il_127, il_160, il_192, il_255, il_349, il_1748, il_6992, iI_add, iI_sub, iI_mul, iI_neg, iI_le, iI_lt, iI_eq, rd_lA, wr_lA, rd_lR, wr_lR, ite_iI, max_iI, min_iI, rem_iI, div_iI, ite_true, ite_false, if_true, if_false, ite_self, and_self, and_true, true_and, and_false, false_and, or_self, or_true, true_or, or_false, false_or, not_true_eq_false, not_false_eq_true, h1]
  · simp (disch := omega) only [↓bd_e, ↓jn_e, ↓opt_bind, ↓reduceIte, iLeT, iLeF, iLtT, iLtF, iEqT, iEqF, il_0, il_1, il_2, il_3, il_4, il_5, il_6, il_7, il_8, il_9, il_10, il_11, il_12, il_13, il_14, il_15, il_16, il_18, il_20, il_24, il_32, il_35, il_40, il_44, il_47, il_48, il_56, il_57, il_58, il_59, il_63, il_64, il_72, il_100, il_120, il_126, il_127, il_160, il_192, il_255, il_349, il_1748, il_6992, iI_add, iI_sub, iI_mul, iI_neg, iI_le, iI_lt, iI_eq, rd_lA, wr_lA, rd_lR, wr_lR, ite_iI, max_iI, min_iI, rem_iI, div_iI, ite_true, ite_false, if_true, if_false, ite_self, and_self, and_true, true_and, and_false, false_and, or_self, or_true, true_or, or_false, false_or, not_true_eq_false, not_false_eq_true]
theorem c_findOriginal {V : Int → Int} {R : Int → Int32} {c d : Nat → Int → Int} {s : Int} (hs : 0 ≤ s ∧ s < 24) (h8 : 0 ≤ V 8 ∧ V 8 ≤ 3) (hb : ∀ j, 0 ≤ j → j ≤ s → vBl V c j) (ho : ∀ j, 0 ≤ j → j < s → -1 ≤ c 4 j ∧ c 4 j < 24) (hp : ∀ j, 0 ≤ j → j ≤ s → vPx V j) (hr : ∀ j, 0 ≤ j → j ≤ s → vRow V R j) (hd : ∀ j, 0 ≤ j → j ≤ s → vDe c d j) (hd4 : ∀ j, 0 ≤ j → j < s → d 4 j = or4 (c 4 j) (c 4 j)) :
    ∃ o q, f_X0_findOriginal (lA (d 0)) (lA (d 1)) (lA (d 2)) (lA (d 3)) (lA (d 4)) (lA (d 5)) (lR R) (iI s) (iI (vLim V)) = some (lA (uI (d 4) s (or4 o o)), lA (uI (d 5) s (or4 o q))) ∧ soR V c s o q := by
  have hl := vLim_r h8
  obtain ⟨e1, e2, e3⟩ := hd s hs.1 (by omega)
  have hws : 0 ≤ c 2 s ∧ c 2 s ≤ 8 := by
    rcases hb s hs.1 (by omega) with h | ⟨-, h, h'⟩ <;> omega
  have hbs := c_isBlank (d := d) hs (by omega)
  unfold f_X0_findOriginal
  obtain ⟨fu, hfu, hfu2⟩ := fuel_ex; rw [hfu]
  by_cases hw : c 2 s ≤ 0
  · simp (disch := omega) only [↓bd_e, ↓jn_e, ↓opt_bind, ↓reduceIte, iLeT, iLeF, iLtT, iLtF, iEqT, iEqF, il_0, il_1, il_2, il_3, il_4, il_5, il_6, il_7, il_8, il_9, il_10, il_11, il_12, il_13, il_14, il_15, il_16, il_18, il_20, il_24, il_32, il_35, il_40, il_44, il_47, il_48, il_56, il_57, il_58, il_59, il_63, il_64, il_72, il_100, il_120, il_126, il_127, il_160, il_192, il_255, il_349, il_1748, il_6992, iI_add, iI_sub, iI_mul, iI_neg, iI_le, iI_lt, iI_eq, rd_lA, wr_lA, rd_lR, wr_lR, ite_iI, max_iI, min_iI, rem_iI, div_iI, ite_true, ite_false, if_true, if_false, ite_self, and_self, and_true, true_and, and_false, false_and, or_self, or_true, true_or, or_false, false_or, not_true_eq_false, not_false_eq_true, hbs]
    exact ⟨-1, 0, rfl, Or.inr ⟨rfl, fun h => by omega⟩⟩
  · have hss : vSh V c s := (hb s hs.1 (by omega)).resolve_left (by omega)
    simp (disch := omega) only [↓bd_e, ↓jn_e, ↓opt_bind, ↓reduceIte, iLeT, iLeF, iLtT, iLtF, iEqT, iEqF, il_0, il_1, il_2, il_3, il_4, il_5, il_6, il_7, il_8, il_9, il_10, il_11, il_12, il_13, il_14, il_15, il_16, il_18, il_20, il_24, il_32, il_35, il_40, il_44, il_47, il_48, il_56, il_57, il_58, il_59, il_63, il_64, il_72, il_100, il_120, il_126, il_127, il_160, il_192, il_255, il_349, il_1748, il_6992, iI_add, iI_sub, iI_mul, iI_neg, iI_le, iI_lt, iI_eq, rd_lA, wr_lA, rd_lR, wr_lR, ite_iI, max_iI, min_iI, rem_iI, div_iI, ite_true, ite_false, if_true, if_false, ite_self, and_self, and_true, true_and, and_false, false_and, or_self, or_true, true_or, or_false, false_or, not_true_eq_false, not_false_eq_true, hbs]
    refine lp (fun n x (u : Unit) => f_X0_findOriginal_L28 (lA (d 0)) (lA (d 1)) (lA (d 2)) (lA (d 3)) (lR R) (iI s) (iI (vLim V)) (lA (uI (d 4) s (-4))) (lA (uI (d 5) s (-4))) _ n (iI x))
      (fun r => ∃ o q, r = some (lA (uI (d 4) s (or4 o o)), lA (uI (d 5) s (or4 o q))) ∧ soR V c s o q) s
      (fun x u => 0 ≤ x ∧ ∀ o q, vCp V c s o q → x ≤ o) ?_ ?_ fu 0 () (by omega) (by omega) ⟨by omega, fun o q h => h.1⟩
    · rintro n u ⟨-, h⟩
      unfold f_X0_findOriginal_L28
      simp (disch := omega) only [↓bd_e, ↓jn_e, ↓opt_bind, ↓reduceIte, iLeT, iLeF, iLtT, iLtF, iEqT, iEqF, il_0, il_1, il_2, il_3, il_4, il_5, il_6, il_7, il_8, il_9, il_10, il_11, il_12, il_13, il_14, il_15, il_16, il_18, il_20, il_24, il_32, il_35, il_40, il_44, il_47, il_48, il_56, il_57, il_58, il_59, il_63, il_64, il_72, il_100, il_120, il_126, il_127, il_160, il_192, il_255, il_349, il_1748, il_6992, iI_add, iI_sub, iI_mul, iI_neg, iI_le, iI_lt, iI_eq, rd_lA, wr_lA, rd_lR, wr_lR, ite_iI, max_iI, min_iI, rem_iI, div_iI, ite_true, ite_false, if_true, if_false, ite_self, and_self, and_true, true_and, and_false, false_and, or_self, or_true, true_or, or_false, false_or, not_true_eq_false, not_false_eq_true]
      exact ⟨-1, 0, rfl, Or.inr ⟨rfl, fun _ o q h1 => by have := h o q h1; have := h1.2.1; omega⟩⟩
    · rintro n x u hx ⟨hx0, h⟩ ih
      unfold f_X0_findOriginal_L28
      simp (disch := omega) only [↓bd_e, ↓jn_e, ↓opt_bind, ↓reduceIte, iLeT, iLeF, iLtT, iLtF, iEqT, iEqF, il_0, il_1, il_2, il_3, il_4, il_5, il_6, il_7, il_8, il_9, il_10, il_11, il_12, il_13, il_14, il_15, il_16, il_18, il_20, il_24, il_32, il_35, il_40, il_44, il_47, il_48, il_56, il_57, il_58, il_59, il_63, il_64, il_72, il_100, il_120, il_126, il_127, il_160, il_192, il_255, il_349, il_1748, il_6992, iI_add, iI_sub, iI_mul, iI_neg, iI_le, iI_lt, iI_eq, rd_lA, wr_lA, rd_lR, wr_lR, ite_iI, max_iI, min_iI, rem_iI, div_iI, ite_true, ite_false, if_true, if_false, ite_self, and_self, and_true, true_and, and_false, false_and, or_self, or_true, true_or, or_false, false_or, not_true_eq_false, not_false_eq_true, hfu]
      refine lp (fun n y (u : Unit) => f_X0_findOriginal_L37 (lA (d 0)) (lA (d 1)) (lA (d 2)) (lA (d 3)) (lR R) (iI s) (iI (vLim V)) (lA (uI (d 4) s (-4))) (iI x) _ _ n (iI y))
        (fun r => ∃ o q, r = some (lA (uI (d 4) s (or4 o o)), lA (uI (d 5) s (or4 o q))) ∧ soR V c s o q) (vLim V)
        (fun y u => 0 ≤ y ∧ ∀ o q, vCp V c s o q → x < o ∨ (o = x ∧ y ≤ q)) ?_ ?_ fu 0 () (by omega) (by omega) ⟨by omega, fun o q h1 => by have := h o q h1; have := h1.2.2.1; omega⟩
      · rintro n u ⟨-, h⟩
        unfold f_X0_findOriginal_L37
        simp (disch := omega) only [↓bd_e, ↓jn_e, ↓opt_bind, ↓reduceIte, iLeT, iLeF, iLtT, iLtF, iEqT, iEqF, il_0, il_1, il_2, il_3, il_4, il_5, il_6, il_7, il_8, il_9, il_10, il_11, il_12, il_13, il_14, il_15, il_16, il_18, il_20, il_24, il_32, il_35, il_40, il_44, il_47, il_48, il_56, il_57, il_58, il_59, il_63, il_64, il_72, il_100, il_120, il_126, il_127, il_160, il_192, il_255, il_349, il_1748, il_6992, iI_add, iI_sub, iI_mul, iI_neg, iI_le, iI_lt, iI_eq, rd_lA, wr_lA, rd_lR, wr_lR, ite_iI, max_iI, min_iI, rem_iI, div_iI, ite_true, ite_false, if_true, if_false, ite_self, and_self, and_true, true_and, and_false, false_and, or_self, or_true, true_or, or_false, false_or, not_true_eq_false, not_false_eq_true]
        exact ih () ⟨by omega, fun o q h1 => by have := h o q h1; have := h1.2.2.2.1; omega⟩
      · rintro n y u hy ⟨hy0, h⟩ ih2
        have hdx := hd x hx0 (by omega)
        have hwx : 0 ≤ c 2 x ∧ c 2 x ≤ 8 := by
          rcases hb x hx0 (by omega) with h | ⟨-, h, h'⟩ <;> omega
        have ei := c_isOriginal (c := c) (d := fun k => if k = 4 then uI (d 4) s (-4) else d k) (j := x) (by omega) hwx hdx.1 (by rw [if_pos rfl, uI_ne (by omega)]; exact hd4 x hx0 hx) (ho x hx0 hx)
        simp only [if_true, if_neg (show ¬ (2 : Nat) = 4 by decide)] at ei
        unfold f_X0_findOriginal_L37
        by_cases hx1 : 0 < c 2 x ∧ c 4 x = -1
        · have hsx : vSh V c x := (hb x hx0 (by omega)).resolve_left (by omega)
          rw [if_pos hx1] at ei
          obtain ⟨r, em, hm⟩ := c_matches (q := y) (vSh_De (hd s hs.1 (by omega)) hss) (vSh_De hdx hsx) (hr s hs.1 (by omega)) (hr x hx0 (by omega)) (hp s hs.1 (by omega)) (hp x hx0 (by omega)) (by omega)
          have hm2 := isF_iff hm (vLike_De (hd s hs.1 (by omega)) hdx (by omega) hx1.1)
          clear hm
          rcases hm2 with ⟨rfl, hm⟩ | ⟨rfl, hm⟩
          · simp (disch := omega) only [↓bd_e, ↓jn_e, ↓opt_bind, ↓reduceIte, iLeT, iLeF, iLtT, iLtF, iEqT, iEqF, il_0, il_1, il_2, il_3, il_4, il_5, il_6, il_7, il_8, il_9, il_10, il_11, il_12, il_13, il_14, il_15, il_16, il_18, il_20, il_24, il_32, il_35, il_40, il_44, il_47, il_48, il_56, il_57, il_58, il_59, il_63, il_64, il_72, il_100, il_120, il_126, il_127, il_160, il_192, il_255, il_349, il_1748, il_6992, iI_add, iI_sub, iI_mul, iI_neg, iI_le, iI_lt, iI_eq, rd_lA, wr_lA, rd_lR, wr_lR, ite_iI, max_iI, min_iI, rem_iI, div_iI, ite_true, ite_false, if_true, if_false, ite_self, and_self, and_true, true_and, and_false, false_and, or_self, or_true, true_or, or_false, false_or, not_true_eq_false, not_false_eq_true, ei, em, uI_twice]
            have hcp : vCp V c s x y := ⟨hx0, hx, hy0, hy, hx1.1, hx1.2, hm⟩
            refine ⟨x, y, ?_, Or.inl ⟨by omega, hcp, fun o q h1 => by have := h o q h1; omega⟩⟩
            unfold or4
            rw [if_neg (by omega), if_neg (by omega)]
          · simp (disch := omega) only [↓bd_e, ↓jn_e, ↓opt_bind, ↓reduceIte, iLeT, iLeF, iLtT, iLtF, iEqT, iEqF, il_0, il_1, il_2, il_3, il_4, il_5, il_6, il_7, il_8, il_9, il_10, il_11, il_12, il_13, il_14, il_15, il_16, il_18, il_20, il_24, il_32, il_35, il_40, il_44, il_47, il_48, il_56, il_57, il_58, il_59, il_63, il_64, il_72, il_100, il_120, il_126, il_127, il_160, il_192, il_255, il_349, il_1748, il_6992, iI_add, iI_sub, iI_mul, iI_neg, iI_le, iI_lt, iI_eq, rd_lA, wr_lA, rd_lR, wr_lR, ite_iI, max_iI, min_iI, rem_iI, div_iI, ite_true, ite_false, if_true, if_false, ite_self, and_self, and_true, true_and, and_false, false_and, or_self, or_true, true_or, or_false, false_or, not_true_eq_false, not_false_eq_true, ei, em]
            refine ih2 () ⟨by omega, fun o q h1 => ?_⟩
            have := h o q h1
            by_cases e : o = x ∧ q = y
            · obtain ⟨rfl, rfl⟩ := e
              exact absurd h1.2.2.2.2.2.2 hm
            · omega
        · rw [if_neg hx1] at ei
          simp (disch := omega) only [↓bd_e, ↓jn_e, ↓opt_bind, ↓reduceIte, iLeT, iLeF, iLtT, iLtF, iEqT, iEqF, il_0, il_1, il_2, il_3, il_4, il_5, il_6, il_7, il_8, il_9, il_10, il_11, il_12, il_13, il_14, il_15, il_16, il_18, il_20, il_24, il_32, il_35, il_40, il_44, il_47, il_48, il_56, il_57, il_58, il_59, il_63, il_64, il_72, il_100, il_120, il_126, il_127, il_160, il_192, il_255, il_349, il_1748, il_6992, iI_add, iI_sub, iI_mul, iI_neg, iI_le, iI_lt, iI_eq, rd_lA, wr_lA, rd_lR, wr_lR, ite_iI, max_iI, min_iI, rem_iI, div_iI, ite_true, ite_false, if_true, if_false, ite_self, and_self, and_true, true_and, and_false, false_and, or_self, or_true, true_or, or_false, false_or, not_true_eq_false, not_false_eq_true, ei]
          refine ih () ⟨by omega, fun o q h1 => ?_⟩
          have := h o q h1
          by_cases e : o = x
          · subst e
            exact absurd ⟨h1.2.2.2.2.1, h1.2.2.2.2.2.1⟩ hx1
          · omega
