theorem m_keeps (V : Int → Int) (A : Nat → Int32) : ∃ Sp, f_X11_keeps (lA V) A = some (lA Sp) ∧ ∀ k, 0 ≤ k → k < 1748 → Sp k = V k := by
  unfold f_X11_keeps
  obtain ⟨fu, hfu, hfu2⟩ := fuel_ex; rw [hfu]
  rw [lA_of A, il_0]
  refine lp (fun n x (B : Int → Int) => f_X11_keeps_L2 (lA V) n (iI x) (lA B)) (fun r => ∃ Sp, r = some (lA Sp) ∧ ∀ k, 0 ≤ k → k < 1748 → Sp k = V k) 1748 (fun x B => 0 ≤ x ∧ ∀ k, 0 ≤ k → k < x → B k = V k) ?_ ?_ fu 0 _ (by omega) (by omega) ⟨by omega, fun k _ _ => by omega⟩
  · rintro n B ⟨-, h⟩
    refine ⟨B, ?_, h⟩
    simp only [f_X11_keeps_L2]
    simp (disch := omega) only [↓bd_e, ↓jn_e, ↓opt_bind, ↓reduceIte, iLeT, iLeF, iLtT, iLtF, iEqT, iEqF, il_0, il_1, il_2, il_3, il_4, il_5, il_6, il_7, il_8, il_9, il_10, il_11, il_12, il_13, il_14, il_15, il_16, il_18, il_20, il_24, il_32, il_35, il_40, il_44, il_47, il_48, il_56, il_57, il_58, il_59, il_63, il_64, il_72, il_100, il_120, il_126, il_127, il_160, il_192, il_255, il_349, il_1748, il_6992, iI_add, iI_sub, iI_mul, iI_neg, iI_le, iI_lt, iI_eq, rd_lA, wr_lA, rd_lR, wr_lR, ite_iI, max_iI, min_iI, rem_iI, div_iI, ite_true, ite_false, if_true, if_false, ite_self, and_self, and_true, true_and, and_false, false_and, or_self, or_true, true_or, or_false, false_or, not_true_eq_false, not_false_eq_true]
  · rintro n x B hx ⟨x0, h⟩ ih
    have ih := ih (uI B x (V x)) ⟨by omega, fun k k0 k1 => by
      rw [uI_at]
      by_cases e : k = x
      · rw [if_pos e, e]
      · rw [if_neg e]
        exact h k k0 (by omega)⟩
    simp only [f_X11_keeps_L2]
    simp (disch := omega) only [↓bd_e, ↓jn_e, ↓opt_bind, ↓reduceIte, iLeT, iLeF, iLtT, iLtF, iEqT, iEqF, il_0, il_1, il_2, il_3, il_4, il_5, il_6, il_7, il_8, il_9, il_10, il_11, il_12, il_13, il_14, il_15, il_16, il_18, il_20, il_24, il_32, il_35, il_40, il_44, il_47, il_48, il_56, il_57, il_58, il_59, il_63, il_64, il_72, il_100, il_120, il_126, il_127, il_160, il_192, il_255, il_349, il_1748, il_6992, iI_add, iI_sub, iI_mul, iI_neg, iI_le, iI_lt, iI_eq, rd_lA, wr_lA, rd_lR, wr_lR, ite_iI, max_iI, min_iI, rem_iI, div_iI, ite_true, ite_false, if_true, if_false, ite_self, and_self, and_true, true_and, and_false, false_and, or_self, or_true, true_or, or_false, false_or, not_true_eq_false, not_false_eq_true]
    exact ih
theorem m_brings {V W Sp : Int → Int} (hV : vOut V) (hW : vOut W) (h : ∀ k, 0 ≤ k → k < 1748 → Sp k = W k) : f_X11_brings (lA V) (lA Sp) = some (lA W) := by
  unfold f_X11_brings
  obtain ⟨fu, hfu, hfu2⟩ := fuel_ex; rw [hfu]
  rw [il_0]
  refine m_bring (P := Sp) (o := 0) hV hW (fun k k0 k1 => by rw [Int.zero_add]; exact h k k0 k1) (fun A => some A) (fun n x A => f_X11_brings_L2 (lA Sp) n x A) ?_ ?_ fu (by omega)
  · intro n A
    simp only [f_X11_brings_L2]
    simp (disch := omega) only [↓bd_e, ↓jn_e, ↓opt_bind, ↓reduceIte, iLeT, iLeF, iLtT, iLtF, iEqT, iEqF, il_0, il_1, il_2, il_3, il_4, il_5, il_6, il_7, il_8, il_9, il_10, il_11, il_12, il_13, il_14, il_15, il_16, il_18, il_20, il_24, il_32, il_35, il_40, il_44, il_47, il_48, il_56, il_57, il_58, il_59, il_63, il_64, il_72, il_100, il_120, il_126, il_127, il_160, il_192, il_255, il_349, il_1748, il_6992, iI_add, iI_sub, iI_mul, iI_neg, iI_le, iI_lt, iI_eq, rd_lA, wr_lA, rd_lR, wr_lR, ite_iI, max_iI, min_iI, rem_iI, div_iI, ite_true, ite_false, if_true, if_false, ite_self, and_self, and_true, true_and, and_false, false_and, or_self, or_true, true_or, or_false, false_or, not_true_eq_false, not_false_eq_true]
  · intro n x A x0 x1
    simp only [f_X11_brings_L2]
    rw [Int.zero_add]
    simp (disch := omega) only [↓bd_e, ↓jn_e, ↓opt_bind, ↓reduceIte, iLeT, iLeF, iLtT, iLtF, iEqT, iEqF, il_0, il_1, il_2, il_3, il_4, il_5, il_6, il_7, il_8, il_9, il_10, il_11, il_12, il_13, il_14, il_15, il_16, il_18, il_20, il_24, il_32, il_35, il_40, il_44, il_47, il_48, il_56, il_57, il_58, il_59, il_63, il_64, il_72, il_100, il_120, il_126, il_127, il_160, il_192, il_255, il_349, il_1748, il_6992, iI_add, iI_sub, iI_mul, iI_neg, iI_le, iI_lt, iI_eq, rd_lA, wr_lA, rd_lR, wr_lR, ite_iI, max_iI, min_iI, rem_iI, div_iI, ite_true, ite_false, if_true, if_false, ite_self, and_self, and_true, true_and, and_false, false_and, or_self, or_true, true_or, or_false, false_or, not_true_eq_false, not_false_eq_true]
theorem m_copies1 (V : Int → Int) (A : Nat → Int32) {i : Int} (hi : 0 ≤ i ∧ i < 24) : ∃ B, f_X11_copies (lA V) A (iI i) (iI 1) = some (lA V, lA B) ∧ B 0 = V (20 + 72 * i + 3) ∧ B 1 = V (20 + 72 * i + 4) ∧ B 2 = V (20 + 72 * i + 5) ∧ B 3 = V (20 + 72 * i + 6) := by
  refine ⟨uI (uI (uI (uI (fun z => (A z.toNat).toInt) 0 (V (20 + 72 * i + 3))) 1 (V (20 + 72 * i + 4))) 2 (V (20 + 72 * i + 5))) 3 (V (20 + 72 * i + 6)), ?_, rfl, rfl, rfl, rfl⟩
  suffices key : ∀ D : Int → Int, f_X11_copies (lA V) (lA D) (iI i) (iI 1) = some (lA V, lA (uI (uI (uI (uI D 0 (V (20 + 72 * i + 3))) 1 (V (20 + 72 * i + 4))) 2 (V (20 + 72 * i + 5))) 3 (V (20 + 72 * i + 6)))) by
    have e := key (fun z => (A z.toNat).toInt)
    rw [← lA_of A] at e
    exact e
  intro D
  unfold f_X11_copies
  obtain ⟨fu, hfu, hfu2⟩ := fuel_ex
  rw [hfu]
  obtain ⟨n, rfl⟩ : ∃ n, fu = n + 5 := ⟨fu - 5, by omega⟩
  simp (disch := omega) only [↓bd_e, ↓jn_e, ↓opt_bind, ↓reduceIte, iLeT, iLeF, iLtT, iLtF, iEqT, iEqF, il_0, il_1, il_2, il_3, il_4, il_5, il_6, il_7, il_8, il_9, il_10, il_11, il_12, il_13, il_14, il_15, il_16, il_18, il_20, il_24, il_32, il_35, il_40, il_44, il_47, il_48, il_56, il_57, il_58, il_59, il_63, il_64, il_72, il_100, il_120, il_126, il_127, il_160, il_192, il_255, il_349, il_1748, il_6992, iI_add, iI_sub, iI_mul, iI_neg, iI_le, iI_lt, iI_eq, rd_lA, wr_lA, rd_lR, wr_lR, ite_iI, max_iI, min_iI, rem_iI, div_iI, ite_true, ite_false, if_true, if_false, ite_self, and_self, and_true, true_and, and_false, false_and, or_self, or_true, true_or, or_false, false_or, not_true_eq_false, not_false_eq_true, f_X11_copies_L2, f_X11_at, show (3 : Int) + 0 = 3 from rfl, show (3 : Int) + 1 = 4 from rfl, show (3 : Int) + 2 = 5 from rfl, show (3 : Int) + 3 = 6 from rfl, show (0 : Int) + 1 = 1 from rfl, show (1 : Int) + 1 = 2 from rfl, show (2 : Int) + 1 = 3 from rfl]
theorem m_copies0 (V B : Int → Int) {i : Int} (hi : 0 ≤ i ∧ i < 24) : f_X11_copies (lA V) (lA B) (iI i) (iI 0) = some (lA (uI (uI (uI (uI V (20 + 72 * i + 3) (B 0)) (20 + 72 * i + 4) (B 1)) (20 + 72 * i + 5) (B 2)) (20 + 72 * i + 6) (B 3)), lA B) := by
  unfold f_X11_copies
  obtain ⟨fu, hfu, hfu2⟩ := fuel_ex
  rw [hfu]
  obtain ⟨n, rfl⟩ : ∃ n, fu = n + 5 := ⟨fu - 5, by omega⟩
  simp (disch := omega) only [↓bd_e, ↓jn_e, ↓opt_bind, ↓reduceIte, iLeT, iLeF, iLtT, iLtF, iEqT, iEqF, il_0, il_1, il_2, il_3, il_4, il_5, il_6, il_7, il_8, il_9, il_10, il_11, il_12, il_13, il_14, il_15, il_16, il_18, il_20, il_24, il_32, il_35, il_40, il_44, il_47, il_48, il_56, il_57, il_58, il_59, il_63, il_64, il_72, il_100, il_120, il_126, il_127, il_160, il_192, il_255, il_349, il_1748, il_6992, iI_add, iI_sub, iI_mul, iI_neg, iI_le, iI_lt, iI_eq, rd_lA, wr_lA, rd_lR, wr_lR, ite_iI, max_iI, min_iI, rem_iI, div_iI, ite_true, ite_false, if_true, if_false, ite_self, and_self, and_true, true_and, and_false, false_and, or_self, or_true, true_or, or_false, false_or, not_true_eq_false, not_false_eq_true, f_X11_copies_L2, f_X11_at, show (3 : Int) + 0 = 3 from rfl, show (3 : Int) + 1 = 4 from rfl, show (3 : Int) + 2 = 5 from rfl, show (3 : Int) + 3 = 6 from rfl, show (0 : Int) + 1 = 1 from rfl, show (1 : Int) + 1 = 2 from rfl, show (2 : Int) + 1 = 3 from rfl]
theorem m_orig {V : Int → Int} {c : Nat → Int → Int} {i : Int} (hi : 0 ≤ i ∧ i < 24) (hc : (0 ≤ c 2 i ∧ c 2 i ≤ 8) ∧ -1 ≤ c 4 i ∧ c 4 i < 24) : f_X11_isOriginal (lA (c 2)) (lA (c 4)) (iI i) = some (iI (if 0 < c 2 i ∧ c 4 i = -1 then 1 else 0)) := by
  unfold f_X11_isOriginal
  by_cases q1 : 0 < c 2 i
  · by_cases q2 : c 4 i = -1
    · rw [if_pos ⟨q1, q2⟩]
      simp (disch := omega) only [↓bd_e, ↓jn_e, ↓opt_bind, ↓reduceIte, iLeT, iLeF, iLtT, iLtF, iEqT, iEqF, il_0, il_1, il_2, il_3, il_4, il_5, il_6, il_7, il_8, il_9, il_10, il_11, il_12, il_13, il_14, il_15, il_16, il_18, il_20, il_24, il_32, il_35, il_40, il_44, il_47, il_48, il_56, il_57, il_58, il_59, il_63, il_64, il_72, il_100, il_120, il_126, il_127, il_160, il_192, il_255, il_349, il_1748, il_6992, iI_add, iI_sub, iI_mul, iI_neg, iI_le, iI_lt, iI_eq, rd_lA, wr_lA, rd_lR, wr_lR, ite_iI, max_iI, min_iI, rem_iI, div_iI, ite_true, ite_false, if_true, if_false, ite_self, and_self, and_true, true_and, and_false, false_and, or_self, or_true, true_or, or_false, false_or, not_true_eq_false, not_false_eq_true, q2]
    · rw [if_neg (fun z => q2 z.2)]
      simp (disch := omega) only [↓bd_e, ↓jn_e, ↓opt_bind, ↓reduceIte, iLeT, iLeF, iLtT, iLtF, iEqT, iEqF, il_0, il_1, il_2, il_3, il_4, il_5, il_6, il_7, il_8, il_9, il_10, il_11, il_12, il_13, il_14, il_15, il_16, il_18, il_20, il_24, il_32, il_35, il_40, il_44, il_47, il_48, il_56, il_57, il_58, il_59, il_63, il_64, il_72, il_100, il_120, il_126, il_127, il_160, il_192, il_255, il_349, il_1748, il_6992, iI_add, iI_sub, iI_mul, iI_neg, iI_le, iI_lt, iI_eq, rd_lA, wr_lA, rd_lR, wr_lR, ite_iI, max_iI, min_iI, rem_iI, div_iI, ite_true, ite_false, if_true, if_false, ite_self, and_self, and_true, true_and, and_false, false_and, or_self, or_true, true_or, or_false, false_or, not_true_eq_false, not_false_eq_true]
  · rw [if_neg (fun z => q1 z.1)]
    simp (disch := omega) only [↓bd_e, ↓jn_e, ↓opt_bind, ↓reduceIte, iLeT, iLeF, iLtT, iLtF, iEqT, iEqF, il_0, il_1, il_2, il_3, il_4, il_5, il_6, il_7, il_8, il_9, il_10, il_11, il_12, il_13, il_14, il_15, il_16, il_18, il_20, il_24, il_32, il_35, il_40, il_44, il_47, il_48, il_56, il_57, il_58, il_59, il_63, il_64, il_72, il_100, il_120, il_126, il_127, il_160, il_192, il_255, il_349, il_1748, il_6992, iI_add, iI_sub, iI_mul, iI_neg, iI_le, iI_lt, iI_eq, rd_lA, wr_lA, rd_lR, wr_lR, ite_iI, max_iI, min_iI, rem_iI, div_iI, ite_true, ite_false, if_true, if_false, ite_self, and_self, and_true, true_and, and_false, false_and, or_self, or_true, true_or, or_false, false_or, not_true_eq_false, not_false_eq_true]
theorem x_insert {V : Int → Int} {c : Nat → Int → Int} {S : Nat → Nat → Int32} {d : Nat → Int → Int} {l p : Int} {H0 H1 H2 H3 H4 : Nat → Nat → Int32} {P : Int → Int} (h : stI V c S d l p (hF H0 H1 H2 H3 H4) P) {K N : Int → Int} (hsp : spI V c K N) (spW spH : Int32) (fr : Nat → Int64) (F Pg X Y Tt f s bx bY b1 b2 b3 b4 b5 b6 : Int32) (cm : Nat → Int → Int) (A1 A2 A3 A4 A5 A6 A7 A8 A9 A10 sp0 as0 : Nat → Int32) (i : Int) (hir : -2147483648 ≤ i ∧ i < 2147483648) :
    ∃ (a : Int32) (V' : Int → Int) (c' cm' : Nat → Int → Int) (S' K0 K1 K2 K3 K4 : Nat → Nat → Int32) (P' K' N' : Int → Int) (l' p' : Int) (spW' spH' : Int32) (fr' : Nat → Int64) (F' Pg' X' Y' Tt' f' s' bx' bY' b1' b2' b3' b4' b5' b6' : Int32) (B1 B2 B3 B4 B5 B6 B7 B8 B9 B10 sp' as' : Nat → Int32),
      f_X10_insert S (lA (d 2)) (lA (d 3)) (lA (d 4)) spW spH fr (lA K) (lA N) F Pg X Y Tt f s (iI l) (iI p) H0 H1 H2 H3 H4 (iI i) = some (a, S', spW', spH', fr', lA K', lA N', F', Pg', X', Y', Tt', f', s', iI l', iI p', K0, K1, K2, K3, K4) ∧
      f_X11_insert (iI p) bx bY b1 b2 b3 b4 b5 b6 (lA V) sp0 (lA P) (lA (cm 0)) (lA (cm 1)) (lA (cm 2)) (lA (cm 3)) (lA (cm 4)) (lA (cm 5)) A1 A2 A3 A4 A5 A6 A7 A8 A9 A10 as0 (iI i) = some (a, iI p', bx', bY', b1', b2', b3', b4', b5', b6', lA V', sp', lA P', lA (cm' 0), lA (cm' 1), lA (cm' 2), lA (cm' 3), lA (cm' 4), lA (cm' 5), B1, B2, B3, B4, B5, B6, B7, B8, B9, B10, as') ∧
      stI V' c' S' d l' p' (hF K0 K1 K2 K3 K4) P' ∧ spI V' c' K' N' := by
  obtain ⟨g1, g2, g3, g4, g5⟩ := id h
  obtain ⟨go, gs, gi, gp, gg⟩ := id g1
  have g5' := g5.1
  have hn24 := gi.1
  have h78 : (0 ≤ V 7 ∧ V 7 ≤ 1) ∧ (0 ≤ V 8 ∧ V 8 ≤ 3) := by unfold vSet at gs; omega
  have h3 : V 3 ≤ 4 := by unfold vSet at gs; omega
  have h13 := gp.1
  have hh := c_has (n := V 0) (s := i) hn24 hir
  have hm := m_isSprite (V := V) (s := i) hn24 hir
  unfold f_X10_insert f_X11_insert f_X11_at
  rw [g2.1.1, hh, hm, opt_bind, show (-1 : Int32) = iI (-1) by decide +kernel, show (-2 : Int32) = iI (-2) by decide +kernel, show (-3 : Int32) = iI (-3) by decide +kernel]
  by_cases h1 : 0 ≤ i ∧ i < V 0
  · rw [if_pos h1, if_neg (by decide +kernel : ¬ iI 1 = (0 : Int32)), if_neg (by decide +kernel : ¬ iI 1 = (0 : Int32))]
    obtain ⟨bx', bY', c', k1, k2⟩ := m_knows gi h78 cm bx bY
    have hcc := vCat_uniq g3 k2
    have hcr' := cat_r gi k2 i h1.1 h1.2
    have hpr := gp.2.1 i h1.1 h1.2
    have r8 := g2.2.2.2.2.1 i h1.1 (by omega)
    have hgeo := gg c' k2
    have hbl := vCat_bl gi k2
    have hd' : ∀ j, 0 ≤ j → j < V 0 → vDd c' d j := fun j j0 j1 => vDd_cEq hcc j0 j1 (cat_r gi g3 j j0 j1).1.1 (g4 j j0 j1)
    obtain ⟨-, -, dd2, dd3, dd4, -⟩ := hd' i h1.1 h1.2
    have ho := m_orig (V := V) (c := c') (i := i) (by omega) ⟨⟨hcr'.1.1, hcr'.1.2.1⟩, hcr'.2⟩
    have hoc := c_isOriginal (c := c') (d := d) (j := i) (by omega) ⟨hcr'.1.1, hcr'.1.2.1⟩ dd2 dd4 hcr'.2
    rw [k1, hoc, opt_bind, opt_bind]
    simp only [ho, opt_bind]
    by_cases hor : 0 < c' 2 i ∧ c' 4 i = -1
    · rw [if_pos hor, if_neg (by decide +kernel : ¬ iI 1 = (0 : Int32)), if_neg (by decide +kernel : ¬ iI 1 = (0 : Int32))]
      by_cases hpl : 0 ≤ V (20 + 72 * i + 3)
      · rw [if_pos ⟨h1.2, hpl⟩] at r8
        refine ⟨iI (-3), V, c, c', S, H0, H1, H2, H3, H4, P, K, N, l, p, spW, spH, fr, F, Pg, X, Y, Tt, f, s, bx', bY', b1, b2, b3, b4, b5, b6, A1, A2, A3, A4, A5, A6, A7, A8, A9, A10, sp0, as0, ?_, ?_, h, hsp⟩
        · rw [sA_lA S 8, rd_lA _ _ (by omega) (by omega) (by omega), r8, show (-4 : Int32) = iI (-4) by decide +kernel, if_neg (by rw [iI_eq (by omega) (by omega) (by omega) (by omega)]; omega)]
        · simp (disch := omega) only [↓bd_e, ↓jn_e, ↓opt_bind, ↓reduceIte, iLeT, iLeF, iLtT, iLtF, iEqT, iEqF, il_0, il_1, il_2, il_3, il_4, il_5, il_6, il_7, il_8, il_9, il_10, il_11, il_12, il_13, il_14, il_15, il_16, il_18, il_20, il_24, il_32, il_35, il_40, il_44, il_47, il_48, il_56, il_57, il_58, il_59, il_63, il_64, il_72, il_100, il_120, il_126, il_127, il_160, il_192, il_255, il_349, il_1748, il_6992, iI_add, iI_sub, iI_mul, iI_neg, iI_le, iI_lt, iI_eq, rd_lA, wr_lA, rd_lR, wr_lR, ite_iI, max_iI, min_iI, rem_iI, div_iI, ite_true, ite_false, if_true, if_false, ite_self, and_self, and_true, true_and, and_false, false_and, or_self, or_true, true_or, or_false, false_or, not_true_eq_false, not_false_eq_true]
      · rw [if_neg (by omega)] at r8
        have hun : V (20 + 72 * i + 3) = -1 := by omega
        obtain ⟨a, q, x', y', t', g, F', Pg', X', Y', Tt', f', s', b1', b2', b3', b4', b5', b6', B1, B2, B3, B4, B5, B6, B7, B8, B9, B10, o1, o2, hpo⟩ := x_choose gs gi gp hbl hgeo g2 (fun j j0 j1 => by obtain ⟨-, -, q2, q3, -⟩ := hd' j j0 j1; exact ⟨q2, q3⟩) h1 hor.1 (spI_cEq hcc hsp) F Pg X Y Tt f s b1 b2 b3 b4 b5 b6 A1 A2 A3 A4 A5 A6 A7 A8 A9 A10
        obtain ⟨Sp, e7, e8⟩ := m_keeps V sp0
        rcases hpo with ha | ⟨ha, ⟨rfl, rfl, rfl, rfl⟩, hp0, hf, hgr⟩
        · rw [ha] at o1 o2
          rw [if_neg (by omega)] at o2
          refine ⟨iI (-2), V, c, c', S, H0, H1, H2, H3, H4, P, K, N, l, p, spW, spH, fr, F', Pg', X', Y', Tt', f', s', bx', bY', b1', b2', b3', b4', b5', b6', B1, B2, B3, B4, B5, B6, B7, B8, B9, B10, lA Sp, as0, ?_, ?_, h, hsp⟩
          · rw [sA_lA S 8, rd_lA _ _ (by omega) (by omega) (by omega), r8, if_pos (by decide +kernel), o1, opt_bind, if_pos (by decide +kernel : iI 0 = (0 : Int32))]
          · simp (disch := omega) only [↓bd_e, ↓jn_e, ↓opt_bind, ↓reduceIte, iLeT, iLeF, iLtT, iLtF, iEqT, iEqF, il_0, il_1, il_2, il_3, il_4, il_5, il_6, il_7, il_8, il_9, il_10, il_11, il_12, il_13, il_14, il_15, il_16, il_18, il_20, il_24, il_32, il_35, il_40, il_44, il_47, il_48, il_56, il_57, il_58, il_59, il_63, il_64, il_72, il_100, il_120, il_126, il_127, il_160, il_192, il_255, il_349, il_1748, il_6992, iI_add, iI_sub, iI_mul, iI_neg, iI_le, iI_lt, iI_eq, rd_lA, wr_lA, rd_lR, wr_lR, ite_iI, max_iI, min_iI, rem_iI, div_iI, ite_true, ite_false, if_true, if_false, ite_self, and_self, and_true, true_and, and_false, false_and, or_self, or_true, true_or, or_false, false_or, not_true_eq_false, not_false_eq_true, e7, o2]
        · rw [ha] at o1 o2
          rw [if_pos rfl] at o2
          obtain ⟨K0, K1, K2, K3, K4, e1, e2, e3⟩ := c_record gs g2 (l := l) (p := p) (by omega) (by omega) H0 H1 H2 H3 H4
          obtain ⟨P', e4, e5, e6⟩ := m_notes (V := V) (P := P) (p := p) (by omega)
          have hA : pcA V V c' S S K N := ⟨⟨gs, gi, gp, hbl, hgeo⟩, ⟨g2, spI_cEq hcc hsp⟩, ⟨fun z _ => rfl, ⟨⟨rfl, rfl⟩, fun s _ _ => ⟨rfl, rfl, fun _ _ _ _ _ _ => rfl⟩⟩, go⟩, fun k _ => rfl, by funext z; unfold upd; split; (next e => rw [e]); rfl⟩
          obtain ⟨w', h', fr', K', N', S', q1, q2, q3, q4, q5⟩ := x_put gs gi gp hbl hgeo g2 (fun j j0 j1 => by obtain ⟨-, -, q2, q3, -⟩ := hd' j j0 j1; exact ⟨q2, q3⟩) h1 ⟨hor.2, hor.1⟩ hun hp0 hf hgr (spI_cEq hcc hsp) fr
          have hA' := pcA_put hA h1 ⟨hor.2, hor.1⟩ hun hp0 hf hgr q2 q3 q4 q5
          obtain ⟨hgd, hct⟩ := pcA_good hA' gi h78.2 k2
          have hch' : updC (updC (updC (updC (updC (updC S 6 (upd (S 6) 0 (S' 6 0))) 7 (S' 7)) 8 (S' 8)) 9 (S' 9)) 10 (S' 10)) 11 (S' 11) = S' := chn_eq hA'.2.2.2.1 hA'.2.2.2.2
          obtain ⟨p1, p2, p3, p4⟩ := vPl_i (V := V) (i := i) (p := q) (g := g) (x := x') (y := y') (t := t') h1.1
          have hV0 : vPl V i q g x' y' t' 0 = V 0 := vPl_lo h1.1 hp0.1 (by omega)
          have r8' := q4.2.2.2.2.1 i h1.1 (by omega)
          rw [p1, hV0, if_pos ⟨h1.2, hp0.1⟩] at r8'
          obtain ⟨B, c1, c2, c3, c4, c5⟩ := m_copies1 (vPl V i q g x' y' t') as0 (i := i) (by omega)
          have hbr := m_brings hgd.1 go e8
          have hgr4 : vPl V i q g x' y' t' (14 + q) = g := by rw [vPl_gr h1.1 (by omega), if_pos rfl]
          have hfin : uI (uI (uI (uI (uI (uI V 13 (max (V 13) (q + 1))) (14 + q) g) (20 + 72 * i + 3) q) (20 + 72 * i + 4) x') (20 + 72 * i + 5) y') (20 + 72 * i + 6) t' = vPl V i q g x' y' t' := by
            funext z
            rw [vPl_at]
            simp only [uI_at]
            by_cases z13 : z = 13
            · rw [if_neg (by omega), if_neg (by omega), if_neg (by omega), if_neg (by omega), if_neg (by omega), if_pos z13, if_pos z13]
            · rw [if_neg z13, if_neg z13]
          refine ⟨iI q, vPl V i q g x' y' t', c', c', S', K0, K1, K2, K3, K4, P', K', N', (l + 1) % 5, min (p + 1) 5, w', h', fr', F', iI q, iI x', iI y', iI t', f', s', bx', bY', b1', b2', b3', b4', b5', b6', B1, B2, B3, B4, B5, B6, B7, B8, B9, B10, lA Sp, lA B, ?_, ?_, ⟨hgd, q4, hct, fun j j0 j1 => hd' j j0 (by omega), hR_step g1 g2 g5 e2 e3 e5 e6⟩, q5⟩
          · rw [sA_lA S 8, rd_lA _ _ (by omega) (by omega) (by omega), r8, if_pos (by decide +kernel), o1, opt_bind, if_neg (by decide +kernel : ¬ iI 1 = (0 : Int32)), e1, opt_bind, q1, opt_bind]
            show g_rd (S' 8) 24 (iI i) _ = _
            rw [sA_lA S' 8, rd_lA _ _ (by omega) (by omega) (by omega), r8']
            have hch2 := hch'
            rw [sA_lA S' 8] at hch2
            simp only [hch', hch2]
          · have c0 := m_copies0 (uI (uI V 13 (max (V 13) (q + 1))) (14 + q) g) B (i := i) (by omega)
            rw [c2, c3, c4, c5, p1, p2, p3, p4, hfin] at c0
            simp (disch := omega) only [↓bd_e, ↓jn_e, ↓opt_bind, ↓reduceIte, iLeT, iLeF, iLtT, iLtF, iEqT, iEqF, il_0, il_1, il_2, il_3, il_4, il_5, il_6, il_7, il_8, il_9, il_10, il_11, il_12, il_13, il_14, il_15, il_16, il_18, il_20, il_24, il_32, il_35, il_40, il_44, il_47, il_48, il_56, il_57, il_58, il_59, il_63, il_64, il_72, il_100, il_120, il_126, il_127, il_160, il_192, il_255, il_349, il_1748, il_6992, iI_add, iI_sub, iI_mul, iI_neg, iI_le, iI_lt, iI_eq, rd_lA, wr_lA, rd_lR, wr_lR, ite_iI, max_iI, min_iI, rem_iI, div_iI, ite_true, ite_false, if_true, if_false, ite_self, and_self, and_true, true_and, and_false, false_and, or_self, or_true, true_or, or_false, false_or, not_true_eq_false, not_false_eq_true, e7, o2, p1, vPl_13, hgr4, c1, hbr, e4, c0]
    · rw [if_neg hor, if_pos (by decide +kernel : iI 0 = (0 : Int32)), if_pos (by decide +kernel : iI 0 = (0 : Int32))]
      exact ⟨iI (-3), V, c, c', S, H0, H1, H2, H3, H4, P, K, N, l, p, spW, spH, fr, F, Pg, X, Y, Tt, f, s, bx', bY', b1, b2, b3, b4, b5, b6, A1, A2, A3, A4, A5, A6, A7, A8, A9, A10, sp0, as0, rfl, rfl, h, hsp⟩
  · rw [if_neg h1, if_pos (by decide +kernel : iI 0 = (0 : Int32)), if_pos (by decide +kernel : iI 0 = (0 : Int32))]
    exact ⟨iI (-1), V, c, cm, S, H0, H1, H2, H3, H4, P, K, N, l, p, spW, spH, fr, F, Pg, X, Y, Tt, f, s, bx, bY, b1, b2, b3, b4, b5, b6, A1, A2, A3, A4, A5, A6, A7, A8, A9, A10, sp0, as0, rfl, rfl, h, hsp⟩
