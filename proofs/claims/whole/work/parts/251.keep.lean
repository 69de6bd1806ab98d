def kpR (SA SB : Nat → Nat → Int32) (Fl Fm Q : Int → Int) : Prop := ∀ i, 0 ≤ i → i < 2 → Fl i = Fm i ∧ (Fl i = 0 ∨ Fl i = 1) ∧ (Fl i = 1 → ∃ W, (∀ k, 0 ≤ k → k < 1748 → Q (1748 * i + k) = W k) ∧ vGood W ∧ sR W (if i = 0 then SA else SB))
theorem kpR_put {SA SB : Nat → Nat → Int32} {Fl Fm Q Q' : Int → Int} (h : kpR SA SB Fl Fm Q) {V : Int → Int} {S' SA' SB' : Nat → Nat → Int32} {i : Int} (hi : i = 0 ∨ i = 1) (hg : vGood V) (hr : sR V S') (hA : SA' = if i = 0 then S' else SA) (hB : SB' = if i = 0 then SB else S') (hQ : ∀ j, Q' j = if 1748 * i ≤ j ∧ j < 1748 * i + 1748 then V (j - 1748 * i) else Q j) : kpR SA' SB' (uI Fl i 1) (uI Fm i 1) Q' := by
  intro j j0 j1
  rw [uI_at, uI_at]
  by_cases e : j = i
  · rw [if_pos e, if_pos e]
    refine ⟨rfl, Or.inr rfl, fun _ => ⟨V, fun k k0 k1 => ?_, hg, ?_⟩⟩
    · rw [hQ, e, if_pos (by omega), show 1748 * i + k - 1748 * i = k by omega]
    · rw [hA, hB, e]
      rcases hi with rfl | rfl
      · exact hr
      · exact hr
  · rw [if_neg e, if_neg e]
    obtain ⟨a1, a2, a3⟩ := h j j0 j1
    refine ⟨a1, a2, fun z => ?_⟩
    obtain ⟨W, b1, b2, b3⟩ := a3 z
    refine ⟨W, fun k k0 k1 => ?_, b2, ?_⟩
    · rw [hQ, if_neg (by omega)]
      exact b1 k k0 k1
    · rw [hA, hB]
      rcases hi with rfl | rfl
      · rw [if_neg (by omega)] at b3 ⊢
        exact b3
      · rw [if_pos (by omega)] at b3 ⊢
        exact b3
theorem x_keep {V : Int → Int} {S : Nat → Nat → Int32} (hg : vGood V) (hr : sR V S) {SA SB : Nat → Nat → Int32} {Fl Fm Q : Int → Int} (hk : kpR SA SB Fl Fm Q) (i : Int) (hir : -2147483648 ≤ i ∧ i < 2147483648) :
    ∃ (a : Int32) (SA' SB' : Nat → Nat → Int32) (Fl' Fm' Q' : Int → Int), f_X10_keep S SA SB (lA Fl) (iI i) = some (a, SA', SB', lA Fl') ∧ f_X11_keep (lA V) (lA Q) (lA Fm) (iI i) = some (a, lA Q', lA Fm') ∧ kpR SA' SB' Fl' Fm' Q' := by
  have hin := in_iI (a := i) (b := 0) (c := 1) hir.1 hir.2 (by omega) (by omega) (by omega) (by omega)
  have hwi := within_iI (a := i) (b := 0) (c := 1) hir.1 hir.2 (by omega) (by omega) (by omega) (by omega)
  have hn24 := hg.2.2.1.1
  unfold f_X10_keep f_X11_keep
  rw [show (-1 : Int32) = iI (-1) by decide +kernel, il_0, il_1, hin, hwi]
  by_cases h1 : 0 ≤ i ∧ i ≤ 1
  · rw [if_pos h1]
    obtain ⟨S', e1, e2⟩ := c_copy hg.2.1 hr SA
    obtain ⟨S'', e1', e2'⟩ := c_copy hg.2.1 hr SB
    have hr1 := sR_eq hg.2.2.1 e2 hr
    have hr2 := sR_eq hg.2.2.1 e2' hr
    have hi2 : i = 0 ∨ i = 1 := by omega
    have hcl : ∃ SA' SB' T', (if iI 1 = iI 0 then some (iI (-1), SA, SB, lA Fl) else if iI i = iI 0 then (f_X8_copyFrom SA S).bind fun r1 => g_wrZ (lA Fl) 2 (iI i) (iI 1) fun f2 => some (S 0 0, r1, SB, f2) else (f_X8_copyFrom SB S).bind fun r3 => g_wrZ (lA Fl) 2 (iI i) (iI 1) fun f4 => some (S 0 0, SA, r3, f4)) = some (iI (V 0), SA', SB', lA (uI Fl i 1)) ∧ sR V T' ∧ (SA' = if i = 0 then T' else SA) ∧ (SB' = if i = 0 then SB else T') := by
      rw [if_neg (by decide +kernel : ¬ iI 1 = iI 0), hr.1.1]
      rcases hi2 with rfl | rfl
      · refine ⟨S', SB, S', ?_, hr1, rfl, rfl⟩
        rw [if_pos rfl, e1, opt_bind, wrZ_lA Fl _ (Or.inr rfl) (by omega) (by omega) (by omega)]
      · refine ⟨SA, S'', S'', ?_, hr2, rfl, rfl⟩
        rw [if_neg (by decide +kernel : ¬ iI 1 = iI 0), e1', opt_bind, wrZ_lA Fl _ (Or.inr rfl) (by omega) (by omega) (by omega)]
    obtain ⟨SA', SB', T', c1, c2, c3, c4⟩ := hcl
    suffices hm : ∃ Q', (if iI 1 = iI 0 then some (iI (-1), lA Q, lA Fm) else g_jn (fun f1 => g_wrZ (lA Fm) 2 (iI i) (iI 1) fun f3 => g_rd (lA V) 1748 (iI 0) fun x4 => some (x4, f1, f3)) fun k44_1 => f_X11_keep_L13 (lA V) (iI i) k44_1 g_fuel (iI 0) (lA Q)) = some (iI (V 0), lA Q', lA (uI Fm i 1)) ∧ ∀ j, Q' j = if 1748 * i ≤ j ∧ j < 1748 * i + 1748 then V (j - 1748 * i) else Q j by
      obtain ⟨Q', m1, m2⟩ := hm
      exact ⟨iI (V 0), SA', SB', uI Fl i 1, uI Fm i 1, Q', c1, m1, kpR_put hk hi2 hg c2 c3 c4 m2⟩
    rw [if_neg (by decide +kernel : ¬ iI 1 = iI 0), jn_e]
    obtain ⟨fu, hfu, hfu2⟩ := fuel_ex; rw [hfu]
    refine m_notes_in (V := V) (P := Q) (p := i) (by omega) (fun r => ∃ Q', r = some (iI (V 0), lA Q', lA (uI Fm i 1)) ∧ ∀ j, Q' j = if 1748 * i ≤ j ∧ j < 1748 * i + 1748 then V (j - 1748 * i) else Q j) (fun f1 => g_wrZ (lA Fm) 2 (iI i) (iI 1) fun f3 => g_rd (lA V) 1748 (iI 0) fun x4 => some (x4, f1, f3)) ?_ (fun n x A => f_X11_keep_L13 (lA V) (iI i) (fun f1 => g_wrZ (lA Fm) 2 (iI i) (iI 1) fun f3 => g_rd (lA V) 1748 (iI 0) fun x4 => some (x4, f1, f3)) n x A) ?_ ?_ fu (by omega)
    · intro Q' hQ'
      refine ⟨Q', ?_, hQ'⟩
      rw [wrZ_lA Fm _ (Or.inr rfl) (by omega) (by omega) (by omega), rd_lA V _ (by omega) (by omega) (by omega)]
    · intro n A
      simp only [f_X11_keep_L13]
      simp (disch := omega) only [↓bd_e, ↓jn_e, ↓opt_bind, ↓reduceIte, iLeT, iLeF, iLtT, iLtF, iEqT, iEqF, il_0, il_1, il_2, il_3, il_4, il_5, il_6, il_7, il_8, il_9, il_10, il_11, il_12, il_13, il_14, il_15, il_16, il_18, il_20, il_24, il_32, il_35, il_40, il_44, il_47, il_48, il_56, il_57, il_58, il_59, il_63, il_64, il_72, il_100, il_120, il_126, il_127, il_160, il_192, il_255, il_349, il_1748, il_6992, iI_add, iI_sub, iI_mul, iI_neg, iI_le, iI_lt, iI_eq, rd_lA, wr_lA, rd_lR, wr_lR, ite_iI, max_iI, min_iI, rem_iI, div_iI, ite_true, ite_false, if_true, if_false, ite_self, and_self, and_true, true_and, and_false, false_and, or_self, or_true, true_or, or_false, false_or, not_true_eq_false, not_false_eq_true]
    · intro n x A x0 x1
      simp only [f_X11_keep_L13]
      simp (disch := omega) only [↓bd_e, ↓jn_e, ↓opt_bind, ↓reduceIte, iLeT, iLeF, iLtT, iLtF, iEqT, iEqF, il_0, il_1, il_2, il_3, il_4, il_5, il_6, il_7, il_8, il_9, il_10, il_11, il_12, il_13, il_14, il_15, il_16, il_18, il_20, il_24, il_32, il_35, il_40, il_44, il_47, il_48, il_56, il_57, il_58, il_59, il_63, il_64, il_72, il_100, il_120, il_126, il_127, il_160, il_192, il_255, il_349, il_1748, il_6992, iI_add, iI_sub, iI_mul, iI_neg, iI_le, iI_lt, iI_eq, rd_lA, wr_lA, rd_lR, wr_lR, ite_iI, max_iI, min_iI, rem_iI, div_iI, ite_true, ite_false, if_true, if_false, ite_self, and_self, and_true, true_and, and_false, false_and, or_self, or_true, true_or, or_false, false_or, not_true_eq_false, not_false_eq_true]
  · rw [if_neg h1, if_pos (by decide +kernel : iI 0 = iI 0)]
    exact ⟨iI (-1), SA, SB, Fl, Fm, Q, rfl, rfl, hk⟩
