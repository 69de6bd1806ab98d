theorem vDe_Dd {c d : Nat → Int → Int} {j : Int} (h : vDd c d j) : vDe c d j := by
  obtain ⟨h0, h1, h2, h3, -⟩ := h
  refine ⟨h2, h3, fun hw => ?_⟩
  unfold orN at h0 h1
  rw [if_neg (by omega)] at h0 h1
  exact ⟨h0, h1⟩
theorem vLk_De {V : Int → Int} {c d : Nat → Int → Int} {s o t q : Int} (hs : vDe c d s) (ho : vDe c d o) (h1 : 0 < c 2 s) (h2 : 0 < c 2 o) : vLk V d s o t q ↔ vLk V c s o t q := by
  obtain ⟨s1, s2, s3⟩ := hs
  obtain ⟨o1, o2, o3⟩ := ho
  obtain ⟨s3, s4⟩ := s3 h1
  obtain ⟨o3, o4⟩ := o3 h2
  unfold vLk
  rw [s1, s2, s3, s4, o1, o2, o3, o4]
theorem x_rec {V : Int → Int} {c : Nat → Int → Int} {S : Nat → Nat → Int32} {d : Nat → Int → Int} {l p : Int} {F : Int → Nat → Nat → Int32} {P : Int → Int} (h : stI V c S d l p F P) {c' : Nat → Int → Int} (k2 : vCat V c') {i b : Int} (h1 : 0 ≤ i ∧ i < V 0) (k3 : hoR V c' i b) (hb : b ≠ -1) (bx bY : Int32) :
    ∃ r b1 b2, (0 ≤ r ∧ r < 8) ∧ f_X0_findRecord (lA (d 0)) (lA (d 1)) (lA (d 2)) (lA (d 3)) (S 4) (iI i) (iI b) (iI (V (20 + 72 * b + 6))) = some (iI r) ∧ f_X11_record bx bY (lA V) (lA (c' 0)) (lA (c' 1)) (lA (c' 2)) (lA (c' 3)) (iI i) (iI b) = some (iI r, b1, b2) := by
  obtain ⟨g1, g2, g3, g4, g5⟩ := id h
  obtain ⟨go, gs, gi, gp, gg⟩ := id g1
  have h8 : 0 ≤ V 8 ∧ V 8 ≤ 3 := by unfold vSet at gs; omega
  have hl := vLim_r h8
  rcases k3 with k3 | ⟨b0, b1, b2, b3, b4⟩
  · exact absurd k3 hb
  have hD : ∀ j, 0 ≤ j → j < V 0 → vDe c' d j := fun j j0 j1 => vDe_Dd (vDd_cEq (vCat_uniq g3 k2) j0 j1 (cat_r gi g3 j j0 j1).1.1 (g4 j j0 j1))
  have hex : 0 < c' 2 i ∧ ∃ q, (0 ≤ q ∧ q < 8) ∧ vLike V c' i b q := by
    rcases b4 with ⟨e, -⟩ | e
    · subst e
      refine ⟨b3, 0, by omega, ?_, ?_, fun x y _ _ _ _ => rfl⟩
      · rw [if_neg (by decide)]
      · rw [if_neg (by decide)]
    · rcases (k2 i h1.1 h1.2).2 with ⟨w, q, -⟩ | ⟨q, -⟩
      · rw [← e] at q
        exact ⟨w, c' 5 i, ⟨q.2.2.1, by have := q.2.2.2.1; omega⟩, q.2.2.2.2.2.2⟩
      · omega
  obtain ⟨hw, hex⟩ := hex
  have ht := ((gg c' k2).1 b b0 b1 b2).2.1
  have hbl := vCat_bl gi k2
  have hsi := (hbl i h1.1 h1.2).resolve_left (by omega)
  have hsb := (hbl b b0 b1).resolve_left (by omega)
  have hpi : vPx V i := fun x y => gi.2.2 i x y h1.1 h1.2
  have hpb : vPx V b := fun x y => gi.2.2 b x y b0 b1
  have hri := (g2.2.2.1 i h1.1 h1.2).2.2.2.1
  have hrb := (g2.2.2.1 b b0 b1).2.2.2.1
  have hDi := hD i h1.1 h1.2
  have hDb := hD b b0 b1
  obtain ⟨r, r0, r1, r2⟩ := vLk_ex ht hex
  obtain ⟨z1, z2, e2⟩ := m_record hsi hsb hpi hpb ht r0 r1 r2 bx bY
  refine ⟨r, z1, z2, r0, ?_, e2⟩
  rw [sW_lR S]
  exact c_findRecord (vSh_De hDi hsi) (vSh_De hDb hsb) hri hrb hpi hpb ht r0 ((vLk_De hDi hDb hw b3).mpr r1) (fun q q0 q1 hq => r2 q q0 q1 ((vLk_De hDi hDb hw b3).mp hq))
theorem x_recordOf {V : Int → Int} {c : Nat → Int → Int} {S : Nat → Nat → Int32} {d : Nat → Int → Int} {l p : Int} {F : Int → Nat → Nat → Int32} {P : Int → Int} (h : stI V c S d l p F P) (bx bY : Int32) (cm : Nat → Int → Int) {i : Int} (hir : -2147483648 ≤ i ∧ i < 2147483648) :
    ∃ (a bx' bY' : Int32) (cm' : Nat → Int → Int), f_X10_recordOf S (lA (d 0)) (lA (d 1)) (lA (d 2)) (lA (d 3)) (lA (d 4)) (iI i) = some a ∧ f_X11_recordOf bx bY (lA V) (lA (cm 0)) (lA (cm 1)) (lA (cm 2)) (lA (cm 3)) (lA (cm 4)) (lA (cm 5)) (iI i) = some (a, bx', bY', lA (cm' 0), lA (cm' 1), lA (cm' 2), lA (cm' 3), lA (cm' 4), lA (cm' 5)) := by
  obtain ⟨g1, g2, g3, g4, g5⟩ := id h
  have hn := g1.2.2.1.1
  unfold f_X10_recordOf f_X11_recordOf
  rw [g2.1.1, c_has hn hir, m_isSprite hn hir, opt_bind, show (-1 : Int32) = iI (-1) by decide +kernel, show (-4 : Int32) = iI (-4) by decide +kernel, show (-2 : Int32) = iI (-2) by decide +kernel]
  by_cases h1 : 0 ≤ i ∧ i < V 0
  · obtain ⟨b, bx', bY', c', k1, k2, k3, k4, k5⟩ := x_holder h bx bY cm h1
    rw [if_pos h1, if_neg (by decide +kernel : ¬ iI 1 = (0 : Int32))]
    by_cases hb : b = -1
    · refine ⟨iI (-4), bx', bY', c', ?_, ?_⟩
      · rw [k4 hb, opt_bind, if_pos rfl]
      · simp (disch := omega) only [↓bd_e, ↓jn_e, ↓opt_bind, ↓reduceIte, iLeT, iLeF, iLtT, iLtF, iEqT, iEqF, il_0, il_1, il_2, il_3, il_4, il_5, il_6, il_7, il_8, il_9, il_10, il_11, il_12, il_13, il_14, il_15, il_16, il_18, il_20, il_24, il_32, il_35, il_40, il_44, il_47, il_48, il_56, il_57, il_58, il_59, il_63, il_64, il_72, il_100, il_120, il_126, il_127, il_160, il_192, il_255, il_349, il_1748, il_6992, iI_add, iI_sub, iI_mul, iI_neg, iI_le, iI_lt, iI_eq, rd_lA, wr_lA, rd_lR, wr_lR, ite_iI, max_iI, min_iI, rem_iI, div_iI, ite_true, ite_false, if_true, if_false, ite_self, and_self, and_true, true_and, and_false, false_and, or_self, or_true, true_or, or_false, false_or, not_true_eq_false, not_false_eq_true, k1, hb]
    · obtain ⟨r, z1, z2, r0, e1, e2⟩ := x_rec h k2 h1 k3 hb bx' bY'
      rcases k3 with k3 | ⟨b0, b1, b2, -⟩
      · exact absurd k3 hb
      · have hp := g1.2.2.2.1.2.1 b b0 b1
        have h13 := g1.2.2.2.1.1
        have hv := g1.2.1
        have h5 : V 3 ≤ 4 := by unfold vSet at hv; omega
        have e := ((g2.2.2.1 b b0 b1).2.2.2.2 b2).2.2
        refine ⟨iI r, z1, z2, c', ?_, ?_⟩
        · rw [(k5 hb).2, opt_bind, if_neg (by rw [iI_eq (by omega) (by omega) (by omega) (by omega)]; omega), (k5 hb).1, opt_bind, sA_lA S 11, rd_lA _ _ (by omega) (by omega) (by omega), e, e1, opt_bind]
        · simp (disch := omega) only [↓bd_e, ↓jn_e, ↓opt_bind, ↓reduceIte, iLeT, iLeF, iLtT, iLtF, iEqT, iEqF, il_0, il_1, il_2, il_3, il_4, il_5, il_6, il_7, il_8, il_9, il_10, il_11, il_12, il_13, il_14, il_15, il_16, il_18, il_20, il_24, il_32, il_35, il_40, il_44, il_47, il_48, il_56, il_57, il_58, il_59, il_63, il_64, il_72, il_100, il_120, il_126, il_127, il_160, il_192, il_255, il_349, il_1748, il_6992, iI_add, iI_sub, iI_mul, iI_neg, iI_le, iI_lt, iI_eq, rd_lA, wr_lA, rd_lR, wr_lR, ite_iI, max_iI, min_iI, rem_iI, div_iI, ite_true, ite_false, if_true, if_false, ite_self, and_self, and_true, true_and, and_false, false_and, or_self, or_true, true_or, or_false, false_or, not_true_eq_false, not_false_eq_true, k1, e2]
  · rw [if_neg h1, if_pos (by decide +kernel : iI 0 = (0 : Int32))]
    refine ⟨iI (-1), bx, bY, cm, rfl, ?_⟩
    simp (disch := omega) only [↓bd_e, ↓jn_e, ↓opt_bind, ↓reduceIte, iLeT, iLeF, iLtT, iLtF, iEqT, iEqF, il_0, il_1, il_2, il_3, il_4, il_5, il_6, il_7, il_8, il_9, il_10, il_11, il_12, il_13, il_14, il_15, il_16, il_18, il_20, il_24, il_32, il_35, il_40, il_44, il_47, il_48, il_56, il_57, il_58, il_59, il_63, il_64, il_72, il_100, il_120, il_126, il_127, il_160, il_192, il_255, il_349, il_1748, il_6992, iI_add, iI_sub, iI_mul, iI_neg, iI_le, iI_lt, iI_eq, rd_lA, wr_lA, rd_lR, wr_lR, ite_iI, max_iI, min_iI, rem_iI, div_iI, ite_true, ite_false, if_true, if_false, ite_self, and_self, and_true, true_and, and_false, false_and, or_self, or_true, true_or, or_false, false_or, not_true_eq_false, not_false_eq_true]
