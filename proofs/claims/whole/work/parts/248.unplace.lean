theorem blk_cEq {V : Int → Int} {c c' : Nat → Int → Int} (h : cEq (V 0) c c') (p : Int) : blk V c p = blk V c' p := by
  funext x
  funext y
  have hb : ∀ s, 0 ≤ s → s < V 0 → ∀ t, bxW V c s t = bxW V c' s t ∧ bxH V c s t = bxH V c' s t := by
    intro s s0 s1 t
    obtain ⟨e2, e3, -⟩ := h s s0 s1
    unfold bxW bxH
    rw [e2, e3]
    exact ⟨rfl, rfl⟩
  refine propext ⟨?_, ?_⟩
  · rintro ⟨s, ⟨s0, s1, s2⟩, z⟩
    rw [(hb s s0 s1 _).1, (hb s s0 s1 _).2] at z
    exact ⟨s, ⟨s0, s1, s2⟩, z⟩
  · rintro ⟨s, ⟨s0, s1, s2⟩, z⟩
    rw [← (hb s s0 s1 _).1, ← (hb s s0 s1 _).2] at z
    exact ⟨s, ⟨s0, s1, s2⟩, z⟩
theorem spI_cEq {V : Int → Int} {c c' : Nat → Int → Int} {K N : Int → Int} (h : cEq (V 0) c c') (g : spI V c K N) : spI V c' K N := by
  intro p p0 p1
  rw [← blk_cEq h]
  exact g p p0 p1
theorem vU_bx {V : Int → Int} {i : Int} (hi : 0 ≤ i) (c : Nat → Int → Int) (s u : Int) : bxW (uI V (20 + 72 * i + 3) (-1)) c s u = bxW V c s u ∧ bxH (uI V (20 + 72 * i + 3) (-1)) c s u = bxH V c s u ∧ fldW (uI V (20 + 72 * i + 3) (-1)) = fldW V ∧ fldH (uI V (20 + 72 * i + 3) (-1)) = fldH V := by
  unfold bxW bxH fldW fldH
  rw [uI_ne (by omega), uI_ne (by omega), uI_ne (by omega), uI_ne (by omega), uI_ne (by omega)]
  exact ⟨rfl, rfl, rfl, rfl⟩
theorem vU_good {V : Int → Int} {c : Nat → Int → Int} (hg : vGood V) (hc : vCat V c) {i : Int} (hi0 : 0 ≤ i ∧ i < V 0) : vGood (uI V (20 + 72 * i + 3) (-1)) ∧ vCat (uI V (20 + 72 * i + 3) (-1)) c := by
  obtain ⟨go, gs, gi, gp, gg⟩ := hg
  have hn24 := gi.1
  have e : ∀ z, z ≤ 22 → uI V (20 + 72 * i + 3) (-1) z = V z := fun z hz => uI_ne (by omega)
  have hs : vSet (uI V (20 + 72 * i + 3) (-1)) := by
    unfold vSet at gs ⊢
    rw [e 1 (by omega), e 2 (by omega), e 3 (by omega), e 4 (by omega), e 5 (by omega), e 6 (by omega), e 7 (by omega), e 8 (by omega), e 9 (by omega), e 10 (by omega), e 11 (by omega), e 12 (by omega)]
    exact gs
  have hi : vImg (uI V (20 + 72 * i + 3) (-1)) := by
    refine ⟨by rw [e 0 (by omega)]; exact gi.1, fun s s0 s1 => ?_, fun s x y s0 s1 x0 x1 y0 y1 => ?_⟩
    · rw [e 0 (by omega)] at s1
      rw [uI_ne (by omega), uI_ne (by omega), uI_ne (by omega)]
      exact gi.2.1 s s0 s1
    · rw [e 0 (by omega)] at s1
      rw [uI_ne (by omega)]
      exact gi.2.2 s x y s0 s1 x0 x1 y0 y1
  have hI : vIA (V 0) V (uI V (20 + 72 * i + 3) (-1)) := ⟨⟨(e 7 (by omega)).symm, (e 8 (by omega)).symm⟩, fun s s0 s1 => ⟨(uI_ne (by omega)).symm, (uI_ne (by omega)).symm, fun x y x0 x1 y0 y1 => (uI_ne (by omega)).symm⟩⟩
  have hct := vCat_cong gi hi (by unfold vSet at gs; omega) (e 0 (by omega)).symm hI hc
  refine ⟨⟨?_, hs, hi, ⟨?_, fun s s0 s1 => ?_, fun p p0 p1 => ?_⟩, fun c' hc' => vGeo_cEq (vCat_uniq hct hc') ⟨fun s s0 s1 s2 => ?_, fun s s' s0 hl s1 s2 s3 => ?_⟩⟩, hct⟩
  · intro k hk
    rw [uI_ne (by omega)]
    exact go k hk
  · rw [e 13 (by omega), e 3 (by omega)]
    exact gp.1
  · rw [e 0 (by omega)] at s1
    rw [e 13 (by omega), uI_at]
    have := gp.1
    have := gp.2.1 s s0 s1
    split <;> omega
  · rw [e (14 + p) (by omega)]
    exact gp.2.2 p p0 p1
  · rw [e 0 (by omega)] at s1
    obtain ⟨b1, b2, b3, b4⟩ := vU_bx (V := V) hi0.1 c s (uI V (20 + 72 * i + 3) (-1) (20 + 72 * s + 6))
    rw [b1, b2, b3, b4]
    rw [uI_at] at s2
    split at s2
    · omega
    · rw [uI_ne (by omega), uI_ne (by omega), uI_ne (by omega)]
      exact (gg c hc).1 s s0 s1 s2
  · rw [e 0 (by omega)] at s1
    rw [(vU_bx (V := V) hi0.1 c s _).1, (vU_bx (V := V) hi0.1 c s _).2.1, (vU_bx (V := V) hi0.1 c s' _).1, (vU_bx (V := V) hi0.1 c s' _).2.1]
    by_cases h1 : s = i
    · rw [h1, uI_self] at s2
      omega
    · by_cases h2 : s' = i
      · rw [uI_ne (by omega)] at s2
        rw [uI_ne (by omega), h2, uI_self] at s3
        omega
      · rw [uI_ne (by omega)] at s2
        rw [uI_ne (by omega), uI_ne (by omega)] at s3
        rw [uI_ne (by omega), uI_ne (by omega), uI_ne (by omega), uI_ne (by omega), uI_ne (by omega), uI_ne (by omega)]
        exact (gg c hc).2 s s' s0 hl s1 s2 s3
theorem sR_U {V : Int → Int} {S : Nat → Nat → Int32} (hi : vImg V) (hr : sR V S) {i : Int} (hi0 : 0 ≤ i ∧ i < V 0) : sR (uI V (20 + 72 * i + 3) (-1)) (updC S 8 (lA (uI (sA S 8) i (-4)))) := by
  have hn24 := hi.1
  have e : ∀ z, z ≤ 22 → uI V (20 + 72 * i + 3) (-1) z = V z := fun z hz => uI_ne (by omega)
  obtain ⟨⟨r0, r6⟩, r5, rs, r7, r8, r11⟩ := id hr
  refine ⟨⟨by rw [e 0 (by omega)]; exact r0, by rw [e 13 (by omega)]; exact r6⟩, fun k hk => by rw [e (1 + k) (by omega)]; exact r5 k hk, fun s s0 s1 => ?_, fun p p0 p1 => by rw [e (14 + p) (by omega)]; exact r7 p p0 p1, fun s s0 s1 => ?_, r11⟩
  · rw [e 0 (by omega)] at s1
    obtain ⟨z1, z2, z3, z4, z5⟩ := rs s s0 s1
    refine ⟨?_, ?_, ?_, ?_, fun h => ?_⟩
    · rw [uI_ne (by omega)]; exact z1
    · rw [uI_ne (by omega)]; exact z2
    · rw [uI_ne (by omega)]; exact z3
    · intro a b a0 a1 b0 b1
      have hh := hi.2.1 s s0 s1
      rw [uI_ne (by omega)] at b1
      rw [uI_ne (by omega), uI_ne (by omega)]
      exact z4 a b a0 a1 b0 b1
    · rw [uI_ne (by omega), uI_ne (by omega), uI_ne (by omega)]
      rw [uI_at] at h
      split at h
      · omega
      · exact z5 h
  · rw [sA_put (S := S) (k := 8) (i := i) (x := -4) rfl (by omega) s0, e 0 (by omega), r8 s s0 s1]
    by_cases h1 : s = i
    · rw [if_pos h1, h1, uI_self, if_neg (by omega)]
    · rw [if_neg h1, uI_ne (by omega)]
theorem x_unplace {V : Int → Int} {c : Nat → Int → Int} {S : Nat → Nat → Int32} {d : Nat → Int → Int} {l p : Int} {H0 H1 H2 H3 H4 : Nat → Nat → Int32} {P : Int → Int} (h : stI V c S d l p (hF H0 H1 H2 H3 H4) P) {K N : Int → Int} (hsp : spI V c K N) (spW spH : Int32) (fr : Nat → Int64) (bx bY : Int32) (cm : Nat → Int → Int) (i : Int) (hir : -2147483648 ≤ i ∧ i < 2147483648) :
    ∃ (a : Int32) (V' : Int → Int) (c' cm' : Nat → Int → Int) (S' K0 K1 K2 K3 K4 : Nat → Nat → Int32) (P' K' N' : Int → Int) (l' p' : Int) (spW' spH' : Int32) (fr' : Nat → Int64) (bx' bY' : Int32),
      f_X10_unplace S (lA (d 2)) (lA (d 3)) spW spH fr (lA K) (lA N) (iI l) (iI p) H0 H1 H2 H3 H4 (iI i) = some (a, S', spW', spH', fr', lA K', lA N', iI l', iI p', K0, K1, K2, K3, K4) ∧
      f_X11_unplace (iI p) bx bY (lA V) (lA P) (lA (cm 0)) (lA (cm 1)) (lA (cm 2)) (lA (cm 3)) (lA (cm 4)) (lA (cm 5)) (iI i) = some (a, iI p', bx', bY', lA V', lA P', lA (cm' 0), lA (cm' 1), lA (cm' 2), lA (cm' 3), lA (cm' 4), lA (cm' 5)) ∧
      stI V' c' S' d l' p' (hF K0 K1 K2 K3 K4) P' ∧ spI V' c' K' N' := by
  obtain ⟨g1, g2, g3, g4, g5⟩ := id h
  obtain ⟨go, gs, gi, gp, gg⟩ := id g1
  have g5' := g5.1
  have hn24 := gi.1
  have h78 : (0 ≤ V 7 ∧ V 7 ≤ 1) ∧ (0 ≤ V 8 ∧ V 8 ≤ 3) := by unfold vSet at gs; omega
  have h3 : V 3 ≤ 4 := by unfold vSet at gs; omega
  have h13 := gp.1
  have hh := c_has (n := V 0) (s := i) hn24 hir
  have hm := m_isSprite (V := V) (s := i) hn24 hir
  unfold f_X10_unplace f_X11_unplace f_X11_at
  rw [g2.1.1, hh, hm]
  by_cases h1 : 0 ≤ i ∧ i < V 0
  · rw [if_pos h1]
    obtain ⟨bx', bY', c', k1, k2⟩ := m_knows gi h78 cm bx bY
    have hcc := vCat_uniq g3 k2
    have hcr' := cat_r gi k2 i h1.1 h1.2
    have hpr := gp.2.1 i h1.1 h1.2
    have r8 := g2.2.2.2.2.1 i h1.1 (by omega)
    have hgeo := gg c' k2
    have ho : f_X11_isOriginal (lA (c' 2)) (lA (c' 4)) (iI i) = some (iI (if 0 < c' 2 i ∧ c' 4 i = -1 then 1 else 0)) := by
      unfold f_X11_isOriginal
      by_cases q1 : 0 < c' 2 i
      · by_cases q2 : c' 4 i = -1
        · rw [if_pos ⟨q1, q2⟩]
          simp (disch := omega) only [↓bd_e, ↓jn_e, ↓opt_bind, ↓reduceIte, iLeT, iLeF, iLtT, iLtF, iEqT, iEqF, il_0, il_1, il_2, il_3, il_4, il_5, il_6, il_7, il_8, il_9, il_10, il_11, il_12, il_13, il_14, il_15, il_16, il_18, il_20, il_24, il_32, il_35, il_40, il_44, il_47, il_48, il_56, il_57, il_58, il_59, il_63, il_64, il_72, il_100, il_120, il_126, il_127, il_160, il_192, il_255, il_349, il_1748, il_6992, iI_add, iI_sub, iI_mul, iI_neg, iI_le, iI_lt, iI_eq, rd_lA, wr_lA, rd_lR, wr_lR, ite_iI, max_iI, min_iI, rem_iI, div_iI, ite_true, ite_false, if_true, if_false, ite_self, and_self, and_true, true_and, and_false, false_and, or_self, or_true, true_or, or_false, false_or, not_true_eq_false, not_false_eq_true, q2]
        · rw [if_neg (fun z => q2 z.2)]
          simp (disch := omega) only [↓bd_e, ↓jn_e, ↓opt_bind, ↓reduceIte, iLeT, iLeF, iLtT, iLtF, iEqT, iEqF, il_0, il_1, il_2, il_3, il_4, il_5, il_6, il_7, il_8, il_9, il_10, il_11, il_12, il_13, il_14, il_15, il_16, il_18, il_20, il_24, il_32, il_35, il_40, il_44, il_47, il_48, il_56, il_57, il_58, il_59, il_63, il_64, il_72, il_100, il_120, il_126, il_127, il_160, il_192, il_255, il_349, il_1748, il_6992, iI_add, iI_sub, iI_mul, iI_neg, iI_le, iI_lt, iI_eq, rd_lA, wr_lA, rd_lR, wr_lR, ite_iI, max_iI, min_iI, rem_iI, div_iI, ite_true, ite_false, if_true, if_false, ite_self, and_self, and_true, true_and, and_false, false_and, or_self, or_true, true_or, or_false, false_or, not_true_eq_false, not_false_eq_true]
      · rw [if_neg (fun z => q1 z.1)]
        simp (disch := omega) only [↓bd_e, ↓jn_e, ↓opt_bind, ↓reduceIte, iLeT, iLeF, iLtT, iLtF, iEqT, iEqF, il_0, il_1, il_2, il_3, il_4, il_5, il_6, il_7, il_8, il_9, il_10, il_11, il_12, il_13, il_14, il_15, il_16, il_18, il_20, il_24, il_32, il_35, il_40, il_44, il_47, il_48, il_56, il_57, il_58, il_59, il_63, il_64, il_72, il_100, il_120, il_126, il_127, il_160, il_192, il_255, il_349, il_1748, il_6992, iI_add, iI_sub, iI_mul, iI_neg, iI_le, iI_lt, iI_eq, rd_lA, wr_lA, rd_lR, wr_lR, ite_iI, max_iI, min_iI, rem_iI, div_iI, ite_true, ite_false, if_true, if_false, ite_self, and_self, and_true, true_and, and_false, false_and, or_self, or_true, true_or, or_false, false_or, not_true_eq_false, not_false_eq_true]
    by_cases hpl : 0 ≤ V (20 + 72 * i + 3)
    · obtain ⟨⟨o4, o2⟩, -⟩ := hgeo.1 i h1.1 h1.2 hpl
      rw [if_pos ⟨o2, o4⟩] at ho
      rw [if_pos ⟨h1.2, hpl⟩] at r8
      obtain ⟨K0, K1, K2, K3, K4, e1, e2, e3⟩ := c_record gs g2 (l := l) (p := p) (by omega) (by omega) H0 H1 H2 H3 H4
      obtain ⟨P', e4, e5, e6⟩ := m_notes (V := V) (P := P) (p := p) (by omega)
      obtain ⟨hgd, hct⟩ := vU_good g1 k2 h1
      have hsr := sR_U gi g2 h1
      obtain ⟨go', gs', gi', gp', gg'⟩ := id hgd
      have hV0 : uI V (20 + 72 * i + 3) (-1) 0 = V 0 := uI_ne (by omega)
      have hV13 : uI V (20 + 72 * i + 3) (-1) 13 = V 13 := uI_ne (by omega)
      have hd' : ∀ j, 0 ≤ j → j < V 0 → vDd c' d j := fun j j0 j1 => vDd_cEq hcc j0 j1 (cat_r gi g3 j j0 j1).1.1 (g4 j j0 j1)
      obtain ⟨w, hh', F, n', K', s1, s2, s3⟩ := c_survey gs' gi' (vCat_bl gi' hct) gp' (gg' c' hct) hsr (fun j j0 j1 => by obtain ⟨-, -, q2, q3, -⟩ := hd' j j0 (by omega); exact ⟨q2, q3⟩) (p := V (20 + 72 * i + 3)) (by omega) fr K N
      refine ⟨iI (V (20 + 72 * i + 3)), uI V (20 + 72 * i + 3) (-1), c', c', updC S 8 (lA (uI (sA S 8) i (-4))), K0, K1, K2, K3, K4, P', K', uI N (V (20 + 72 * i + 3)) n', (l + 1) % 5, min (p + 1) 5, w, hh', F, bx', bY', ?_, ?_, ⟨hgd, hsr, hct, fun j j0 j1 => hd' j j0 (by omega), hR_step g1 g2 g5 e2 e3 e5 e6⟩, ?_⟩
      · have rd8 : ∀ (k : Int32 → Option (Int32 × (Nat → Nat → Int32) × Int32 × Int32 × (Nat → Int64) × (Nat → Int32) × (Nat → Int32) × Int32 × Int32 × (Nat → Nat → Int32) × (Nat → Nat → Int32) × (Nat → Nat → Int32) × (Nat → Nat → Int32) × (Nat → Nat → Int32))), g_rd (S 8) 24 (iI i) k = k (iI (V (20 + 72 * i + 3))) := fun k => by rw [sA_lA S 8, rd_lA _ _ (by omega) (by omega) (by omega), r8]
        have w8 : ∀ (k : (Nat → Int32) → Option (Int32 × (Nat → Nat → Int32) × Int32 × Int32 × (Nat → Int64) × (Nat → Int32) × (Nat → Int32) × Int32 × Int32 × (Nat → Nat → Int32) × (Nat → Nat → Int32) × (Nat → Nat → Int32) × (Nat → Nat → Int32) × (Nat → Nat → Int32))), g_wr (S 8) 24 (iI i) (iI (-4)) k = k (lA (uI (sA S 8) i (-4))) := fun k => by rw [sA_lA S 8, wr_lA _ _ (by omega) (by omega) (by omega)]
        rw [if_neg (by decide +kernel : ¬ iI 1 = (0 : Int32)), rd8, show (-4 : Int32) = iI (-4) by decide +kernel, if_neg (by rw [iI_eq (by omega) (by omega) (by omega) (by omega)]; omega), e1, opt_bind, w8, s1, opt_bind]
      · rw [opt_bind, if_neg (by decide +kernel : ¬ iI 1 = (0 : Int32)), k1, opt_bind]
        simp (disch := omega) only [↓bd_e, ↓jn_e, ↓opt_bind, ↓reduceIte, iLeT, iLeF, iLtT, iLtF, iEqT, iEqF, il_0, il_1, il_2, il_3, il_4, il_5, il_6, il_7, il_8, il_9, il_10, il_11, il_12, il_13, il_14, il_15, il_16, il_18, il_20, il_24, il_32, il_35, il_40, il_44, il_47, il_48, il_56, il_57, il_58, il_59, il_63, il_64, il_72, il_100, il_120, il_126, il_127, il_160, il_192, il_255, il_349, il_1748, il_6992, iI_add, iI_sub, iI_mul, iI_neg, iI_le, iI_lt, iI_eq, rd_lA, wr_lA, rd_lR, wr_lR, ite_iI, max_iI, min_iI, rem_iI, div_iI, ite_true, ite_false, if_true, if_false, ite_self, and_self, and_true, true_and, and_false, false_and, or_self, or_true, true_or, or_false, false_or, not_true_eq_false, not_false_eq_true, ho, e4, show (-1 : Int32) = iI (-1) by decide +kernel]
      · intro q q0 q1
        rw [hV13] at q1
        obtain ⟨-, -, fw, fh⟩ := vU_bx (V := V) h1.1 c' 0 0
        by_cases e : q = V (20 + 72 * i + 3)
        · rw [e, uI_self]
          exact s2
        · have hq := spI_cEq hcc hsp q q0 q1
          have hb' : blk (uI V (20 + 72 * i + 3) (-1)) c' q = blk V c' q := by
            funext u
            funext v
            refine propext ⟨?_, ?_⟩
            · rintro ⟨s, ⟨s0, s1, s2⟩, z⟩
              have hne : s ≠ i := fun z => by rw [z, uI_self] at s2; omega
              rw [hV0] at s1
              rw [(vU_bx (V := V) h1.1 c' s _).1, (vU_bx (V := V) h1.1 c' s _).2.1, uI_ne (by omega), uI_ne (by omega), uI_ne (by omega)] at z
              rw [uI_ne (by omega)] at s2
              exact ⟨s, ⟨s0, s1, s2⟩, z⟩
            · rintro ⟨s, ⟨s0, s1, s2⟩, z⟩
              have hne : s ≠ i := fun z => e (by rw [← z]; exact s2.symm)
              refine ⟨s, ⟨s0, by rw [hV0]; exact s1, by rw [uI_ne (by omega)]; exact s2⟩, ?_⟩
              rw [(vU_bx (V := V) h1.1 c' s _).1, (vU_bx (V := V) h1.1 c' s _).2.1, uI_ne (by omega), uI_ne (by omega), uI_ne (by omega)]
              exact z
          rw [uI_ne e, fw, fh, hb']
          have hq349 : N q ≤ 349 := mx_count gs gi (vCat_bl gi k2) hgeo q0 hq (fun z hz => hz)
          refine ⟨hq.1, fun j k j0 jk k1 => ?_, fun k k0 k1 => ?_, fun z hz => ?_⟩
          · show K' (q * 349 + j) < K' (q * 349 + k)
            rw [s3 _ (by omega), s3 _ (by omega)]
            exact hq.2.1 j k j0 jk k1
          · show rS _ (K' (q * 349 + k))
            rw [s3 _ (by omega)]
            exact hq.2.2.1 k k0 k1
          · obtain ⟨k, k0, k1, k2⟩ := hq.2.2.2 z hz
            refine ⟨k, k0, k1, ?_⟩
            show K' (q * 349 + k) = z
            rw [s3 _ (by omega)]
            exact k2
    · rw [if_neg (by omega)] at r8
      refine ⟨iI (-3), V, c, c', S, H0, H1, H2, H3, H4, P, K, N, l, p, spW, spH, fr, bx', bY', ?_, ?_, h, hsp⟩
      · rw [if_neg (by decide +kernel : ¬ iI 1 = (0 : Int32)), sA_lA S 8, rd_lA _ _ (by omega) (by omega) (by omega), r8, if_pos (by decide +kernel)]
        rw [show (-3 : Int32) = iI (-3) by decide +kernel]
      · rw [opt_bind, if_neg (by decide +kernel : ¬ iI 1 = (0 : Int32)), k1, opt_bind]
        by_cases hor : 0 < c' 2 i ∧ c' 4 i = -1
        · rw [if_pos hor] at ho
          simp (disch := omega) only [↓bd_e, ↓jn_e, ↓opt_bind, ↓reduceIte, iLeT, iLeF, iLtT, iLtF, iEqT, iEqF, il_0, il_1, il_2, il_3, il_4, il_5, il_6, il_7, il_8, il_9, il_10, il_11, il_12, il_13, il_14, il_15, il_16, il_18, il_20, il_24, il_32, il_35, il_40, il_44, il_47, il_48, il_56, il_57, il_58, il_59, il_63, il_64, il_72, il_100, il_120, il_126, il_127, il_160, il_192, il_255, il_349, il_1748, il_6992, iI_add, iI_sub, iI_mul, iI_neg, iI_le, iI_lt, iI_eq, rd_lA, wr_lA, rd_lR, wr_lR, ite_iI, max_iI, min_iI, rem_iI, div_iI, ite_true, ite_false, if_true, if_false, ite_self, and_self, and_true, true_and, and_false, false_and, or_self, or_true, true_or, or_false, false_or, not_true_eq_false, not_false_eq_true, ho, show (-3 : Int32) = iI (-3) by decide +kernel]
        · rw [if_neg hor] at ho
          simp (disch := omega) only [↓bd_e, ↓jn_e, ↓opt_bind, ↓reduceIte, iLeT, iLeF, iLtT, iLtF, iEqT, iEqF, il_0, il_1, il_2, il_3, il_4, il_5, il_6, il_7, il_8, il_9, il_10, il_11, il_12, il_13, il_14, il_15, il_16, il_18, il_20, il_24, il_32, il_35, il_40, il_44, il_47, il_48, il_56, il_57, il_58, il_59, il_63, il_64, il_72, il_100, il_120, il_126, il_127, il_160, il_192, il_255, il_349, il_1748, il_6992, iI_add, iI_sub, iI_mul, iI_neg, iI_le, iI_lt, iI_eq, rd_lA, wr_lA, rd_lR, wr_lR, ite_iI, max_iI, min_iI, rem_iI, div_iI, ite_true, ite_false, if_true, if_false, ite_self, and_self, and_true, true_and, and_false, false_and, or_self, or_true, true_or, or_false, false_or, not_true_eq_false, not_false_eq_true, ho, show (-3 : Int32) = iI (-3) by decide +kernel]
  · rw [if_neg h1]
    exact ⟨iI (-1), V, c, cm, S, H0, H1, H2, H3, H4, P, K, N, l, p, spW, spH, fr, bx, bY, by rw [if_pos (by decide +kernel), show (-1 : Int32) = iI (-1) by decide +kernel], by rw [opt_bind, if_pos (by decide +kernel), show (-1 : Int32) = iI (-1) by decide +kernel], h, hsp⟩
