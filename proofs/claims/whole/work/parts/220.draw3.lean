theorem mkS_self {S : Nat → Nat → Int32} {n : Int} (h : S 0 0 = iI n) : mkS S n (sA S 1) (sA S 2) (sA S 3) (sW S) = S := by
  funext k
  unfold mkS
  rw [← sA_lA S 1, ← sA_lA S 2, ← sA_lA S 3, ← sW_lR S]
  unfold updC
  by_cases h4 : k = 4
  · rw [if_pos h4, h4]
  · rw [if_neg h4]
    by_cases h3 : k = 3
    · rw [if_pos h3, h3]
    · rw [if_neg h3]
      by_cases h2 : k = 2
      · rw [if_pos h2, h2]
      · rw [if_neg h2]
        by_cases h1 : k = 1
        · rw [if_pos h1, h1]
        · rw [if_neg h1]
          by_cases h0 : k = 0
          · rw [if_pos h0, h0]
            funext j
            unfold upd
            by_cases hj : j = 0
            · rw [if_pos hj, hj, h]
            · rw [if_neg hj]
          · rw [if_neg h0]
theorem vMo_set {V V' : Int → Int} (h : vMo V V') (hs : vSet V) : vSet V' := by
  obtain ⟨-, b, -⟩ := h
  unfold vSet at hs ⊢
  rw [b 1 (by omega) (by omega), b 2 (by omega) (by omega), b 3 (by omega) (by omega), b 4 (by omega) (by omega), b 5 (by omega) (by omega), b 6 (by omega) (by omega), b 7 (by omega) (by omega), b 8 (by omega) (by omega), b 9 (by omega) (by omega), b 10 (by omega) (by omega), b 11 (by omega) (by omega), b 12 (by omega) (by omega)]
  exact hs
theorem vMo_ia {V V' : Int → Int} (h : vMo V V') : vIA (V 0) V' V := by
  obtain ⟨a, b, c, d⟩ := h
  refine ⟨⟨b 7 (by omega) (by omega), b 8 (by omega) (by omega)⟩, fun s s0 s1 => ⟨c s 0 s0 s1 (by omega) (by omega), c s 1 s0 s1 (by omega) (by omega), fun x y x0 x1 y0 y1 => ?_⟩⟩
  have := c s (8 + 8 * y + x) s0 s1 (by omega) (by omega)
  rw [show 20 + 72 * s + 8 + 8 * y + x = 20 + 72 * s + (8 + 8 * y + x) by omega]
  exact this
theorem vMo_cat {V V' : Int → Int} {c' : Nat → Int → Int} (h : vMo V V') (hs : vSet V) (hi : vImg V) (hi' : vImg V') (hc : vCat V' c') : vCat V c' := by
  have h1 := vMo_ia h
  have h8 : 0 ≤ V' 8 ∧ V' 8 ≤ 3 := by rw [h1.1.2]; unfold vSet at hs; omega
  exact vCatN_cong hi' h.1 hi (Int.le_refl _) h8 h1 hc
theorem vMo_good {V V' : Int → Int} (h : vMo V V') (hg : vGood V) (ho : vOut V') (hi : vImg V') : vGood V' := by
  obtain ⟨g0, g1, g2, g3, g4⟩ := hg
  have hm := h
  obtain ⟨a, b, c, d⟩ := h
  refine ⟨ho, vMo_set hm g1, hi, ⟨by rw [b 13 (by omega) (by omega), b 3 (by omega) (by omega)]; exact g3.1, fun s s0 s1 => ?_, fun q q0 q1 => by rw [b _ (by omega) (by omega)]; exact g3.2.2 q q0 q1⟩, fun c' hc' => ?_⟩
  · rw [b 13 (by omega) (by omega)]
    by_cases e : s < V 0
    · rw [c s 3 s0 e (by omega) (by omega)]
      exact g3.2.1 s s0 e
    · rw [(d s (by omega) s1).1]
      have := g3.1
      omega
  · obtain ⟨q1, q2⟩ := g4 c' (vMo_cat hm g1 g2 hi hc')
    have hbw : ∀ j t, bxW V' c' j t = bxW V c' j t := fun j t => by unfold bxW; rw [b 6 (by omega) (by omega), b 4 (by omega) (by omega)]
    have hbh : ∀ j t, bxH V' c' j t = bxH V c' j t := fun j t => by unfold bxH; rw [b 6 (by omega) (by omega), b 4 (by omega) (by omega)]
    have hfw : fldW V' = fldW V := by unfold fldW; rw [b 1 (by omega) (by omega), b 5 (by omega) (by omega), b 4 (by omega) (by omega)]
    have hfh : fldH V' = fldH V := by unfold fldH; rw [b 2 (by omega) (by omega), b 5 (by omega) (by omega), b 4 (by omega) (by omega)]
    have hpl : ∀ s, 0 ≤ s → s < V' 0 → 0 ≤ V' (20 + 72 * s + 3) → s < V 0 := fun s s0 s1 s2 => by
      apply Classical.byContradiction
      intro e
      rw [(d s (by omega) s1).1] at s2
      omega
    refine ⟨fun s s0 s1 s2 => ?_, fun s s' s0 s1 s2 s3 s4 => ?_⟩
    · have e := hpl s s0 s1 s2
      rw [c s 3 s0 e (by omega) (by omega)] at s2
      rw [hbw, hbh, hfw, hfh, c s 4 s0 e (by omega) (by omega), c s 5 s0 e (by omega) (by omega), c s 6 s0 e (by omega) (by omega)]
      exact q1 s s0 e s2
    · have e := hpl s s0 (by omega) s3
      have e' := hpl s' (by omega) s2 (by omega)
      rw [c s 3 s0 e (by omega) (by omega)] at s3
      rw [c s 3 s0 e (by omega) (by omega), c s' 3 (by omega) e' (by omega) (by omega)] at s4
      rw [hbw, hbh, hbw, hbh, c s 4 s0 e (by omega) (by omega), c s 5 s0 e (by omega) (by omega), c s 6 s0 e (by omega) (by omega), c s' 4 (by omega) e' (by omega) (by omega), c s' 5 (by omega) e' (by omega) (by omega), c s' 6 (by omega) e' (by omega) (by omega)]
      exact q2 s s' s0 s1 e' s3 s4
theorem vMo_sR {V V' : Int → Int} {S : Nat → Nat → Int32} (h : vMo V V') (hp : vPlc V) (hr : sR V S) {W H G : Int → Int} {R : Int → Int32} (hw : vImg V') (hs : shR V' W H G R) : sR V' (mkS S (V' 0) W H G R) := by
  obtain ⟨⟨a1, a2⟩, a3, a4, a5, a6, a7⟩ := hr
  obtain ⟨a, b, c, d⟩ := h
  refine ⟨⟨rfl, by rw [b 13 (by omega) (by omega)]; exact a2⟩, fun k hk => by rw [b (1 + k) (by omega) (by omega)]; exact a3 k hk, fun s s0 s1 => ?_, fun q q0 q1 => by rw [b (14 + q) (by omega) (by omega)]; exact a5 q q0 q1, fun s s0 s1 => ?_, a7⟩
  · obtain ⟨b1, b2, b3, b4⟩ := hs s s0 s1
    have hi := hw.2.1 s s0 s1
    have hl : ∀ (B : Int → Int) (w : Int), B s = w → -2147483648 ≤ w → w < 2147483648 → (lA B s.toNat).toInt = w := fun B w e w0 w1 => by rw [lA_at _ s0, e, iI_toInt w0 w1]
    refine ⟨hl W _ b1 (by omega) (by omega), hl H _ b2 (by omega) (by omega), hl G _ b3 (by omega) (by omega), fun x y x0 x1 y0 y1 => ?_, fun hp => ?_⟩
    · rw [← b4 x y x0 x1 y0 y1]
      show nib (R ((s * 8 + y).toNat : Int)) x = _
      rw [Int.toNat_of_nonneg (by omega)]
    · by_cases e : s < V 0
      · rw [c s 3 s0 e (by omega) (by omega)] at hp
        rw [c s 4 s0 e (by omega) (by omega), c s 5 s0 e (by omega) (by omega), c s 6 s0 e (by omega) (by omega)]
        exact (a4 s s0 e).2.2.2.2 hp
      · exfalso
        rw [(d s (by omega) s1).1] at hp
        omega
  · show sA S 8 s = _
    rw [a6 s s0 s1]
    by_cases e : s < V 0
    · rw [c s 3 s0 e (by omega) (by omega)]
      by_cases e2 : 0 ≤ V (20 + 72 * s + 3)
      · rw [if_pos ⟨e, e2⟩, if_pos ⟨by omega, e2⟩]
      · rw [if_neg (by omega), if_neg (by omega)]
    · rw [if_neg (by omega)]
      by_cases e3 : s < V' 0
      · rw [(d s (by omega) e3).1, if_neg (by omega)]
      · rw [if_neg (by omega)]
/-- sprites were added on both sides -/
theorem x_more {V V' : Int → Int} {c : Nat → Int → Int} {S : Nat → Nat → Int32} {d : Nat → Int → Int} {l p : Int} {H0 H1 H2 H3 H4 : Nat → Nat → Int32} {P : Int → Int} (h : stI V c S d l p (hF H0 H1 H2 H3 H4) P) (hm : vMo V V') (hi : vImg V') (ho : vOut V') {W H G : Int → Int} {R : Int → Int32} (hs : shR V' W H G R) :
    ∃ c' d', f_X0_study (lA (d 0)) (lA (d 1)) (lA (d 2)) (lA (d 3)) (lA (d 4)) (lA (d 5)) (iI (V' 0)) (lA W) (lA H) (lR R) (S 5 6) (S 5 7) = some (lA (d' 0), lA (d' 1), lA (d' 2), lA (d' 3), lA (d' 4), lA (d' 5)) ∧ vCat V' c' ∧ (∀ j, 0 ≤ j → j < V' 0 → vDd c' d' j) ∧ vGood V' ∧ sR V' (mkS S (V' 0) W H G R) ∧ cEq (V 0) c c' := by
  obtain ⟨g, gr, gc, gd, gh⟩ := h
  have hg' := vMo_good hm g ho hi
  have hr' := vMo_sR hm g.2.2.2.1 gr hi hs
  obtain ⟨c', d', e1, e2, e3⟩ := c_studyS hg'.2.1 hi (sR_2 hr') d
  exact ⟨c', d', e1, e2, e3, hg', hr', vCat_uniq gc (vMo_cat hm g.2.1 g.2.2.1 hi e2)⟩
theorem sh_self {V : Int → Int} {S : Nat → Nat → Int32} (hr : sR V S) : shR V (sA S 1) (sA S 2) (sA S 3) (sW S) := fun s s0 s1 => (sR_2 hr).2.2.1 s s0 s1
theorem x_draw {V : Int → Int} {c : Nat → Int → Int} {S : Nat → Nat → Int32} {d : Nat → Int → Int} {l p : Int} {H0 H1 H2 H3 H4 : Nat → Nat → Int32} {P : Int → Int} (h : stI V c S d l p (hF H0 H1 H2 H3 H4) P) (rnd st0 : Int64) (z m : Int) (hz : -2147483648 ≤ z ∧ z < 2147483648) (hm : -2147483648 ≤ m ∧ m < 2147483648) :
    ∃ a V' c' S' d' l' p' K0 K1 K2 K3 K4 P' rnd' st', f_X10_draw rnd S (lA (d 0)) (lA (d 1)) (lA (d 2)) (lA (d 3)) (lA (d 4)) (lA (d 5)) (iI l) (iI p) H0 H1 H2 H3 H4 (iI z) (iI m) = some (a, rnd', S', lA (d' 0), lA (d' 1), lA (d' 2), lA (d' 3), lA (d' 4), lA (d' 5), iI l', iI p', K0, K1, K2, K3, K4) ∧
      f_X11_draw (iI p) st0 (lA V) (lA P) (iI z) (iI m) = some (a, iI p', st', lA V', lA P') ∧ stI V' c' S' d' l' p' (hF K0 K1 K2 K3 K4) P' ∧ vMo V V' ∧ cEq (V 0) c c' := by
  obtain ⟨⟨g0, g1, g2, g3, g4⟩, gr, gc, gd, gh⟩ := id h
  have e0 := gr.1.1
  have hw := within_iI (a := m) (b := 1) (c := 8) (by omega) (by omega) (by omega) (by omega) (by omega) (by omega)
  have hw' := in_iI (a := m) (b := 1) (c := 8) (by omega) (by omega) (by omega) (by omega) (by omega) (by omega)
  have hn := g2.1
  have hce : cEq (V 0) c c := fun s _ _ => ⟨rfl, rfl, fun _ => ⟨rfl, rfl⟩, rfl, fun _ => rfl⟩
  unfold f_X10_draw f_X11_draw
  by_cases hz0 : z < 0
  · exact ⟨iI (-1), V, c, S, d, l, p, H0, H1, H2, H3, H4, P, rnd, st0, by simp (disch := omega) only [↓bd_e, ↓jn_e, ↓opt_bind, ↓reduceIte, iLeT, iLeF, iLtT, iLtF, iEqT, iEqF, il_0, il_1, il_2, il_3, il_4, il_5, il_6, il_7, il_8, il_9, il_10, il_11, il_12, il_13, il_14, il_15, il_16, il_18, il_20, il_24, il_32, il_35, il_40, il_44, il_47, il_48, il_56, il_57, il_58, il_59, il_63, il_64, il_72, il_100, il_120, il_126, il_127, il_160, il_192, il_255, il_349, il_1748, il_6992, iI_add, iI_sub, iI_mul, iI_neg, iI_le, iI_lt, iI_eq, rd_lA, wr_lA, rd_lR, wr_lR, ite_iI, max_iI, min_iI, rem_iI, div_iI, ite_true, ite_false, if_true, if_false, ite_self, and_self, and_true, true_and, and_false, false_and, or_self, or_true, true_or, or_false, false_or, not_true_eq_false, not_false_eq_true], by simp (disch := omega) only [↓bd_e, ↓jn_e, ↓opt_bind, ↓reduceIte, iLeT, iLeF, iLtT, iLtF, iEqT, iEqF, il_0, il_1, il_2, il_3, il_4, il_5, il_6, il_7, il_8, il_9, il_10, il_11, il_12, il_13, il_14, il_15, il_16, il_18, il_20, il_24, il_32, il_35, il_40, il_44, il_47, il_48, il_56, il_57, il_58, il_59, il_63, il_64, il_72, il_100, il_120, il_126, il_127, il_160, il_192, il_255, il_349, il_1748, il_6992, iI_add, iI_sub, iI_mul, iI_neg, iI_le, iI_lt, iI_eq, rd_lA, wr_lA, rd_lR, wr_lR, ite_iI, max_iI, min_iI, rem_iI, div_iI, ite_true, ite_false, if_true, if_false, ite_self, and_self, and_true, true_and, and_false, false_and, or_self, or_true, true_or, or_false, false_or, not_true_eq_false, not_false_eq_true], h, vMo_rf V, hce⟩
  · by_cases hm1 : 1 ≤ m ∧ m ≤ 8
    · rw [if_pos hm1] at hw hw'
      by_cases hf : V 0 + m ≤ 24
      · have gh' := gh.1
        obtain ⟨K0, K1, K2, K3, K4, e1, e2, e3⟩ := c_record g1 gr (l := l) (p := p) (by omega) (by omega) H0 H1 H2 H3 H4
        obtain ⟨P', e4, e5, e6⟩ := m_notes (V := V) (P := P) (p := p) (by omega)
        have hzL : (iI z).toInt64 = iL z := iI_L (by omega) (by omega)
        rw [e0]
        simp (disch := omega) only [↓bd_e, ↓jn_e, ↓opt_bind, ↓reduceIte, iLeT, iLeF, iLtT, iLtF, iEqT, iEqF, il_0, il_1, il_2, il_3, il_4, il_5, il_6, il_7, il_8, il_9, il_10, il_11, il_12, il_13, il_14, il_15, il_16, il_18, il_20, il_24, il_32, il_35, il_40, il_44, il_47, il_48, il_56, il_57, il_58, il_59, il_63, il_64, il_72, il_100, il_120, il_126, il_127, il_160, il_192, il_255, il_349, il_1748, il_6992, iI_add, iI_sub, iI_mul, iI_neg, iI_le, iI_lt, iI_eq, rd_lA, wr_lA, rd_lR, wr_lR, ite_iI, max_iI, min_iI, rem_iI, div_iI, ite_true, ite_false, if_true, if_false, ite_self, and_self, and_true, true_and, and_false, false_and, or_self, or_true, true_or, or_false, false_or, not_true_eq_false, not_false_eq_true, hw, hw', e1, e4, hzL]
        obtain ⟨fu, hfu, hfu2⟩ := fuel_ex
        rw [hfu]
        have key := x_drawAll (V0 := V) (by omega) hm1 hf (fun q => ∃ a V' c' S' d' l' p' K0 K1 K2 K3 K4 P' rnd' st', q.1 = some (a, rnd', S', lA (d' 0), lA (d' 1), lA (d' 2), lA (d' 3), lA (d' 4), lA (d' 5), iI l', iI p', K0, K1, K2, K3, K4) ∧ q.2 = some (a, iI p', st', lA V', lA P') ∧ stI V' c' S' d' l' p' (hF K0 K1 K2 K3 K4) P' ∧ vMo V V' ∧ cEq (V 0) c c') S
          (fun x3 S4 => (f_X0_study (lA (d 0)) (lA (d 1)) (lA (d 2)) (lA (d 3)) (lA (d 4)) (lA (d 5)) (S4 0 0) (S4 1) (S4 2) (S4 4) (S 5 6) (S 5 7)).bind fun r6 => some ((S4 0 0), x3, (updC (updC (updC (updC (updC S 0 (upd (S 0) 0 (S4 0 0))) 1 (S4 1)) 2 (S4 2)) 3 (S4 3)) 4 (S4 4)), r6.1, r6.2.1, r6.2.2.1, r6.2.2.2.1, r6.2.2.2.2.1, r6.2.2.2.2.2, iI ((l + 1) % 5), iI (min (p + 1) 5), K0, K1, K2, K3, K4))
          (fun x4 f5 => g_rd f5 1748 (iI 0) fun x7 => some (x7, iI (min (p + 1) 5), x4, f5, lA P')) ?_ fu (by omega) (z := z) (W := sA S 1) (H := sA S 2) (G := sA S 3) (R := sW S) ⟨by omega, g2, g0, sh_self gr, vMo_rf V⟩
        · rw [mkS_self e0] at key
          exact key
        · intro z' V' W H G R' hI
          obtain ⟨i1, i2, i3, i4, i5⟩ := hI
          obtain ⟨c', d', q1, q2, q3, q4, q5, q6⟩ := x_more h i5 i2 i3 i4
          refine ⟨iI (V' 0), V', c', mkS S (V' 0) W H G R', d', _, _, K0, K1, K2, K3, K4, P', iL z', iL z', ?_, ?_, ⟨q4, q5, q2, q3, hR_step h.1 gr gh e2 e3 e5 e6⟩, i5, q6⟩
          · simp (disch := omega) only [↓bd_e, ↓jn_e, ↓opt_bind, ↓reduceIte, iLeT, iLeF, iLtT, iLtF, iEqT, iEqF, il_0, il_1, il_2, il_3, il_4, il_5, il_6, il_7, il_8, il_9, il_10, il_11, il_12, il_13, il_14, il_15, il_16, il_18, il_20, il_24, il_32, il_35, il_40, il_44, il_47, il_48, il_56, il_57, il_58, il_59, il_63, il_64, il_72, il_100, il_120, il_126, il_127, il_160, il_192, il_255, il_349, il_1748, il_6992, iI_add, iI_sub, iI_mul, iI_neg, iI_le, iI_lt, iI_eq, rd_lA, wr_lA, rd_lR, wr_lR, ite_iI, max_iI, min_iI, rem_iI, div_iI, ite_true, ite_false, if_true, if_false, ite_self, and_self, and_true, true_and, and_false, false_and, or_self, or_true, true_or, or_false, false_or, not_true_eq_false, not_false_eq_true, mkS_4, mkS_3, mkS_2, mkS_1, mkS_0, mkS_f, q1]
          · simp (disch := omega) only [↓bd_e, ↓jn_e, ↓opt_bind, ↓reduceIte, iLeT, iLeF, iLtT, iLtF, iEqT, iEqF, il_0, il_1, il_2, il_3, il_4, il_5, il_6, il_7, il_8, il_9, il_10, il_11, il_12, il_13, il_14, il_15, il_16, il_18, il_20, il_24, il_32, il_35, il_40, il_44, il_47, il_48, il_56, il_57, il_58, il_59, il_63, il_64, il_72, il_100, il_120, il_126, il_127, il_160, il_192, il_255, il_349, il_1748, il_6992, iI_add, iI_sub, iI_mul, iI_neg, iI_le, iI_lt, iI_eq, rd_lA, wr_lA, rd_lR, wr_lR, ite_iI, max_iI, min_iI, rem_iI, div_iI, ite_true, ite_false, if_true, if_false, ite_self, and_self, and_true, true_and, and_false, false_and, or_self, or_true, true_or, or_false, false_or, not_true_eq_false, not_false_eq_true]
      · refine ⟨iI (-2), V, c, S, d, l, p, H0, H1, H2, H3, H4, P, rnd, st0, ?_, ?_, h, vMo_rf V, hce⟩
        · rw [e0]
          simp (disch := omega) only [↓bd_e, ↓jn_e, ↓opt_bind, ↓reduceIte, iLeT, iLeF, iLtT, iLtF, iEqT, iEqF, il_0, il_1, il_2, il_3, il_4, il_5, il_6, il_7, il_8, il_9, il_10, il_11, il_12, il_13, il_14, il_15, il_16, il_18, il_20, il_24, il_32, il_35, il_40, il_44, il_47, il_48, il_56, il_57, il_58, il_59, il_63, il_64, il_72, il_100, il_120, il_126, il_127, il_160, il_192, il_255, il_349, il_1748, il_6992, iI_add, iI_sub, iI_mul, iI_neg, iI_le, iI_lt, iI_eq, rd_lA, wr_lA, rd_lR, wr_lR, ite_iI, max_iI, min_iI, rem_iI, div_iI, ite_true, ite_false, if_true, if_false, ite_self, and_self, and_true, true_and, and_false, false_and, or_self, or_true, true_or, or_false, false_or, not_true_eq_false, not_false_eq_true, hw]
        · simp (disch := omega) only [↓bd_e, ↓jn_e, ↓opt_bind, ↓reduceIte, iLeT, iLeF, iLtT, iLtF, iEqT, iEqF, il_0, il_1, il_2, il_3, il_4, il_5, il_6, il_7, il_8, il_9, il_10, il_11, il_12, il_13, il_14, il_15, il_16, il_18, il_20, il_24, il_32, il_35, il_40, il_44, il_47, il_48, il_56, il_57, il_58, il_59, il_63, il_64, il_72, il_100, il_120, il_126, il_127, il_160, il_192, il_255, il_349, il_1748, il_6992, iI_add, iI_sub, iI_mul, iI_neg, iI_le, iI_lt, iI_eq, rd_lA, wr_lA, rd_lR, wr_lR, ite_iI, max_iI, min_iI, rem_iI, div_iI, ite_true, ite_false, if_true, if_false, ite_self, and_self, and_true, true_and, and_false, false_and, or_self, or_true, true_or, or_false, false_or, not_true_eq_false, not_false_eq_true, hw']
    · rw [if_neg hm1] at hw hw'
      exact ⟨iI (-1), V, c, S, d, l, p, H0, H1, H2, H3, H4, P, rnd, st0, by simp (disch := omega) only [↓bd_e, ↓jn_e, ↓opt_bind, ↓reduceIte, iLeT, iLeF, iLtT, iLtF, iEqT, iEqF, il_0, il_1, il_2, il_3, il_4, il_5, il_6, il_7, il_8, il_9, il_10, il_11, il_12, il_13, il_14, il_15, il_16, il_18, il_20, il_24, il_32, il_35, il_40, il_44, il_47, il_48, il_56, il_57, il_58, il_59, il_63, il_64, il_72, il_100, il_120, il_126, il_127, il_160, il_192, il_255, il_349, il_1748, il_6992, iI_add, iI_sub, iI_mul, iI_neg, iI_le, iI_lt, iI_eq, rd_lA, wr_lA, rd_lR, wr_lR, ite_iI, max_iI, min_iI, rem_iI, div_iI, ite_true, ite_false, if_true, if_false, ite_self, and_self, and_true, true_and, and_false, false_and, or_self, or_true, true_or, or_false, false_or, not_true_eq_false, not_false_eq_true, hw], by simp (disch := omega) only [↓bd_e, ↓jn_e, ↓opt_bind, ↓reduceIte, iLeT, iLeF, iLtT, iLtF, iEqT, iEqF, il_0, il_1, il_2, il_3, il_4, il_5, il_6, il_7, il_8, il_9, il_10, il_11, il_12, il_13, il_14, il_15, il_16, il_18, il_20, il_24, il_32, il_35, il_40, il_44, il_47, il_48, il_56, il_57, il_58, il_59, il_63, il_64, il_72, il_100, il_120, il_126, il_127, il_160, il_192, il_255, il_349, il_1748, il_6992, iI_add, iI_sub, iI_mul, iI_neg, iI_le, iI_lt, iI_eq, rd_lA, wr_lA, rd_lR, wr_lR, ite_iI, max_iI, min_iI, rem_iI, div_iI, ite_true, ite_false, if_true, if_false, ite_self, and_self, and_true, true_and, and_false, false_and, or_self, or_true, true_or, or_false, false_or, not_true_eq_false, not_false_eq_true, hw'], h, vMo_rf V, hce⟩
