/-! what follows of the images depends on them alone -/
def vIA (n : Int) (V V' : Int → Int) : Prop := (V 7 = V' 7 ∧ V 8 = V' 8) ∧ ∀ s, 0 ≤ s → s < n → V (20 + 72 * s + 0) = V' (20 + 72 * s + 0) ∧ V (20 + 72 * s + 1) = V' (20 + 72 * s + 1) ∧ ∀ x y, 0 ≤ x → x < 8 → 0 ≤ y → y < 8 → V (20 + 72 * s + 8 + 8 * y + x) = V' (20 + 72 * s + 8 + 8 * y + x)
theorem vIA_sy {n : Int} {V V' : Int → Int} (h : vIA n V V') : vIA n V' V := by
  obtain ⟨⟨h1, h2⟩, h3⟩ := h
  refine ⟨⟨h1.symm, h2.symm⟩, fun s s0 s1 => ?_⟩
  obtain ⟨a, b, c⟩ := h3 s s0 s1
  exact ⟨a.symm, b.symm, fun x y x0 x1 y0 y1 => (c x y x0 x1 y0 y1).symm⟩
theorem vTrim_cong {n : Int} {V V' : Int → Int} (hi : vImg V) (hn : n ≤ V 0) (h : vIA n V V') {s l t w hh : Int} (s0 : 0 ≤ s) (s1 : s < n) (ht : vTrim V s l t w hh) : vTrim V' s l t w hh := by
  obtain ⟨⟨h1, h2⟩, h3⟩ := h
  obtain ⟨a, b, c⟩ := h3 s s0 s1
  have hs := hi.2.1 s s0 (by omega)
  have hz : ∀ x y, 0 ≤ x → x < V (20 + 72 * s + 0) → 0 ≤ y → y < V (20 + 72 * s + 1) → (nzp V s x y ↔ nzp V' s x y) := by
    intro x y x0 x1 y0 y1
    unfold nzp
    rw [c x y x0 (by omega) y0 (by omega), h1]
  rcases ht with ⟨e1, e2, e3⟩ | ⟨e1, e2, ⟨q1, e3, e4, e5⟩, ⟨q2, e6, e7, e8⟩, ⟨q3, e9, e10, e11⟩, ⟨q4, e12, e13, e14⟩⟩
  · exact Or.inl ⟨e1, e2, fun x y x0 x1 y0 y1 => by rw [← hz x y x0 (by omega) y0 (by omega)]; exact e3 x y x0 (by omega) y0 (by omega)⟩
  · refine Or.inr ⟨by omega, fun x y x0 x1 y0 y1 hn => e2 x y x0 (by omega) y0 (by omega) ((hz x y x0 (by omega) y0 (by omega)).mpr hn), ⟨q1, e3, by omega, (hz _ _ (by omega) (by omega) (by omega) (by omega)).mp e5⟩, ⟨q2, e6, by omega, (hz _ _ (by omega) (by omega) (by omega) (by omega)).mp e8⟩, ⟨q3, e9, by omega, (hz _ _ (by omega) (by omega) (by omega) (by omega)).mp e11⟩, ⟨q4, e12, by omega, (hz _ _ (by omega) (by omega) (by omega) (by omega)).mp e14⟩⟩
theorem vLike_cong {n : Int} {V V' : Int → Int} (h : vIA n V V') {c : Nat → Int → Int} {s o q : Int} (hq : 0 ≤ q ∧ q < 8) (s1 : s < n) (o1 : o < n) (hs : vSh V c s) (ho : vSh V c o) (hl : vLike V c s o q) : vLike V' c s o q := by
  obtain ⟨hd1, hd2, hl⟩ := hl
  refine ⟨hd1, hd2, fun x y x0 x1 y0 y1 => ?_⟩
  obtain ⟨s0, ⟨a1, a2, a3, a4, a5, a6⟩, a7, a8⟩ := hs
  obtain ⟨o0, ⟨b1, b2, b3, b4, b5, b6⟩, b7, b8⟩ := ho
  have hr := b_range (q := q) (w := c 2 o) (h := c 3 o) (x := x) (y := y) hq b1 b2 x0 (by omega) y0 (by omega)
  clear hd1 hd2
  rw [← (h.2 s s0.1 s1).2.2 _ _ (by omega) (by omega) (by omega) (by omega), ← (h.2 o o0.1 o1).2.2 _ _ (by omega) (by omega) (by omega) (by omega)]
  exact hl x y x0 x1 y0 y1
theorem vSh_cong {n : Int} {V V' : Int → Int} (h : vIA n V V') {c : Nat → Int → Int} {s : Int} (s1 : s < n) (hs : vSh V c s) : vSh V' c s := by
  obtain ⟨s0, a, b⟩ := hs
  have := h.2 s s0.1 s1
  exact ⟨s0, by omega, by omega⟩
theorem vLim_cong {n : Int} {V V' : Int → Int} (h : vIA n V V') : vLim V = vLim V' := by unfold vLim; rw [h.1.2]
theorem vCp_cong {n : Int} {V V' : Int → Int} (h8 : 0 ≤ V 8 ∧ V 8 ≤ 3) (h : vIA n V V') {c : Nat → Int → Int} {s o q : Int} (s1 : s < n) (hb : ∀ j, 0 ≤ j → j ≤ s → vBl V c j) (hw : 0 < c 2 s) (s0 : 0 ≤ s) (hc : vCp V c s o q) : vCp V' c s o q := by
  obtain ⟨h1, h2, h3, h4, h5, h6, h7⟩ := hc
  have hl := vLim_r h8
  exact ⟨h1, h2, h3, by rw [← vLim_cong h]; exact h4, h5, h6, vLike_cong h (by omega) s1 (by omega) ((hb s s0 (by omega)).resolve_left (by omega)) ((hb o h1 (by omega)).resolve_left (by omega)) h7⟩
theorem vBl_cong {n : Int} {V V' : Int → Int} (h : vIA n V V') {c : Nat → Int → Int} {s : Int} (s1 : s < n) (hs : vBl V c s) : vBl V' c s := hs.imp id (vSh_cong h s1)
theorem vCat_bl {V : Int → Int} {c : Nat → Int → Int} (hi : vImg V) (hc : vCat V c) : ∀ j, 0 ≤ j → j < V 0 → vBl V c j := by
  intro j j0 j1
  have := hi.1
  exact vTrim_bl (by omega) (by have := hi.2.1 j j0 j1; omega) (hc j j0 j1).1
theorem vCatN_cong {n : Int} {V V' : Int → Int} {c : Nat → Int → Int} (hi : vImg V) (hn : n ≤ V 0) (hi' : vImg V') (hn' : n ≤ V' 0) (h8 : 0 ≤ V 8 ∧ V 8 ≤ 3) (h : vIA n V V') (hc : vCat V c) : ∀ s, 0 ≤ s → s < n → vTrim V' s (c 0 s) (c 1 s) (c 2 s) (c 3 s) ∧ vOrig V' c s := by
  intro s s0 s1
  obtain ⟨t1, t2⟩ := hc s s0 (by omega)
  refine ⟨vTrim_cong hi hn h s0 s1 t1, ?_⟩
  have hb := vCat_bl hi hc
  have hb' : ∀ j, 0 ≤ j → j < n → vBl V' c j := fun j j0 j1 => vBl_cong h j1 (hb j j0 (by omega))
  have h8' : 0 ≤ V' 8 ∧ V' 8 ≤ 3 := by rw [← h.1.2]; exact h8
  have e : 0 < c 2 s → ∀ o q, vCp V c s o q ↔ vCp V' c s o q := by
    intro hw o q
    exact ⟨vCp_cong h8 h s1 (fun j j0 j1 => hb j j0 (by omega)) hw s0, vCp_cong h8' (vIA_sy h) s1 (fun j j0 j1 => hb' j j0 (by omega)) hw s0⟩
  rcases t2 with ⟨a1, a2, a3⟩ | ⟨a1, a2⟩
  · exact Or.inl ⟨a1, (e a1 _ _).mp a2, fun o q ho => a3 o q ((e a1 _ _).mpr ho)⟩
  · exact Or.inr ⟨a1, fun hw o q ho => a2 hw o q ((e hw _ _).mpr ho)⟩
theorem vCat_cong {V V' : Int → Int} {c : Nat → Int → Int} (hi : vImg V) (hi' : vImg V') (h8 : 0 ≤ V 8 ∧ V 8 ≤ 3) (h0 : V 0 = V' 0) (h : vIA (V 0) V V') (hc : vCat V c) : vCat V' c := by
  have h1 := vCatN_cong hi (Int.le_refl _) hi' (by omega) h8 h hc
  rw [h0] at h1
  exact h1
/-- V' differs of V in groups alone -/
theorem x_setGroup {V : Int → Int} {c : Nat → Int → Int} {S : Nat → Nat → Int32} {d : Nat → Int → Int} {l p : Int} {H0 H1 H2 H3 H4 : Nat → Nat → Int32} {P : Int → Int} (h : stI V c S d l p (hF H0 H1 H2 H3 H4) P) (s z : Int) (hs : -2147483648 ≤ s ∧ s < 2147483648) (hz : -2147483648 ≤ z ∧ z < 2147483648) :
    ∃ a V' S' l' p' K0 K1 K2 K3 K4 P', f_X10_setGroup S (iI l) (iI p) H0 H1 H2 H3 H4 (iI s) (iI z) = some (a, S', iI l', iI p', K0, K1, K2, K3, K4) ∧
      f_X11_setGroup (iI p) (lA V) (lA P) (iI s) (iI z) = some (a, iI p', lA V', lA P') ∧ stI V' c S' d l' p' (hF K0 K1 K2 K3 K4) P' ∧ (∀ k, k < 20 → V' k = V k) ∧ (∀ j k, 0 ≤ j → 3 ≤ k → k < 7 → V' (20 + 72 * j + k) = V (20 + 72 * j + k)) := by
  obtain ⟨⟨g0, g1, g2, g3, g4⟩, gr, gc, gd, gh⟩ := id h
  have hh := c_has (n := V 0) (s := s) g2.1 hs
  have hm := m_isSprite (V := V) (s := s) g2.1 hs
  have hn := g2.1
  unfold f_X10_setGroup f_X11_setGroup
  have hw := within_iI (a := z) (b := 0) (c := 3) (by omega) (by omega) (by omega) (by omega) (by omega) (by omega)
  have hw' := in_iI (a := z) (b := 0) (c := 3) (by omega) (by omega) (by omega) (by omega) (by omega) (by omega)
  have e0 := gr.1.1
  by_cases h1 : 0 ≤ s ∧ s < V 0
  · rw [if_pos h1] at hh hm
    by_cases hr : 0 ≤ z ∧ z ≤ 3
    · rw [if_pos hr] at hw hw'
      have gh' := gh.1
      obtain ⟨K0, K1, K2, K3, K4, e1, e2, e3⟩ := c_record g1 gr (l := l) (p := p) (by omega) (by omega) H0 H1 H2 H3 H4
      obtain ⟨P', e4, e5, e6⟩ := m_notes (V := V) (P := P) (p := p) (by omega)
      have e7 : S 3 = lA (sA S 3) := sA_lA S 3
      have e8 : sA S 3 s = V (20 + 72 * s + 2) := ((sR_2 gr).2.2.1 s h1.1 h1.2).2.2.1
      have hia : vIA (V 0) V (uI V (20 + 72 * s + 2) z) := by
        refine ⟨⟨by rw [uI_ne (by omega)], by rw [uI_ne (by omega)]⟩, fun j j0 j1 => ⟨by rw [uI_ne (by omega)], by rw [uI_ne (by omega)], fun x y x0 x1 y0 y1 => by rw [uI_ne (by omega)]⟩⟩
      have hi' : vImg (uI V (20 + 72 * s + 2) z) := by
        refine ⟨by rw [uI_ne (by omega)]; exact hn, fun j j0 j1 => ?_, fun j x y j0 j1 x0 x1 y0 y1 => ?_⟩
        · rw [uI_ne (by omega)] at j1
          have := g2.2.1 j j0 j1
          rw [uI_ne (by omega), uI_ne (by omega), uI_at]
          split <;> omega
        · rw [uI_ne (by omega)] at j1
          rw [uI_ne (by omega)]
          exact g2.2.2 j x y j0 j1 x0 x1 y0 y1
      have h8 : 0 ≤ V 8 ∧ V 8 ≤ 3 := by unfold vSet at g1; omega
      have hl : ∀ k, k < 20 → uI V (20 + 72 * s + 2) z k = V k := fun k hk => uI_ne (by omega)
      have hp : ∀ j k, 0 ≤ j → 3 ≤ k → k < 7 → uI V (20 + 72 * s + 2) z (20 + 72 * j + k) = V (20 + 72 * j + k) := fun j k j0 k0 k1 => uI_ne (by omega)
      have hgood : vGood (uI V (20 + 72 * s + 2) z) := by
        refine ⟨vOut_uI g0 (by omega), vSet_hi g1 (by omega), hi', ⟨by rw [hl _ (by omega), hl _ (by omega)]; exact g3.1, fun j j0 j1 => ?_, fun q q0 q1 => by rw [hl _ (by omega)]; exact g3.2.2 q q0 q1⟩, fun c2 hc2 => ?_⟩
        · rw [hl _ (by omega)] at j1
          rw [hp _ _ j0 (by omega) (by omega), hl 13 (by omega)]
          exact g3.2.1 j j0 j1
        · have hc3 := vCat_cong hi' g2 (by rw [hl _ (by omega)]; exact h8) (hl 0 (by omega)) (by rw [hl 0 (by omega)]; exact vIA_sy hia) hc2
          obtain ⟨q1, q2⟩ := g4 c2 hc3
          have hbw : ∀ j t, bxW (uI V (20 + 72 * s + 2) z) c2 j t = bxW V c2 j t := fun j t => by unfold bxW; rw [hl _ (by omega), hl _ (by omega)]
          have hbh : ∀ j t, bxH (uI V (20 + 72 * s + 2) z) c2 j t = bxH V c2 j t := fun j t => by unfold bxH; rw [hl _ (by omega), hl _ (by omega)]
          have hfw : fldW (uI V (20 + 72 * s + 2) z) = fldW V := by unfold fldW; rw [hl _ (by omega), hl _ (by omega), hl _ (by omega)]
          have hfh : fldH (uI V (20 + 72 * s + 2) z) = fldH V := by unfold fldH; rw [hl _ (by omega), hl _ (by omega), hl _ (by omega)]
          refine ⟨fun j j0 j1 j2 => ?_, fun j j' j0 j1 j2 j3 j4 => ?_⟩
          · rw [hl _ (by omega)] at j1
            rw [hp _ _ j0 (by omega) (by omega)] at j2
            rw [hbw, hbh, hfw, hfh, hp _ _ j0 (by omega) (by omega), hp _ _ j0 (by omega) (by omega), hp _ _ j0 (by omega) (by omega)]
            exact q1 j j0 j1 j2
          · rw [hl _ (by omega)] at j2
            rw [hp _ _ j0 (by omega) (by omega)] at j3
            rw [hp _ _ j0 (by omega) (by omega), hp _ _ (by omega : 0 ≤ j') (by omega) (by omega)] at j4
            rw [hbw, hbh, hbw, hbh, hp _ _ j0 (by omega) (by omega), hp _ _ j0 (by omega) (by omega), hp _ _ j0 (by omega) (by omega), hp _ _ (by omega : 0 ≤ j') (by omega) (by omega), hp _ _ (by omega : 0 ≤ j') (by omega) (by omega), hp _ _ (by omega : 0 ≤ j') (by omega) (by omega)]
            exact q2 j j' j0 j1 j2 j3 j4
      have hsr : sR (uI V (20 + 72 * s + 2) z) (updC S 3 (lA (uI (sA S 3) s z))) := by
        obtain ⟨⟨a1, a2⟩, a3, a4, a5, a6, a7⟩ := gr
        refine ⟨⟨by rw [hl _ (by omega)]; exact a1, by rw [hl _ (by omega)]; exact a2⟩, fun k hk => by rw [hl _ (by omega)]; exact a3 k hk, fun j j0 j1 => ?_, fun q q0 q1 => by rw [hl _ (by omega)]; exact a5 q q0 q1, fun j j0 j1 => ?_, a7⟩
        · rw [hl _ (by omega)] at j1
          obtain ⟨b1, b2, b3, b4, b5⟩ := a4 j j0 j1
          have hx := (hia.2 j j0 j1)
          have hij := g2.2.1 j j0 j1
          rw [← hx.1, ← hx.2.1]
          refine ⟨b1, b2, ?_, fun x y x0 x1 y0 y1 => ?_, ?_⟩
          · show (lA (uI (sA S 3) s z) j.toNat).toInt = _
            rw [lA_at _ j0, uI_at, uI_at]
            by_cases e : j = s
            · rw [if_pos e, if_pos (by omega), iI_toInt (by omega) (by omega)]
            · rw [if_neg e, if_neg (by omega), b3, iI_toInt (by omega) (by omega)]
          · rw [← hx.2.1] at y1
            rw [← hx.1, ← hx.2.2 x y x0 x1 y0 (by omega)]
            exact b4 x y x0 x1 y0 y1
          · rw [hp _ _ j0 (by omega) (by omega), hp _ _ j0 (by omega) (by omega), hp _ _ j0 (by omega) (by omega), hp _ _ j0 (by omega) (by omega)]
            exact b5
        · rw [hl _ (by omega), hp _ _ j0 (by omega) (by omega)]
          exact a6 j j0 j1
      refine ⟨iI (V (20 + 72 * s + 2)), uI V (20 + 72 * s + 2) z, updC S 3 (lA (uI (sA S 3) s z)), _, _, K0, K1, K2, K3, K4, P', ?_, ?_, ⟨hgood, hsr, vCat_cong g2 hi' h8 (hl 0 (by omega)).symm hia gc, fun j j0 j1 => gd j j0 (by rw [hl _ (by omega)] at j1; exact j1), hR_step h.1 gr gh e2 e3 e5 e6⟩, hl, hp⟩
      · rw [e0, e7]
        simp (disch := omega) only [↓bd_e, ↓jn_e, ↓opt_bind, ↓reduceIte, iLeT, iLeF, iLtT, iLtF, iEqT, iEqF, il_0, il_1, il_2, il_3, il_4, il_5, il_6, il_7, il_8, il_9, il_10, il_11, il_12, il_13, il_14, il_15, il_16, il_18, il_20, il_24, il_32, il_35, il_40, il_44, il_47, il_48, il_56, il_57, il_58, il_59, il_63, il_64, il_72, il_100, il_120, il_126, il_127, il_160, il_192, il_255, il_349, il_1748, il_6992, iI_add, iI_sub, iI_mul, iI_neg, iI_le, iI_lt, iI_eq, rd_lA, wr_lA, rd_lR, wr_lR, ite_iI, max_iI, min_iI, rem_iI, div_iI, ite_true, ite_false, if_true, if_false, ite_self, and_self, and_true, true_and, and_false, false_and, or_self, or_true, true_or, or_false, false_or, not_true_eq_false, not_false_eq_true, hh, hw, e1, e8]
      · simp (disch := omega) only [↓bd_e, ↓jn_e, ↓opt_bind, ↓reduceIte, iLeT, iLeF, iLtT, iLtF, iEqT, iEqF, il_0, il_1, il_2, il_3, il_4, il_5, il_6, il_7, il_8, il_9, il_10, il_11, il_12, il_13, il_14, il_15, il_16, il_18, il_20, il_24, il_32, il_35, il_40, il_44, il_47, il_48, il_56, il_57, il_58, il_59, il_63, il_64, il_72, il_100, il_120, il_126, il_127, il_160, il_192, il_255, il_349, il_1748, il_6992, iI_add, iI_sub, iI_mul, iI_neg, iI_le, iI_lt, iI_eq, rd_lA, wr_lA, rd_lR, wr_lR, ite_iI, max_iI, min_iI, rem_iI, div_iI, ite_true, ite_false, if_true, if_false, ite_self, and_self, and_true, true_and, and_false, false_and, or_self, or_true, true_or, or_false, false_or, not_true_eq_false, not_false_eq_true, hm, hw', e4, f_X11_at]
    · rw [if_neg hr] at hw hw'
      refine ⟨iI (-1), V, S, l, p, H0, H1, H2, H3, H4, P, ?_, ?_, h, fun _ _ => rfl, fun _ _ _ _ _ => rfl⟩
      · rw [e0]
        simp (disch := omega) only [↓bd_e, ↓jn_e, ↓opt_bind, ↓reduceIte, iLeT, iLeF, iLtT, iLtF, iEqT, iEqF, il_0, il_1, il_2, il_3, il_4, il_5, il_6, il_7, il_8, il_9, il_10, il_11, il_12, il_13, il_14, il_15, il_16, il_18, il_20, il_24, il_32, il_35, il_40, il_44, il_47, il_48, il_56, il_57, il_58, il_59, il_63, il_64, il_72, il_100, il_120, il_126, il_127, il_160, il_192, il_255, il_349, il_1748, il_6992, iI_add, iI_sub, iI_mul, iI_neg, iI_le, iI_lt, iI_eq, rd_lA, wr_lA, rd_lR, wr_lR, ite_iI, max_iI, min_iI, rem_iI, div_iI, ite_true, ite_false, if_true, if_false, ite_self, and_self, and_true, true_and, and_false, false_and, or_self, or_true, true_or, or_false, false_or, not_true_eq_false, not_false_eq_true, hh, hw]
      · simp (disch := omega) only [↓bd_e, ↓jn_e, ↓opt_bind, ↓reduceIte, iLeT, iLeF, iLtT, iLtF, iEqT, iEqF, il_0, il_1, il_2, il_3, il_4, il_5, il_6, il_7, il_8, il_9, il_10, il_11, il_12, il_13, il_14, il_15, il_16, il_18, il_20, il_24, il_32, il_35, il_40, il_44, il_47, il_48, il_56, il_57, il_58, il_59, il_63, il_64, il_72, il_100, il_120, il_126, il_127, il_160, il_192, il_255, il_349, il_1748, il_6992, iI_add, iI_sub, iI_mul, iI_neg, iI_le, iI_lt, iI_eq, rd_lA, wr_lA, rd_lR, wr_lR, ite_iI, max_iI, min_iI, rem_iI, div_iI, ite_true, ite_false, if_true, if_false, ite_self, and_self, and_true, true_and, and_false, false_and, or_self, or_true, true_or, or_false, false_or, not_true_eq_false, not_false_eq_true, hm, hw']
  · rw [if_neg h1] at hh hm
    refine ⟨iI (-1), V, S, l, p, H0, H1, H2, H3, H4, P, ?_, ?_, h, fun _ _ => rfl, fun _ _ _ _ _ => rfl⟩
    · rw [e0]
      simp (disch := omega) only [↓bd_e, ↓jn_e, ↓opt_bind, ↓reduceIte, iLeT, iLeF, iLtT, iLtF, iEqT, iEqF, il_0, il_1, il_2, il_3, il_4, il_5, il_6, il_7, il_8, il_9, il_10, il_11, il_12, il_13, il_14, il_15, il_16, il_18, il_20, il_24, il_32, il_35, il_40, il_44, il_47, il_48, il_56, il_57, il_58, il_59, il_63, il_64, il_72, il_100, il_120, il_126, il_127, il_160, il_192, il_255, il_349, il_1748, il_6992, iI_add, iI_sub, iI_mul, iI_neg, iI_le, iI_lt, iI_eq, rd_lA, wr_lA, rd_lR, wr_lR, ite_iI, max_iI, min_iI, rem_iI, div_iI, ite_true, ite_false, if_true, if_false, ite_self, and_self, and_true, true_and, and_false, false_and, or_self, or_true, true_or, or_false, false_or, not_true_eq_false, not_false_eq_true, hh]
    · simp (disch := omega) only [↓bd_e, ↓jn_e, ↓opt_bind, ↓reduceIte, iLeT, iLeF, iLtT, iLtF, iEqT, iEqF, il_0, il_1, il_2, il_3, il_4, il_5, il_6, il_7, il_8, il_9, il_10, il_11, il_12, il_13, il_14, il_15, il_16, il_18, il_20, il_24, il_32, il_35, il_40, il_44, il_47, il_48, il_56, il_57, il_58, il_59, il_63, il_64, il_72, il_100, il_120, il_126, il_127, il_160, il_192, il_255, il_349, il_1748, il_6992, iI_add, iI_sub, iI_mul, iI_neg, iI_le, iI_lt, iI_eq, rd_lA, wr_lA, rd_lR, wr_lR, ite_iI, max_iI, min_iI, rem_iI, div_iI, ite_true, ite_false, if_true, if_false, ite_self, and_self, and_true, true_and, and_false, false_and, or_self, or_true, true_or, or_false, false_or, not_true_eq_false, not_false_eq_true, hm]
