/-- the boxes of the list cover just what is blocked -/
def bxB (m : Int) (X Y BW BH : Int → Int) (B : Int → Int → Prop) : Prop := ∀ x y, B x y ↔ ∃ k, (0 ≤ k ∧ k < m) ∧ (X k ≤ x ∧ x < X k + BW k) ∧ Y k ≤ y ∧ y < Y k + BH k
def inC (X BW : Int → Int) (a b k : Int) : Prop := X k < b ∧ a < X k + BW k
theorem gapA {W H m : Int} {X Y BW BH : Int → Int} {B : Int → Int → Prop} (hr : bxR W H m X Y BW BH) (hB : bxB m X Y BW BH B) {a b row t : Int} (ha : 0 ≤ a ∧ a < b) (hb : b ≤ W) (h0 : 0 ≤ row) (ht : t ≤ H) (g1 : ∀ j, 0 ≤ j → j < m → inC X BW a b j → Y j + BH j ≤ row ∨ t ≤ Y j) (g2 : row = 0 ∨ ∃ j, 0 ≤ j ∧ j < m ∧ inC X BW a b j ∧ Y j + BH j = row) (g3 : t = H ∨ ∃ j, 0 ≤ j ∧ j < m ∧ inC X BW a b j ∧ Y j = t)
    (c1 : row < t) (c2 : a = 0 ∨ hld m X Y BW BH (a - 1) row t) (c3 : b = W ∨ hld m X Y BW BH b row t) : mxR W H B a row (b - a) (t - row) := by
  have hh : ∀ q, hld m X Y BW BH q row t → ∃ y, row ≤ y ∧ y < row + (t - row) ∧ B q y := by
    rintro q ⟨k, k0, k1, k2, k3, k4, k5⟩
    have := hr k k0 k1
    exact ⟨max row (Y k), by omega, by omega, (hB _ _).mpr ⟨k, ⟨k0, k1⟩, ⟨k2, k3⟩, by omega, by omega⟩⟩
  refine ⟨by omega, fun x y x0 x1 y0 y1 hb => ?_, c2.imp id (hh _), ?_, ?_, ?_⟩
  · obtain ⟨k, ⟨k0, k1⟩, ⟨k2, k3⟩, k4, k5⟩ := (hB _ _).mp hb
    have := g1 k k0 k1 ⟨by omega, by omega⟩
    omega
  · rcases c3 with c3 | c3
    · exact Or.inl (by omega)
    · rw [show a + (b - a) = b by omega]
      exact Or.inr (hh _ c3)
  · rcases g2 with g2 | ⟨j, j0, j1, ⟨j2, j3⟩, j4⟩
    · exact Or.inl g2
    · have := hr j j0 j1
      exact Or.inr ⟨max a (X j), by omega, by omega, (hB _ _).mpr ⟨j, ⟨j0, j1⟩, ⟨by omega, by omega⟩, by omega, by omega⟩⟩
  · rcases g3 with g3 | ⟨j, j0, j1, ⟨j2, j3⟩, j4⟩
    · exact Or.inl (by omega)
    · have := hr j j0 j1
      exact Or.inr ⟨max a (X j), by omega, by omega, (hB _ _).mpr ⟨j, ⟨j0, j1⟩, ⟨by omega, by omega⟩, by omega, by omega⟩⟩
theorem gapB {W H m : Int} {X Y BW BH : Int → Int} {B : Int → Int → Prop} (hr : bxR W H m X Y BW BH) (hB : bxB m X Y BW BH B) {a b row t : Int} (ha : 0 ≤ a ∧ a < b) (hb : b ≤ W) (h0 : 0 ≤ row) (ht : t ≤ H) (g1 : ∀ j, 0 ≤ j → j < m → inC X BW a b j → Y j + BH j ≤ row ∨ t ≤ Y j) (g3 : t = H ∨ ∃ j, 0 ≤ j ∧ j < m ∧ inC X BW a b j ∧ Y j = t)
    {y h : Int} (hm : mxR W H B a y (b - a) h) (y0 : row ≤ y) (y1 : y < t) : y = row ∧ h = t - row ∧ ofC W m X Y BW BH a b row t := by
  obtain ⟨m1, m2, m3, m4, m5, m6⟩ := hm
  have e1 : y = row := by
    apply Classical.byContradiction
    intro hne
    rcases m5 with m5 | ⟨x, x0, x1, x2⟩
    · omega
    · obtain ⟨k, ⟨k0, k1⟩, ⟨k2, k3⟩, k4, k5⟩ := (hB _ _).mp x2
      have := g1 k k0 k1 ⟨by omega, by omega⟩
      omega
  subst e1
  have e2 : h = t - y := by
    apply Classical.byContradiction
    intro hne
    by_cases hl : t < y + h
    · rcases g3 with g3 | ⟨j, j0, j1, ⟨j2, j3⟩, j4⟩
      · omega
      · have := hr j j0 j1
        exact m2 (max a (X j)) t (by omega) (by omega) (by omega) (by omega) ((hB _ _).mpr ⟨j, ⟨j0, j1⟩, ⟨by omega, by omega⟩, by omega, by omega⟩)
    · rcases m6 with m6 | ⟨x, x0, x1, x2⟩
      · omega
      · obtain ⟨k, ⟨k0, k1⟩, ⟨k2, k3⟩, k4, k5⟩ := (hB _ _).mp x2
        have := g1 k k0 k1 ⟨by omega, by omega⟩
        omega
  subst e2
  have hh : ∀ q, (∃ z, y ≤ z ∧ z < y + (t - y) ∧ B q z) → hld m X Y BW BH q y t := by
    rintro q ⟨z, z0, z1, z2⟩
    obtain ⟨k, ⟨k0, k1⟩, ⟨k2, k3⟩, k4, k5⟩ := (hB _ _).mp z2
    exact ⟨k, k0, k1, k2, k3, by omega, by omega⟩
  refine ⟨rfl, rfl, by omega, m3.imp id (hh _), ?_⟩
  rw [show a + (b - a) = b by omega] at m4
  exact m4.imp id (hh _)
/-- S0 and the rectangles between two columns that begin above a row -/
def sX (W H : Int) (B : Int → Int → Prop) (a b : Int) (S0 : Int → Prop) (row z : Int) : Prop := S0 z ∨ ∃ y h, z = cd a y (b - a) h ∧ mxR W H B a y (b - a) h ∧ y < row
def s0K (W H : Int) (B : Int → Int → Prop) (a b : Int) (S0 : Int → Prop) : Prop := ∀ z, S0 z → ∃ x y w h, z = cd x y w h ∧ mxR W H B x y w h ∧ ¬ (x = a ∧ w = b - a)
theorem sX_mx {W H : Int} {B : Int → Int → Prop} {a b row : Int} {S0 : Int → Prop} (h0 : s0K W H B a b S0) : ∀ z, sX W H B a b S0 row z → rS (mxR W H B) z := by
  rintro z (hz | ⟨y, h, e, hm, -⟩)
  · obtain ⟨x, y, w, h, e, hm, -⟩ := h0 z hz
    exact ⟨x, y, w, h, e, hm⟩
  · exact ⟨a, y, b - a, h, e, hm⟩
theorem sX_no {W H : Int} {B : Int → Int → Prop} (hW : W ≤ 35) (hH : H ≤ 35) {a b row h : Int} {S0 : Int → Prop} (h0 : s0K W H B a b S0) (hm : mxR W H B a row (b - a) h) : ¬ sX W H B a b S0 row (cd a row (b - a) h) := by
  have hr := mx_r hW hH hm
  rintro (hz | ⟨y, h', e, hm', hl⟩)
  · obtain ⟨x, y, w, h', e, hm', hn⟩ := h0 _ hz
    have hr' := mx_r hW hH hm'
    obtain ⟨rfl, rfl, rfl, rfl⟩ := cd_inj (by omega) (by omega) (by omega) (by omega) (by omega) (by omega) e
    exact hn ⟨rfl, rfl⟩
  · have hr' := mx_r hW hH hm'
    have := cd_inj (by omega) (by omega) (by omega) (by omega) (by omega) (by omega) e
    omega
theorem m_between {V : Int → Int} (hs : vSet V) {m : Int} {X Y BW BH : Int → Int} {B : Int → Int → Prop} (hm : 0 ≤ m ∧ m ≤ 24) (hr : bxR (fldW V) (fldH V) m X Y BW BH) (hB : bxB m X Y BW BH B) (hsrt : ∀ j k, 0 ≤ j → j < k → k < m → Y j ≤ Y k) (hW : fldW V ≤ 35) (hH : 0 < fldH V ∧ fldH V ≤ 35)
    (hcnt : ∀ f FX FY FW FH S, frI f FX FY FW FH S → (∀ z, S z → rS (mxR (fldW V) (fldH V) B) z) → f ≤ 349)
    {f : Int} {FX FY FW FH : Int → Int} {S : Int → Prop} (hf : frI f FX FY FW FH S) {a b : Int} (ha : 0 ≤ a ∧ a < b) (hb : b ≤ fldW V) (hS : s0K (fldW V) (fldH V) B a b S) :
    ∃ f' FX' FY' FW' FH', f_X11_between (iI m) (iI f) (lA V) (lA X) (lA Y) (lA BW) (lA BH) (lA FX) (lA FY) (lA FW) (lA FH) (iI a) (iI b) = some (iI f', lA FX', lA FY', lA FW', lA FH') ∧ frI f' FX' FY' FW' FH' (fun z => S z ∨ ∃ y h, z = cd a y (b - a) h ∧ mxR (fldW V) (fldH V) B a y (b - a) h) := by
  have hfh := m_fieldH hs
  unfold f_X11_between
  obtain ⟨fu, hfu, hfu2⟩ := fuel_ex; rw [hfu]
  simp (disch := omega) only [↓bd_e, ↓jn_e, ↓opt_bind, ↓reduceIte, iLeT, iLeF, iLtT, iLtF, iEqT, iEqF, il_0, il_1, il_2, il_3, il_4, il_5, il_6, il_7, il_8, il_9, il_10, il_11, il_12, il_13, il_14, il_15, il_16, il_18, il_20, il_24, il_32, il_35, il_40, il_44, il_47, il_48, il_56, il_57, il_58, il_59, il_63, il_64, il_72, il_100, il_120, il_126, il_127, il_160, il_192, il_255, il_349, il_1748, il_6992, iI_add, iI_sub, iI_mul, iI_neg, iI_le, iI_lt, iI_eq, rd_lA, wr_lA, rd_lR, wr_lR, ite_iI, max_iI, min_iI, rem_iI, div_iI, ite_true, ite_false, if_true, if_false, ite_self, and_self, and_true, true_and, and_false, false_and, or_self, or_true, true_or, or_false, false_or, not_true_eq_false, not_false_eq_true]
  refine lp (fun n k (t : Int × Int × (Int → Int) × (Int → Int) × (Int → Int) × (Int → Int)) => f_X11_between_L5 (iI m) (lA V) (lA X) (lA Y) (lA BW) (lA BH) (iI a) (iI b) _ n (iI t.1) (iI k) (iI t.2.1) (lA t.2.2.1) (lA t.2.2.2.1) (lA t.2.2.2.2.1) (lA t.2.2.2.2.2)) (fun r => ∃ f' FX' FY' FW' FH', r = some (iI f', lA FX', lA FY', lA FW', lA FH') ∧ frI f' FX' FY' FW' FH' (fun z => S z ∨ ∃ y h, z = cd a y (b - a) h ∧ mxR (fldW V) (fldH V) B a y (b - a) h)) m
    (fun k t => 0 ≤ k ∧ (0 ≤ t.1 ∧ t.1 ≤ fldH V) ∧ (∀ j, 0 ≤ j → j < k → inC X BW a b j → Y j + BH j ≤ t.1) ∧ (t.1 = 0 ∨ ∃ j, 0 ≤ j ∧ j < m ∧ inC X BW a b j ∧ Y j + BH j = t.1) ∧ frI t.2.1 t.2.2.1 t.2.2.2.1 t.2.2.2.2.1 t.2.2.2.2.2 (sX (fldW V) (fldH V) B a b S t.1)) ?_ ?_ fu 0 (0, f, FX, FY, FW, FH) (by omega) (by omega) ⟨by omega, by dsimp only; omega, fun j _ _ => by omega, Or.inl rfl, ?_⟩
  · rintro n ⟨row, f, FX, FY, FW, FH⟩ ⟨-, r0, r1, r2, hf⟩
    dsimp only at r0 r1 r2 hf ⊢
    have hc := hcnt _ _ _ _ _ _ hf (sX_mx hS)
    have f0 := hf.1.1
    have g1 : ∀ j, 0 ≤ j → j < m → inC X BW a b j → Y j + BH j ≤ row ∨ fldH V ≤ Y j := fun j j0 j1 j2 => Or.inl (r1 j j0 j1 j2)
    obtain ⟨f', FX', FY', FW', FH', e1, e2⟩ := m_offers hs hm hr hW hH.2 hf (by omega) (sX_mx hS) ha hb (u := row) (v := fldH V) (by omega) (by omega) (fun c1 c2 c3 => by
      have hmx := gapA hr hB ha hb r0.1 (Int.le_refl _) g1 r2 (Or.inl rfl) c1 c2 c3
      exact ⟨hmx, sX_no hW hH.2 hS hmx⟩)
    unfold f_X11_between_L5
    simp (disch := omega) only [↓bd_e, ↓jn_e, ↓opt_bind, ↓reduceIte, iLeT, iLeF, iLtT, iLtF, iEqT, iEqF, il_0, il_1, il_2, il_3, il_4, il_5, il_6, il_7, il_8, il_9, il_10, il_11, il_12, il_13, il_14, il_15, il_16, il_18, il_20, il_24, il_32, il_35, il_40, il_44, il_47, il_48, il_56, il_57, il_58, il_59, il_63, il_64, il_72, il_100, il_120, il_126, il_127, il_160, il_192, il_255, il_349, il_1748, il_6992, iI_add, iI_sub, iI_mul, iI_neg, iI_le, iI_lt, iI_eq, rd_lA, wr_lA, rd_lR, wr_lR, ite_iI, max_iI, min_iI, rem_iI, div_iI, ite_true, ite_false, if_true, if_false, ite_self, and_self, and_true, true_and, and_false, false_and, or_self, or_true, true_or, or_false, false_or, not_true_eq_false, not_false_eq_true, hfh, e1]
    refine ⟨f', FX', FY', FW', FH', rfl, En_iff e2.1 (fun z => ?_), e2.2⟩
    constructor
    · rintro ((hz | ⟨y, h, e, hm', -⟩) | ⟨hc, e⟩)
      · exact Or.inl hz
      · exact Or.inr ⟨y, h, e, hm'⟩
      · exact Or.inr ⟨row, fldH V - row, e, gapA hr hB ha hb r0.1 (Int.le_refl _) g1 r2 (Or.inl rfl) hc.1 hc.2.1 hc.2.2⟩
    · rintro (hz | ⟨y, h, e, hm'⟩)
      · exact Or.inl (Or.inl hz)
      · by_cases hl : y < row
        · exact Or.inl (Or.inr ⟨y, h, e, hm', hl⟩)
        · have hy := hm'.1
          obtain ⟨rfl, rfl, hc⟩ := gapB hr hB ha hb r0.1 (Int.le_refl _) g1 (Or.inl rfl) hm' (by omega) (by omega)
          exact Or.inr ⟨hc, e⟩
  · rintro n k ⟨row, f, FX, FY, FW, FH⟩ hk ⟨hk0, r0, r1, r2, hf⟩ ih
    dsimp only at r0 r1 r2 hf ih ⊢
    have hbk := hr k hk0 hk
    have hc := hcnt _ _ _ _ _ _ hf (sX_mx hS)
    have f0 := hf.1.1
    unfold f_X11_between_L5
    by_cases c1 : b ≤ X k
    · simp (disch := omega) only [↓bd_e, ↓jn_e, ↓opt_bind, ↓reduceIte, iLeT, iLeF, iLtT, iLtF, iEqT, iEqF, il_0, il_1, il_2, il_3, il_4, il_5, il_6, il_7, il_8, il_9, il_10, il_11, il_12, il_13, il_14, il_15, il_16, il_18, il_20, il_24, il_32, il_35, il_40, il_44, il_47, il_48, il_56, il_57, il_58, il_59, il_63, il_64, il_72, il_100, il_120, il_126, il_127, il_160, il_192, il_255, il_349, il_1748, il_6992, iI_add, iI_sub, iI_mul, iI_neg, iI_le, iI_lt, iI_eq, rd_lA, wr_lA, rd_lR, wr_lR, ite_iI, max_iI, min_iI, rem_iI, div_iI, ite_true, ite_false, if_true, if_false, ite_self, and_self, and_true, true_and, and_false, false_and, or_self, or_true, true_or, or_false, false_or, not_true_eq_false, not_false_eq_true]
      exact ih (row, f, FX, FY, FW, FH) ⟨by omega, r0, fun j j0 j1 j2 => by
        by_cases e : j = k
        · have := j2.1; rw [e] at this; omega
        · exact r1 j j0 (by omega) j2, r2, hf⟩
    · by_cases c2 : X k + BW k ≤ a
      · simp (disch := omega) only [↓bd_e, ↓jn_e, ↓opt_bind, ↓reduceIte, iLeT, iLeF, iLtT, iLtF, iEqT, iEqF, il_0, il_1, il_2, il_3, il_4, il_5, il_6, il_7, il_8, il_9, il_10, il_11, il_12, il_13, il_14, il_15, il_16, il_18, il_20, il_24, il_32, il_35, il_40, il_44, il_47, il_48, il_56, il_57, il_58, il_59, il_63, il_64, il_72, il_100, il_120, il_126, il_127, il_160, il_192, il_255, il_349, il_1748, il_6992, iI_add, iI_sub, iI_mul, iI_neg, iI_le, iI_lt, iI_eq, rd_lA, wr_lA, rd_lR, wr_lR, ite_iI, max_iI, min_iI, rem_iI, div_iI, ite_true, ite_false, if_true, if_false, ite_self, and_self, and_true, true_and, and_false, false_and, or_self, or_true, true_or, or_false, false_or, not_true_eq_false, not_false_eq_true]
        exact ih (row, f, FX, FY, FW, FH) ⟨by omega, r0, fun j j0 j1 j2 => by
          by_cases e : j = k
          · have := j2.2; rw [e] at this; omega
          · exact r1 j j0 (by omega) j2, r2, hf⟩
      · have hin : inC X BW a b k := ⟨by omega, by omega⟩
        have g1 : ∀ j, 0 ≤ j → j < m → inC X BW a b j → Y j + BH j ≤ row ∨ Y k ≤ Y j := fun j j0 j1 j2 => by
          by_cases e : j < k
          · exact Or.inl (r1 j j0 e j2)
          · by_cases e2 : j = k
            · rw [e2]; exact Or.inr (Int.le_refl _)
            · exact Or.inr (hsrt k j hk0 (by omega) j1)
        have g3 : Y k = fldH V ∨ ∃ j, 0 ≤ j ∧ j < m ∧ inC X BW a b j ∧ Y j = Y k := Or.inr ⟨k, hk0, hk, hin, rfl⟩
        obtain ⟨f', FX', FY', FW', FH', e1, e2⟩ := m_offers hs hm hr hW hH.2 hf (by omega) (sX_mx hS) ha hb (u := row) (v := Y k) (by omega) (by omega) (fun c1 c2 c3 => by
          have hmx := gapA hr hB ha hb r0.1 (by omega) g1 r2 g3 c1 c2 c3
          exact ⟨hmx, sX_no hW hH.2 hS hmx⟩)
        have fin : ∀ row', row ≤ row' → Y k < row' → (row' = row ∨ row' = Y k + BH k) → frI f' FX' FY' FW' FH' (sX (fldW V) (fldH V) B a b S row') := by
          intro row' q0 q1 q2
          refine ⟨En_iff e2.1 (fun z => ?_), e2.2⟩
          constructor
          · rintro ((hz | ⟨y, h, e, hm', hl⟩) | ⟨hc, e⟩)
            · exact Or.inl hz
            · exact Or.inr ⟨y, h, e, hm', by omega⟩
            · have := hc.1
              exact Or.inr ⟨row, Y k - row, e, gapA hr hB ha hb r0.1 (by omega) g1 r2 g3 hc.1 hc.2.1 hc.2.2, by omega⟩
          · rintro (hz | ⟨y, h, e, hm', hl⟩)
            · exact Or.inl (Or.inl hz)
            · by_cases h1 : y < row
              · exact Or.inl (Or.inr ⟨y, h, e, hm', h1⟩)
              · by_cases h2 : y < Y k
                · obtain ⟨rfl, rfl, hc⟩ := gapB hr hB ha hb r0.1 (by omega) g1 g3 hm' (by omega) h2
                  exact Or.inr ⟨hc, e⟩
                · exfalso
                  have hy := hm'.1
                  have h3 : row' = Y k + BH k := by omega
                  exact hm'.2.1 (max a (X k)) y (by omega) (by omega) (by omega) (by omega) ((hB _ _).mpr ⟨k, ⟨hk0, hk⟩, ⟨by omega, by omega⟩, by omega, by omega⟩)
        by_cases c3 : Y k + BH k ≤ row
        · simp (disch := omega) only [↓bd_e, ↓jn_e, ↓opt_bind, ↓reduceIte, iLeT, iLeF, iLtT, iLtF, iEqT, iEqF, il_0, il_1, il_2, il_3, il_4, il_5, il_6, il_7, il_8, il_9, il_10, il_11, il_12, il_13, il_14, il_15, il_16, il_18, il_20, il_24, il_32, il_35, il_40, il_44, il_47, il_48, il_56, il_57, il_58, il_59, il_63, il_64, il_72, il_100, il_120, il_126, il_127, il_160, il_192, il_255, il_349, il_1748, il_6992, iI_add, iI_sub, iI_mul, iI_neg, iI_le, iI_lt, iI_eq, rd_lA, wr_lA, rd_lR, wr_lR, ite_iI, max_iI, min_iI, rem_iI, div_iI, ite_true, ite_false, if_true, if_false, ite_self, and_self, and_true, true_and, and_false, false_and, or_self, or_true, true_or, or_false, false_or, not_true_eq_false, not_false_eq_true, e1]
          exact ih (row, f', FX', FY', FW', FH') ⟨by omega, r0, fun j j0 j1 j2 => by
            by_cases e : j = k
            · rw [e]; exact c3
            · exact r1 j j0 (by omega) j2, r2, fin row (by omega) (by omega) (Or.inl rfl)⟩
        · simp (disch := omega) only [↓bd_e, ↓jn_e, ↓opt_bind, ↓reduceIte, iLeT, iLeF, iLtT, iLtF, iEqT, iEqF, il_0, il_1, il_2, il_3, il_4, il_5, il_6, il_7, il_8, il_9, il_10, il_11, il_12, il_13, il_14, il_15, il_16, il_18, il_20, il_24, il_32, il_35, il_40, il_44, il_47, il_48, il_56, il_57, il_58, il_59, il_63, il_64, il_72, il_100, il_120, il_126, il_127, il_160, il_192, il_255, il_349, il_1748, il_6992, iI_add, iI_sub, iI_mul, iI_neg, iI_le, iI_lt, iI_eq, rd_lA, wr_lA, rd_lR, wr_lR, ite_iI, max_iI, min_iI, rem_iI, div_iI, ite_true, ite_false, if_true, if_false, ite_self, and_self, and_true, true_and, and_false, false_and, or_self, or_true, true_or, or_false, false_or, not_true_eq_false, not_false_eq_true, e1]
          exact ih (Y k + BH k, f', FX', FY', FW', FH') ⟨by omega, by dsimp only; omega, fun j j0 j1 j2 => by
            dsimp only
            by_cases e : j = k
            · rw [e]; omega
            · have := r1 j j0 (by omega) j2
              omega, Or.inr ⟨k, hk0, hk, hin, rfl⟩, fin _ (by omega) (by omega) (Or.inr rfl)⟩
  · refine ⟨En_iff hf.1 (fun z => ⟨Or.inl, ?_⟩), hf.2⟩
    rintro (hz | ⟨y, h, e, hm', hl⟩)
    · exact hz
    · exfalso
      have := hm'.1
      dsimp only at hl
      omega
