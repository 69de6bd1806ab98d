theorem bx_of {V : Int → Int} {c : Nat → Int → Int} (hs : vSet V) (hb : ∀ j, 0 ≤ j → j < V 0 → vBl V c j) (hg : vGeo V c) {p m : Int} (hp : 0 ≤ p) {X Y W H : Int → Int} (h : bxI V c p (V 0) m X Y W H) : bxR (fldW V) (fldH V) m X Y W H ∧ bxB m X Y W H (blk V c p) ∧ (∀ j k, 0 ≤ j → j < k → k < m → Y j ≤ Y k) := by
  obtain ⟨h0, h1, h2, h3⟩ := h
  refine ⟨fun k k0 k1 => ?_, fun x y => ⟨?_, ?_⟩, h3⟩
  · obtain ⟨i, ⟨i1, i2, i3⟩, -, e1, e2, e3, e4⟩ := h1 k k0 k1
    have := geo_r hs hb hg i1 i2 (by omega)
    omega
  · rintro ⟨s, s1, s2⟩
    obtain ⟨k, k0, k1, e1, e2, e3, e4⟩ := h2 s s1 s1.2.1
    exact ⟨k, ⟨k0, k1⟩, by omega, by omega, by omega⟩
  · rintro ⟨k, ⟨k0, k1⟩, ⟨k2, k3⟩, k4, k5⟩
    obtain ⟨i, i1, -, e1, e2, e3, e4⟩ := h1 k k0 k1
    exact ⟨i, i1, by omega, by omega, by omega, by omega⟩
def sAB (W H : Int) (B : Int → Int → Prop) (a b z : Int) : Prop := ∃ x y w h, z = cd x y w h ∧ mxR W H B x y w h ∧ (x < a ∨ (x = a ∧ x + w < b))
def isB (m : Int) (X BW : Int → Int) (x : Int) : Prop := x = 0 ∨ ∃ k, 0 ≤ k ∧ k < m ∧ X k + BW k = x
def isE (W m : Int) (X : Int → Int) (x : Int) : Prop := x = W ∨ ∃ k, 0 ≤ k ∧ k < m ∧ X k = x
theorem mx_isB {W H m : Int} {X Y BW BH : Int → Int} {B : Int → Int → Prop} (hB : bxB m X Y BW BH B) {x y w h : Int} (hm : mxR W H B x y w h) : isB m X BW x := by
  rcases hm.2.2.1 with e | ⟨b, b0, b1, b2⟩
  · exact Or.inl e
  · obtain ⟨k, ⟨k0, k1⟩, ⟨k2, k3⟩, k4, k5⟩ := (hB _ _).mp b2
    refine Or.inr ⟨k, k0, k1, ?_⟩
    apply Classical.byContradiction
    intro hne
    have := hm.1
    exact hm.2.1 x b (by omega) (by omega) b0 b1 ((hB _ _).mpr ⟨k, ⟨k0, k1⟩, ⟨by omega, by omega⟩, k4, k5⟩)
theorem mx_isE {W H m : Int} {X Y BW BH : Int → Int} {B : Int → Int → Prop} (hB : bxB m X Y BW BH B) {x y w h : Int} (hm : mxR W H B x y w h) : isE W m X (x + w) := by
  rcases hm.2.2.2.1 with e | ⟨b, b0, b1, b2⟩
  · exact Or.inl e
  · obtain ⟨k, ⟨k0, k1⟩, ⟨k2, k3⟩, k4, k5⟩ := (hB _ _).mp b2
    refine Or.inr ⟨k, k0, k1, ?_⟩
    apply Classical.byContradiction
    intro hne
    have := hm.1
    exact hm.2.1 (x + w - 1) b (by omega) (by omega) b0 b1 ((hB _ _).mpr ⟨k, ⟨k0, k1⟩, ⟨by omega, by omega⟩, k4, k5⟩)
theorem m_freesOf {V : Int → Int} {c : Nat → Int → Int} (hs : vSet V) (hi : vImg V) (hp : vPlc V) (hb : ∀ j, 0 ≤ j → j < V 0 → vBl V c j) (hg : vGeo V c) {p : Int} (hp0 : 0 ≤ p ∧ p < 100) (X0 Y0 W0 H0 FX0 FY0 FW0 FH0 bg0 en0 : Int → Int) :
    ∃ m X Y W H f FX FY FW FH bg en, f_X11_freesOf (lA V) (lA (c 2)) (lA (c 3)) (lA X0) (lA Y0) (lA W0) (lA H0) (lA FX0) (lA FY0) (lA FW0) (lA FH0) (lA bg0) (lA en0) (iI p) = some (iI m, iI f, lA X, lA Y, lA W, lA H, lA FX, lA FY, lA FW, lA FH, lA bg, lA en) ∧ bxI V c p (V 0) m X Y W H ∧ frI f FX FY FW FH (rS (mxR (fldW V) (fldH V) (blk V c p))) := by
  obtain ⟨m, X, Y, W, H, e1, hbx⟩ := m_boxesOf hs hi hp hb hg hp0 X0 Y0 W0 H0
  obtain ⟨hr, hB, hsrt⟩ := bx_of hs hb hg hp0.1 hbx
  have hm := hbx.1
  have hn := hi.1
  have hfw := m_fieldW hs
  have hfh := m_fieldH hs
  have hWH : -10 ≤ fldW V ∧ fldW V ≤ 35 ∧ -10 ≤ fldH V ∧ fldH V ≤ 35 := by
    unfold vSet at hs
    unfold fldW fldH
    omega
  have hcnt : ∀ f FX FY FW FH S, frI f FX FY FW FH S → (∀ z, S z → rS (mxR (fldW V) (fldH V) (blk V c p)) z) → f ≤ 349 := fun f FX FY FW FH S hf hS => mx_count hs hi hb hg hp0.1 hf.1 hS
  have none : fldW V ≤ 0 ∨ fldH V ≤ 0 → ∀ z, ¬ rS (mxR (fldW V) (fldH V) (blk V c p)) z := by
    rintro hz z ⟨x, y, w, h, -, hmx⟩
    have := hmx.1
    omega
  unfold f_X11_freesOf
  rw [e1]
  by_cases cw : fldW V ≤ 0
  · simp (disch := omega) only [↓bd_e, ↓jn_e, ↓opt_bind, ↓reduceIte, iLeT, iLeF, iLtT, iLtF, iEqT, iEqF, il_0, il_1, il_2, il_3, il_4, il_5, il_6, il_7, il_8, il_9, il_10, il_11, il_12, il_13, il_14, il_15, il_16, il_18, il_20, il_24, il_32, il_35, il_40, il_44, il_47, il_48, il_56, il_57, il_58, il_59, il_63, il_64, il_72, il_100, il_120, il_126, il_127, il_160, il_192, il_255, il_349, il_1748, il_6992, iI_add, iI_sub, iI_mul, iI_neg, iI_le, iI_lt, iI_eq, rd_lA, wr_lA, rd_lR, wr_lR, ite_iI, max_iI, min_iI, rem_iI, div_iI, ite_true, ite_false, if_true, if_false, ite_self, and_self, and_true, true_and, and_false, false_and, or_self, or_true, true_or, or_false, false_or, not_true_eq_false, not_false_eq_true, hfw]
    exact ⟨m, X, Y, W, H, 0, FX0, FY0, FW0, FH0, bg0, en0, rfl, hbx, En_0 (none (Or.inl cw)), fun k _ _ => by omega⟩
  · by_cases ch : fldH V ≤ 0
    · simp (disch := omega) only [↓bd_e, ↓jn_e, ↓opt_bind, ↓reduceIte, iLeT, iLeF, iLtT, iLtF, iEqT, iEqF, il_0, il_1, il_2, il_3, il_4, il_5, il_6, il_7, il_8, il_9, il_10, il_11, il_12, il_13, il_14, il_15, il_16, il_18, il_20, il_24, il_32, il_35, il_40, il_44, il_47, il_48, il_56, il_57, il_58, il_59, il_63, il_64, il_72, il_100, il_120, il_126, il_127, il_160, il_192, il_255, il_349, il_1748, il_6992, iI_add, iI_sub, iI_mul, iI_neg, iI_le, iI_lt, iI_eq, rd_lA, wr_lA, rd_lR, wr_lR, ite_iI, max_iI, min_iI, rem_iI, div_iI, ite_true, ite_false, if_true, if_false, ite_self, and_self, and_true, true_and, and_false, false_and, or_self, or_true, true_or, or_false, false_or, not_true_eq_false, not_false_eq_true, hfw, hfh]
      exact ⟨m, X, Y, W, H, 0, FX0, FY0, FW0, FH0, bg0, en0, rfl, hbx, En_0 (none (Or.inr ch)), fun k _ _ => by omega⟩
    · obtain ⟨fu, hfu, hfu2⟩ := fuel_ex; rw [hfu]
      simp (disch := omega) only [↓bd_e, ↓jn_e, ↓opt_bind, ↓reduceIte, iLeT, iLeF, iLtT, iLtF, iEqT, iEqF, il_0, il_1, il_2, il_3, il_4, il_5, il_6, il_7, il_8, il_9, il_10, il_11, il_12, il_13, il_14, il_15, il_16, il_18, il_20, il_24, il_32, il_35, il_40, il_44, il_47, il_48, il_56, il_57, il_58, il_59, il_63, il_64, il_72, il_100, il_120, il_126, il_127, il_160, il_192, il_255, il_349, il_1748, il_6992, iI_add, iI_sub, iI_mul, iI_neg, iI_le, iI_lt, iI_eq, rd_lA, wr_lA, rd_lR, wr_lR, ite_iI, max_iI, min_iI, rem_iI, div_iI, ite_true, ite_false, if_true, if_false, ite_self, and_self, and_true, true_and, and_false, false_and, or_self, or_true, true_or, or_false, false_or, not_true_eq_false, not_false_eq_true, hfw, hfh]
      -- the rows of beginnings and ends at first
      refine lp (fun n x (t : (Int → Int) × (Int → Int)) => f_X11_freesOf_L29 (iI (fldW V)) _ n (iI x) (lA t.1) (lA t.2)) (fun r => ∃ m X Y W H f FX FY FW FH bg en, r = some (iI m, iI f, lA X, lA Y, lA W, lA H, lA FX, lA FY, lA FW, lA FH, lA bg, lA en) ∧ bxI V c p (V 0) m X Y W H ∧ frI f FX FY FW FH (rS (mxR (fldW V) (fldH V) (blk V c p)))) 40
        (fun x t => 0 ≤ x ∧ ∀ j, 0 ≤ j → j < x → t.1 j = (if j = 0 then 1 else 0) ∧ t.2 j = (if j = fldW V then 1 else 0)) ?_ ?_ fu 0 (bg0, en0) (by omega) (by omega) ⟨by omega, fun j _ _ => by omega⟩
      · rintro n ⟨bg, en⟩ ⟨-, hbe⟩
        dsimp only at hbe ⊢
        unfold f_X11_freesOf_L29
        simp (disch := omega) only [↓bd_e, ↓jn_e, ↓opt_bind, ↓reduceIte, iLeT, iLeF, iLtT, iLtF, iEqT, iEqF, il_0, il_1, il_2, il_3, il_4, il_5, il_6, il_7, il_8, il_9, il_10, il_11, il_12, il_13, il_14, il_15, il_16, il_18, il_20, il_24, il_32, il_35, il_40, il_44, il_47, il_48, il_56, il_57, il_58, il_59, il_63, il_64, il_72, il_100, il_120, il_126, il_127, il_160, il_192, il_255, il_349, il_1748, il_6992, iI_add, iI_sub, iI_mul, iI_neg, iI_le, iI_lt, iI_eq, rd_lA, wr_lA, rd_lR, wr_lR, ite_iI, max_iI, min_iI, rem_iI, div_iI, ite_true, ite_false, if_true, if_false, ite_self, and_self, and_true, true_and, and_false, false_and, or_self, or_true, true_or, or_false, false_or, not_true_eq_false, not_false_eq_true]
        refine lp (fun n k (t : (Int → Int) × (Int → Int)) => f_X11_freesOf_L74 (iI m, lA X, lA Y, lA W, lA H) _ n (iI k) (lA t.1) (lA t.2)) (fun r => ∃ m X Y W H f FX FY FW FH bg en, r = some (iI m, iI f, lA X, lA Y, lA W, lA H, lA FX, lA FY, lA FW, lA FH, lA bg, lA en) ∧ bxI V c p (V 0) m X Y W H ∧ frI f FX FY FW FH (rS (mxR (fldW V) (fldH V) (blk V c p)))) m
          (fun k t => 0 ≤ k ∧ ∀ j, 0 ≤ j → j < 40 → isF (t.1 j) (isB k X W j) ∧ isF (t.2 j) (isE (fldW V) k X j)) ?_ ?_ fu 0 (bg, en) (by omega) (by omega) ⟨by omega, fun j j0 j1 => ?_⟩
        · rintro n ⟨bg, en⟩ ⟨-, hbe⟩
          dsimp only at hbe ⊢
          unfold f_X11_freesOf_L74
          simp (disch := omega) only [↓bd_e, ↓jn_e, ↓opt_bind, ↓reduceIte, iLeT, iLeF, iLtT, iLtF, iEqT, iEqF, il_0, il_1, il_2, il_3, il_4, il_5, il_6, il_7, il_8, il_9, il_10, il_11, il_12, il_13, il_14, il_15, il_16, il_18, il_20, il_24, il_32, il_35, il_40, il_44, il_47, il_48, il_56, il_57, il_58, il_59, il_63, il_64, il_72, il_100, il_120, il_126, il_127, il_160, il_192, il_255, il_349, il_1748, il_6992, iI_add, iI_sub, iI_mul, iI_neg, iI_le, iI_lt, iI_eq, rd_lA, wr_lA, rd_lR, wr_lR, ite_iI, max_iI, min_iI, rem_iI, div_iI, ite_true, ite_false, if_true, if_false, ite_self, and_self, and_true, true_and, and_false, false_and, or_self, or_true, true_or, or_false, false_or, not_true_eq_false, not_false_eq_true]
          refine lp (fun n a (t : Int × (Int → Int) × (Int → Int) × (Int → Int) × (Int → Int)) => f_X11_freesOf_L121 (lA V) (iI m, lA X, lA Y, lA W, lA H) (iI (fldW V)) (lA bg) (lA en) n (iI a) (iI t.1) (lA t.2.1) (lA t.2.2.1) (lA t.2.2.2.1) (lA t.2.2.2.2)) (fun r => ∃ m X Y W H f FX FY FW FH bg en, r = some (iI m, iI f, lA X, lA Y, lA W, lA H, lA FX, lA FY, lA FW, lA FH, lA bg, lA en) ∧ bxI V c p (V 0) m X Y W H ∧ frI f FX FY FW FH (rS (mxR (fldW V) (fldH V) (blk V c p)))) (fldW V)
            (fun a t => 0 ≤ a ∧ frI t.1 t.2.1 t.2.2.1 t.2.2.2.1 t.2.2.2.2 (sAB (fldW V) (fldH V) (blk V c p) a 0)) ?_ ?_ fu 0 (0, FX0, FY0, FW0, FH0) (by omega) (by omega) ⟨by omega, En_0 ?_, fun k _ _ => by omega⟩
          · rintro n ⟨f, FX, FY, FW, FH⟩ ⟨-, hf⟩
            dsimp only at hf ⊢
            unfold f_X11_freesOf_L121
            simp (disch := omega) only [↓bd_e, ↓jn_e, ↓opt_bind, ↓reduceIte, iLeT, iLeF, iLtT, iLtF, iEqT, iEqF, il_0, il_1, il_2, il_3, il_4, il_5, il_6, il_7, il_8, il_9, il_10, il_11, il_12, il_13, il_14, il_15, il_16, il_18, il_20, il_24, il_32, il_35, il_40, il_44, il_47, il_48, il_56, il_57, il_58, il_59, il_63, il_64, il_72, il_100, il_120, il_126, il_127, il_160, il_192, il_255, il_349, il_1748, il_6992, iI_add, iI_sub, iI_mul, iI_neg, iI_le, iI_lt, iI_eq, rd_lA, wr_lA, rd_lR, wr_lR, ite_iI, max_iI, min_iI, rem_iI, div_iI, ite_true, ite_false, if_true, if_false, ite_self, and_self, and_true, true_and, and_false, false_and, or_self, or_true, true_or, or_false, false_or, not_true_eq_false, not_false_eq_true]
            refine ⟨m, X, Y, W, H, f, FX, FY, FW, FH, bg, en, rfl, hbx, En_iff hf.1 (fun z => ⟨?_, ?_⟩), hf.2⟩
            · rintro ⟨x, y, w, h, e, hmx, -⟩
              exact ⟨x, y, w, h, e, hmx⟩
            · rintro ⟨x, y, w, h, e, hmx⟩
              have := hmx.1
              exact ⟨x, y, w, h, e, hmx, Or.inl (by omega)⟩
          · rintro n a ⟨f, FX, FY, FW, FH⟩ ha ⟨ha0, hf⟩ ih
            dsimp only at hf ih ⊢
            unfold f_X11_freesOf_L121
            simp (disch := omega) only [↓bd_e, ↓jn_e, ↓opt_bind, ↓reduceIte, iLeT, iLeF, iLtT, iLtF, iEqT, iEqF, il_0, il_1, il_2, il_3, il_4, il_5, il_6, il_7, il_8, il_9, il_10, il_11, il_12, il_13, il_14, il_15, il_16, il_18, il_20, il_24, il_32, il_35, il_40, il_44, il_47, il_48, il_56, il_57, il_58, il_59, il_63, il_64, il_72, il_100, il_120, il_126, il_127, il_160, il_192, il_255, il_349, il_1748, il_6992, iI_add, iI_sub, iI_mul, iI_neg, iI_le, iI_lt, iI_eq, rd_lA, wr_lA, rd_lR, wr_lR, ite_iI, max_iI, min_iI, rem_iI, div_iI, ite_true, ite_false, if_true, if_false, ite_self, and_self, and_true, true_and, and_false, false_and, or_self, or_true, true_or, or_false, false_or, not_true_eq_false, not_false_eq_true, hfu]
            refine lp (fun n b (t : Int × (Int → Int) × (Int → Int) × (Int → Int) × (Int → Int)) => f_X11_freesOf_L131 (lA V) (iI m, lA X, lA Y, lA W, lA H) (iI (fldW V)) (lA bg) (lA en) (iI a) _ n (iI b) (iI t.1) (lA t.2.1) (lA t.2.2.1) (lA t.2.2.2.1) (lA t.2.2.2.2)) (fun r => ∃ m X Y W H f FX FY FW FH bg en, r = some (iI m, iI f, lA X, lA Y, lA W, lA H, lA FX, lA FY, lA FW, lA FH, lA bg, lA en) ∧ bxI V c p (V 0) m X Y W H ∧ frI f FX FY FW FH (rS (mxR (fldW V) (fldH V) (blk V c p)))) (fldW V + 1)
              (fun b t => a < b ∧ frI t.1 t.2.1 t.2.2.1 t.2.2.2.1 t.2.2.2.2 (sAB (fldW V) (fldH V) (blk V c p) a b)) ?_ ?_ fu (a + 1) (f, FX, FY, FW, FH) (by omega) (by omega) ⟨by omega, En_iff hf.1 (fun z => ⟨?_, ?_⟩), hf.2⟩
            · rintro n ⟨f, FX, FY, FW, FH⟩ ⟨-, hf⟩
              dsimp only at hf ⊢
              unfold f_X11_freesOf_L131
              simp (disch := omega) only [↓bd_e, ↓jn_e, ↓opt_bind, ↓reduceIte, iLeT, iLeF, iLtT, iLtF, iEqT, iEqF, il_0, il_1, il_2, il_3, il_4, il_5, il_6, il_7, il_8, il_9, il_10, il_11, il_12, il_13, il_14, il_15, il_16, il_18, il_20, il_24, il_32, il_35, il_40, il_44, il_47, il_48, il_56, il_57, il_58, il_59, il_63, il_64, il_72, il_100, il_120, il_126, il_127, il_160, il_192, il_255, il_349, il_1748, il_6992, iI_add, iI_sub, iI_mul, iI_neg, iI_le, iI_lt, iI_eq, rd_lA, wr_lA, rd_lR, wr_lR, ite_iI, max_iI, min_iI, rem_iI, div_iI, ite_true, ite_false, if_true, if_false, ite_self, and_self, and_true, true_and, and_false, false_and, or_self, or_true, true_or, or_false, false_or, not_true_eq_false, not_false_eq_true]
              refine ih (f, FX, FY, FW, FH) ⟨by omega, En_iff hf.1 (fun z => ⟨?_, ?_⟩), hf.2⟩
              · rintro ⟨x, y, w, h, e, hmx, q⟩
                exact ⟨x, y, w, h, e, hmx, Or.inl (by omega)⟩
              · rintro ⟨x, y, w, h, e, hmx, q⟩
                have := hmx.1
                exact ⟨x, y, w, h, e, hmx, by omega⟩
            · rintro n b ⟨f, FX, FY, FW, FH⟩ hb1 ⟨hab, hf⟩ ih2
              dsimp only at hf ih2 ⊢
              obtain ⟨hbg, -⟩ := hbe a ha0 (by omega)
              obtain ⟨-, hen⟩ := hbe b (by omega) (by omega)
              unfold f_X11_freesOf_L131
              rcases hbg with ⟨hbg, hB1⟩ | ⟨hbg, hB1⟩
              · rcases hen with ⟨hen, hE1⟩ | ⟨hen, hE1⟩
                · obtain ⟨f', FX', FY', FW', FH', q1, q2⟩ := m_between hs (by omega) hr hB hsrt hWH.2.1 ⟨by omega, hWH.2.2.2⟩ hcnt hf (a := a) (b := b) ⟨ha0, hab⟩ (by omega) (fun z hz => by
                    obtain ⟨x, y, w, h, e, hmx, q⟩ := hz
                    exact ⟨x, y, w, h, e, hmx, by omega⟩)
                  simp (disch := omega) only [↓bd_e, ↓jn_e, ↓opt_bind, ↓reduceIte, iLeT, iLeF, iLtT, iLtF, iEqT, iEqF, il_0, il_1, il_2, il_3, il_4, il_5, il_6, il_7, il_8, il_9, il_10, il_11, il_12, il_13, il_14, il_15, il_16, il_18, il_20, il_24, il_32, il_35, il_40, il_44, il_47, il_48, il_56, il_57, il_58, il_59, il_63, il_64, il_72, il_100, il_120, il_126, il_127, il_160, il_192, il_255, il_349, il_1748, il_6992, iI_add, iI_sub, iI_mul, iI_neg, iI_le, iI_lt, iI_eq, rd_lA, wr_lA, rd_lR, wr_lR, ite_iI, max_iI, min_iI, rem_iI, div_iI, ite_true, ite_false, if_true, if_false, ite_self, and_self, and_true, true_and, and_false, false_and, or_self, or_true, true_or, or_false, false_or, not_true_eq_false, not_false_eq_true, hbg, hen, q1]
                  refine ih2 (f', FX', FY', FW', FH') ⟨by omega, En_iff q2.1 (fun z => ⟨?_, ?_⟩), q2.2⟩
                  · rintro (⟨x, y, w, h, e, hmx, q⟩ | ⟨y, h, e, hmx⟩)
                    · exact ⟨x, y, w, h, e, hmx, by omega⟩
                    · exact ⟨a, y, b - a, h, e, hmx, by omega⟩
                  · rintro ⟨x, y, w, h, e, hmx, q⟩
                    by_cases e2 : x = a ∧ x + w = b
                    · obtain ⟨rfl, rfl⟩ := e2
                      rw [show w = x + w - x by omega] at e hmx
                      exact Or.inr ⟨y, h, e, hmx⟩
                    · exact Or.inl ⟨x, y, w, h, e, hmx, by omega⟩
                · simp (disch := omega) only [↓bd_e, ↓jn_e, ↓opt_bind, ↓reduceIte, iLeT, iLeF, iLtT, iLtF, iEqT, iEqF, il_0, il_1, il_2, il_3, il_4, il_5, il_6, il_7, il_8, il_9, il_10, il_11, il_12, il_13, il_14, il_15, il_16, il_18, il_20, il_24, il_32, il_35, il_40, il_44, il_47, il_48, il_56, il_57, il_58, il_59, il_63, il_64, il_72, il_100, il_120, il_126, il_127, il_160, il_192, il_255, il_349, il_1748, il_6992, iI_add, iI_sub, iI_mul, iI_neg, iI_le, iI_lt, iI_eq, rd_lA, wr_lA, rd_lR, wr_lR, ite_iI, max_iI, min_iI, rem_iI, div_iI, ite_true, ite_false, if_true, if_false, ite_self, and_self, and_true, true_and, and_false, false_and, or_self, or_true, true_or, or_false, false_or, not_true_eq_false, not_false_eq_true, hbg, hen]
                  refine ih2 (f, FX, FY, FW, FH) ⟨by omega, En_iff hf.1 (fun z => ⟨?_, ?_⟩), hf.2⟩
                  · rintro ⟨x, y, w, h, e, hmx, q⟩
                    exact ⟨x, y, w, h, e, hmx, by omega⟩
                  · rintro ⟨x, y, w, h, e, hmx, q⟩
                    refine ⟨x, y, w, h, e, hmx, ?_⟩
                    have : x + w ≠ b := fun e2 => hE1 (e2 ▸ mx_isE hB hmx)
                    omega
              · simp (disch := omega) only [↓bd_e, ↓jn_e, ↓opt_bind, ↓reduceIte, iLeT, iLeF, iLtT, iLtF, iEqT, iEqF, il_0, il_1, il_2, il_3, il_4, il_5, il_6, il_7, il_8, il_9, il_10, il_11, il_12, il_13, il_14, il_15, il_16, il_18, il_20, il_24, il_32, il_35, il_40, il_44, il_47, il_48, il_56, il_57, il_58, il_59, il_63, il_64, il_72, il_100, il_120, il_126, il_127, il_160, il_192, il_255, il_349, il_1748, il_6992, iI_add, iI_sub, iI_mul, iI_neg, iI_le, iI_lt, iI_eq, rd_lA, wr_lA, rd_lR, wr_lR, ite_iI, max_iI, min_iI, rem_iI, div_iI, ite_true, ite_false, if_true, if_false, ite_self, and_self, and_true, true_and, and_false, false_and, or_self, or_true, true_or, or_false, false_or, not_true_eq_false, not_false_eq_true, hbg]
                refine ih (f, FX, FY, FW, FH) ⟨by omega, En_iff hf.1 (fun z => ⟨?_, ?_⟩), hf.2⟩
                · rintro ⟨x, y, w, h, e, hmx, q⟩
                  exact ⟨x, y, w, h, e, hmx, by omega⟩
                · rintro ⟨x, y, w, h, e, hmx, q⟩
                  have : x ≠ a := fun e2 => hB1 (e2 ▸ mx_isB hB hmx)
                  have := hmx.1
                  exact ⟨x, y, w, h, e, hmx, by omega⟩
            · rintro ⟨x, y, w, h, e, hmx, q⟩
              have := hmx.1
              exact ⟨x, y, w, h, e, hmx, by omega⟩
            · rintro ⟨x, y, w, h, e, hmx, q⟩
              have := hmx.1
              exact ⟨x, y, w, h, e, hmx, by omega⟩
          · rintro z ⟨x, y, w, h, e, hmx, q⟩
            have := hmx.1
            omega
        · rintro n k ⟨bg, en⟩ hk ⟨hk0, hbe⟩ ih
          dsimp only at hbe ih ⊢
          have hrk := hr k hk0 hk
          unfold f_X11_freesOf_L74
          simp (disch := omega) only [↓bd_e, ↓jn_e, ↓opt_bind, ↓reduceIte, iLeT, iLeF, iLtT, iLtF, iEqT, iEqF, il_0, il_1, il_2, il_3, il_4, il_5, il_6, il_7, il_8, il_9, il_10, il_11, il_12, il_13, il_14, il_15, il_16, il_18, il_20, il_24, il_32, il_35, il_40, il_44, il_47, il_48, il_56, il_57, il_58, il_59, il_63, il_64, il_72, il_100, il_120, il_126, il_127, il_160, il_192, il_255, il_349, il_1748, il_6992, iI_add, iI_sub, iI_mul, iI_neg, iI_le, iI_lt, iI_eq, rd_lA, wr_lA, rd_lR, wr_lR, ite_iI, max_iI, min_iI, rem_iI, div_iI, ite_true, ite_false, if_true, if_false, ite_self, and_self, and_true, true_and, and_false, false_and, or_self, or_true, true_or, or_false, false_or, not_true_eq_false, not_false_eq_true, wrZ_lA]
          refine ih (uI bg (X k + W k) 1, uI en (X k) 1) ⟨by omega, fun j j0 j1 => ⟨?_, ?_⟩⟩
          · dsimp only
            rw [uI_at]
            by_cases e : j = X k + W k
            · rw [if_pos e]
              exact isF_T (Or.inr ⟨k, hk0, by omega, e.symm⟩)
            · rw [if_neg e]
              refine isF_iff (hbe j j0 j1).1 ⟨?_, ?_⟩
              · rintro (h | ⟨i, i0, i1, i2⟩)
                · exact Or.inl h
                · exact Or.inr ⟨i, i0, by omega, i2⟩
              · rintro (h | ⟨i, i0, i1, i2⟩)
                · exact Or.inl h
                · by_cases e2 : i = k
                  · subst e2; omega
                  · exact Or.inr ⟨i, i0, by omega, i2⟩
          · dsimp only
            rw [uI_at]
            by_cases e : j = X k
            · rw [if_pos e]
              exact isF_T (Or.inr ⟨k, hk0, by omega, e.symm⟩)
            · rw [if_neg e]
              refine isF_iff (hbe j j0 j1).2 ⟨?_, ?_⟩
              · rintro (h | ⟨i, i0, i1, i2⟩)
                · exact Or.inl h
                · exact Or.inr ⟨i, i0, by omega, i2⟩
              · rintro (h | ⟨i, i0, i1, i2⟩)
                · exact Or.inl h
                · by_cases e2 : i = k
                  · subst e2; omega
                  · exact Or.inr ⟨i, i0, by omega, i2⟩
        · obtain ⟨h1, h2⟩ := hbe j j0 (by omega)
          dsimp only
          rw [h1, h2]
          refine ⟨?_, ?_⟩
          · by_cases e : j = 0
            · rw [if_pos e]; exact isF_T (Or.inl e)
            · rw [if_neg e]; exact isF_F (fun h => h.elim e (fun ⟨i, i0, i1, _⟩ => by omega))
          · by_cases e : j = fldW V
            · rw [if_pos e]; exact isF_T (Or.inl e)
            · rw [if_neg e]; exact isF_F (fun h => h.elim e (fun ⟨i, i0, i1, _⟩ => by omega))
      · rintro n x ⟨bg, en⟩ hx ⟨hx0, hbe⟩ ih
        dsimp only at hbe ih ⊢
        have z1 : (if x = 0 then (1 : Int) else 0) = 0 ∨ (if x = 0 then (1 : Int) else 0) = 1 := by by_cases e : x = 0 <;> simp [e]
        have z2 : (if x = fldW V then (1 : Int) else 0) = 0 ∨ (if x = fldW V then (1 : Int) else 0) = 1 := by by_cases e : x = fldW V <;> simp [e]
        unfold f_X11_freesOf_L29
        have fin := ih (uI bg x (if x = 0 then 1 else 0), uI en x (if x = fldW V then 1 else 0)) ⟨by omega, fun j j0 j1 => by
          dsimp only
          rw [uI_at, uI_at]
          by_cases e : j = x
          · rw [if_pos e, if_pos e, e]; exact ⟨rfl, rfl⟩
          · rw [if_neg e, if_neg e]; exact hbe j j0 (by omega)⟩
        dsimp only at fin
        by_cases c0 : x = 0
        · by_cases c1 : x = fldW V
          · exfalso
            omega
          · rw [if_pos c0, if_neg c1] at fin
            simp (disch := omega) only [↓bd_e, ↓jn_e, ↓opt_bind, ↓reduceIte, iLeT, iLeF, iLtT, iLtF, iEqT, iEqF, il_0, il_1, il_2, il_3, il_4, il_5, il_6, il_7, il_8, il_9, il_10, il_11, il_12, il_13, il_14, il_15, il_16, il_18, il_20, il_24, il_32, il_35, il_40, il_44, il_47, il_48, il_56, il_57, il_58, il_59, il_63, il_64, il_72, il_100, il_120, il_126, il_127, il_160, il_192, il_255, il_349, il_1748, il_6992, iI_add, iI_sub, iI_mul, iI_neg, iI_le, iI_lt, iI_eq, rd_lA, wr_lA, rd_lR, wr_lR, ite_iI, max_iI, min_iI, rem_iI, div_iI, ite_true, ite_false, if_true, if_false, ite_self, and_self, and_true, true_and, and_false, false_and, or_self, or_true, true_or, or_false, false_or, not_true_eq_false, not_false_eq_true, wrZ_lA]
            exact fin
        · by_cases c1 : x = fldW V
          · rw [if_neg c0, if_pos c1] at fin
            simp (disch := omega) only [↓bd_e, ↓jn_e, ↓opt_bind, ↓reduceIte, iLeT, iLeF, iLtT, iLtF, iEqT, iEqF, il_0, il_1, il_2, il_3, il_4, il_5, il_6, il_7, il_8, il_9, il_10, il_11, il_12, il_13, il_14, il_15, il_16, il_18, il_20, il_24, il_32, il_35, il_40, il_44, il_47, il_48, il_56, il_57, il_58, il_59, il_63, il_64, il_72, il_100, il_120, il_126, il_127, il_160, il_192, il_255, il_349, il_1748, il_6992, iI_add, iI_sub, iI_mul, iI_neg, iI_le, iI_lt, iI_eq, rd_lA, wr_lA, rd_lR, wr_lR, ite_iI, max_iI, min_iI, rem_iI, div_iI, ite_true, ite_false, if_true, if_false, ite_self, and_self, and_true, true_and, and_false, false_and, or_self, or_true, true_or, or_false, false_or, not_true_eq_false, not_false_eq_true, wrZ_lA]
            exact fin
          · rw [if_neg c0, if_neg c1] at fin
            simp (disch := omega) only [↓bd_e, ↓jn_e, ↓opt_bind, ↓reduceIte, iLeT, iLeF, iLtT, iLtF, iEqT, iEqF, il_0, il_1, il_2, il_3, il_4, il_5, il_6, il_7, il_8, il_9, il_10, il_11, il_12, il_13, il_14, il_15, il_16, il_18, il_20, il_24, il_32, il_35, il_40, il_44, il_47, il_48, il_56, il_57, il_58, il_59, il_63, il_64, il_72, il_100, il_120, il_126, il_127, il_160, il_192, il_255, il_349, il_1748, il_6992, iI_add, iI_sub, iI_mul, iI_neg, iI_le, iI_lt, iI_eq, rd_lA, wr_lA, rd_lR, wr_lR, ite_iI, max_iI, min_iI, rem_iI, div_iI, ite_true, ite_false, if_true, if_false, ite_self, and_self, and_true, true_and, and_false, false_and, or_self, or_true, true_or, or_false, false_or, not_true_eq_false, not_false_eq_true, wrZ_lA]
            exact fin
