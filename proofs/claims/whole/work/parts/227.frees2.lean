theorem mx_r {W H : Int} {B : Int → Int → Prop} (hW : W ≤ 35) (hH : H ≤ 35) {x y w h : Int} (hm : mxR W H B x y w h) : (0 ≤ x ∧ x < 64) ∧ (0 ≤ y ∧ y < 64) ∧ (0 < w ∧ w < 64) ∧ (0 < h ∧ h < 64) := by
  have := hm.1
  omega
theorem rS_cd {W H : Int} {B : Int → Int → Prop} (hW : W ≤ 35) (hH : H ≤ 35) {x y w h : Int} (hx : 0 ≤ x ∧ x < 64) (hw : 0 ≤ w ∧ w < 64) (hh : 0 ≤ h ∧ h < 64) (hz : rS (mxR W H B) (cd x y w h)) : mxR W H B x y w h := by
  obtain ⟨x', y', w', h', e, hm⟩ := hz
  have hr := mx_r hW hH hm
  obtain ⟨rfl, rfl, rfl, rfl⟩ := cd_inj hx hw hh (by omega) (by omega) (by omega) e
  exact hm
def ofC (W m : Int) (X Y BW BH : Int → Int) (a b u v : Int) : Prop := u < v ∧ (a = 0 ∨ hld m X Y BW BH (a - 1) u v) ∧ (b = W ∨ hld m X Y BW BH b u v)
def ofS (W m : Int) (X Y BW BH : Int → Int) (a b u v : Int) (S : Int → Prop) (q : Int) : Prop := S q ∨ (ofC W m X Y BW BH a b u v ∧ q = cd a u (b - a) (v - u))
theorem m_offers {V : Int → Int} (hs : vSet V) {m : Int} {X Y BW BH : Int → Int} {B : Int → Int → Prop} (hm : 0 ≤ m ∧ m ≤ 24) (hr : bxR (fldW V) (fldH V) m X Y BW BH) (hW : fldW V ≤ 35) (hH : fldH V ≤ 35)
    {f : Int} {FX FY FW FH : Int → Int} {S : Int → Prop} (hf : frI f FX FY FW FH S) (hf9 : f < 1000) (hS : ∀ z, S z → rS (mxR (fldW V) (fldH V) B) z) {a b u v : Int} (ha : 0 ≤ a ∧ a < b) (hb : b ≤ fldW V) (hu : 0 ≤ u ∧ u < 100) (hv : 0 ≤ v ∧ v ≤ fldH V)
    (hE : u < v → (a = 0 ∨ hld m X Y BW BH (a - 1) u v) → (b = fldW V ∨ hld m X Y BW BH b u v) → mxR (fldW V) (fldH V) B a u (b - a) (v - u) ∧ ¬ S (cd a u (b - a) (v - u))) :
    ∃ f' FX' FY' FW' FH', f_X11_offers (iI m) (iI f) (lA V) (lA X) (lA Y) (lA BW) (lA BH) (lA FX) (lA FY) (lA FW) (lA FH) (iI a) (iI b) (iI u) (iI v) = some (iI f', lA FX', lA FY', lA FW', lA FH') ∧ frI f' FX' FY' FW' FH' (ofS (fldW V) m X Y BW BH a b u v S) := by
  have hfw := m_fieldW hs
  have same : ¬ ofC (fldW V) m X Y BW BH a b u v → frI f FX FY FW FH (ofS (fldW V) m X Y BW BH a b u v S) := fun hn => ⟨En_iff hf.1 (fun z => ⟨Or.inl, fun h => h.elim id (fun h => absurd h.1 hn)⟩), hf.2⟩
  unfold f_X11_offers
  by_cases c0 : v ≤ u
  · simp (disch := omega) only [↓bd_e, ↓jn_e, ↓opt_bind, ↓reduceIte, iLeT, iLeF, iLtT, iLtF, iEqT, iEqF, il_0, il_1, il_2, il_3, il_4, il_5, il_6, il_7, il_8, il_9, il_10, il_11, il_12, il_13, il_14, il_15, il_16, il_18, il_20, il_24, il_32, il_35, il_40, il_44, il_47, il_48, il_56, il_57, il_58, il_59, il_63, il_64, il_72, il_100, il_120, il_126, il_127, il_160, il_192, il_255, il_349, il_1748, il_6992, iI_add, iI_sub, iI_mul, iI_neg, iI_le, iI_lt, iI_eq, rd_lA, wr_lA, rd_lR, wr_lR, ite_iI, max_iI, min_iI, rem_iI, div_iI, ite_true, ite_false, if_true, if_false, ite_self, and_self, and_true, true_and, and_false, false_and, or_self, or_true, true_or, or_false, false_or, not_true_eq_false, not_false_eq_true]
    exact ⟨f, FX, FY, FW, FH, rfl, same (fun h => by have := h.1; omega)⟩
  · have put : u < v → (a = 0 ∨ hld m X Y BW BH (a - 1) u v) → (b = fldW V ∨ hld m X Y BW BH b u v) → ∃ f' FX' FY' FW' FH', f_X11_offers_L49 (iI a) (iI b) (iI u) (fun x4 f5 f6 f7 f8 => g_wr f5 2000 x4 (iI a) fun f10 => g_wr f6 2000 x4 (iI u) fun f11 => g_wr f7 2000 x4 (iI (b - a)) fun f13 => g_wr f8 2000 x4 (iI (v - u)) fun f15 => some (iI (f + 1), f10, f11, f13, f15)) g_fuel (iI f) (lA FX) (lA FY) (lA FW) (lA FH) = some (iI f', lA FX', lA FY', lA FW', lA FH') ∧ frI f' FX' FY' FW' FH' (ofS (fldW V) m X Y BW BH a b u v S) := by
      intro c1 c2 c3
      obtain ⟨e1, e2⟩ := hE c1 c2 c3
      have f0 := hf.1.1
      obtain ⟨fu, hfu, hfu2⟩ := fuel_ex
      rw [hfu]
      have key := m_put (f := f) (x := a) (y := u) (w := b - a) (h := v - u) ⟨f0, hf9⟩ hf (by omega) (by omega) (by omega) (by omega) e2 (fun k k0 k1 q1 q2 q3 => by
        have hk := hf.2 k k0 k1
        have h1 := rS_cd hW hH (by omega) (by omega) (by omega) (hS _ (hf.1.2.2.1 k k0 k1))
        rw [q1, q2, q3] at h1
        exact mx_h h1 e1) (P := fun r => ∃ f' FX' FY' FW' FH', r = some (iI f', lA FX', lA FY', lA FW', lA FH') ∧ frI f' FX' FY' FW' FH' (ofS (fldW V) m X Y BW BH a b u v S))
        (fun x4 f5 f6 f7 f8 => g_wr f5 2000 x4 (iI a) fun f10 => g_wr f6 2000 x4 (iI u) fun f11 => g_wr f7 2000 x4 (iI (b - a)) fun f13 => g_wr f8 2000 x4 (iI (v - u)) fun f15 => some (iI (f + 1), f10, f11, f13, f15)) ?_ fu (by omega)
      · rw [show a + (b - a) = b by omega] at key
        exact key
      · intro p X' Y' W' H' p0 p1 hfr
        simp (disch := omega) only [↓bd_e, ↓jn_e, ↓opt_bind, ↓reduceIte, iLeT, iLeF, iLtT, iLtF, iEqT, iEqF, il_0, il_1, il_2, il_3, il_4, il_5, il_6, il_7, il_8, il_9, il_10, il_11, il_12, il_13, il_14, il_15, il_16, il_18, il_20, il_24, il_32, il_35, il_40, il_44, il_47, il_48, il_56, il_57, il_58, il_59, il_63, il_64, il_72, il_100, il_120, il_126, il_127, il_160, il_192, il_255, il_349, il_1748, il_6992, iI_add, iI_sub, iI_mul, iI_neg, iI_le, iI_lt, iI_eq, rd_lA, wr_lA, rd_lR, wr_lR, ite_iI, max_iI, min_iI, rem_iI, div_iI, ite_true, ite_false, if_true, if_false, ite_self, and_self, and_true, true_and, and_false, false_and, or_self, or_true, true_or, or_false, false_or, not_true_eq_false, not_false_eq_true]
        exact ⟨f + 1, _, _, _, _, rfl, En_iff hfr.1 (fun z => ⟨fun h => h.imp id (fun h => ⟨⟨c1, c2, c3⟩, h⟩), fun h => h.imp id (fun h => h.2)⟩), hfr.2⟩
    have f0 := hf.1.1
    by_cases c1 : a = 0
    · by_cases c2 : b = fldW V
      · have hp := put (by omega) (Or.inl c1) (Or.inl c2)
        simp (disch := omega) only [↓bd_e, ↓jn_e, ↓opt_bind, ↓reduceIte, iLeT, iLeF, iLtT, iLtF, iEqT, iEqF, il_0, il_1, il_2, il_3, il_4, il_5, il_6, il_7, il_8, il_9, il_10, il_11, il_12, il_13, il_14, il_15, il_16, il_18, il_20, il_24, il_32, il_35, il_40, il_44, il_47, il_48, il_56, il_57, il_58, il_59, il_63, il_64, il_72, il_100, il_120, il_126, il_127, il_160, il_192, il_255, il_349, il_1748, il_6992, iI_add, iI_sub, iI_mul, iI_neg, iI_le, iI_lt, iI_eq, rd_lA, wr_lA, rd_lR, wr_lR, ite_iI, max_iI, min_iI, rem_iI, div_iI, ite_true, ite_false, if_true, if_false, ite_self, and_self, and_true, true_and, and_false, false_and, or_self, or_true, true_or, or_false, false_or, not_true_eq_false, not_false_eq_true, hfw]
        exact hp
      · obtain ⟨r, e1, e2⟩ := m_isHeld hm hr hW hH (a := b) (u := u) (v := v) (by omega) hu (by omega)
        rcases e2 with ⟨rfl, e2⟩ | ⟨rfl, e2⟩
        · have hp := put (by omega) (Or.inl c1) (Or.inr e2)
          simp (disch := omega) only [↓bd_e, ↓jn_e, ↓opt_bind, ↓reduceIte, iLeT, iLeF, iLtT, iLtF, iEqT, iEqF, il_0, il_1, il_2, il_3, il_4, il_5, il_6, il_7, il_8, il_9, il_10, il_11, il_12, il_13, il_14, il_15, il_16, il_18, il_20, il_24, il_32, il_35, il_40, il_44, il_47, il_48, il_56, il_57, il_58, il_59, il_63, il_64, il_72, il_100, il_120, il_126, il_127, il_160, il_192, il_255, il_349, il_1748, il_6992, iI_add, iI_sub, iI_mul, iI_neg, iI_le, iI_lt, iI_eq, rd_lA, wr_lA, rd_lR, wr_lR, ite_iI, max_iI, min_iI, rem_iI, div_iI, ite_true, ite_false, if_true, if_false, ite_self, and_self, and_true, true_and, and_false, false_and, or_self, or_true, true_or, or_false, false_or, not_true_eq_false, not_false_eq_true, hfw, e1]
          exact hp
        · simp (disch := omega) only [↓bd_e, ↓jn_e, ↓opt_bind, ↓reduceIte, iLeT, iLeF, iLtT, iLtF, iEqT, iEqF, il_0, il_1, il_2, il_3, il_4, il_5, il_6, il_7, il_8, il_9, il_10, il_11, il_12, il_13, il_14, il_15, il_16, il_18, il_20, il_24, il_32, il_35, il_40, il_44, il_47, il_48, il_56, il_57, il_58, il_59, il_63, il_64, il_72, il_100, il_120, il_126, il_127, il_160, il_192, il_255, il_349, il_1748, il_6992, iI_add, iI_sub, iI_mul, iI_neg, iI_le, iI_lt, iI_eq, rd_lA, wr_lA, rd_lR, wr_lR, ite_iI, max_iI, min_iI, rem_iI, div_iI, ite_true, ite_false, if_true, if_false, ite_self, and_self, and_true, true_and, and_false, false_and, or_self, or_true, true_or, or_false, false_or, not_true_eq_false, not_false_eq_true, hfw, e1]
          exact ⟨f, FX, FY, FW, FH, rfl, same (fun h => h.2.2.elim c2 e2)⟩
    · obtain ⟨r', e1', e2'⟩ := m_isHeld hm hr hW hH (a := a - 1) (u := u) (v := v) (by omega) hu (by omega)
      rcases e2' with ⟨rfl, e2'⟩ | ⟨rfl, e2'⟩
      · by_cases c2 : b = fldW V
        · have hp := put (by omega) (Or.inr e2') (Or.inl c2)
          simp (disch := omega) only [↓bd_e, ↓jn_e, ↓opt_bind, ↓reduceIte, iLeT, iLeF, iLtT, iLtF, iEqT, iEqF, il_0, il_1, il_2, il_3, il_4, il_5, il_6, il_7, il_8, il_9, il_10, il_11, il_12, il_13, il_14, il_15, il_16, il_18, il_20, il_24, il_32, il_35, il_40, il_44, il_47, il_48, il_56, il_57, il_58, il_59, il_63, il_64, il_72, il_100, il_120, il_126, il_127, il_160, il_192, il_255, il_349, il_1748, il_6992, iI_add, iI_sub, iI_mul, iI_neg, iI_le, iI_lt, iI_eq, rd_lA, wr_lA, rd_lR, wr_lR, ite_iI, max_iI, min_iI, rem_iI, div_iI, ite_true, ite_false, if_true, if_false, ite_self, and_self, and_true, true_and, and_false, false_and, or_self, or_true, true_or, or_false, false_or, not_true_eq_false, not_false_eq_true, hfw, e1']
          exact hp
        · obtain ⟨r, e1, e2⟩ := m_isHeld hm hr hW hH (a := b) (u := u) (v := v) (by omega) hu (by omega)
          rcases e2 with ⟨rfl, e2⟩ | ⟨rfl, e2⟩
          · have hp := put (by omega) (Or.inr e2') (Or.inr e2)
            simp (disch := omega) only [↓bd_e, ↓jn_e, ↓opt_bind, ↓reduceIte, iLeT, iLeF, iLtT, iLtF, iEqT, iEqF, il_0, il_1, il_2, il_3, il_4, il_5, il_6, il_7, il_8, il_9, il_10, il_11, il_12, il_13, il_14, il_15, il_16, il_18, il_20, il_24, il_32, il_35, il_40, il_44, il_47, il_48, il_56, il_57, il_58, il_59, il_63, il_64, il_72, il_100, il_120, il_126, il_127, il_160, il_192, il_255, il_349, il_1748, il_6992, iI_add, iI_sub, iI_mul, iI_neg, iI_le, iI_lt, iI_eq, rd_lA, wr_lA, rd_lR, wr_lR, ite_iI, max_iI, min_iI, rem_iI, div_iI, ite_true, ite_false, if_true, if_false, ite_self, and_self, and_true, true_and, and_false, false_and, or_self, or_true, true_or, or_false, false_or, not_true_eq_false, not_false_eq_true, hfw, e1, e1']
            exact hp
          · simp (disch := omega) only [↓bd_e, ↓jn_e, ↓opt_bind, ↓reduceIte, iLeT, iLeF, iLtT, iLtF, iEqT, iEqF, il_0, il_1, il_2, il_3, il_4, il_5, il_6, il_7, il_8, il_9, il_10, il_11, il_12, il_13, il_14, il_15, il_16, il_18, il_20, il_24, il_32, il_35, il_40, il_44, il_47, il_48, il_56, il_57, il_58, il_59, il_63, il_64, il_72, il_100, il_120, il_126, il_127, il_160, il_192, il_255, il_349, il_1748, il_6992, iI_add, iI_sub, iI_mul, iI_neg, iI_le, iI_lt, iI_eq, rd_lA, wr_lA, rd_lR, wr_lR, ite_iI, max_iI, min_iI, rem_iI, div_iI, ite_true, ite_false, if_true, if_false, ite_self, and_self, and_true, true_and, and_false, false_and, or_self, or_true, true_or, or_false, false_or, not_true_eq_false, not_false_eq_true, hfw, e1, e1']
            exact ⟨f, FX, FY, FW, FH, rfl, same (fun h => h.2.2.elim c2 e2)⟩
      · simp (disch := omega) only [↓bd_e, ↓jn_e, ↓opt_bind, ↓reduceIte, iLeT, iLeF, iLtT, iLtF, iEqT, iEqF, il_0, il_1, il_2, il_3, il_4, il_5, il_6, il_7, il_8, il_9, il_10, il_11, il_12, il_13, il_14, il_15, il_16, il_18, il_20, il_24, il_32, il_35, il_40, il_44, il_47, il_48, il_56, il_57, il_58, il_59, il_63, il_64, il_72, il_100, il_120, il_126, il_127, il_160, il_192, il_255, il_349, il_1748, il_6992, iI_add, iI_sub, iI_mul, iI_neg, iI_le, iI_lt, iI_eq, rd_lA, wr_lA, rd_lR, wr_lR, ite_iI, max_iI, min_iI, rem_iI, div_iI, ite_true, ite_false, if_true, if_false, ite_self, and_self, and_true, true_and, and_false, false_and, or_self, or_true, true_or, or_false, false_or, not_true_eq_false, not_false_eq_true, hfw, e1']
        exact ⟨f, FX, FY, FW, FH, rfl, same (fun h => h.2.1.elim c1 e2')⟩
