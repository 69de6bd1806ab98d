theorem x_bestMethod {V : Int → Int} {c : Nat → Int → Int} {S : Nat → Nat → Int32} {d : Nat → Int → Int} {l p : Int} {F : Int → Nat → Nat → Int32} {P : Int → Int} (h : stI V c S d l p F P) (ST : Nat → Nat → Int32) (w0 h0 : Int32) (fr : Nat → Int64) (CT NT : Nat → Int32) (F0 Pg X Y Tt f s : Int32) (line : Nat → Int32) (bx bY b1 b2 b3 b4 b5 b6 : Int32) (sp : Nat → Int32) (cm : Nat → Int → Int) (A1 A2 A3 A4 A5 A6 A7 A8 A9 A10 T0 : Nat → Int32) :
    ∃ (a : Int32) (ST' : Nat → Nat → Int32) (w' h' : Int32) (fr' : Nat → Int64) (C' N' : Nat → Int32) (F' Pg' X' Y' Tt' f' s' : Int32) (line' : Nat → Int32) (bx' bY' b1' b2' b3' b4' b5' b6' : Int32) (sp' : Nat → Int32) (cm' : Nat → Int → Int) (B1 B2 B3 B4 B5 B6 B7 B8 B9 B10 T' : Nat → Int32),
      f_X10_bestMethod S ST (lA (d 2)) (lA (d 3)) (lA (d 4)) w0 h0 fr CT NT F0 Pg X Y Tt f s line = some (a, ST', w', h', fr', C', N', F', Pg', X', Y', Tt', f', s', line') ∧
      f_X11_bestMethod bx bY b1 b2 b3 b4 b5 b6 (lA V) sp (lA (cm 0)) (lA (cm 1)) (lA (cm 2)) (lA (cm 3)) (lA (cm 4)) (lA (cm 5)) A1 A2 A3 A4 A5 A6 A7 A8 A9 A10 T0 = some (a, bx', bY', b1', b2', b3', b4', b5', b6', lA V, sp', lA (cm' 0), lA (cm' 1), lA (cm' 2), lA (cm' 3), lA (cm' 4), lA (cm' 5), B1, B2, B3, B4, B5, B6, B7, B8, B9, B10, T') := by
  obtain ⟨g1, g2, g3, g4, g5⟩ := id h
  obtain ⟨go, gs, gi, gp, gg⟩ := id g1
  have h78 : (0 ≤ V 7 ∧ V 7 ≤ 1) ∧ (0 ≤ V 8 ∧ V 8 ≤ 3) := by unfold vSet at gs; omega
  obtain ⟨KT, rfl⟩ := lA_ex CT
  obtain ⟨MT, rfl⟩ := lA_ex NT
  obtain ⟨bx', bY', c', k1, k2⟩ := m_knows gi h78 cm bx bY
  obtain ⟨Sp, k3, k4⟩ := m_keeps V sp
  obtain ⟨R, e1, e2⟩ := c_copy gs g2 ST
  have hR := sR_eq gi e2 g2
  have hD : ∀ j, 0 ≤ j → j < V 0 → vDd c' d j := fun j j0 j1 => vDd_cEq (vCat_uniq g3 k2) j0 j1 (cat_r gi g3 j j0 j1).1.1 (g4 j j0 j1)
  have hI := trI2_0 g1 k2 hR
  unfold f_X10_bestMethod f_X11_bestMethod
  obtain ⟨fu, hfu, hfu2⟩ := fuel_ex; rw [hfu]
  rw [e1, opt_bind, k1, opt_bind, k3, opt_bind, jn_e, show (-1 : Int32) = iI (-1) by decide +kernel, il_0, show (1000000000 : Int64) = iL 1000000000 by decide +kernel]
  obtain ⟨bm, ST', w', h', fr', C', N', F', Pg', X', Y', Tt', f', s', line', b1', b2', b3', b4', b5', b6', V', B1, B2, B3, B4, B5, B6, B7, B8, B9, B10, T', hb, o1, o2, hv⟩ := x_best1 gs hR hD hI (fun z _ _ => rfl) (fun x3 x4 x5 x6 x7 x8 x9 f10 f11 f12 f13 f14 f15 f16 f17 f18 f19 f20 f21 =>
    (f_X11_brings f10 (lA Sp)).bind fun r23 => some (((10 * (x3 / 4)) + (g_rem x3 4)), bx', bY', x4, x5, x6, x7, x8, x9, r23, lA Sp, lA (c' 0), lA (c' 1), lA (c' 2), lA (c' 3), lA (c' 4), lA (c' 5), f11, f12, f13, f14, f15, f16, f17, f18, f19, f20, f21)) bx' bY' (lA (c' 0)) (lA (c' 1)) (lA (c' 5)) hfu (M := fu) (by omega) (by omega) w0 h0 fr KT MT F0 Pg X Y Tt f s line b1 b2 b3 b4 b5 b6 A1 A2 A3 A4 A5 A6 A7 A8 A9 A10 T0 (iI 0)
  refine ⟨iI (10 * (bm / 4) + bm % 4), ST', w', h', fr', C', N', F', Pg', X', Y', Tt', f', s', line', bx', bY', b1', b2', b3', b4', b5', b6', lA Sp, c', B1, B2, B3, B4, B5, B6, B7, B8, B9, B10, T', o1, ?_⟩
  refine Eq.trans o2 ?_
  show (f_X11_brings (lA V') (lA Sp)).bind _ = _
  rw [m_brings hv go k4, opt_bind, il_4, div_iI (by omega) (by omega) (by omega) (by omega), rem_iI (by omega) (by omega) (by omega) (by omega), il_10, iI_mul, iI_add]
