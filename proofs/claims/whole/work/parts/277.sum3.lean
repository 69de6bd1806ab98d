abbrev tP15 : Type := Int64 × Int32 × Int32 × Int32 × Int32 × (Nat → Int32) × (Nat → Int32) × (Nat → Int32) × (Nat → Int32) × (Nat → Int32) × (Nat → Int32) × (Nat → Int32) × (Nat → Int32) × (Nat → Int32) × (Nat → Int32)
theorem x_rowI {V : Int → Int} {c d : Nat → Int → Int} {S : Nat → Nat → Int32} (hs : vSet V) (hi : vImg V) (hp : vPlc V) (hc : vCat V c) (hg : vGeo V c) (hr : sR V S) (hD : ∀ j, 0 ≤ j → j < V 0 → vDe c d j) {p y : Int} (p0 : 0 ≤ p ∧ p < 100) (y0 : 0 ≤ y ∧ y < 100) (R : Option Int64 → Option tP15 → Prop) {kk : Int64 → Option Int64} {kk2 : Int64 → Int32 → Int32 → Option tP15} (hk : ∀ z b1 b2, R (kk z) (kk2 z b1 b2)) {fu : Nat} (hfu : 100 < fu) (z : Int64) (bx by' : Int32) :
    R (f_X10_mixPage_L55 S (lA (d 0)) (lA (d 1)) (lA (d 2)) (lA (d 3)) (iI p) (iI y) kk fu z (iI 0)) (f_X11_moreOfPage_L54 (lA V) (lA (c 0)) (lA (c 1)) (lA (c 2)) (lA (c 3)) (iI p) (iI y) kk2 fu z (iI 0) bx by') := by
  have h12 : (4 ≤ V 1 ∧ V 1 ≤ 32) ∧ (4 ≤ V 2 ∧ V 2 ≤ 32) := by unfold vSet at hs; omega
  have e0 : S 5 0 = iI (V 1) := hr.2.1 0 (by omega)
  refine lpp (fun n x (u : Int64 × Int32 × Int32) => (f_X10_mixPage_L55 S (lA (d 0)) (lA (d 1)) (lA (d 2)) (lA (d 3)) (iI p) (iI y) kk n u.1 (iI x), f_X11_moreOfPage_L54 (lA V) (lA (c 0)) (lA (c 1)) (lA (c 2)) (lA (c 3)) (iI p) (iI y) kk2 n u.1 (iI x) u.2.1 u.2.2)) (fun o => R o.1 o.2) (V 1) (fun x u => 0 ≤ x) ?_ ?_ fu 0 (z, bx, by') (by omega) (by omega) (by omega)
  · rintro n ⟨z, bx, by'⟩ -
    show R (f_X10_mixPage_L55 S _ _ _ _ _ _ kk (n + 1) z (iI (V 1))) (f_X11_moreOfPage_L54 (lA V) (lA (c 0)) (lA (c 1)) (lA (c 2)) (lA (c 3)) (iI p) (iI y) kk2 (n + 1) z (iI (V 1)) bx by')
    rw [f_X10_mixPage_L55, f_X11_moreOfPage_L54, e0, if_pos (Int32.le_refl _), il_1, rd_lA _ _ (by omega) (by omega) (by omega), if_pos (Int32.le_refl _)]
    exact hk z bx by'
  · rintro n x ⟨z, bx, by'⟩ hx x0 ih
    obtain ⟨a, b1, b2, s1, s2⟩ := x_colorOn hs hi hp hc hg hr hD p0 (x := x) (by omega) y0 bx by'
    show R (f_X10_mixPage_L55 S (lA (d 0)) (lA (d 1)) (lA (d 2)) (lA (d 3)) (iI p) (iI y) kk (n + 1) z (iI x)) (f_X11_moreOfPage_L54 (lA V) (lA (c 0)) (lA (c 1)) (lA (c 2)) (lA (c 3)) (iI p) (iI y) kk2 (n + 1) z (iI x) bx by')
    rw [f_X10_mixPage_L55, f_X11_moreOfPage_L54, e0, if_neg (show ¬ iI (V 1) ≤ iI x by rw [iI_le (by omega) (by omega) (by omega) (by omega)]; omega), il_1, rd_lA _ _ (by omega) (by omega) (by omega), if_neg (show ¬ iI (V 1) ≤ iI x by rw [iI_le (by omega) (by omega) (by omega) (by omega)]; omega), s1, s2, opt_bind, opt_bind, bd_e, bd_e, bd_e, bd_e, more_mix, iI_add]
    exact ih (f_X10_mix z a.toInt64, b1, b2) (by omega)
theorem x_rows {V : Int → Int} {c d : Nat → Int → Int} {S : Nat → Nat → Int32} (hs : vSet V) (hi : vImg V) (hp : vPlc V) (hc : vCat V c) (hg : vGeo V c) (hr : sR V S) (hD : ∀ j, 0 ≤ j → j < V 0 → vDe c d j) {p : Int} (p0 : 0 ≤ p ∧ p < 100) (m f : Int32) (A1 A2 A3 A4 A5 A6 A7 A8 A9 A10 : Nat → Int32) (z : Int64) (bx by' : Int32) :
    ∃ r b1 b2, f_X10_mixPage_L37 S (lA (d 0)) (lA (d 1)) (lA (d 2)) (lA (d 3)) (iI p) g_fuel z 0 = some r ∧ f_X11_moreOfPage_L40 (lA V) (lA (c 0)) (lA (c 1)) (lA (c 2)) (lA (c 3)) (iI p) (m, f, A1, A2, A3, A4, A5, A6, A7, A8, A9, A10) g_fuel z 0 bx by' = some (r, b1, b2, m, f, A1, A2, A3, A4, A5, A6, A7, A8, A9, A10) := by
  have h12 : (4 ≤ V 1 ∧ V 1 ≤ 32) ∧ (4 ≤ V 2 ∧ V 2 ≤ 32) := by unfold vSet at hs; omega
  have e1 : S 5 1 = iI (V 2) := hr.2.1 1 (by omega)
  obtain ⟨fu, hfu, hfu2⟩ := fuel_ex; rw [hfu]
  rw [il_0]
  refine lpp (fun n y (u : Int64 × Int32 × Int32) => (f_X10_mixPage_L37 S (lA (d 0)) (lA (d 1)) (lA (d 2)) (lA (d 3)) (iI p) n u.1 (iI y), f_X11_moreOfPage_L40 (lA V) (lA (c 0)) (lA (c 1)) (lA (c 2)) (lA (c 3)) (iI p) (m, f, A1, A2, A3, A4, A5, A6, A7, A8, A9, A10) n u.1 (iI y) u.2.1 u.2.2)) (fun o => ∃ r b1 b2, o.1 = some r ∧ o.2 = some (r, b1, b2, m, f, A1, A2, A3, A4, A5, A6, A7, A8, A9, A10)) (V 2) (fun x u => 0 ≤ x) ?_ ?_ fu 0 (z, bx, by') (by omega) (by omega) (by omega)
  · rintro n ⟨z, bx, by'⟩ -
    refine ⟨z, bx, by', ?_, ?_⟩
    · show f_X10_mixPage_L37 S _ _ _ _ _ (n + 1) z (iI (V 2)) = _
      rw [f_X10_mixPage_L37, e1, if_pos (Int32.le_refl _)]
    · show f_X11_moreOfPage_L40 _ _ _ _ _ _ _ (n + 1) z (iI (V 2)) bx by' = _
      rw [f_X11_moreOfPage_L40, il_2, rd_lA _ _ (by omega) (by omega) (by omega), if_pos (Int32.le_refl _)]
  · rintro n y ⟨z, bx, by'⟩ hy y0 ih
    show ∃ r b1 b2, f_X10_mixPage_L37 S _ _ _ _ _ (n + 1) z (iI y) = _ ∧ f_X11_moreOfPage_L40 _ _ _ _ _ _ _ (n + 1) z (iI y) bx by' = _
    rw [f_X10_mixPage_L37, f_X11_moreOfPage_L40, e1, if_neg (show ¬ iI (V 2) ≤ iI y by rw [iI_le (by omega) (by omega) (by omega) (by omega)]; omega), il_2, rd_lA _ _ (by omega) (by omega) (by omega), if_neg (show ¬ iI (V 2) ≤ iI y by rw [iI_le (by omega) (by omega) (by omega) (by omega)]; omega), jn_e, jn_e, hfu, il_0]
    refine x_rowI hs hi hp hc hg hr hD p0 (by omega) (fun o1 o2 => ∃ r b1 b2, o1 = some r ∧ o2 = some (r, b1, b2, m, f, A1, A2, A3, A4, A5, A6, A7, A8, A9, A10)) ?_ (by omega) z bx by'
    intro z b1 b2
    rw [bd_e, bd_e, il_1, iI_add]
    exact ih (z, b1, b2) (by omega)
theorem x_pageSum {V : Int → Int} {c : Nat → Int → Int} {S : Nat → Nat → Int32} {d : Nat → Int → Int} {l p : Int} {F : Int → Nat → Nat → Int32} {P : Int → Int} (h : stI V c S d l p F P) {K N : Int → Int} (hsp : spI V c K N) {c' : Nat → Int → Int} (k2 : vCat V c') {i : Int} (hq : 0 ≤ i ∧ i < V 13) (bx bY : Int32) (A1 A2 A3 A4 A5 A6 A7 A8 A9 A10 : Nat → Int32) (y : Int64) :
    ∃ (r : Int64) (b1 b2 m f : Int32) (B1 B2 B3 B4 B5 B6 B7 B8 B9 B10 : Nat → Int32), f_X10_mixPage S (lA (d 0)) (lA (d 1)) (lA (d 2)) (lA (d 3)) (lA N) y (iI i) = some r ∧ f_X11_moreOfPage bx bY (lA V) (lA (c' 0)) (lA (c' 1)) (lA (c' 2)) (lA (c' 3)) A1 A2 A3 A4 A5 A6 A7 A8 A9 A10 y (iI i) = some (r, b1, b2, m, f, B1, B2, B3, B4, B5, B6, B7, B8, B9, B10) := by
  obtain ⟨g1, g2, g3, g4, g5⟩ := id h
  obtain ⟨go, gs, gi, gp, gg⟩ := id g1
  have h3 : V 3 ≤ 4 ∧ (0 ≤ V 7 ∧ V 7 ≤ 1) ∧ (0 ≤ V 8 ∧ V 8 ≤ 3) := by unfold vSet at gs; omega
  have h13 := gp.1
  have hD : ∀ j, 0 ≤ j → j < V 0 → vDe c' d j := fun j j0 j1 => vDe_Dd (vDd_cEq (vCat_uniq g3 k2) j0 j1 (cat_r gi g3 j j0 j1).1.1 (g4 j j0 j1))
  have hd2 : ∀ j, 0 ≤ j → j < V 0 → d 2 j = c' 2 j ∧ d 3 j = c' 3 j := fun j j0 j1 => ⟨(hD j j0 j1).1, (hD j j0 j1).2.1⟩
  have hbl := vCat_bl gi k2
  obtain ⟨X1, rfl⟩ := lA_ex A1
  obtain ⟨X2, rfl⟩ := lA_ex A2
  obtain ⟨X3, rfl⟩ := lA_ex A3
  obtain ⟨X4, rfl⟩ := lA_ex A4
  obtain ⟨X5, rfl⟩ := lA_ex A5
  obtain ⟨X6, rfl⟩ := lA_ex A6
  obtain ⟨X7, rfl⟩ := lA_ex A7
  obtain ⟨X8, rfl⟩ := lA_ex A8
  obtain ⟨X9, rfl⟩ := lA_ex A9
  obtain ⟨X10, rfl⟩ := lA_ex A10
  obtain ⟨m, X, Y, W, H, f, FX, FY, FW, FH, bg, en, s1, s2, s3⟩ := m_freesOf gs gi gp hbl (gg c' k2) (p := i) (by omega) X1 X2 X3 X4 X5 X6 X7 X8 X9 X10
  have hE := spI_cEq (vCat_uniq g3 k2) hsp i (by omega) (by omega)
  obtain ⟨u1, u2⟩ := En_uniq hE s3.1
  obtain ⟨z1, -, a1, a2⟩ := x_usedC gs gi gp hbl (gg c' k2) g2 hd2 (p := i) (by omega)
  obtain ⟨z2, -, a3, a4⟩ := x_usedR gs gi gp hbl (gg c' k2) g2 hd2 (p := i) (by omega)
  have hpg := c_page g2 (by omega) (p := i) (by omega)
  rw [if_pos ⟨hq.1, by omega⟩] at hpg
  unfold f_X10_mixPage f_X10_usedWidth f_X10_usedHeight f_X10_freeRectangles f_X11_moreOfPage
  rw [hpg, opt_bind, if_neg (by decide +kernel : ¬ iI 1 = (0 : Int32)), opt_bind, if_neg (by decide +kernel : ¬ iI 1 = (0 : Int32)), opt_bind, if_neg (by decide +kernel : ¬ iI 1 = (0 : Int32)), a1, opt_bind, opt_bind, a3, opt_bind, opt_bind, bd_e, rd_lA _ _ (by omega) (by omega) (by omega), opt_bind, s1, opt_bind, a2, opt_bind, a4, opt_bind, u1]
  simp only [bd_e, more_mix]
  obtain ⟨r, b1, b2, q1, q2⟩ := x_rows gs gi gp k2 (gg c' k2) g2 hD (p := i) (by omega) (iI m) (iI f) (lA X) (lA Y) (lA W) (lA H) (lA FX) (lA FY) (lA FW) (lA FH) (lA bg) (lA en) (f_X10_mix (f_X10_mix (f_X10_mix y (iI z1).toInt64) (iI z2).toInt64) (iI f).toInt64) bx bY
  exact ⟨r, b1, b2, iI m, iI f, lA X, lA Y, lA W, lA H, lA FX, lA FY, lA FW, lA FH, lA bg, lA en, q1, q2⟩
theorem x_checksum {V : Int → Int} {c : Nat → Int → Int} {S : Nat → Nat → Int32} {d : Nat → Int → Int} {l p : Int} {F : Int → Nat → Nat → Int32} {P : Int → Int} (h : stI V c S d l p F P) {K N : Int → Int} (hsp : spI V c K N) (bx bY b3 b4 : Int32) (cm : Nat → Int → Int) (A1 A2 A3 A4 A5 A6 A7 A8 A9 A10 : Nat → Int32) :
    ∃ (r : Int64) (bx' bY' b3' b4' : Int32) (cm' : Nat → Int → Int) (B1 B2 B3 B4 B5 B6 B7 B8 B9 B10 : Nat → Int32), f_X10_checksum S (lA (d 0)) (lA (d 1)) (lA (d 2)) (lA (d 3)) (lA (d 4)) (lA (d 5)) (lA N) = some r ∧ f_X11_checksum bx bY b3 b4 (lA V) (lA (cm 0)) (lA (cm 1)) (lA (cm 2)) (lA (cm 3)) (lA (cm 4)) (lA (cm 5)) A1 A2 A3 A4 A5 A6 A7 A8 A9 A10 = some (r, bx', bY', b3', b4', lA (cm' 0), lA (cm' 1), lA (cm' 2), lA (cm' 3), lA (cm' 4), lA (cm' 5), B1, B2, B3, B4, B5, B6, B7, B8, B9, B10) := by
  obtain ⟨g1, g2, g3, g4, g5⟩ := id h
  obtain ⟨go, gs, gi, gp, gg⟩ := id g1
  have hn := gi.1
  have h3 : V 3 ≤ 4 ∧ (0 ≤ V 7 ∧ V 7 ≤ 1) ∧ (0 ≤ V 8 ∧ V 8 ≤ 3) := by unfold vSet at gs; omega
  have h13 := gp.1
  have e0 : S 0 0 = iI (V 0) := g2.1.1
  have e6 : S 6 0 = iI (V 13) := g2.1.2
  obtain ⟨bx', bY', c', k1, k2⟩ := m_knows gi h3.2 cm bx bY
  unfold f_X10_checksum f_X11_checksum
  obtain ⟨fu, hfu, hfu2⟩ := fuel_ex; rw [hfu]
  rw [k1, opt_bind, e0, e6, bd_e, jn_e, il_0, rd_lA _ _ (by omega) (by omega) (by omega), bd_e, jn_e, more_mix]
  suffices key : ∃ (r : Int64) (b1 b2 b3' b4' : Int32) (B1 B2 B3 B4 B5 B6 B7 B8 B9 B10 : Nat → Int32), f_X10_checksum_L20 S (lA (d 0)) (lA (d 1)) (lA (d 2)) (lA (d 3)) (lA (d 4)) (lA (d 5)) (fun y2 => g_bd (f_X10_mix y2 (iI (V 13)).toInt64) fun y4 => f_X10_checksum_L65 S (lA (d 0)) (lA (d 1)) (lA (d 2)) (lA (d 3)) (lA N) fu y4 (iI 0)) fu (f_X10_mix 19 (iI (V 0)).toInt64) (iI 0) = some r ∧
      f_X11_checksum_L19 (lA V) (bx', bY', lA (c' 0), lA (c' 1), lA (c' 2), lA (c' 3), lA (c' 4), lA (c' 5)) (fun y4 x5 x6 => g_rd (lA V) 1748 13 fun x8 => g_bd (f_X11_more y4 x8) fun y9 => f_X11_checksum_L56 (lA V) (bx', bY', lA (c' 0), lA (c' 1), lA (c' 2), lA (c' 3), lA (c' 4), lA (c' 5)) fu y9 (iI 0) x5 x6 b3 b4 A1 A2 A3 A4 A5 A6 A7 A8 A9 A10) fu (f_X10_mix 19 (iI (V 0)).toInt64) (iI 0) bx' bY' = some (r, b1, b2, b3', b4', lA (c' 0), lA (c' 1), lA (c' 2), lA (c' 3), lA (c' 4), lA (c' 5), B1, B2, B3, B4, B5, B6, B7, B8, B9, B10) by
    obtain ⟨r, b1, b2, b3', b4', B1, B2, B3, B4, B5, B6, B7, B8, B9, B10, q1, q2⟩ := key
    exact ⟨r, b1, b2, b3', b4', c', B1, B2, B3, B4, B5, B6, B7, B8, B9, B10, q1, q2⟩
  refine lpp (fun n i (u : Int64 × Int32 × Int32) => (f_X10_checksum_L20 S (lA (d 0)) (lA (d 1)) (lA (d 2)) (lA (d 3)) (lA (d 4)) (lA (d 5)) (fun y2 => g_bd (f_X10_mix y2 (iI (V 13)).toInt64) fun y4 => f_X10_checksum_L65 S (lA (d 0)) (lA (d 1)) (lA (d 2)) (lA (d 3)) (lA N) fu y4 (iI 0)) n u.1 (iI i), f_X11_checksum_L19 (lA V) (bx', bY', lA (c' 0), lA (c' 1), lA (c' 2), lA (c' 3), lA (c' 4), lA (c' 5)) (fun y4 x5 x6 => g_rd (lA V) 1748 13 fun x8 => g_bd (f_X11_more y4 x8) fun y9 => f_X11_checksum_L56 (lA V) (bx', bY', lA (c' 0), lA (c' 1), lA (c' 2), lA (c' 3), lA (c' 4), lA (c' 5)) fu y9 (iI 0) x5 x6 b3 b4 A1 A2 A3 A4 A5 A6 A7 A8 A9 A10) n u.1 (iI i) u.2.1 u.2.2))
    (fun o => ∃ (r : Int64) (b1 b2 b3' b4' : Int32) (B1 B2 B3 B4 B5 B6 B7 B8 B9 B10 : Nat → Int32), o.1 = some r ∧ o.2 = some (r, b1, b2, b3', b4', lA (c' 0), lA (c' 1), lA (c' 2), lA (c' 3), lA (c' 4), lA (c' 5), B1, B2, B3, B4, B5, B6, B7, B8, B9, B10)) (V 0) (fun x u => 0 ≤ x) ?_ ?_ fu 0 (f_X10_mix 19 (iI (V 0)).toInt64, bx', bY') (by omega) (by omega) (by omega)
  · rintro n ⟨z, b1, b2⟩ -
    dsimp only
    rw [f_X10_checksum_L20, f_X11_checksum_L19, e0, if_pos (Int32.le_refl _), il_0, rd_lA _ _ (by omega) (by omega) (by omega), if_pos (Int32.le_refl _), bd_e, il_13, rd_lA _ _ (by omega) (by omega) (by omega), bd_e, more_mix]
    refine lpp (fun n i (u : (Int64 × Int32 × Int32 × Int32 × Int32) × ((Nat → Int32) × (Nat → Int32) × (Nat → Int32) × (Nat → Int32) × (Nat → Int32) × (Nat → Int32) × (Nat → Int32) × (Nat → Int32) × (Nat → Int32) × (Nat → Int32))) => (f_X10_checksum_L65 S (lA (d 0)) (lA (d 1)) (lA (d 2)) (lA (d 3)) (lA N) n u.1.1 (iI i), f_X11_checksum_L56 (lA V) (bx', bY', lA (c' 0), lA (c' 1), lA (c' 2), lA (c' 3), lA (c' 4), lA (c' 5)) n u.1.1 (iI i) u.1.2.1 u.1.2.2.1 u.1.2.2.2.1 u.1.2.2.2.2 u.2.1 u.2.2.1 u.2.2.2.1 u.2.2.2.2.1 u.2.2.2.2.2.1 u.2.2.2.2.2.2.1 u.2.2.2.2.2.2.2.1 u.2.2.2.2.2.2.2.2.1 u.2.2.2.2.2.2.2.2.2.1 u.2.2.2.2.2.2.2.2.2.2))
      (fun o => ∃ (r : Int64) (b1 b2 b3' b4' : Int32) (B1 B2 B3 B4 B5 B6 B7 B8 B9 B10 : Nat → Int32), o.1 = some r ∧ o.2 = some (r, b1, b2, b3', b4', lA (c' 0), lA (c' 1), lA (c' 2), lA (c' 3), lA (c' 4), lA (c' 5), B1, B2, B3, B4, B5, B6, B7, B8, B9, B10)) (V 13) (fun x u => 0 ≤ x) ?_ ?_ fu 0 ((f_X10_mix z (iI (V 13)).toInt64, b1, b2, b3, b4), A1, A2, A3, A4, A5, A6, A7, A8, A9, A10) (by omega) (by omega) (by omega)
    · clear b1 b2
      rintro n ⟨⟨z, b1, b2, b3, b4⟩, A1, A2, A3, A4, A5, A6, A7, A8, A9, A10⟩ -
      refine ⟨z, b1, b2, b3, b4, A1, A2, A3, A4, A5, A6, A7, A8, A9, A10, ?_, ?_⟩
      · show f_X10_checksum_L65 S _ _ _ _ _ (n + 1) z (iI (V 13)) = _
        rw [f_X10_checksum_L65, e6, if_pos (Int32.le_refl _)]
      · show f_X11_checksum_L56 _ _ (n + 1) z (iI (V 13)) b1 b2 b3 b4 A1 A2 A3 A4 A5 A6 A7 A8 A9 A10 = _
        rw [f_X11_checksum_L56, il_13, rd_lA _ _ (by omega) (by omega) (by omega), if_pos (Int32.le_refl _)]
    · clear b1 b2
      rintro n i ⟨⟨z, b1, b2, b3, b4⟩, A1, A2, A3, A4, A5, A6, A7, A8, A9, A10⟩ hx x0 ih
      obtain ⟨r, p1, p2, m, f, B1, B2, B3, B4, B5, B6, B7, B8, B9, B10, q1, q2⟩ := x_pageSum h hsp k2 (i := i) ⟨x0, hx⟩ b1 b2 A1 A2 A3 A4 A5 A6 A7 A8 A9 A10 z
      dsimp only
      rw [f_X10_checksum_L65, f_X11_checksum_L56, e6, if_neg (show ¬ iI (V 13) ≤ iI i by rw [iI_le (by omega) (by omega) (by omega) (by omega)]; omega), il_13, rd_lA _ _ (by omega) (by omega) (by omega), if_neg (show ¬ iI (V 13) ≤ iI i by rw [iI_le (by omega) (by omega) (by omega) (by omega)]; omega), q1, q2, opt_bind, opt_bind, bd_e, bd_e, il_1, iI_add]
      exact ih ((r, p1, p2, m, f), B1, B2, B3, B4, B5, B6, B7, B8, B9, B10) (by omega)
  · rintro n i ⟨z, b1, b2⟩ hx x0 ih
    obtain ⟨r, p1, p2, q1, q2⟩ := x_sprite h k2 (i := i) ⟨x0, hx⟩ b1 b2 z
    dsimp only
    rw [f_X10_checksum_L20, f_X11_checksum_L19, e0, if_neg (show ¬ iI (V 0) ≤ iI i by rw [iI_le (by omega) (by omega) (by omega) (by omega)]; omega), il_0, rd_lA _ _ (by omega) (by omega) (by omega), if_neg (show ¬ iI (V 0) ≤ iI i by rw [iI_le (by omega) (by omega) (by omega) (by omega)]; omega), q1, q2, opt_bind, opt_bind, bd_e, bd_e, il_1, iI_add]
    exact ih (r, p1, p2) (by omega)
