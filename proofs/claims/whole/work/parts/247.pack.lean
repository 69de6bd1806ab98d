theorem vGeo_cEq {V : Int → Int} {c c' : Nat → Int → Int} (h : cEq (V 0) c c') (g : vGeo V c) : vGeo V c' := by
  have hb : ∀ s, 0 ≤ s → s < V 0 → ∀ t, bxW V c s t = bxW V c' s t ∧ bxH V c s t = bxH V c' s t := by
    intro s s0 s1 t
    obtain ⟨e2, e3, -⟩ := h s s0 s1
    unfold bxW bxH
    rw [e2, e3]
    exact ⟨rfl, rfl⟩
  refine ⟨fun s s0 s1 s2 => ?_, fun s s' s0 hl s1 s2 s3 => ?_⟩
  · obtain ⟨⟨g1, g2⟩, g3⟩ := g.1 s s0 s1 s2
    obtain ⟨e2, -, -, e4, -⟩ := h s s0 s1
    rw [(hb s s0 s1 _).1, (hb s s0 s1 _).2] at g3
    exact ⟨⟨by omega, by omega⟩, g3⟩
  · have := g.2 s s' s0 hl s1 s2 s3
    rw [(hb s s0 (by omega) _).1, (hb s s0 (by omega) _).2, (hb s' (by omega) s1 _).1, (hb s' (by omega) s1 _).2] at this
    exact this
theorem vDd_cEq {n : Int} {c c' d : Nat → Int → Int} (h : cEq n c c') {j : Int} (j0 : 0 ≤ j) (j1 : j < n) (hw : 0 ≤ c 2 j) (g : vDd c d j) : vDd c' d j := by
  obtain ⟨e2, e3, e01, e4, e5⟩ := h j j0 j1
  obtain ⟨g0, g1, g2, g3, g4, g5⟩ := g
  unfold orN at g0 g1
  unfold or4 at g4 g5
  refine ⟨?_, ?_, by omega, by omega, ?_, ?_⟩
  · unfold orN
    rw [← e2]
    by_cases z : c 2 j = 0
    · simp only [z, if_true] at g0 ⊢
      exact g0
    · rw [← (e01 (by omega)).1]
      exact g0
  · unfold orN
    rw [← e2]
    by_cases z : c 2 j = 0
    · simp only [z, if_true] at g1 ⊢
      exact g1
    · rw [← (e01 (by omega)).2]
      exact g1
  · unfold or4
    rw [← e4]
    exact g4
  · unfold or4
    rw [← e4]
    by_cases z : c 4 j = -1
    · simp only [z, if_true] at g5 ⊢
      exact g5
    · rw [← e5 z]
      exact g5
theorem vIA_E {n : Int} (hn : n ≤ 24) (V : Int → Int) : vIA n V (vE V) := by
  refine ⟨⟨(vE_ne (by omega) (by omega)).symm, (vE_ne (by omega) (by omega)).symm⟩, fun s s0 s1 => ⟨(vE_ne (by omega) (by omega)).symm, (vE_ne (by omega) (by omega)).symm, fun x y x0 x1 y0 y1 => (vE_ne (by omega) (by omega)).symm⟩⟩
theorem pcA_good {W V : Int → Int} {c : Nat → Int → Int} {S0 S : Nat → Nat → Int32} {K N : Int → Int} (h : pcA W V c S0 S K N) (hi : vImg W) (h8 : 0 ≤ W 8 ∧ W 8 ≤ 3) (hc : vCat W c) : vGood V ∧ vCat V c := by
  obtain ⟨⟨gs, gi, gp, gb, gg⟩, -, ⟨w1, w2, w3⟩, -⟩ := h
  have hc' := vCat_cong hi gi h8 (w1 0 (by omega)).symm w2 hc
  exact ⟨⟨w3, gs, gi, gp, fun c' h' => vGeo_cEq (vCat_uniq hc' h') gg⟩, hc'⟩
theorem x_pack {V : Int → Int} {c : Nat → Int → Int} {S : Nat → Nat → Int32} {d : Nat → Int → Int} {l p : Int} {H0 H1 H2 H3 H4 : Nat → Nat → Int32} {P : Int → Int} (h : stI V c S d l p (hF H0 H1 H2 H3 H4) P) (spW spH : Int32) (fr : Nat → Int64) (K N : Int → Int) (F Pg X Y Tt f s : Int32) (line : Nat → Int32) (bx bY b1 b2 b3 b4 b5 b6 : Int32) (cm : Nat → Int → Int) (A1 A2 A3 A4 A5 A6 A7 A8 A9 A10 T0 : Nat → Int32) :
    ∃ (a : Int32) (V' : Int → Int) (c' : Nat → Int → Int) (S' K0 K1 K2 K3 K4 : Nat → Nat → Int32) (P' K' N' : Int → Int) (spW' spH' : Int32) (fr' : Nat → Int64) (F' Pg' X' Y' Tt' f' s' : Int32) (line' : Nat → Int32) (bx' bY' b1' b2' b3' b4' b5' b6' : Int32) (B1 B2 B3 B4 B5 B6 B7 B8 B9 B10 T' : Nat → Int32),
      f_X10_pack S (lA (d 2)) (lA (d 3)) (lA (d 4)) spW spH fr (lA K) (lA N) F Pg X Y Tt f s line (iI l) (iI p) H0 H1 H2 H3 H4 = some (a, S', spW', spH', fr', lA K', lA N', F', Pg', X', Y', Tt', f', s', line', iI ((l + 1) % 5), iI (min (p + 1) 5), K0, K1, K2, K3, K4) ∧
      f_X11_pack (iI p) bx bY b1 b2 b3 b4 b5 b6 (lA V) (lA P) (lA (cm 0)) (lA (cm 1)) (lA (cm 2)) (lA (cm 3)) (lA (cm 4)) (lA (cm 5)) A1 A2 A3 A4 A5 A6 A7 A8 A9 A10 T0 = some (a, iI (min (p + 1) 5), bx', bY', b1', b2', b3', b4', b5', b6', lA V', lA P', lA (c' 0), lA (c' 1), lA (c' 2), lA (c' 3), lA (c' 4), lA (c' 5), B1, B2, B3, B4, B5, B6, B7, B8, B9, B10, T') ∧
      stI V' c' S' d ((l + 1) % 5) (min (p + 1) 5) (hF K0 K1 K2 K3 K4) P' ∧ spI V' c' K' N' := by
  obtain ⟨g1, g2, g3, g4, g5⟩ := id h
  obtain ⟨go, gs, gi, gp, gg⟩ := id g1
  have g5' := g5.1
  have hn24 := gi.1
  have h78 : (0 ≤ V 7 ∧ V 7 ≤ 1) ∧ (0 ≤ V 8 ∧ V 8 ≤ 3) := by unfold vSet at gs; omega
  obtain ⟨K0, K1, K2, K3, K4, e1, e2, e3⟩ := c_record gs g2 (l := l) (p := p) (by omega) (by omega) H0 H1 H2 H3 H4
  obtain ⟨P', e4, e5, e6⟩ := m_notes (V := V) (P := P) (p := p) (by omega)
  obtain ⟨bx', bY', c', k1, k2⟩ := m_knows gi h78 cm bx bY
  have hcc := vCat_uniq g3 k2
  have hcr := cat_r gi g3
  have hd' : ∀ j, 0 ≤ j → j < V 0 → vDd c' d j := fun j j0 j1 => vDd_cEq hcc j0 j1 (hcr j j0 j1).1.1 (g4 j j0 j1)
  -- the emptied atlas
  obtain ⟨G, e7, e8⟩ := c_fill (A := S 8) (x := -4)
  have hsE := sR_E gi (sR_2 g2) (S 6) G e8
  have hE0 : vE V 0 = V 0 := vE_ne (by omega) (by omega)
  have hE8 : vE V 8 = V 8 := vE_ne (by omega) (by omega)
  obtain ⟨ho', hs', hi', hp', hg'⟩ := vE_good go gs gi gp.2.2
  have hcE : vCat (vE V) c' := vCat_cong gi hi' h78.2 hE0.symm (vIA_E hn24.2 V) k2
  have hcrE := cat_r hi' hcE
  have hpgE : ∀ s, 0 ≤ s → s < V 0 → vE V (20 + 72 * s + 3) = -1 := fun s s0 s1 => vE_pg (by omega)
  obtain ⟨len, L, l1, l2, l3, l4⟩ := c_lineUp (V := vE V) (c := c') (d := d) hs' hi' hsE.1.1 hsE.2.1 (fun j j0 j1 => by obtain ⟨-, -, q2, q3, q4, -⟩ := hd' j j0 (by omega); exact ⟨q2, q3, q4⟩) hcrE line
  have hall : allP (vE V) c' S (f_X3_placeAll spW spH fr (lA K) (lA N) F Pg X Y Tt f s line S (lA (d 2)) (lA (d 3)) (lA (d 4))) (f_X11_packs b1 b2 b3 b4 b5 b6 (lA V) (lA (c' 2)) (lA (c' 3)) (lA (c' 4)) A1 A2 A3 A4 A5 A6 A7 A8 A9 A10 T0) := by
    unfold f_X3_placeAll f_X4_removeAll f_X11_packs
    rw [show (-4 : Int32) = iI (-4) by decide +kernel, e7, m_empties]
    obtain ⟨fu, hfu, hfu2⟩ := fuel_ex; rw [hfu]
    simp only [opt_bind, jn_e, il_0]
    rw [l1]
    simp only [opt_bind, il_1]
    refine m_tried (P := fun r => allP (vE V) c' S _ r) hi' hcrE rfl ?_ (by omega) T0
    intro T hT
    refine x_place (by omega) (fun j j0 j1 => by obtain ⟨-, -, q2, q3, -⟩ := hd' j j0 (by omega); exact ⟨q2, q3⟩) hcrE l2 l3 l4 ?_ ?_ hfu2 _ _ _ _ _ _ _ _ _ _ _ _ _ _ _ _ _ _ _ _ _ _ _ _ _ _
    · refine ⟨⟨hs', hi', hp', vCat_bl hi' hcE, hg' c' hcE⟩, ⟨hsE, fun q q0 q1 => by rw [vE_13] at q1; omega⟩, ⟨fun z _ => rfl, ⟨⟨rfl, rfl⟩, fun s _ _ => ⟨rfl, rfl, fun _ _ _ _ _ _ => rfl⟩⟩, ho'⟩, fun k hk => ?_, rfl⟩
      unfold updC
      rw [if_neg (by omega), if_neg (by omega)]
    · refine ⟨fun s s0 s1 => ?_, fun s s0 s1 h => by rw [hpgE s s0 (by omega)] at h; omega⟩
      rw [hT s s0 s1]
      by_cases ho : 0 < c' 2 s ∧ c' 4 s = -1
      · rw [if_pos ho]
        exact ⟨Or.inl rfl, fun _ => ⟨ho, fun j _ _ => by omega⟩, fun _ => rfl⟩
      · rw [if_neg ho]
        exact ⟨Or.inr rfl, fun z => by omega, fun z => absurd z.1 ho⟩
  obtain ⟨V', S', K', N', miss, w', h', fr', F', Pg', X', Y', Tt', f', s', b1', b2', b3', b4', b5', b6', li, B1, B2, B3, B4, B5, B6, B7, B8, B9, B10, T', o1, o2, hA, -⟩ := hall
  obtain ⟨hgd, hct⟩ := pcA_good hA hi' (by omega) hcE
  have hch : updC (updC (updC (updC (updC (updC S 6 (upd (S 6) 0 (S' 6 0))) 7 (S' 7)) 8 (S' 8)) 9 (S' 9)) 10 (S' 10)) 11 (S' 11) = S' := chn_eq hA.2.2.2.1 hA.2.2.2.2
  have hV0 : V' 0 = V 0 := (hA.2.2.1.1 0 (by omega)).trans hE0
  refine ⟨miss, V', c', S', K0, K1, K2, K3, K4, P', K', N', w', h', fr', F', Pg', X', Y', Tt', f', s', li, bx', bY', b1', b2', b3', b4', b5', b6', B1, B2, B3, B4, B5, B6, B7, B8, B9, B10, T', ?_, ?_, ⟨hgd, hA.2.1.1, hct, fun j j0 j1 => hd' j j0 (by omega), hR_step g1 g2 g5 e2 e3 e5 e6⟩, hA.2.1.2⟩
  · unfold f_X10_pack
    rw [e1, opt_bind, o1, opt_bind, hch]
  · unfold f_X11_pack
    rw [k1, opt_bind, e4, opt_bind, o2, opt_bind]
