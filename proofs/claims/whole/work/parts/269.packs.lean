/-- what both sides do when they place all originals anew -/
theorem x_packs {W : Int → Int} {c d : Nat → Int → Int} {S : Nat → Nat → Int32} (go : vOut W) (gs : vSet W) (gi : vImg W) (gg : vPgr W) (g2 : sR2 W S) (k2 : vCat W c) (hd' : ∀ j, 0 ≤ j → j < W 0 → vDd c d j) (spW spH : Int32) (fr : Nat → Int64) (K N : Int → Int) (F Pg X Y Tt f s : Int32) (line : Nat → Int32) (b1 b2 b3 b4 b5 b6 : Int32) (A1 A2 A3 A4 A5 A6 A7 A8 A9 A10 T0 : Nat → Int32) :
    allP (vE W) c S (f_X3_placeAll spW spH fr (lA K) (lA N) F Pg X Y Tt f s line S (lA (d 2)) (lA (d 3)) (lA (d 4))) (f_X11_packs b1 b2 b3 b4 b5 b6 (lA W) (lA (c 2)) (lA (c 3)) (lA (c 4)) A1 A2 A3 A4 A5 A6 A7 A8 A9 A10 T0) := by
  have hn24 := gi.1
  have h78 : (0 ≤ W 7 ∧ W 7 ≤ 1) ∧ (0 ≤ W 8 ∧ W 8 ≤ 3) := by unfold vSet at gs; omega
  have hcr := cat_r gi k2
  obtain ⟨G, e7, e8⟩ := c_fill (A := S 8) (x := -4)
  have hsE := sR_E gi g2 (S 6) G e8
  have hE0 : vE W 0 = W 0 := vE_ne (by omega) (by omega)
  obtain ⟨ho', hs', hi', hp', hg'⟩ := vE_good go gs gi gg
  have hcE : vCat (vE W) c := vCat_cong gi hi' h78.2 hE0.symm (vIA_E hn24.2 W) k2
  have hcrE := cat_r hi' hcE
  have hpgE : ∀ s, 0 ≤ s → s < W 0 → vE W (20 + 72 * s + 3) = -1 := fun s s0 s1 => vE_pg (by omega)
  obtain ⟨len, L, l1, l2, l3, l4⟩ := c_lineUp (V := vE W) (c := c) (d := d) hs' hi' hsE.1.1 hsE.2.1 (fun j j0 j1 => by obtain ⟨-, -, q2, q3, q4, -⟩ := hd' j j0 (by omega); exact ⟨q2, q3, q4⟩) hcrE line
  unfold f_X3_placeAll f_X4_removeAll f_X11_packs
  rw [show (-4 : Int32) = iI (-4) by decide +kernel, e7, m_empties]
  obtain ⟨fu, hfu, hfu2⟩ := fuel_ex; rw [hfu]
  simp only [opt_bind, jn_e, il_0]
  rw [l1]
  simp only [opt_bind, il_1]
  refine m_tried (P := fun r => allP (vE W) c S _ r) hi' hcrE rfl ?_ (by omega) T0
  intro T hT
  refine x_place (by omega) (fun j j0 j1 => by obtain ⟨-, -, q2, q3, -⟩ := hd' j j0 (by omega); exact ⟨q2, q3⟩) hcrE l2 l3 l4 ?_ ?_ hfu2 _ _ _ _ _ _ _ _ _ _ _ _ _ _ _ _ _ _ _ _ _ _ _ _ _ _
  · refine ⟨⟨hs', hi', hp', vCat_bl hi' hcE, hg' c hcE⟩, ⟨hsE, fun q q0 q1 => by rw [vE_13] at q1; omega⟩, ⟨fun z _ => rfl, ⟨⟨rfl, rfl⟩, fun s _ _ => ⟨rfl, rfl, fun _ _ _ _ _ _ => rfl⟩⟩, ho'⟩, fun k hk => ?_, rfl⟩
    unfold updC
    rw [if_neg (by omega), if_neg (by omega)]
  · refine ⟨fun s s0 s1 => ?_, fun s s0 s1 h => by rw [hpgE s s0 (by omega)] at h; omega⟩
    rw [hT s s0 s1]
    by_cases ho : 0 < c 2 s ∧ c 4 s = -1
    · rw [if_pos ho]
      exact ⟨Or.inl rfl, fun _ => ⟨ho, fun j _ _ => by omega⟩, fun _ => rfl⟩
    · rw [if_neg ho]
      exact ⟨Or.inr rfl, fun z => by omega, fun z => absurd z.1 ho⟩
theorem sR2_mk {W : Int → Int} {R T : Nat → Nat → Int32} (h0 : T 0 0 = iI (W 0)) (h5 : ∀ k : Nat, k < 12 → T 5 k = iI (W (1 + k))) (hsh : ∀ s, 0 ≤ s → s < W 0 → sA R 1 s = W (20 + 72 * s + 0) ∧ sA R 2 s = W (20 + 72 * s + 1) ∧ sA R 3 s = W (20 + 72 * s + 2) ∧ vRow W (sW R) s) (e : (T 1 = R 1 ∧ T 2 = R 2) ∧ T 3 = R 3 ∧ T 4 = R 4) (h7 : ∀ p, 0 ≤ p → p < 4 → sA T 7 p = W (14 + p)) (h11 : ∀ s, 0 ≤ s → s < 24 → sA T 11 s = 0 ∨ sA T 11 s = 1) : sR2 W T := by
  refine ⟨h0, h5, fun s s0 s1 => ?_, h7, h11⟩
  have h := hsh s s0 s1
  unfold sA sW at *
  rw [e.1.1, e.1.2, e.2.1, e.2.2]
  exact h
/-- the state between two trial packings -/
def trI2 (V0 V : Int → Int) (c : Nat → Int → Int) (R S : Nat → Nat → Int32) : Prop :=
  (vOut V ∧ vSet V ∧ vImg V ∧ vPgr V) ∧ (vCat V c ∧ V 0 = V0 0) ∧ (∀ s, 0 ≤ s → s < V 0 → sA R 1 s = V (20 + 72 * s + 0) ∧ sA R 2 s = V (20 + 72 * s + 1) ∧ sA R 3 s = V (20 + 72 * s + 2) ∧ vRow V (sW R) s) ∧ (∀ p, 0 ≤ p → p < 4 → sA S 7 p = V (14 + p)) ∧ (∀ s, 0 ≤ s → s < 24 → sA S 11 s = 0 ∨ sA S 11 s = 1)
theorem trI2_0 {V : Int → Int} {c : Nat → Int → Int} {R : Nat → Nat → Int32} (hg : vGood V) (hc : vCat V c) (hr : sR V R) : trI2 V V c R R := by
  obtain ⟨go, gs, gi, gp, gg⟩ := hg
  have h2 := sR_2 hr
  exact ⟨⟨go, gs, gi, gp.2.2⟩, ⟨hc, rfl⟩, h2.2.2.1, h2.2.2.2.1, h2.2.2.2.2⟩
theorem trI2_step {V0 W V : Int → Int} {c : Nat → Int → Int} {R T S : Nat → Nat → Int32} {K N : Int → Int} (hi : vImg W) (h8 : 0 ≤ W 8 ∧ W 8 ≤ 3) (hc : vCat W c) (h0 : W 0 = V0 0) (hA : pcA (vE W) V c T S K N) (e : (T 1 = R 1 ∧ T 2 = R 2) ∧ T 3 = R 3 ∧ T 4 = R 4) : trI2 V0 V c R S := by
  have hn24 := hi.1
  have hE0 : vE W 0 = W 0 := vE_ne (by omega) (by omega)
  have hE8 : vE W 8 = W 8 := vE_ne (by omega) (by omega)
  have hi' := vE_img hi
  have hcE : vCat (vE W) c := vCat_cong hi hi' h8 hE0.symm (vIA_E hn24.2 W) hc
  obtain ⟨hgd, hct⟩ := pcA_good hA hi' (by omega) hcE
  obtain ⟨⟨gs, gi, gp, gb, gg⟩, ⟨gr, gsp⟩, ⟨w1, w2, w3⟩, k1, k2⟩ := hA
  have h2 := sR_2 gr
  refine ⟨⟨w3, gs, gi, gp.2.2⟩, ⟨hct, by rw [w1 0 (by omega), hE0, h0]⟩, fun s s0 s1 => ?_, h2.2.2.2.1, h2.2.2.2.2⟩
  have h := h2.2.2.1 s s0 s1
  have e1 : S 1 = R 1 := (k1 1 (by omega)).trans e.1.1
  have e2 : S 2 = R 2 := (k1 2 (by omega)).trans e.1.2
  have e3 : S 3 = R 3 := (k1 3 (by omega)).trans e.2.1
  have e4 : S 4 = R 4 := (k1 4 (by omega)).trans e.2.2
  unfold sA sW at *
  rw [e1, e2, e3, e4] at h
  exact h
