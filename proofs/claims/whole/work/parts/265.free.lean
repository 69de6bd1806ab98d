theorem lA_ex (f : Nat → Int32) : ∃ B : Int → Int, f = lA B := ⟨_, lA_of f⟩
theorem x_looks {V : Int → Int} {c : Nat → Int → Int} {S : Nat → Nat → Int32} {d : Nat → Int → Int} {l p : Int} {F : Int → Nat → Nat → Int32} {P : Int → Int} (h : stI V c S d l p F P) {K N : Int → Int} (hsp : spI V c K N) (bx bY b3 b4 : Int32) (cm : Nat → Int → Int) (A1 A2 A3 A4 A5 A6 A7 A8 A9 A10 : Nat → Int32) {i : Int} (hir : -2147483648 ≤ i ∧ i < 2147483648) :
    ∃ (a : Int) (bx' bY' b3' b4' : Int32) (cm' : Nat → Int → Int) (B1 B2 B3 B4 : Nat → Int32) (FX FY FW FH : Int → Int) (B9 B10 : Nat → Int32), f_X11_looks bx bY b3 b4 (lA V) (lA (cm 0)) (lA (cm 1)) (lA (cm 2)) (lA (cm 3)) (lA (cm 4)) (lA (cm 5)) A1 A2 A3 A4 A5 A6 A7 A8 A9 A10 (iI i) = some (iI a, bx', bY', b3', b4', lA (cm' 0), lA (cm' 1), lA (cm' 2), lA (cm' 3), lA (cm' 4), lA (cm' 5), B1, B2, B3, B4, lA FX, lA FY, lA FW, lA FH, B9, B10) ∧
      (((0 ≤ i ∧ i ≤ V 13 - 1) ∧ a = N i ∧ (0 ≤ N i ∧ N i ≤ 349) ∧ ∀ k, 0 ≤ k → k < N i → K (i * 349 + k) = cd (FX k) (FY k) (FW k) (FH k) ∧ (0 ≤ FX k ∧ FX k < 64) ∧ (0 ≤ FY k ∧ FY k < 64) ∧ (0 < FW k ∧ FW k < 64) ∧ (0 < FH k ∧ FH k < 64)) ∨ (¬ (0 ≤ i ∧ i ≤ V 13 - 1) ∧ a = -1)) := by
  obtain ⟨g1, g2, g3, g4, g5⟩ := id h
  obtain ⟨go, gs, gi, gp, gg⟩ := id g1
  have h3 : V 3 ≤ 4 ∧ (0 ≤ V 7 ∧ V 7 ≤ 1) ∧ (0 ≤ V 8 ∧ V 8 ≤ 3) := by unfold vSet at gs; omega
  have h13 := gp.1
  obtain ⟨X1, rfl⟩ := lA_ex A1
  obtain ⟨X2, rfl⟩ := lA_ex A2
  obtain ⟨X3, rfl⟩ := lA_ex A3
  obtain ⟨X4, rfl⟩ := lA_ex A4
  obtain ⟨X5, rfl⟩ := lA_ex A5
  obtain ⟨X6, rfl⟩ := lA_ex A6
  obtain ⟨X7, rfl⟩ := lA_ex A7
  obtain ⟨X8, rfl⟩ := lA_ex A8
  obtain ⟨X9, rfl⟩ := lA_ex A9
  obtain ⟨X10, rfl⟩ := lA_ex A10
  unfold f_X11_looks
  rw [m_page (by omega) hir, opt_bind]
  by_cases hq : 0 ≤ i ∧ i ≤ V 13 - 1
  · rw [if_pos hq, if_neg (by decide +kernel : ¬ iI 1 = (0 : Int32))]
    obtain ⟨bx', bY', c', k1, k2⟩ := m_knows gi h3.2 cm bx bY
    have hbl := vCat_bl gi k2
    obtain ⟨m, X, Y, W, H, f, FX, FY, FW, FH, bg, en, s1, s2, s3⟩ := m_freesOf gs gi gp hbl (gg c' k2) (p := i) (by omega) X1 X2 X3 X4 X5 X6 X7 X8 X9 X10
    have hE := spI_cEq (vCat_uniq g3 k2) hsp i (by omega) (by omega)
    have hN : N i ≤ 349 := mx_count gs gi hbl (gg c' k2) (by omega) hE (fun z hz => hz)
    obtain ⟨u1, u2⟩ := En_uniq hE s3.1
    refine ⟨N i, bx', bY', iI m, iI f, c', lA X, lA Y, lA W, lA H, FX, FY, FW, FH, lA bg, lA en, ?_, Or.inl ⟨hq, rfl, ⟨hE.1, hN⟩, fun k k0 k1 => ?_⟩⟩
    · rw [k1, opt_bind, s1, opt_bind, u1]
    · have := s3.2 k k0 (by omega)
      exact ⟨u2 k k0 k1, by omega, by omega, by omega, by omega⟩
  · rw [if_neg hq, if_pos (by decide +kernel : iI 0 = (0 : Int32))]
    exact ⟨-1, bx, bY, b3, b4, cm, lA X1, lA X2, lA X3, lA X4, X5, X6, X7, X8, lA X9, lA X10, rfl, Or.inr ⟨hq, rfl⟩⟩
theorem c_hasFree {V : Int → Int} {S : Nat → Nat → Int32} (hr : sR V S) (h13 : 0 ≤ V 13 ∧ V 13 ≤ 4) {N : Int → Int} {p k : Int} (hp : -2147483648 ≤ p ∧ p < 2147483648) (hk : -2147483648 ≤ k ∧ k < 2147483648) (hN : (0 ≤ p ∧ p ≤ V 13 - 1) → 0 ≤ N p ∧ N p ≤ 349) :
    ∃ r, f_X10_hasFree S (lA N) (iI p) (iI k) = some (iI r) ∧ isF r ((0 ≤ p ∧ p ≤ V 13 - 1) ∧ 0 ≤ k ∧ k ≤ N p - 1) := by
  unfold f_X10_hasFree
  rw [c_page hr h13 hp, opt_bind]
  by_cases h1 : 0 ≤ p ∧ p ≤ V 13 - 1
  · have hN := hN h1
    rw [if_pos h1, if_neg (by decide +kernel : ¬ iI 1 = (0 : Int32)), rd_lA _ _ (by omega) (by omega) (by omega), il_0, il_1, iI_sub, within_iI (by omega) (by omega) (by omega) (by omega) (by omega) (by omega)]
    by_cases h2 : 0 ≤ k ∧ k ≤ N p - 1
    · rw [if_pos h2, if_neg (by decide +kernel)]
      exact ⟨1, rfl, isF_T ⟨h1, h2⟩⟩
    · rw [if_neg h2, if_pos rfl]
      exact ⟨0, rfl, isF_F (fun z => h2 z.2)⟩
  · rw [if_neg h1, if_pos (by decide +kernel : iI 0 = (0 : Int32))]
    exact ⟨0, rfl, isF_F (fun z => h1 z.1)⟩
theorem c_codeOf {K : Int → Int} {p k : Int} (hp : 0 ≤ p ∧ p < 4) (hk : 0 ≤ k ∧ k < 349) : f_X7_codeOf (lA K) (iI p) (iI k) = some (iI (K (p * 349 + k))) := by
  unfold f_X7_codeOf
  rw [il_349, iI_mul, iI_add, rd_lA _ _ (by omega) (by omega) (by omega)]
theorem x_freeRectangles {V : Int → Int} {c : Nat → Int → Int} {S : Nat → Nat → Int32} {d : Nat → Int → Int} {l p : Int} {F : Int → Nat → Nat → Int32} {P : Int → Int} (h : stI V c S d l p F P) {K N : Int → Int} (hsp : spI V c K N) (bx bY b3 b4 : Int32) (cm : Nat → Int → Int) (A1 A2 A3 A4 A5 A6 A7 A8 A9 A10 : Nat → Int32) {i : Int} (hir : -2147483648 ≤ i ∧ i < 2147483648) :
    ∃ (a bx' bY' b3' b4' : Int32) (cm' : Nat → Int → Int) (B1 B2 B3 B4 B5 B6 B7 B8 B9 B10 : Nat → Int32), f_X10_freeRectangles S (lA N) (iI i) = some a ∧ f_X11_freeRectangles bx bY b3 b4 (lA V) (lA (cm 0)) (lA (cm 1)) (lA (cm 2)) (lA (cm 3)) (lA (cm 4)) (lA (cm 5)) A1 A2 A3 A4 A5 A6 A7 A8 A9 A10 (iI i) = some (a, bx', bY', b3', b4', lA (cm' 0), lA (cm' 1), lA (cm' 2), lA (cm' 3), lA (cm' 4), lA (cm' 5), B1, B2, B3, B4, B5, B6, B7, B8, B9, B10) := by
  obtain ⟨g1, g2, g3, g4, g5⟩ := id h
  obtain ⟨go, gs, gi, gp, gg⟩ := id g1
  have h3 : V 3 ≤ 4 := by unfold vSet at gs; omega
  have h13 := gp.1
  obtain ⟨a, bx', bY', b3', b4', cm', B1, B2, B3, B4, FX, FY, FW, FH, B9, B10, k1, k2⟩ := x_looks h hsp bx bY b3 b4 cm A1 A2 A3 A4 A5 A6 A7 A8 A9 A10 hir
  refine ⟨iI a, bx', bY', b3', b4', cm', B1, B2, B3, B4, lA FX, lA FY, lA FW, lA FH, B9, B10, ?_, ?_⟩
  · unfold f_X10_freeRectangles
    rw [c_page g2 (by omega) hir, opt_bind]
    rcases k2 with ⟨q, e, q2, -⟩ | ⟨q, e⟩
    · rw [if_pos q, if_neg (by decide +kernel : ¬ iI 1 = (0 : Int32)), rd_lA _ _ (by omega) (by omega) (by omega), e]
    · rw [if_neg q, if_pos (by decide +kernel : iI 0 = (0 : Int32)), e]
      decide +kernel
  · unfold f_X11_freeRectangles
    rw [k1, opt_bind]
theorem x_freeX {V : Int → Int} {c : Nat → Int → Int} {S : Nat → Nat → Int32} {d : Nat → Int → Int} {l p : Int} {F : Int → Nat → Nat → Int32} {P : Int → Int} (h : stI V c S d l p F P) {K N : Int → Int} (hsp : spI V c K N) (bx bY b3 b4 : Int32) (cm : Nat → Int → Int) (A1 A2 A3 A4 A5 A6 A7 A8 A9 A10 : Nat → Int32) {i j : Int} (hir : -2147483648 ≤ i ∧ i < 2147483648) (hj : -2147483648 ≤ j ∧ j < 2147483648) :
    ∃ (a bx' bY' b3' b4' : Int32) (cm' : Nat → Int → Int) (B1 B2 B3 B4 B5 B6 B7 B8 B9 B10 : Nat → Int32), f_X10_freeX S (lA K) (lA N) (iI i) (iI j) = some a ∧ f_X11_freeX bx bY b3 b4 (lA V) (lA (cm 0)) (lA (cm 1)) (lA (cm 2)) (lA (cm 3)) (lA (cm 4)) (lA (cm 5)) A1 A2 A3 A4 A5 A6 A7 A8 A9 A10 (iI i) (iI j) = some (a, bx', bY', b3', b4', lA (cm' 0), lA (cm' 1), lA (cm' 2), lA (cm' 3), lA (cm' 4), lA (cm' 5), B1, B2, B3, B4, B5, B6, B7, B8, B9, B10) := by
  obtain ⟨g1, g2, g3, g4, g5⟩ := id h
  obtain ⟨go, gs, gi, gp, gg⟩ := id g1
  have h3 : V 3 ≤ 4 := by unfold vSet at gs; omega
  have h13 := gp.1
  obtain ⟨a, bx', bY', b3', b4', cm', B1, B2, B3, B4, FX, FY, FW, FH, B9, B10, k1, k2⟩ := x_looks h hsp bx bY b3 b4 cm A1 A2 A3 A4 A5 A6 A7 A8 A9 A10 hir
  obtain ⟨r, r1, r2⟩ := c_hasFree g2 (by omega) (N := N) hir hj (fun q => by rcases k2 with ⟨-, -, q2, -⟩ | ⟨q', -⟩; exact q2; exact absurd q q')
  unfold f_X10_freeX f_X11_freeX
  rw [k1, r1, opt_bind, opt_bind, show (-1 : Int32) = iI (-1) by decide +kernel, il_1, iI_sub, il_0]
  rcases k2 with ⟨q, e, q2, q3⟩ | ⟨q, e⟩
  · subst e
    rw [in_iI (by omega) (by omega) (by omega) (by omega) (by omega) (by omega)]
    rcases r2 with ⟨rfl, z1, z2⟩ | ⟨rfl, z⟩
    · obtain ⟨u1, u2, u3, u4, u5⟩ := q3 j z2.1 (by omega)
      obtain ⟨v1, v2, v3, v4⟩ := code_dec u2 u3 (w := FW j) (by omega) (h := FH j) (by omega)
      refine ⟨iI (FX j), bx', bY', b3', b4', cm', B1, B2, B3, B4, lA FX, lA FY, lA FW, lA FH, B9, B10, ?_, ?_⟩
      · rw [if_neg (by decide +kernel), c_codeOf (by omega) (by omega), opt_bind, u1, v1]
      · rw [if_pos z2, if_neg (by decide +kernel), rd_lA _ _ (by omega) (by omega) (by omega)]
    · refine ⟨iI (-1), bx', bY', b3', b4', cm', B1, B2, B3, B4, lA FX, lA FY, lA FW, lA FH, B9, B10, ?_, ?_⟩
      · rw [if_pos rfl]
      · rw [if_neg (fun z' => z ⟨q, z'⟩), if_pos rfl]
  · subst e
    rw [in_iI (by omega) (by omega) (by omega) (by omega) (by omega) (by omega)]
    rcases r2 with ⟨rfl, z1, z2⟩ | ⟨rfl, z⟩
    · exact absurd z1 q
    · refine ⟨iI (-1), bx', bY', b3', b4', cm', B1, B2, B3, B4, lA FX, lA FY, lA FW, lA FH, B9, B10, ?_, ?_⟩
      · rw [if_pos rfl]
      · rw [if_neg (show ¬ (0 ≤ j ∧ j ≤ -1 - 1) by omega), if_pos rfl]
theorem x_freeY {V : Int → Int} {c : Nat → Int → Int} {S : Nat → Nat → Int32} {d : Nat → Int → Int} {l p : Int} {F : Int → Nat → Nat → Int32} {P : Int → Int} (h : stI V c S d l p F P) {K N : Int → Int} (hsp : spI V c K N) (bx bY b3 b4 : Int32) (cm : Nat → Int → Int) (A1 A2 A3 A4 A5 A6 A7 A8 A9 A10 : Nat → Int32) {i j : Int} (hir : -2147483648 ≤ i ∧ i < 2147483648) (hj : -2147483648 ≤ j ∧ j < 2147483648) :
    ∃ (a bx' bY' b3' b4' : Int32) (cm' : Nat → Int → Int) (B1 B2 B3 B4 B5 B6 B7 B8 B9 B10 : Nat → Int32), f_X10_freeY S (lA K) (lA N) (iI i) (iI j) = some a ∧ f_X11_freeY bx bY b3 b4 (lA V) (lA (cm 0)) (lA (cm 1)) (lA (cm 2)) (lA (cm 3)) (lA (cm 4)) (lA (cm 5)) A1 A2 A3 A4 A5 A6 A7 A8 A9 A10 (iI i) (iI j) = some (a, bx', bY', b3', b4', lA (cm' 0), lA (cm' 1), lA (cm' 2), lA (cm' 3), lA (cm' 4), lA (cm' 5), B1, B2, B3, B4, B5, B6, B7, B8, B9, B10) := by
  obtain ⟨g1, g2, g3, g4, g5⟩ := id h
  obtain ⟨go, gs, gi, gp, gg⟩ := id g1
  have h3 : V 3 ≤ 4 := by unfold vSet at gs; omega
  have h13 := gp.1
  obtain ⟨a, bx', bY', b3', b4', cm', B1, B2, B3, B4, FX, FY, FW, FH, B9, B10, k1, k2⟩ := x_looks h hsp bx bY b3 b4 cm A1 A2 A3 A4 A5 A6 A7 A8 A9 A10 hir
  obtain ⟨r, r1, r2⟩ := c_hasFree g2 (by omega) (N := N) hir hj (fun q => by rcases k2 with ⟨-, -, q2, -⟩ | ⟨q', -⟩; exact q2; exact absurd q q')
  unfold f_X10_freeY f_X11_freeY
  rw [k1, r1, opt_bind, opt_bind, show (-1 : Int32) = iI (-1) by decide +kernel, il_1, iI_sub, il_0]
  rcases k2 with ⟨q, e, q2, q3⟩ | ⟨q, e⟩
  · subst e
    rw [in_iI (by omega) (by omega) (by omega) (by omega) (by omega) (by omega)]
    rcases r2 with ⟨rfl, z1, z2⟩ | ⟨rfl, z⟩
    · obtain ⟨u1, u2, u3, u4, u5⟩ := q3 j z2.1 (by omega)
      obtain ⟨v1, v2, v3, v4⟩ := code_dec u2 u3 (w := FW j) (by omega) (h := FH j) (by omega)
      refine ⟨iI (FY j), bx', bY', b3', b4', cm', B1, B2, B3, B4, lA FX, lA FY, lA FW, lA FH, B9, B10, ?_, ?_⟩
      · rw [if_neg (by decide +kernel), c_codeOf (by omega) (by omega), opt_bind, u1, v2]
      · rw [if_pos z2, if_neg (by decide +kernel), rd_lA _ _ (by omega) (by omega) (by omega)]
    · refine ⟨iI (-1), bx', bY', b3', b4', cm', B1, B2, B3, B4, lA FX, lA FY, lA FW, lA FH, B9, B10, ?_, ?_⟩
      · rw [if_pos rfl]
      · rw [if_neg (fun z' => z ⟨q, z'⟩), if_pos rfl]
  · subst e
    rw [in_iI (by omega) (by omega) (by omega) (by omega) (by omega) (by omega)]
    rcases r2 with ⟨rfl, z1, z2⟩ | ⟨rfl, z⟩
    · exact absurd z1 q
    · refine ⟨iI (-1), bx', bY', b3', b4', cm', B1, B2, B3, B4, lA FX, lA FY, lA FW, lA FH, B9, B10, ?_, ?_⟩
      · rw [if_pos rfl]
      · rw [if_neg (show ¬ (0 ≤ j ∧ j ≤ -1 - 1) by omega), if_pos rfl]
theorem x_freeWidth {V : Int → Int} {c : Nat → Int → Int} {S : Nat → Nat → Int32} {d : Nat → Int → Int} {l p : Int} {F : Int → Nat → Nat → Int32} {P : Int → Int} (h : stI V c S d l p F P) {K N : Int → Int} (hsp : spI V c K N) (bx bY b3 b4 : Int32) (cm : Nat → Int → Int) (A1 A2 A3 A4 A5 A6 A7 A8 A9 A10 : Nat → Int32) {i j : Int} (hir : -2147483648 ≤ i ∧ i < 2147483648) (hj : -2147483648 ≤ j ∧ j < 2147483648) :
    ∃ (a bx' bY' b3' b4' : Int32) (cm' : Nat → Int → Int) (B1 B2 B3 B4 B5 B6 B7 B8 B9 B10 : Nat → Int32), f_X10_freeWidth S (lA K) (lA N) (iI i) (iI j) = some a ∧ f_X11_freeWidth bx bY b3 b4 (lA V) (lA (cm 0)) (lA (cm 1)) (lA (cm 2)) (lA (cm 3)) (lA (cm 4)) (lA (cm 5)) A1 A2 A3 A4 A5 A6 A7 A8 A9 A10 (iI i) (iI j) = some (a, bx', bY', b3', b4', lA (cm' 0), lA (cm' 1), lA (cm' 2), lA (cm' 3), lA (cm' 4), lA (cm' 5), B1, B2, B3, B4, B5, B6, B7, B8, B9, B10) := by
  obtain ⟨g1, g2, g3, g4, g5⟩ := id h
  obtain ⟨go, gs, gi, gp, gg⟩ := id g1
  have h3 : V 3 ≤ 4 := by unfold vSet at gs; omega
  have h13 := gp.1
  obtain ⟨a, bx', bY', b3', b4', cm', B1, B2, B3, B4, FX, FY, FW, FH, B9, B10, k1, k2⟩ := x_looks h hsp bx bY b3 b4 cm A1 A2 A3 A4 A5 A6 A7 A8 A9 A10 hir
  obtain ⟨r, r1, r2⟩ := c_hasFree g2 (by omega) (N := N) hir hj (fun q => by rcases k2 with ⟨-, -, q2, -⟩ | ⟨q', -⟩; exact q2; exact absurd q q')
  unfold f_X10_freeWidth f_X11_freeWidth
  rw [k1, r1, opt_bind, opt_bind, show (-1 : Int32) = iI (-1) by decide +kernel, il_1, iI_sub, il_0]
  rcases k2 with ⟨q, e, q2, q3⟩ | ⟨q, e⟩
  · subst e
    rw [in_iI (by omega) (by omega) (by omega) (by omega) (by omega) (by omega)]
    rcases r2 with ⟨rfl, z1, z2⟩ | ⟨rfl, z⟩
    · obtain ⟨u1, u2, u3, u4, u5⟩ := q3 j z2.1 (by omega)
      obtain ⟨v1, v2, v3, v4⟩ := code_dec u2 u3 (w := FW j) (by omega) (h := FH j) (by omega)
      refine ⟨iI (FW j), bx', bY', b3', b4', cm', B1, B2, B3, B4, lA FX, lA FY, lA FW, lA FH, B9, B10, ?_, ?_⟩
      · rw [if_neg (by decide +kernel), c_codeOf (by omega) (by omega), opt_bind, u1, v3]
      · rw [if_pos z2, if_neg (by decide +kernel), rd_lA _ _ (by omega) (by omega) (by omega)]
    · refine ⟨iI (-1), bx', bY', b3', b4', cm', B1, B2, B3, B4, lA FX, lA FY, lA FW, lA FH, B9, B10, ?_, ?_⟩
      · rw [if_pos rfl]
      · rw [if_neg (fun z' => z ⟨q, z'⟩), if_pos rfl]
  · subst e
    rw [in_iI (by omega) (by omega) (by omega) (by omega) (by omega) (by omega)]
    rcases r2 with ⟨rfl, z1, z2⟩ | ⟨rfl, z⟩
    · exact absurd z1 q
    · refine ⟨iI (-1), bx', bY', b3', b4', cm', B1, B2, B3, B4, lA FX, lA FY, lA FW, lA FH, B9, B10, ?_, ?_⟩
      · rw [if_pos rfl]
      · rw [if_neg (show ¬ (0 ≤ j ∧ j ≤ -1 - 1) by omega), if_pos rfl]
theorem x_freeHeight {V : Int → Int} {c : Nat → Int → Int} {S : Nat → Nat → Int32} {d : Nat → Int → Int} {l p : Int} {F : Int → Nat → Nat → Int32} {P : Int → Int} (h : stI V c S d l p F P) {K N : Int → Int} (hsp : spI V c K N) (bx bY b3 b4 : Int32) (cm : Nat → Int → Int) (A1 A2 A3 A4 A5 A6 A7 A8 A9 A10 : Nat → Int32) {i j : Int} (hir : -2147483648 ≤ i ∧ i < 2147483648) (hj : -2147483648 ≤ j ∧ j < 2147483648) :
    ∃ (a bx' bY' b3' b4' : Int32) (cm' : Nat → Int → Int) (B1 B2 B3 B4 B5 B6 B7 B8 B9 B10 : Nat → Int32), f_X10_freeHeight S (lA K) (lA N) (iI i) (iI j) = some a ∧ f_X11_freeHeight bx bY b3 b4 (lA V) (lA (cm 0)) (lA (cm 1)) (lA (cm 2)) (lA (cm 3)) (lA (cm 4)) (lA (cm 5)) A1 A2 A3 A4 A5 A6 A7 A8 A9 A10 (iI i) (iI j) = some (a, bx', bY', b3', b4', lA (cm' 0), lA (cm' 1), lA (cm' 2), lA (cm' 3), lA (cm' 4), lA (cm' 5), B1, B2, B3, B4, B5, B6, B7, B8, B9, B10) := by
  obtain ⟨g1, g2, g3, g4, g5⟩ := id h
  obtain ⟨go, gs, gi, gp, gg⟩ := id g1
  have h3 : V 3 ≤ 4 := by unfold vSet at gs; omega
  have h13 := gp.1
  obtain ⟨a, bx', bY', b3', b4', cm', B1, B2, B3, B4, FX, FY, FW, FH, B9, B10, k1, k2⟩ := x_looks h hsp bx bY b3 b4 cm A1 A2 A3 A4 A5 A6 A7 A8 A9 A10 hir
  obtain ⟨r, r1, r2⟩ := c_hasFree g2 (by omega) (N := N) hir hj (fun q => by rcases k2 with ⟨-, -, q2, -⟩ | ⟨q', -⟩; exact q2; exact absurd q q')
  unfold f_X10_freeHeight f_X11_freeHeight
  rw [k1, r1, opt_bind, opt_bind, show (-1 : Int32) = iI (-1) by decide +kernel, il_1, iI_sub, il_0]
  rcases k2 with ⟨q, e, q2, q3⟩ | ⟨q, e⟩
  · subst e
    rw [in_iI (by omega) (by omega) (by omega) (by omega) (by omega) (by omega)]
    rcases r2 with ⟨rfl, z1, z2⟩ | ⟨rfl, z⟩
    · obtain ⟨u1, u2, u3, u4, u5⟩ := q3 j z2.1 (by omega)
      obtain ⟨v1, v2, v3, v4⟩ := code_dec u2 u3 (w := FW j) (by omega) (h := FH j) (by omega)
      refine ⟨iI (FH j), bx', bY', b3', b4', cm', B1, B2, B3, B4, lA FX, lA FY, lA FW, lA FH, B9, B10, ?_, ?_⟩
      · rw [if_neg (by decide +kernel), c_codeOf (by omega) (by omega), opt_bind, u1, v4]
      · rw [if_pos z2, if_neg (by decide +kernel), rd_lA _ _ (by omega) (by omega) (by omega)]
    · refine ⟨iI (-1), bx', bY', b3', b4', cm', B1, B2, B3, B4, lA FX, lA FY, lA FW, lA FH, B9, B10, ?_, ?_⟩
      · rw [if_pos rfl]
      · rw [if_neg (fun z' => z ⟨q, z'⟩), if_pos rfl]
  · subst e
    rw [in_iI (by omega) (by omega) (by omega) (by omega) (by omega) (by omega)]
    rcases r2 with ⟨rfl, z1, z2⟩ | ⟨rfl, z⟩
    · exact absurd z1 q
    · refine ⟨iI (-1), bx', bY', b3', b4', cm', B1, B2, B3, B4, lA FX, lA FY, lA FW, lA FH, B9, B10, ?_, ?_⟩
      · rw [if_pos rfl]
      · rw [if_neg (show ¬ (0 ≤ j ∧ j ≤ -1 - 1) by omega), if_pos rfl]
