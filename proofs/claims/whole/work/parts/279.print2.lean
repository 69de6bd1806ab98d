/-- the text that print writes -/
def prT (V : Int → Int) (c : Nat → Int → Int) (i s0 r : Int) : List Int := ((numT i ++ [58]) ++ (if c 2 i = 0 then tBlank else if 0 ≤ V (20 + 72 * s0 + 3) then tPage ++ numT (V (20 + 72 * s0 + 3)) ++ tAt ++ numT (imX V s0) ++ [44] ++ numT (imY V s0) ++ tSize ++ numT (c 2 i) ++ [120] ++ numT (c 3 i) ++ tRec ++ numT r else tUnp)) ++ (if c 4 i = -1 then [] else tCopy ++ numT (c 4 i))
theorem m_printsPlace {V : Int → Int} {c : Nat → Int → Int} {i s0 r : Int} {t : List Int} {pr : Int} {A : Int → Int} (h : paR t pr A) (hl : t.length ≤ 3) (hi : 0 ≤ i ∧ i < 24) (hs : 0 ≤ s0 ∧ s0 < 24) (hpg : 0 ≤ V (20 + 72 * s0 + 3) ∧ V (20 + 72 * s0 + 3) < 4) (hx : 0 ≤ imX V s0 ∧ imX V s0 ≤ 40) (hy : 0 ≤ imY V s0 ∧ imY V s0 ≤ 40) (hc : (0 ≤ c 2 i ∧ c 2 i ≤ 8) ∧ 0 ≤ c 3 i ∧ c 3 i ≤ 8) (bx bY b1 b2 : Int32) (hr : 0 ≤ r ∧ r < 8) (hrec : f_X11_record bx bY (lA V) (lA (c 0)) (lA (c 1)) (lA (c 2)) (lA (c 3)) (iI i) (iI s0) = some (iI r, b1, b2)) :
    ∃ pr' A', f_X11_printsPlace (iI pr) bx bY (lA V) (lA A) (lA (c 0)) (lA (c 1)) (lA (c 2)) (lA (c 3)) (iI i) (iI s0) = some (iI pr', b1, b2, lA A') ∧ paR (t ++ (tPage ++ numT (V (20 + 72 * s0 + 3)) ++ tAt ++ numT (imX V s0) ++ [44] ++ numT (imY V s0) ++ tSize ++ numT (c 2 i) ++ [120] ++ numT (c 3 i) ++ tRec ++ numT r)) pr' A' := by
  have n1 := numT_len (V (20 + 72 * s0 + 3))
  have n2 := numT_len (imX V s0)
  have n3 := numT_len (imY V s0)
  have n4 := numT_len (c 2 i)
  have n5 := numT_len (c 3 i)
  have l1 : tPage.length = 6 := rfl
  have l2 : tAt.length = 4 := rfl
  have l3 : tSize.length = 6 := rfl
  have l4 : tRec.length = 8 := rfl
  have e3 : f_X11_at (iI s0) 3 = iI (20 + 72 * s0 + 3) := by unfold f_X11_at; simp (disch := omega) only [↓bd_e, ↓jn_e, ↓opt_bind, ↓reduceIte, iLeT, iLeF, iLtT, iLtF, iEqT, iEqF, il_0, il_1, il_2, il_3, il_4, il_5, il_6, il_7, il_8, il_9, il_10, il_11, il_12, il_13, il_14, il_15, il_16, il_18, il_20, il_24, il_32, il_35, il_40, il_44, il_47, il_48, il_56, il_57, il_58, il_59, il_63, il_64, il_72, il_100, il_120, il_126, il_127, il_160, il_192, il_255, il_349, il_1748, il_6992, iI_add, iI_sub, iI_mul, iI_neg, iI_le, iI_lt, iI_eq, rd_lA, wr_lA, rd_lR, wr_lR, ite_iI, max_iI, min_iI, rem_iI, div_iI, ite_true, ite_false, if_true, if_false, ite_self, and_self, and_true, true_and, and_false, false_and, or_self, or_true, true_or, or_false, false_or, not_true_eq_false, not_false_eq_true]
  unfold f_X11_printsPlace
  obtain ⟨p1, A1, f1, g1⟩ := m_word w_Page h (by omega)
  rw [f1, opt_bind, e3, rd_lA _ _ (by omega) (by omega) (by omega)]
  obtain ⟨p2, A2, f2, g2⟩ := m_number g1 (by rw [List.length_append]; omega) (n := V (20 + 72 * s0 + 3)) (by omega)
  rw [f2, opt_bind]
  obtain ⟨p3, A3, f3, g3⟩ := m_word w_At g2 (by simp only [List.length_append]; omega)
  rw [f3, opt_bind, m_imX hs, opt_bind]
  obtain ⟨p4, A4, f4, g4⟩ := m_number g3 (by simp only [List.length_append]; omega) (n := imX V s0) (by omega)
  rw [f4, opt_bind]
  obtain ⟨A5, f5, g5⟩ := m_sign g4 (by simp only [List.length_append]; omega) 44
  rw [show (44 : Int32) = iI 44 by decide +kernel, f5, opt_bind, m_imY hs, opt_bind]
  obtain ⟨p6, A6, f6, g6⟩ := m_number g5 (by simp only [List.length_append, List.length_singleton]; omega) (n := imY V s0) (by omega)
  rw [f6, opt_bind]
  obtain ⟨p7, A7, f7, g7⟩ := m_word w_Size g6 (by simp only [List.length_append, List.length_singleton]; omega)
  rw [f7, opt_bind, rd_lA _ _ (by omega) (by omega) (by omega)]
  obtain ⟨p8, A8, f8, g8⟩ := m_number g7 (by simp only [List.length_append, List.length_singleton]; omega) (n := c 2 i) (by omega)
  rw [f8, opt_bind]
  obtain ⟨A9, f9, g9⟩ := m_sign g8 (by simp only [List.length_append, List.length_singleton]; omega) 120
  rw [show (120 : Int32) = iI 120 by decide +kernel, f9, opt_bind, rd_lA _ _ (by omega) (by omega) (by omega)]
  obtain ⟨p10, A10, f10, g10⟩ := m_number g9 (by simp only [List.length_append, List.length_singleton]; omega) (n := c 3 i) (by omega)
  rw [f10, opt_bind]
  obtain ⟨p11, A11, f11, g11⟩ := m_word w_Rec g10 (by simp only [List.length_append, List.length_singleton]; omega)
  rw [f11, opt_bind, hrec, opt_bind]
  obtain ⟨p12, A12, f12, g12⟩ := m_number g11 (by simp only [List.length_append, List.length_singleton]; omega) (n := r) (by omega)
  rw [f12, opt_bind]
  refine ⟨p12, A12, rfl, ?_⟩
  simp only [List.append_assoc] at g12 ⊢
  exact g12
/-- print on the model's side, and what the program's parts answer -/
theorem x_print {V : Int → Int} {c : Nat → Int → Int} {S : Nat → Nat → Int32} {d : Nat → Int → Int} {l p : Int} {F : Int → Nat → Nat → Int32} {P : Int → Int} (h : stI V c S d l p F P) (pr0 bx bY : Int32) (pap : Nat → Int32) (cm : Nat → Int → Int) {i : Int} (h1 : 0 ≤ i ∧ i < V 0) :
    ∃ (s0 r : Int) (bx' bY' : Int32) (c' A' : Nat → Int → Int), (vCat V c' ∧ vDd c' d i) ∧ f_X11_print pr0 bx bY (lA V) pap (lA (cm 0)) (lA (cm 1)) (lA (cm 2)) (lA (cm 3)) (lA (cm 4)) (lA (cm 5)) (iI i) = some (iI ((prT V c' i s0 r).length : Int), iI ((prT V c' i s0 r).length : Int), bx', bY', lA (A' 0), lA (c' 0), lA (c' 1), lA (c' 2), lA (c' 3), lA (c' 4), lA (c' 5)) ∧ paR (prT V c' i s0 r) ((prT V c' i s0 r).length : Int) (A' 0) ∧ (prT V c' i s0 r).length ≤ 60 ∧
      ((0 ≤ c' 2 i ∧ c' 2 i ≤ 8) ∧ (0 ≤ c' 3 i ∧ c' 3 i ≤ 8) ∧ -1 ≤ c' 4 i ∧ c' 4 i < 24) ∧
      (((0 < c' 2 i ∧ 0 ≤ V (20 + 72 * s0 + 3)) ∧ V (20 + 72 * s0 + 3) < 4 ∧ (0 ≤ imX V s0 ∧ imX V s0 ≤ 40) ∧ (0 ≤ imY V s0 ∧ imY V s0 ≤ 40) ∧ (0 ≤ r ∧ r < 8) ∧ f_X10_pageOf S (lA (d 2)) (lA (d 4)) (iI i) = some (iI (V (20 + 72 * s0 + 3))) ∧ f_X10_xOf S (lA (d 2)) (lA (d 4)) (iI i) = some (iI (imX V s0)) ∧ f_X10_yOf S (lA (d 2)) (lA (d 4)) (iI i) = some (iI (imY V s0)) ∧ f_X10_recordOf S (lA (d 0)) (lA (d 1)) (lA (d 2)) (lA (d 3)) (lA (d 4)) (iI i) = some (iI r)) ∨ (¬ (0 < c' 2 i ∧ 0 ≤ V (20 + 72 * s0 + 3)) ∧ f_X10_pageOf S (lA (d 2)) (lA (d 4)) (iI i) = some (iI (-4)))) := by
  obtain ⟨g1, g2, g3, g4, g5⟩ := id h
  obtain ⟨go, gs, gi, gp, gg⟩ := id g1
  have hn := gi.1
  have h3 : V 3 ≤ 4 := by unfold vSet at gs; omega
  have h13 := gp.1
  obtain ⟨b, bx', bY', c', k1, k2, k3, k4, k5⟩ := x_holder h bx bY cm h1
  obtain ⟨s0, hs0, es0, hw⟩ := c_where h k2 h1
  have hD := vDd_cEq (vCat_uniq g3 k2) h1.1 h1.2 (cat_r gi g3 i h1.1 h1.2).1.1 (g4 i h1.1 h1.2)
  obtain ⟨hc2, hc4⟩ := cat_r gi k2 i h1.1 h1.2
  have hpg := gp.2.1 s0 hs0.1 hs0.2
  obtain ⟨B, rfl⟩ := lA_ex pap
  -- the number and the colon
  obtain ⟨p1, A1, f1, j1⟩ := m_number (paR_0 B) (by simp) (n := i) (by omega)
  obtain ⟨A2, f2, j2⟩ := m_sign j1 (by have := numT_len i; rw [List.nil_append]; omega) 58
  have hl2 : ([] ++ numT i ++ [58]).length ≤ 3 := by have := numT_len i; simp only [List.nil_append, List.length_append, List.length_singleton]; omega
  have hpo : f_X10_pageOf S (lA (d 2)) (lA (d 4)) (iI i) = f_X10_placeOf S (lA (d 2)) (lA (d 4)) (iI i) := by
    unfold f_X10_pageOf
    rw [c_has1 gi g2 h1, if_neg (by decide +kernel : ¬ iI 1 = (0 : Int32))]
    cases f_X10_placeOf S (lA (d 2)) (lA (d 4)) (iI i) <;> rfl
  -- the middle
  have mid : ∃ (r p3 : Int) (A3 : Int → Int) (z1 z2 : Int32), (0 ≤ r ∧ r < 8) ∧ (∀ K : Int32 → Int32 → Int32 → (Nat → Int32) → Option (Int32 × Int32 × Int32 × Int32 × (Nat → Int32) × (Nat → Int32) × (Nat → Int32) × (Nat → Int32) × (Nat → Int32) × (Nat → Int32) × (Nat → Int32)),
      (if iI (c' 2 i) = 0 then (f_X11_word (iI (p1 + 1)) (lA A2) 7092150640071147520 0).bind fun r18 => K r18.1 bx' bY' r18.2 else (if 0 ≤ iI b then (f_X11_printsPlace (iI (p1 + 1)) bx' bY' (lA V) (lA A2) (lA (c' 0)) (lA (c' 1)) (lA (c' 2)) (lA (c' 3)) (iI i) (iI b)).bind fun r19 => K r19.1 r19.2.1 r19.2.2.1 r19.2.2.2 else (f_X11_word (iI (p1 + 1)) (lA A2) 8461824360668423524 0).bind fun r20 => K r20.1 bx' bY' r20.2)) = K (iI p3) z1 z2 (lA A3)) ∧
      paR ((numT i ++ [58]) ++ (if c' 2 i = 0 then tBlank else if 0 ≤ V (20 + 72 * s0 + 3) then tPage ++ numT (V (20 + 72 * s0 + 3)) ++ tAt ++ numT (imX V s0) ++ [44] ++ numT (imY V s0) ++ tSize ++ numT (c' 2 i) ++ [120] ++ numT (c' 3 i) ++ tRec ++ numT r else tUnp)) p3 A3 ∧
      (((0 < c' 2 i ∧ 0 ≤ V (20 + 72 * s0 + 3)) ∧ (0 ≤ imX V s0 ∧ imX V s0 ≤ 40) ∧ (0 ≤ imY V s0 ∧ imY V s0 ≤ 40) ∧ f_X10_pageOf S (lA (d 2)) (lA (d 4)) (iI i) = some (iI (V (20 + 72 * s0 + 3))) ∧ f_X10_xOf S (lA (d 2)) (lA (d 4)) (iI i) = some (iI (imX V s0)) ∧ f_X10_yOf S (lA (d 2)) (lA (d 4)) (iI i) = some (iI (imY V s0)) ∧ f_X10_recordOf S (lA (d 0)) (lA (d 1)) (lA (d 2)) (lA (d 3)) (lA (d 4)) (iI i) = some (iI r)) ∨ (¬ (0 < c' 2 i ∧ 0 ≤ V (20 + 72 * s0 + 3)) ∧ f_X10_pageOf S (lA (d 2)) (lA (d 4)) (iI i) = some (iI (-4)))) := by
    rw [List.nil_append] at j2 hl2
    rcases hw with ⟨hq, ho, q1, q2, q3, -, q5⟩ | ⟨hq, q1, -⟩
    · -- placed
      have hb : b = s0 := by
        rcases k3 with k3 | ⟨b0, b1, b2, b3, b4⟩
        · have e := k4 k3
          rw [hpo] at q1
          rw [q1] at e
          have e := Option.some.inj e
          rw [iI_eq (by omega) (by omega) (by omega) (by omega)] at e
          omega
        · rw [es0]
          rcases b4 with ⟨e1, e2⟩ | e1
          · rw [if_pos e2]; exact e1
          · rw [if_neg (by omega)]; exact e1
      subst hb
      have hD2 : ∀ j, 0 ≤ j → j < V 0 → d 2 j = c' 2 j ∧ d 3 j = c' 3 j := fun j j0 j1 => by
        have := vDd_cEq (vCat_uniq g3 k2) j0 j1 (cat_r gi g3 j j0 j1).1.1 (g4 j j0 j1)
        exact ⟨this.2.2.1, this.2.2.2.1⟩
      have hpl := plc_of gs gi (vCat_bl gi k2) (gg c' k2) g2 hD2 hs0.1 hs0.2 hq.2
      obtain ⟨-, -, hx, hy, -⟩ := im_r hpl
      obtain ⟨r, z1, z2, r0, u1, u2⟩ := q5 bx' bY'
      obtain ⟨p3, A3, v1, v2⟩ := m_printsPlace (c := c') j2 hl2 (i := i) (by omega) (s0 := b) (by omega) (by omega) hx hy ⟨by omega, by omega⟩ bx' bY' z1 z2 r0 u2
      refine ⟨r, p3, A3, z1, z2, r0, fun K => ?_, ?_, Or.inl ⟨hq, hx, hy, q1, q2, q3, u1⟩⟩
      · rw [if_neg (show ¬ iI (c' 2 i) = 0 by rw [il_0, iI_eq (by omega) (by omega) (by omega) (by omega)]; omega), if_pos (show (0 : Int32) ≤ iI b by rw [il_0, iI_le (by omega) (by omega) (by omega) (by omega)]; omega), v1, opt_bind]
      · rw [if_neg (by omega), if_pos hq.2]
        exact v2
    · by_cases z2 : c' 2 i = 0
      · obtain ⟨p3, A3, v1, v2⟩ := m_word w_Blank j2 (by omega)
        refine ⟨0, p3, A3, bx', bY', by omega, fun K => ?_, ?_, Or.inr ⟨hq, q1⟩⟩
        · rw [z2, if_pos (by decide +kernel), v1, opt_bind]
        · rw [if_pos z2]
          exact v2
      · have hb : b = -1 := by
          rcases k3 with k3 | ⟨b0, b1, b2, b3, b4⟩
          · exact k3
          · have e := (k5 (by omega)).2
            rw [hpo] at q1
            rw [q1] at e
            have e := Option.some.inj e
            have hb3 := gp.2.1 b b0 b1
            rw [iI_eq (by omega) (by omega) (by omega) (by omega)] at e
            omega
        obtain ⟨p3, A3, v1, v2⟩ := m_word w_Unp j2 (by omega)
        refine ⟨0, p3, A3, bx', bY', by omega, fun K => ?_, ?_, Or.inr ⟨hq, q1⟩⟩
        · rw [if_neg (show ¬ iI (c' 2 i) = 0 by rw [il_0, iI_eq (by omega) (by omega) (by omega) (by omega)]; exact z2), hb, if_neg (by decide +kernel), v1, opt_bind]
        · rw [if_neg z2, if_neg (by omega)]
          exact v2
  obtain ⟨r, p3, A3, z1, z2, r0, hK, j3, hfacts⟩ := mid
  have hl3 : ((numT i ++ [58]) ++ (if c' 2 i = 0 then tBlank else if 0 ≤ V (20 + 72 * s0 + 3) then tPage ++ numT (V (20 + 72 * s0 + 3)) ++ tAt ++ numT (imX V s0) ++ [44] ++ numT (imY V s0) ++ tSize ++ numT (c' 2 i) ++ [120] ++ numT (c' 3 i) ++ tRec ++ numT r else tUnp)).length ≤ 44 := by
    have n0 := numT_len i
    have n1 := numT_len (V (20 + 72 * s0 + 3))
    have n2 := numT_len (imX V s0)
    have n3 := numT_len (imY V s0)
    have n4 : (numT (c' 2 i)).length = 1 := by unfold numT; rw [if_pos (by omega)]; rfl
    have n5 : (numT (c' 3 i)).length = 1 := by unfold numT; rw [if_pos (by omega)]; rfl
    have n6 : (numT r).length = 1 := by unfold numT; rw [if_pos (by omega)]; rfl
    have l1 : tPage.length = 6 := rfl
    have l2 : tAt.length = 4 := rfl
    have l3 : tSize.length = 6 := rfl
    have l4 : tRec.length = 8 := rfl
    have l5 : tBlank.length = 6 := rfl
    have l6 : tUnp.length = 9 := rfl
    rw [List.length_append, List.length_append]
    split
    · simp only [List.length_singleton]; omega
    · split
      · simp only [List.length_append, List.length_singleton]; omega
      · simp only [List.length_singleton]; omega
  -- the copy
  have fin : ∃ (p4 : Int) (A4 : Int → Int), (∀ K : Int32 → (Nat → Int32) → Option (Int32 × Int32 × Int32 × Int32 × (Nat → Int32) × (Nat → Int32) × (Nat → Int32) × (Nat → Int32) × (Nat → Int32) × (Nat → Int32) × (Nat → Int32)),
      (if iI (c' 4 i) < 0 then K (iI p3) (lA A3) else (f_X11_word (iI p3) (lA A3) 7165069197707273760 0).bind fun r15 => g_rd (lA (c' 4)) 24 (iI i) fun x16 => (f_X11_number r15.1 r15.2 x16).bind fun r17 => K r17.1 r17.2) = K (iI p4) (lA A4)) ∧ paR (prT V c' i s0 r) p4 A4 := by
    by_cases z4 : c' 4 i = -1
    · refine ⟨p3, A3, fun K => ?_, ?_⟩
      · rw [z4, if_pos (by decide +kernel)]
      · unfold prT
        rw [if_pos z4, List.append_nil]
        exact j3
    · obtain ⟨p4, A4, v1, v2⟩ := m_word w_Copy j3 (by omega)
      obtain ⟨p5, A5, v3, v4⟩ := m_number v2 (by rw [List.length_append]; show _ + 9 < 98; omega) (n := c' 4 i) (by omega)
      refine ⟨p5, A5, fun K => ?_, ?_⟩
      · rw [if_neg (show ¬ iI (c' 4 i) < 0 by rw [il_0, iI_lt (by omega) (by omega) (by omega) (by omega)]; omega), v1, opt_bind, rd_lA _ _ (by omega) (by omega) (by omega), v3, opt_bind]
      · unfold prT
        rw [if_neg z4, ← List.append_assoc]
        exact v4
  obtain ⟨p4, A4, hK4, j4⟩ := fin
  have hp4 : p4 = ((prT V c' i s0 r).length : Int) := j4.1
  have hlen : (prT V c' i s0 r).length ≤ 60 := by
    have n7 := numT_len (c' 4 i)
    have l7 : tCopy.length = 9 := rfl
    unfold prT
    rw [List.length_append]
    have : (if c' 4 i = -1 then [] else tCopy ++ numT (c' 4 i)).length ≤ 11 := by
      split
      · simp
      · rw [List.length_append]; omega
    omega
  refine ⟨s0, r, z1, z2, c', fun _ => A4, ⟨k2, hD⟩, ?_, by rw [← hp4]; exact j4, hlen, ⟨by omega, by omega, hc4⟩, ?_⟩
  · unfold f_X11_print
    have f1' : f_X11_number 0 (lA B) (iI i) = some (iI p1, lA A1) := by rw [il_0]; exact f1
    rw [m_isSprite hn (by omega), if_pos h1, opt_bind, if_neg (by decide +kernel : ¬ iI 1 = (0 : Int32)), k1, opt_bind]
    dsimp only
    rw [f1', opt_bind, show (58 : Int32) = iI 58 by decide +kernel, f2, opt_bind, rd_lA _ _ (by omega) (by omega) (by omega), jn_e]
    refine Eq.trans (hK (fun x6 x7 x8 f9 => g_rd (lA (c' 4)) 24 (iI i) fun x11 => g_jn (fun x12 f13 => some (x12, x12, x7, x8, f13, lA (c' 0), lA (c' 1), lA (c' 2), lA (c' 3), lA (c' 4), lA (c' 5))) fun j => if x11 < 0 then j x6 f9 else (f_X11_word x6 f9 7165069197707273760 0).bind fun r15 => g_rd (lA (c' 4)) 24 (iI i) fun x16 => (f_X11_number r15.1 r15.2 x16).bind fun r17 => j r17.1 r17.2)) ?_
    rw [rd_lA _ _ (by omega) (by omega) (by omega), jn_e]
    refine Eq.trans (hK4 (fun x12 f13 => some (x12, x12, z1, z2, f13, lA (c' 0), lA (c' 1), lA (c' 2), lA (c' 3), lA (c' 4), lA (c' 5)))) ?_
    rw [hp4]
  · rcases hfacts with ⟨hq, hx, hy, q1, q2, q3, q4⟩ | ⟨hq, q1⟩
    · exact Or.inl ⟨hq, by omega, hx, hy, r0, q1, q2, q3, q4⟩
    · exact Or.inr ⟨hq, q1⟩
