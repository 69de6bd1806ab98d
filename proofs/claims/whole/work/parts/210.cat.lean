/-! the whole table of what follows of the images -/
theorem vTrim_bl {V : Int → Int} {c : Nat → Int → Int} {s : Int} (hs : 0 ≤ s ∧ s < 24) (hi : 1 ≤ V (20 + 72 * s + 0) ∧ V (20 + 72 * s + 0) ≤ 8 ∧ 1 ≤ V (20 + 72 * s + 1) ∧ V (20 + 72 * s + 1) ≤ 8) (h : vTrim V s (c 0 s) (c 1 s) (c 2 s) (c 3 s)) : vBl V c s := by
  rcases h with ⟨h1, h2, -⟩ | ⟨h1, -⟩
  · exact Or.inl h1
  · exact Or.inr ⟨hs, by omega, by omega⟩
theorem vOrig_r {V : Int → Int} {c : Nat → Int → Int} {s : Int} (hs : 0 ≤ s) (h : vOrig V c s) : -1 ≤ c 4 s ∧ c 4 s < s := by
  rcases h with ⟨-, h, -⟩ | ⟨h, -⟩
  · have h1 := h.1
    have h2 := h.2.1
    omega
  · omega
theorem vCat_step {V : Int → Int} {c : Nat → Int → Int} {x l t w h o q : Int} (hx : 0 ≤ x) (hc : ∀ j, 0 ≤ j → j < x → vTrim V j (c 0 j) (c 1 j) (c 2 j) (c 3 j) ∧ vOrig V c j) (h1 : vTrim V x l t w h) (h2 : soR V (cB (uI (c 0) x l) (uI (c 1) x t) (uI (c 2) x w) (uI (c 3) x h) (c 4) (c 5)) x o q) :
    ∀ j, 0 ≤ j → j < x + 1 → vTrim V j (uI (c 0) x l j) (uI (c 1) x t j) (uI (c 2) x w j) (uI (c 3) x h j) ∧ vOrig V (cB (uI (c 0) x l) (uI (c 1) x t) (uI (c 2) x w) (uI (c 3) x h) (uI (c 4) x o) (uI (c 5) x q)) j := by
  intro j j0 j1
  by_cases e : j = x
  · subst e
    rw [uI_self, uI_self, uI_self, uI_self]
    refine ⟨h1, ?_⟩
    have e1 : ∀ o' q', vCp V (cB (uI (c 0) j l) (uI (c 1) j t) (uI (c 2) j w) (uI (c 3) j h) (c 4) (c 5)) j o' q' ↔ vCp V (cB (uI (c 0) j l) (uI (c 1) j t) (uI (c 2) j w) (uI (c 3) j h) (uI (c 4) j o) (uI (c 5) j q)) j o' q' := by
      intro o' q'
      refine vCp_ag (fun k hk => ?_) (fun k i hk i0 i1 => ?_)
      · match k, hk with
        | 0, _ => rfl
        | 1, _ => rfl
        | 2, _ => rfl
        | 3, _ => rfl
      · match k, hk with
        | 0, _ => rfl
        | 1, _ => rfl
        | 2, _ => rfl
        | 3, _ => rfl
        | 4, _ => exact (uI_ne (by omega)).symm
    unfold soR at h2
    simp only [e1] at h2
    unfold vOrig
    rw [show cB (uI (c 0) j l) (uI (c 1) j t) (uI (c 2) j w) (uI (c 3) j h) (uI (c 4) j o) (uI (c 5) j q) 4 j = o from uI_self _ _ _, show cB (uI (c 0) j l) (uI (c 1) j t) (uI (c 2) j w) (uI (c 3) j h) (uI (c 4) j o) (uI (c 5) j q) 5 j = q from uI_self _ _ _]
    exact h2
  · rw [uI_ne e, uI_ne e, uI_ne e, uI_ne e]
    obtain ⟨a1, a2⟩ := hc j j0 (by omega)
    refine ⟨a1, (vOrig_ag j0 (fun k i hk i0 i1 => ?_)).mp a2⟩
    match k, hk with
    | 0, _ => exact (uI_ne (by omega)).symm
    | 1, _ => exact (uI_ne (by omega)).symm
    | 2, _ => exact (uI_ne (by omega)).symm
    | 3, _ => exact (uI_ne (by omega)).symm
    | 4, _ => exact (uI_ne (by omega)).symm
    | 5, _ => exact (uI_ne (by omega)).symm
theorem m_knows {V : Int → Int} (hv : vImg V) (h78 : (0 ≤ V 7 ∧ V 7 ≤ 1) ∧ (0 ≤ V 8 ∧ V 8 ≤ 3)) (c : Nat → Int → Int) (bx by' : Int32) :
    ∃ bx1 by1 c', f_X11_knows bx by' (lA V) (lA (c 0)) (lA (c 1)) (lA (c 2)) (lA (c 3)) (lA (c 4)) (lA (c 5)) = some (bx1, by1, lA (c' 0), lA (c' 1), lA (c' 2), lA (c' 3), lA (c' 4), lA (c' 5)) ∧ vCat V c' := by
  obtain ⟨h0, hi, hp⟩ := hv
  unfold f_X11_knows
  obtain ⟨fu, hfu, hfu2⟩ := fuel_ex; rw [hfu]
  refine lp (fun n x (u : (Nat → Int → Int) × Int32 × Int32) => f_X11_knows_L2 (lA V) n (iI x) u.2.1 u.2.2 (lA (u.1 0)) (lA (u.1 1)) (lA (u.1 2)) (lA (u.1 3)) (lA (u.1 4)) (lA (u.1 5)))
    (fun r => ∃ bx1 by1 c', r = some (bx1, by1, lA (c' 0), lA (c' 1), lA (c' 2), lA (c' 3), lA (c' 4), lA (c' 5)) ∧ vCat V c') (V 0)
    (fun x u => 0 ≤ x ∧ ∀ j, 0 ≤ j → j < x → vTrim V j (u.1 0 j) (u.1 1 j) (u.1 2 j) (u.1 3 j) ∧ vOrig V u.1 j) ?_ ?_ fu 0 (c, bx, by') (by omega) (by omega) ⟨by omega, fun j _ _ => by omega⟩
  · rintro n ⟨c, ux, uy⟩ ⟨-, h⟩
    dsimp only at h ⊢
    unfold f_X11_knows_L2
    simp (disch := omega) only [↓bd_e, ↓jn_e, ↓opt_bind, ↓reduceIte, iLeT, iLeF, iLtT, iLtF, iEqT, iEqF, il_0, il_1, il_2, il_3, il_4, il_5, il_6, il_7, il_8, il_9, il_10, il_11, il_12, il_13, il_14, il_15, il_16, il_18, il_20, il_24, il_32, il_35, il_40, il_44, il_47, il_48, il_56, il_57, il_58, il_59, il_63, il_64, il_72, il_100, il_120, il_126, il_127, il_160, il_192, il_255, il_349, il_1748, il_6992, iI_add, iI_sub, iI_mul, iI_neg, iI_le, iI_lt, iI_eq, rd_lA, wr_lA, rd_lR, wr_lR, ite_iI, max_iI, min_iI, rem_iI, div_iI, ite_true, ite_false, if_true, if_false, ite_self, and_self, and_true, true_and, and_false, false_and, or_self, or_true, true_or, or_false, false_or, not_true_eq_false, not_false_eq_true]
    exact ⟨ux, uy, c, rfl, h⟩
  · rintro n x ⟨c, ux, uy⟩ hx ⟨hx0, h⟩ ih
    dsimp only at h ih ⊢
    have hix := hi x hx0 hx
    obtain ⟨l, t, w, hh, h1, e1⟩ := m_trims (V := V) (s := x) (by omega) (by omega) (fun a b a0 a1 b0 b1 => hp x a b hx0 hx a0 a1 b0 b1) h78.1 (c 0) (c 1) (c 2) (c 3)
    have hb1 : ∀ j, 0 ≤ j → j ≤ x → vBl V (cB (uI (c 0) x l) (uI (c 1) x t) (uI (c 2) x w) (uI (c 3) x hh) (c 4) (c 5)) j := by
      intro j j0 j1
      have hij := hi j j0 (by omega)
      refine vTrim_bl (by omega) (by omega) ?_
      show vTrim V j (uI (c 0) x l j) (uI (c 1) x t j) (uI (c 2) x w j) (uI (c 3) x hh j)
      by_cases e : j = x
      · subst e
        rw [uI_self, uI_self, uI_self, uI_self]
        exact h1
      · rw [uI_ne e, uI_ne e, uI_ne e, uI_ne e]
        exact (h j j0 (by omega)).1
    obtain ⟨o, q, bx1, by1, e2, h2⟩ := m_seeks (V := V) (c := cB (uI (c 0) x l) (uI (c 1) x t) (uI (c 2) x w) (uI (c 3) x hh) (c 4) (c 5)) (s := x) (by omega) h78.2 hb1 (fun j j0 j1 => by have := vOrig_r j0 (h j j0 j1).2; exact ⟨this.1, by have := this.2; show c 4 j < 24; omega⟩) (fun j j0 j1 a b a0 a1 b0 b1 => hp j a b j0 (by omega) a0 a1 b0 b1) ux uy
    have e2' : f_X11_seeks ux uy (lA V) (lA (uI (c 0) x l)) (lA (uI (c 1) x t)) (lA (uI (c 2) x w)) (lA (uI (c 3) x hh)) (lA (c 4)) (lA (c 5)) (iI x) = some (bx1, by1, lA (uI (c 4) x o), lA (uI (c 5) x q)) := e2
    unfold f_X11_knows_L2
    simp (disch := omega) only [↓bd_e, ↓jn_e, ↓opt_bind, ↓reduceIte, iLeT, iLeF, iLtT, iLtF, iEqT, iEqF, il_0, il_1, il_2, il_3, il_4, il_5, il_6, il_7, il_8, il_9, il_10, il_11, il_12, il_13, il_14, il_15, il_16, il_18, il_20, il_24, il_32, il_35, il_40, il_44, il_47, il_48, il_56, il_57, il_58, il_59, il_63, il_64, il_72, il_100, il_120, il_126, il_127, il_160, il_192, il_255, il_349, il_1748, il_6992, iI_add, iI_sub, iI_mul, iI_neg, iI_le, iI_lt, iI_eq, rd_lA, wr_lA, rd_lR, wr_lR, ite_iI, max_iI, min_iI, rem_iI, div_iI, ite_true, ite_false, if_true, if_false, ite_self, and_self, and_true, true_and, and_false, false_and, or_self, or_true, true_or, or_false, false_or, not_true_eq_false, not_false_eq_true, e1, e2']
    exact ih (cB (uI (c 0) x l) (uI (c 1) x t) (uI (c 2) x w) (uI (c 3) x hh) (uI (c 4) x o) (uI (c 5) x q), bx1, by1) ⟨by omega, vCat_step hx0 h h1 h2⟩
/-- how the class's tables d stand to c -/
def vDd (c d : Nat → Int → Int) (j : Int) : Prop := d 0 j = orN (c 2 j) (c 0 j) ∧ d 1 j = orN (c 2 j) (c 1 j) ∧ d 2 j = c 2 j ∧ d 3 j = c 3 j ∧ d 4 j = or4 (c 4 j) (c 4 j) ∧ d 5 j = or4 (c 4 j) (c 5 j)
theorem vDd_De {c d : Nat → Int → Int} {j : Int} (h : vDd c d j) : vDe c d j := by
  obtain ⟨h1, h2, h3, h4, -⟩ := h
  refine ⟨h3, h4, fun h => ?_⟩
  unfold orN at h1 h2
  rw [if_neg (by omega)] at h1 h2
  exact ⟨h1, h2⟩
theorem c_matched {V : Int → Int} (h8 : 0 ≤ V 8 ∧ V 8 ≤ 3) : f_X5_matchedOrientations (iI (V 8)) = iI (vLim V) := by
  unfold f_X5_matchedOrientations vLim
  have h4 : V 8 = 0 ∨ V 8 = 1 ∨ V 8 = 2 ∨ V 8 = 3 := by omega
  rcases h4 with h | h | h | h <;> rw [h] <;> decide +kernel
theorem c_study {V : Int → Int} {R : Int → Int32} (hv : vImg V) (h78 : (0 ≤ V 7 ∧ V 7 ≤ 1) ∧ (0 ≤ V 8 ∧ V 8 ≤ 3)) (hr : ∀ j, 0 ≤ j → j < V 0 → vRow V R j) (Ws Hs : Int → Int) (hW : ∀ j, 0 ≤ j → j < V 0 → Ws j = V (20 + 72 * j + 0)) (hH : ∀ j, 0 ≤ j → j < V 0 → Hs j = V (20 + 72 * j + 1)) (d : Nat → Int → Int) :
    ∃ c' d', f_X0_study (lA (d 0)) (lA (d 1)) (lA (d 2)) (lA (d 3)) (lA (d 4)) (lA (d 5)) (iI (V 0)) (lA Ws) (lA Hs) (lR R) (iI (V 7)) (iI (V 8)) = some (lA (d' 0), lA (d' 1), lA (d' 2), lA (d' 3), lA (d' 4), lA (d' 5)) ∧ vCat V c' ∧ ∀ j, 0 ≤ j → j < V 0 → vDd c' d' j := by
  obtain ⟨h0, hi, hp⟩ := hv
  unfold f_X0_study
  obtain ⟨fu, hfu, hfu2⟩ := fuel_ex; rw [hfu]
  refine lp (fun n x (u : (Nat → Int → Int) × (Nat → Int → Int)) => f_X0_study_L2 (iI (V 0)) (lA Ws) (lA Hs) (lR R) (iI (V 7)) (iI (V 8)) n (iI x) (lA (u.2 0)) (lA (u.2 1)) (lA (u.2 2)) (lA (u.2 3)) (lA (u.2 4)) (lA (u.2 5)))
    (fun r => ∃ c' d' : Nat → Int → Int, r = some (lA (d' 0), lA (d' 1), lA (d' 2), lA (d' 3), lA (d' 4), lA (d' 5)) ∧ vCat V c' ∧ ∀ j, 0 ≤ j → j < V 0 → vDd c' d' j) (V 0)
    (fun x u => 0 ≤ x ∧ (∀ j, 0 ≤ j → j < x → vTrim V j (u.1 0 j) (u.1 1 j) (u.1 2 j) (u.1 3 j) ∧ vOrig V u.1 j) ∧ ∀ j, 0 ≤ j → j < x → vDd u.1 u.2 j) ?_ ?_ fu 0 (d, d) (by omega) (by omega) ⟨by omega, fun j _ _ => by omega, fun j _ _ => by omega⟩
  · rintro n ⟨c, d⟩ ⟨-, h, hd⟩
    dsimp only at h hd ⊢
    unfold f_X0_study_L2
    simp (disch := omega) only [↓bd_e, ↓jn_e, ↓opt_bind, ↓reduceIte, iLeT, iLeF, iLtT, iLtF, iEqT, iEqF, il_0, il_1, il_2, il_3, il_4, il_5, il_6, il_7, il_8, il_9, il_10, il_11, il_12, il_13, il_14, il_15, il_16, il_18, il_20, il_24, il_32, il_35, il_40, il_44, il_47, il_48, il_56, il_57, il_58, il_59, il_63, il_64, il_72, il_100, il_120, il_126, il_127, il_160, il_192, il_255, il_349, il_1748, il_6992, iI_add, iI_sub, iI_mul, iI_neg, iI_le, iI_lt, iI_eq, rd_lA, wr_lA, rd_lR, wr_lR, ite_iI, max_iI, min_iI, rem_iI, div_iI, ite_true, ite_false, if_true, if_false, ite_self, and_self, and_true, true_and, and_false, false_and, or_self, or_true, true_or, or_false, false_or, not_true_eq_false, not_false_eq_true]
    exact ⟨c, d, rfl, h, hd⟩
  · rintro n x ⟨c, d⟩ hx ⟨hx0, h, hd⟩ ih
    dsimp only at h hd ih ⊢
    have hix := hi x hx0 hx
    have key : ∀ l t w hh, vTrim V x l t w hh → ∃ o q c' d', f_X0_findOriginal (lA (uI (d 0) x (orN w l))) (lA (uI (d 1) x (orN w t))) (lA (uI (d 2) x w)) (lA (uI (d 3) x hh)) (lA (d 4)) (lA (d 5)) (lR R) (iI x) (iI (vLim V)) = some (lA (uI (d 4) x o), lA (uI (d 5) x q)) ∧
        d' = cB (uI (d 0) x (orN w l)) (uI (d 1) x (orN w t)) (uI (d 2) x w) (uI (d 3) x hh) (uI (d 4) x o) (uI (d 5) x q) ∧ (∀ j, 0 ≤ j → j < x + 1 → vTrim V j (c' 0 j) (c' 1 j) (c' 2 j) (c' 3 j) ∧ vOrig V c' j) ∧ ∀ j, 0 ≤ j → j < x + 1 → vDd c' d' j := by
      intro l t w hh h1
      have hb1 : ∀ j, 0 ≤ j → j ≤ x → vBl V (cB (uI (c 0) x l) (uI (c 1) x t) (uI (c 2) x w) (uI (c 3) x hh) (c 4) (c 5)) j := by
        intro j j0 j1
        have hij := hi j j0 (by omega)
        refine vTrim_bl (by omega) (by omega) ?_
        show vTrim V j (uI (c 0) x l j) (uI (c 1) x t j) (uI (c 2) x w j) (uI (c 3) x hh j)
        by_cases e : j = x
        · subst e
          rw [uI_self, uI_self, uI_self, uI_self]
          exact h1
        · rw [uI_ne e, uI_ne e, uI_ne e, uI_ne e]
          exact (h j j0 (by omega)).1
      obtain ⟨o, q, e2, h2⟩ := c_findOriginal (V := V) (R := R) (c := cB (uI (c 0) x l) (uI (c 1) x t) (uI (c 2) x w) (uI (c 3) x hh) (c 4) (c 5)) (d := cB (uI (d 0) x (orN w l)) (uI (d 1) x (orN w t)) (uI (d 2) x w) (uI (d 3) x hh) (d 4) (d 5)) (s := x) (by omega) h78.2 hb1
        (fun j j0 j1 => by have := vOrig_r j0 (h j j0 j1).2; exact ⟨this.1, by have := this.2; show c 4 j < 24; omega⟩) (fun j j0 j1 a b a0 a1 b0 b1 => hp j a b j0 (by omega) a0 a1 b0 b1) (fun j j0 j1 => hr j j0 (by omega))
        (fun j j0 j1 => by
          by_cases e : j = x
          · subst e
            refine ⟨?_, ?_, fun hw => ?_⟩
            · show uI (d 2) j w j = uI (c 2) j w j
              rw [uI_self, uI_self]
            · show uI (d 3) j hh j = uI (c 3) j hh j
              rw [uI_self, uI_self]
            · replace hw : 0 < uI (c 2) j w j := hw
              rw [uI_self] at hw
              show uI (d 0) j (orN w l) j = uI (c 0) j l j ∧ uI (d 1) j (orN w t) j = uI (c 1) j t j
              unfold orN
              rw [uI_self, uI_self, uI_self, uI_self, if_neg (by omega), if_neg (by omega)]
              exact ⟨rfl, rfl⟩
          · obtain ⟨g1, g2, g3⟩ := vDd_De (hd j j0 (by omega))
            refine ⟨?_, ?_, fun hw => ?_⟩
            · show uI (d 2) x w j = uI (c 2) x w j
              rw [uI_ne e, uI_ne e, g1]
            · show uI (d 3) x hh j = uI (c 3) x hh j
              rw [uI_ne e, uI_ne e, g2]
            · replace hw : 0 < uI (c 2) x w j := hw
              rw [uI_ne e] at hw
              show uI (d 0) x (orN w l) j = uI (c 0) x l j ∧ uI (d 1) x (orN w t) j = uI (c 1) x t j
              rw [uI_ne e, uI_ne e, uI_ne e, uI_ne e]
              exact g3 hw)
        (fun j j0 j1 => (hd j j0 j1).2.2.2.2.1)
      refine ⟨or4 o o, or4 o q, cB (uI (c 0) x l) (uI (c 1) x t) (uI (c 2) x w) (uI (c 3) x hh) (uI (c 4) x o) (uI (c 5) x q), _, e2, rfl, vCat_step hx0 h h1 h2, ?_⟩
      intro j j0 j1
      show uI (d 0) x (orN w l) j = orN (uI (c 2) x w j) (uI (c 0) x l j) ∧ uI (d 1) x (orN w t) j = orN (uI (c 2) x w j) (uI (c 1) x t j) ∧ uI (d 2) x w j = uI (c 2) x w j ∧ uI (d 3) x hh j = uI (c 3) x hh j ∧ uI (d 4) x (or4 o o) j = or4 (uI (c 4) x o j) (uI (c 4) x o j) ∧ uI (d 5) x (or4 o q) j = or4 (uI (c 4) x o j) (uI (c 5) x q j)
      by_cases e : j = x
      · subst e
        refine ⟨?_, ?_, ?_, ?_, ?_, ?_⟩ <;> simp only [uI_self]
      · simp only [uI_ne e]
        exact hd j j0 (by omega)
    have hm := c_matched h78.2
    by_cases h7 : V 7 = 0
    · have ht : vTrim V x 0 0 (V (20 + 72 * x + 0)) (V (20 + 72 * x + 1)) := Or.inr ⟨by omega, fun a b a0 a1 b0 b1 _ => by omega, ⟨0, by omega, by omega, Or.inr h7⟩, ⟨0, by omega, by omega, Or.inr h7⟩, ⟨0, by omega, by omega, Or.inr h7⟩, ⟨0, by omega, by omega, Or.inr h7⟩⟩
      obtain ⟨o, q, c', d', e2, e3, h3, h4⟩ := key _ _ _ _ ht
      have eo : ∀ z, orN (V (20 + 72 * x + 0)) z = z := fun z => if_neg (by omega)
      rw [eo] at e2 e3
      subst e3
      have es := c_setTrim (d 0) (d 1) (d 2) (d 3) (s := x) (by omega) 0 0 (V (20 + 72 * x + 0)) (V (20 + 72 * x + 1))
      have hWx := hW x hx0 hx
      have hHx := hH x hx0 hx
      unfold f_X0_study_L2
      simp (disch := omega) only [↓bd_e, ↓jn_e, ↓opt_bind, ↓reduceIte, iLeT, iLeF, iLtT, iLtF, iEqT, iEqF, il_0, il_1, il_2, il_3, il_4, il_5, il_6, il_7, il_8, il_9, il_10, il_11, il_12, il_13, il_14, il_15, il_16, il_18, il_20, il_24, il_32, il_35, il_40, il_44, il_47, il_48, il_56, il_57, il_58, il_59, il_63, il_64, il_72, il_100, il_120, il_126, il_127, il_160, il_192, il_255, il_349, il_1748, il_6992, iI_add, iI_sub, iI_mul, iI_neg, iI_le, iI_lt, iI_eq, rd_lA, wr_lA, rd_lR, wr_lR, ite_iI, max_iI, min_iI, rem_iI, div_iI, ite_true, ite_false, if_true, if_false, ite_self, and_self, and_true, true_and, and_false, false_and, or_self, or_true, true_or, or_false, false_or, not_true_eq_false, not_false_eq_true, hWx, hHx, es, hm, e2]
      exact ih (c', _) ⟨by omega, h3, h4⟩
    · obtain ⟨l, t, w, hh, h1, e1⟩ := c_trim (V := V) (R := R) (s := x) (by omega) (hr x hx0 hx) (by omega) (fun a b a0 a1 b0 b1 => hp x a b hx0 hx a0 a1 b0 b1) (by omega) (d 0) (d 1) (d 2) (d 3) Hs (hH x hx0 hx)
      obtain ⟨o, q, c', d', e2, e3, h3, h4⟩ := key _ _ _ _ h1
      subst e3
      unfold f_X0_study_L2
      simp (disch := omega) only [↓bd_e, ↓jn_e, ↓opt_bind, ↓reduceIte, iLeT, iLeF, iLtT, iLtF, iEqT, iEqF, il_0, il_1, il_2, il_3, il_4, il_5, il_6, il_7, il_8, il_9, il_10, il_11, il_12, il_13, il_14, il_15, il_16, il_18, il_20, il_24, il_32, il_35, il_40, il_44, il_47, il_48, il_56, il_57, il_58, il_59, il_63, il_64, il_72, il_100, il_120, il_126, il_127, il_160, il_192, il_255, il_349, il_1748, il_6992, iI_add, iI_sub, iI_mul, iI_neg, iI_le, iI_lt, iI_eq, rd_lA, wr_lA, rd_lR, wr_lR, ite_iI, max_iI, min_iI, rem_iI, div_iI, ite_true, ite_false, if_true, if_false, ite_self, and_self, and_true, true_and, and_false, false_and, or_self, or_true, true_or, or_false, false_or, not_true_eq_false, not_false_eq_true, e1, hm, e2]
      exact ih (c', _) ⟨by omega, h3, h4⟩
