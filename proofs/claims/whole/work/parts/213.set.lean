/-! the atlas made empty; changes of settings -/
def vE (V : Int → Int) : Int → Int := fun j => if j = 13 then 0 else if 23 ≤ j ∧ j < 1748 ∧ (j - 23) % 72 = 0 then -1 else V j
theorem vE_ne {V : Int → Int} {j : Int} (h : j ≠ 13) (h2 : j < 23 ∨ (j - 23) % 72 ≠ 0) : vE V j = V j := by
  unfold vE
  rw [if_neg h, if_neg (by omega)]
theorem vE_13 {V : Int → Int} : vE V 13 = 0 := rfl
theorem vE_pg {V : Int → Int} {s : Int} (h : 0 ≤ s ∧ s < 24) : vE V (20 + 72 * s + 3) = -1 := by
  unfold vE
  rw [if_neg (by omega), if_pos (by omega)]
theorem vE_uI {V : Int → Int} {k x : Int} (h : 0 ≤ k ∧ k < 13) : uI (vE V) k x = vE (uI V k x) := by
  funext j
  unfold vE
  rw [uI_at, uI_at]
  by_cases e : j = k
  · rw [if_pos e, if_pos e, if_neg (by omega), if_neg (by omega)]
  · rw [if_neg e, if_neg e]
theorem m_empties {V : Int → Int} : f_X11_empties (lA V) = some (lA (vE V)) := by
  unfold f_X11_empties
  obtain ⟨fu, hfu, hfu2⟩ := fuel_ex; rw [hfu]
  simp (disch := omega) only [↓bd_e, ↓jn_e, ↓opt_bind, ↓reduceIte, iLeT, iLeF, iLtT, iLtF, iEqT, iEqF, il_0, il_1, il_2, il_3, il_4, il_5, il_6, il_7, il_8, il_9, il_10, il_11, il_12, il_13, il_14, il_15, il_16, il_18, il_20, il_24, il_32, il_35, il_40, il_44, il_47, il_48, il_56, il_57, il_58, il_59, il_63, il_64, il_72, il_100, il_120, il_126, il_127, il_160, il_192, il_255, il_349, il_1748, il_6992, iI_add, iI_sub, iI_mul, iI_neg, iI_le, iI_lt, iI_eq, rd_lA, wr_lA, rd_lR, wr_lR, ite_iI, max_iI, min_iI, rem_iI, div_iI, ite_true, ite_false, if_true, if_false, ite_self, and_self, and_true, true_and, and_false, false_and, or_self, or_true, true_or, or_false, false_or, not_true_eq_false, not_false_eq_true]
  refine lp (fun n x (A : Int → Int) => f_X11_empties_L10 n (iI x) (lA A)) (fun r => r = some (lA (vE V))) 24 (fun x A => 0 ≤ x ∧ ∀ j, A j = if j = 13 then 0 else if 23 ≤ j ∧ j < 23 + 72 * x ∧ (j - 23) % 72 = 0 then -1 else V j) ?_ ?_ fu 0 (uI V 13 0) (by omega) (by omega) ⟨by omega, fun j => by rw [uI_at]; congr 1; rw [if_neg (by omega)]⟩
  · rintro n A ⟨-, h⟩
    unfold f_X11_empties_L10
    simp (disch := omega) only [↓bd_e, ↓jn_e, ↓opt_bind, ↓reduceIte, iLeT, iLeF, iLtT, iLtF, iEqT, iEqF, il_0, il_1, il_2, il_3, il_4, il_5, il_6, il_7, il_8, il_9, il_10, il_11, il_12, il_13, il_14, il_15, il_16, il_18, il_20, il_24, il_32, il_35, il_40, il_44, il_47, il_48, il_56, il_57, il_58, il_59, il_63, il_64, il_72, il_100, il_120, il_126, il_127, il_160, il_192, il_255, il_349, il_1748, il_6992, iI_add, iI_sub, iI_mul, iI_neg, iI_le, iI_lt, iI_eq, rd_lA, wr_lA, rd_lR, wr_lR, ite_iI, max_iI, min_iI, rem_iI, div_iI, ite_true, ite_false, if_true, if_false, ite_self, and_self, and_true, true_and, and_false, false_and, or_self, or_true, true_or, or_false, false_or, not_true_eq_false, not_false_eq_true]
    rw [lA_eq (fun j j0 => ?_)]
    rw [h j]
    unfold vE
    by_cases e : j = 13
    · rw [if_pos e, if_pos e]
    · rw [if_neg e, if_neg e]
      by_cases e2 : 23 ≤ j ∧ j < 1748 ∧ (j - 23) % 72 = 0
      · rw [if_pos e2, if_pos (by omega)]
      · rw [if_neg e2, if_neg (by omega)]
  · rintro n x A hx ⟨hx0, h⟩ ih
    unfold f_X11_empties_L10
    simp (disch := omega) only [↓bd_e, ↓jn_e, ↓opt_bind, ↓reduceIte, iLeT, iLeF, iLtT, iLtF, iEqT, iEqF, il_0, il_1, il_2, il_3, il_4, il_5, il_6, il_7, il_8, il_9, il_10, il_11, il_12, il_13, il_14, il_15, il_16, il_18, il_20, il_24, il_32, il_35, il_40, il_44, il_47, il_48, il_56, il_57, il_58, il_59, il_63, il_64, il_72, il_100, il_120, il_126, il_127, il_160, il_192, il_255, il_349, il_1748, il_6992, iI_add, iI_sub, iI_mul, iI_neg, iI_le, iI_lt, iI_eq, rd_lA, wr_lA, rd_lR, wr_lR, ite_iI, max_iI, min_iI, rem_iI, div_iI, ite_true, ite_false, if_true, if_false, ite_self, and_self, and_true, true_and, and_false, false_and, or_self, or_true, true_or, or_false, false_or, not_true_eq_false, not_false_eq_true, f_X11_at]
    refine ih _ ⟨by omega, fun j => ?_⟩
    rw [uI_at]
    by_cases e : j = 20 + 72 * x + 3
    · rw [if_pos e, if_neg (by omega), if_pos (by omega)]
    · rw [if_neg e, h j]
      by_cases e1 : j = 13
      · rw [if_pos e1, if_pos e1]
      · rw [if_neg e1, if_neg e1]
        by_cases e2 : 23 ≤ j ∧ j < 23 + 72 * x ∧ (j - 23) % 72 = 0
        · rw [if_pos e2, if_pos (by omega)]
        · rw [if_neg e2, if_neg (by omega)]
theorem m_sets {V P : Int → Int} {p k x : Int} (hk : 0 ≤ k ∧ k < 1748) {P' : Int → Int} {p' : Int} (hn : f_X11_notes (iI p) (lA V) (lA P) = some (iI p', lA P')) : f_X11_sets (iI p) (lA V) (lA P) (iI k) (iI x) = some (iI (V k), iI p', lA (vE (uI V k x)), lA P') := by
  unfold f_X11_sets
  rw [hn]
  simp (disch := omega) only [↓bd_e, ↓jn_e, ↓opt_bind, ↓reduceIte, iLeT, iLeF, iLtT, iLtF, iEqT, iEqF, il_0, il_1, il_2, il_3, il_4, il_5, il_6, il_7, il_8, il_9, il_10, il_11, il_12, il_13, il_14, il_15, il_16, il_18, il_20, il_24, il_32, il_35, il_40, il_44, il_47, il_48, il_56, il_57, il_58, il_59, il_63, il_64, il_72, il_100, il_120, il_126, il_127, il_160, il_192, il_255, il_349, il_1748, il_6992, iI_add, iI_sub, iI_mul, iI_neg, iI_le, iI_lt, iI_eq, rd_lA, wr_lA, rd_lR, wr_lR, ite_iI, max_iI, min_iI, rem_iI, div_iI, ite_true, ite_false, if_true, if_false, ite_self, and_self, and_true, true_and, and_false, false_and, or_self, or_true, true_or, or_false, false_or, not_true_eq_false, not_false_eq_true, m_empties]
/-- what a class's state holds of images and settings -/
def sR2 (V : Int → Int) (S : Nat → Nat → Int32) : Prop :=
  S 0 0 = iI (V 0) ∧ (∀ k : Nat, k < 12 → S 5 k = iI (V (1 + k))) ∧
  (∀ s, 0 ≤ s → s < V 0 → sA S 1 s = V (20 + 72 * s + 0) ∧ sA S 2 s = V (20 + 72 * s + 1) ∧ sA S 3 s = V (20 + 72 * s + 2) ∧ vRow V (sW S) s) ∧
  (∀ p, 0 ≤ p → p < 4 → sA S 7 p = V (14 + p)) ∧ (∀ s, 0 ≤ s → s < 24 → sA S 11 s = 0 ∨ sA S 11 s = 1)
theorem sR_2 {V : Int → Int} {S : Nat → Nat → Int32} (h : sR V S) : sR2 V S := by
  obtain ⟨⟨a1, a2⟩, a3, a4, a5, a6, a7⟩ := h
  exact ⟨a1, a3, fun s s0 s1 => ⟨(a4 s s0 s1).1, (a4 s s0 s1).2.1, (a4 s s0 s1).2.2.1, (a4 s s0 s1).2.2.2.1⟩, a5, a7⟩
theorem sR2_set {V : Int → Int} {S : Nat → Nat → Int32} (hi : vImg V) {k : Nat} (hk : k < 12) (x : Int) {F : Nat → Int32} (h : sR2 V (updC S 5 F)) : sR2 (uI V (1 + k) x) (updC S 5 (upd F k (iI x))) := by
  obtain ⟨a1, a2, a3, a4, a5⟩ := h
  have hn : ∀ j, j = 0 ∨ 13 ≤ j → uI V (1 + k) x j = V j := fun j hj => uI_ne (by omega)
  refine ⟨?_, fun j hj => ?_, fun s s0 s1 => ?_, fun p p0 p1 => ?_, a5⟩
  · rw [hn 0 (by omega)]
    exact a1
  · show upd F k (iI x) j = _
    have a2j : F j = iI (V (1 + j)) := a2 j hj
    unfold upd
    by_cases e : j = k
    · rw [if_pos e, uI_at, if_pos (by omega)]
    · rw [if_neg e, uI_ne (by omega), a2j]
  · rw [hn 0 (by omega)] at s1
    obtain ⟨b1, b2, b3, b4⟩ := a3 s s0 s1
    rw [hn _ (by omega), hn _ (by omega), hn _ (by omega)]
    refine ⟨b1, b2, b3, fun a b c d e f => ?_⟩
    rw [hn _ (by omega)] at f
    rw [hn _ (by omega), hn _ (by omega)]
    exact b4 a b c d e f
  · rw [hn _ (by omega)]
    exact a4 p p0 p1
theorem updC_self (S : Nat → Nat → Int32) (k : Nat) : updC S k (S k) = S := by
  funext j
  unfold updC
  by_cases e : j = k
  · rw [if_pos e, e]
  · rw [if_neg e]
def vPgr (V : Int → Int) : Prop := ∀ p, 0 ≤ p → p < 4 → 0 ≤ V (14 + p) ∧ V (14 + p) ≤ 3
theorem vE_img {V : Int → Int} (h : vImg V) : vImg (vE V) := by
  obtain ⟨h0, h1, h2⟩ := h
  have e0 : vE V 0 = V 0 := vE_ne (by omega) (by omega)
  refine ⟨by rw [e0]; exact h0, fun s s0 s1 => ?_, fun s x y s0 s1 x0 x1 y0 y1 => ?_⟩
  · rw [e0] at s1
    rw [vE_ne (by omega) (by omega), vE_ne (by omega) (by omega), vE_ne (by omega) (by omega)]
    exact h1 s s0 s1
  · rw [e0] at s1
    rw [vE_ne (by omega) (by omega)]
    exact h2 s x y s0 s1 x0 x1 y0 y1
theorem vE_good {V : Int → Int} (ho : vOut V) (hs : vSet V) (hi : vImg V) (hg : vPgr V) : vGood (vE V) := by
  have hi' := vE_img hi
  refine ⟨fun k hk => ?_, ?_, hi', ⟨⟨?_, ?_⟩, fun s s0 s1 => ?_, fun p p0 p1 => ?_⟩, fun c hc => ⟨fun s s0 s1 s2 => ?_, fun s s' s0 s1 s2 s3 => ?_⟩⟩
  · unfold vE
    rw [if_neg (by omega), if_neg (by omega)]
    exact ho k hk
  · unfold vSet
    simp only [vE_ne (V := V) (show (1 : Int) ≠ 13 by omega) (by omega), vE_ne (V := V) (show (2 : Int) ≠ 13 by omega) (by omega), vE_ne (V := V) (show (3 : Int) ≠ 13 by omega) (by omega), vE_ne (V := V) (show (4 : Int) ≠ 13 by omega) (by omega), vE_ne (V := V) (show (5 : Int) ≠ 13 by omega) (by omega), vE_ne (V := V) (show (6 : Int) ≠ 13 by omega) (by omega), vE_ne (V := V) (show (7 : Int) ≠ 13 by omega) (by omega), vE_ne (V := V) (show (8 : Int) ≠ 13 by omega) (by omega), vE_ne (V := V) (show (9 : Int) ≠ 13 by omega) (by omega), vE_ne (V := V) (show (10 : Int) ≠ 13 by omega) (by omega), vE_ne (V := V) (show (11 : Int) ≠ 13 by omega) (by omega), vE_ne (V := V) (show (12 : Int) ≠ 13 by omega) (by omega)]
    exact hs
  · rw [vE_13]; omega
  · rw [vE_13, vE_ne (by omega) (by omega)]
    unfold vSet at hs
    omega
  · have := hi'.1
    rw [vE_pg (by omega), vE_13]
    omega
  · rw [vE_ne (by omega) (by omega)]
    exact hg p p0 p1
  · exfalso
    have := hi'.1
    rw [vE_pg (by omega)] at s2
    omega
  · exfalso
    have := hi'.1
    rw [vE_pg (by omega)] at s3
    omega
theorem sR_E {V : Int → Int} {S : Nat → Nat → Int32} (hi : vImg V) (h : sR2 V S) (F G : Nat → Int32) (hG : ∀ s, s < 24 → G s = iI (-4)) : sR (vE V) (updC (updC S 6 (upd F 0 (iI 0))) 8 G) := by
  obtain ⟨a1, a2, a3, a4, a5⟩ := h
  obtain ⟨h0, h1, h2⟩ := hi
  have e0 : vE V 0 = V 0 := vE_ne (by omega) (by omega)
  refine ⟨⟨by rw [e0]; exact a1, rfl⟩, fun k hk => ?_, fun s s0 s1 => ?_, fun p p0 p1 => ?_, fun s s0 s1 => ?_, a5⟩
  · rw [vE_ne (by omega) (by omega)]
    exact a2 k hk
  · rw [e0] at s1
    obtain ⟨b1, b2, b3, b4⟩ := a3 s s0 s1
    rw [vE_pg (by omega), vE_ne (by omega) (by omega), vE_ne (by omega) (by omega), vE_ne (by omega) (by omega)]
    refine ⟨b1, b2, b3, fun a b c d e f => ?_, fun h => by omega⟩
    rw [vE_ne (by omega) (by omega)] at f
    have := h1 s s0 s1
    rw [vE_ne (by omega) (by omega), vE_ne (by omega) (by omega)]
    exact b4 a b c d e f
  · rw [vE_ne (by omega) (by omega)]
    exact a4 p p0 p1
  · rw [if_neg]
    · show (G s.toNat).toInt = -4
      rw [hG _ (by omega)]
      exact iI_toInt (by omega) (by omega)
    · rw [vE_pg (by omega)]
      omega
theorem c_fill {A : Nat → Int32} {x : Int} : ∃ G, f_J7_fill_53178 24 A (iI x) = some G ∧ ∀ s, s < 24 → G s = iI x := by
  unfold f_J7_fill_53178
  obtain ⟨fu, hfu, hfu2⟩ := fuel_ex; rw [hfu]
  rw [lA_of A]
  refine lp (fun n k (B : Int → Int) => f_J7_fill_53178_L5 24 (iI x) n (iI k) (lA B)) (fun r => ∃ G, r = some G ∧ ∀ s : Nat, s < 24 → G s = iI x) 24 (fun k B => 0 ≤ k ∧ ∀ j, 0 ≤ j → j < k → B j = x) ?_ ?_ fu 0 _ (by omega) (by omega) ⟨by omega, fun j _ _ => by omega⟩
  · rintro n B ⟨-, h⟩
    unfold f_J7_fill_53178_L5
    rw [show Int32.ofNat 24 = iI 24 by decide +kernel]
    simp (disch := omega) only [↓bd_e, ↓jn_e, ↓opt_bind, ↓reduceIte, iLeT, iLeF, iLtT, iLtF, iEqT, iEqF, il_0, il_1, il_2, il_3, il_4, il_5, il_6, il_7, il_8, il_9, il_10, il_11, il_12, il_13, il_14, il_15, il_16, il_18, il_20, il_24, il_32, il_35, il_40, il_44, il_47, il_48, il_56, il_57, il_58, il_59, il_63, il_64, il_72, il_100, il_120, il_126, il_127, il_160, il_192, il_255, il_349, il_1748, il_6992, iI_add, iI_sub, iI_mul, iI_neg, iI_le, iI_lt, iI_eq, rd_lA, wr_lA, rd_lR, wr_lR, ite_iI, max_iI, min_iI, rem_iI, div_iI, ite_true, ite_false, if_true, if_false, ite_self, and_self, and_true, true_and, and_false, false_and, or_self, or_true, true_or, or_false, false_or, not_true_eq_false, not_false_eq_true]
    exact ⟨_, rfl, fun s hs => by rw [lA_nat, h _ (by omega) (by omega)]⟩
  · rintro n k B hk ⟨hk0, h⟩ ih
    unfold f_J7_fill_53178_L5
    rw [show Int32.ofNat 24 = iI 24 by decide +kernel]
    simp (disch := omega) only [↓bd_e, ↓jn_e, ↓opt_bind, ↓reduceIte, iLeT, iLeF, iLtT, iLtF, iEqT, iEqF, il_0, il_1, il_2, il_3, il_4, il_5, il_6, il_7, il_8, il_9, il_10, il_11, il_12, il_13, il_14, il_15, il_16, il_18, il_20, il_24, il_32, il_35, il_40, il_44, il_47, il_48, il_56, il_57, il_58, il_59, il_63, il_64, il_72, il_100, il_120, il_126, il_127, il_160, il_192, il_255, il_349, il_1748, il_6992, iI_add, iI_sub, iI_mul, iI_neg, iI_le, iI_lt, iI_eq, rd_lA, wr_lA, rd_lR, wr_lR, ite_iI, max_iI, min_iI, rem_iI, div_iI, ite_true, ite_false, if_true, if_false, ite_self, and_self, and_true, true_and, and_false, false_and, or_self, or_true, true_or, or_false, false_or, not_true_eq_false, not_false_eq_true]
    refine ih _ ⟨by omega, fun j j0 j1 => ?_⟩
    rw [uI_at]
    split
    · rfl
    · exact h j j0 (by omega)
theorem c_studyS {V : Int → Int} {S : Nat → Nat → Int32} (hs : vSet V) (hi : vImg V) (h : sR2 V S) (d : Nat → Int → Int) :
    ∃ c' d', f_X0_study (lA (d 0)) (lA (d 1)) (lA (d 2)) (lA (d 3)) (lA (d 4)) (lA (d 5)) (S 0 0) (S 1) (S 2) (S 4) (S 5 6) (S 5 7) = some (lA (d' 0), lA (d' 1), lA (d' 2), lA (d' 3), lA (d' 4), lA (d' 5)) ∧ vCat V c' ∧ ∀ j, 0 ≤ j → j < V 0 → vDd c' d' j := by
  obtain ⟨a1, a2, a3, a4, a5⟩ := h
  have e6 : S 5 6 = iI (V 7) := a2 6 (by omega)
  have e7 : S 5 7 = iI (V 8) := a2 7 (by omega)
  rw [a1, e6, e7, sA_lA S 1, sA_lA S 2, sW_lR S]
  unfold vSet at hs
  exact c_study hi ⟨by omega, by omega⟩ (fun j j0 j1 => (a3 j j0 j1).2.2.2) _ _ (fun j j0 j1 => (a3 j j0 j1).1) (fun j j0 j1 => (a3 j j0 j1).2.1) d
def stI (V : Int → Int) (c : Nat → Int → Int) (S : Nat → Nat → Int32) (d : Nat → Int → Int) (l p : Int) (F : Int → Nat → Nat → Int32) (P : Int → Int) : Prop :=
  vGood V ∧ sR V S ∧ vCat V c ∧ (∀ j, 0 ≤ j → j < V 0 → vDd c d j) ∧ hR p l F P
theorem vE_set {V : Int → Int} (hs : vSet V) : vSet (vE V) := by
  unfold vSet
  simp only [vE_ne (V := V) (show (1 : Int) ≠ 13 by omega) (by omega), vE_ne (V := V) (show (2 : Int) ≠ 13 by omega) (by omega), vE_ne (V := V) (show (3 : Int) ≠ 13 by omega) (by omega), vE_ne (V := V) (show (4 : Int) ≠ 13 by omega) (by omega), vE_ne (V := V) (show (5 : Int) ≠ 13 by omega) (by omega), vE_ne (V := V) (show (6 : Int) ≠ 13 by omega) (by omega), vE_ne (V := V) (show (7 : Int) ≠ 13 by omega) (by omega), vE_ne (V := V) (show (8 : Int) ≠ 13 by omega) (by omega), vE_ne (V := V) (show (9 : Int) ≠ 13 by omega) (by omega), vE_ne (V := V) (show (10 : Int) ≠ 13 by omega) (by omega), vE_ne (V := V) (show (11 : Int) ≠ 13 by omega) (by omega), vE_ne (V := V) (show (12 : Int) ≠ 13 by omega) (by omega)]
  exact hs
theorem x_set {V : Int → Int} {c : Nat → Int → Int} {S : Nat → Nat → Int32} {d : Nat → Int → Int} {l p : Int} {H0 H1 H2 H3 H4 : Nat → Nat → Int32} {P : Int → Int} (h : stI V c S d l p (hF H0 H1 H2 H3 H4) P) {V2 : Int → Int} {S2 : Nat → Nat → Int32} (ho : vOut V2) (hs : vSet V2) (hi : vImg V2) (hg : vPgr V2) (h2 : sR2 V2 S2) :
    ∃ K0 K1 K2 K3 K4 P' S3 c' d', f_X2_record (iI l) (iI p) H0 H1 H2 H3 H4 S = some (iI ((l + 1) % 5), iI (min (p + 1) 5), K0, K1, K2, K3, K4) ∧ f_X11_notes (iI p) (lA V) (lA P) = some (iI (min (p + 1) 5), lA P') ∧
      f_X10_emptyAtlas S2 (lA (d 0)) (lA (d 1)) (lA (d 2)) (lA (d 3)) (lA (d 4)) (lA (d 5)) = some (S3, lA (d' 0), lA (d' 1), lA (d' 2), lA (d' 3), lA (d' 4), lA (d' 5)) ∧
      ∀ F6, stI (vE V2) c' (updC (updC S2 6 (upd F6 0 (S3 6 0))) 8 (S3 8)) d' ((l + 1) % 5) (min (p + 1) 5) (hF K0 K1 K2 K3 K4) P' := by
  obtain ⟨g1, g2, g3, g4, g5⟩ := h
  have g5' := g5.1
  obtain ⟨K0, K1, K2, K3, K4, e1, e2, e3⟩ := c_record g1.2.1 g2 (l := l) (p := p) (by omega) (by omega) H0 H1 H2 H3 H4
  obtain ⟨P', e4, e5, e6⟩ := m_notes (V := V) (P := P) (p := p) (by omega)
  obtain ⟨G, e7, e8⟩ := c_fill (A := S2 8) (x := -4)
  have hsE := sR_E hi h2 (S2 6) G e8
  obtain ⟨c', d', e9, e10, e11⟩ := c_studyS (vE_set hs) (vE_img hi) (sR_2 hsE) d
  refine ⟨K0, K1, K2, K3, K4, P', updC (updC S2 6 (upd (S2 6) 0 (iI 0))) 8 G, c', d', e1, e4, ?_, fun F6 => ⟨vE_good ho hs hi hg, sR_E hi h2 F6 G e8, e10, e11, hR_step g1 g2 g5 e2 e3 e5 e6⟩⟩
  have e9' : f_X0_study (lA (d 0)) (lA (d 1)) (lA (d 2)) (lA (d 3)) (lA (d 4)) (lA (d 5)) (S2 0 0) (S2 1) (S2 2) (S2 4) (S2 5 6) (S2 5 7) = some (lA (d' 0), lA (d' 1), lA (d' 2), lA (d' 3), lA (d' 4), lA (d' 5)) := e9
  unfold f_X10_emptyAtlas f_X4_removeAll
  simp (disch := omega) only [↓bd_e, ↓jn_e, ↓opt_bind, ↓reduceIte, iLeT, iLeF, iLtT, iLtF, iEqT, iEqF, il_0, il_1, il_2, il_3, il_4, il_5, il_6, il_7, il_8, il_9, il_10, il_11, il_12, il_13, il_14, il_15, il_16, il_18, il_20, il_24, il_32, il_35, il_40, il_44, il_47, il_48, il_56, il_57, il_58, il_59, il_63, il_64, il_72, il_100, il_120, il_126, il_127, il_160, il_192, il_255, il_349, il_1748, il_6992, iI_add, iI_sub, iI_mul, iI_neg, iI_le, iI_lt, iI_eq, rd_lA, wr_lA, rd_lR, wr_lR, ite_iI, max_iI, min_iI, rem_iI, div_iI, ite_true, ite_false, if_true, if_false, ite_self, and_self, and_true, true_and, and_false, false_and, or_self, or_true, true_or, or_false, false_or, not_true_eq_false, not_false_eq_true, e7, e9']
