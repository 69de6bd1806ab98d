theorem least {P : Int → Prop} : ∀ (n : Nat), (∃ q, 0 ≤ q ∧ q < (n : Int) ∧ P q) → ∃ r, (0 ≤ r ∧ r < (n : Int)) ∧ P r ∧ ∀ q, 0 ≤ q → q < r → ¬ P q
  | 0, h => by
    obtain ⟨q, h1, h2, -⟩ := h
    omega
  | n+1, h => by
    by_cases h1 : ∃ q, 0 ≤ q ∧ q < (n : Int) ∧ P q
    · obtain ⟨r, r1, r2, r3⟩ := least n h1
      exact ⟨r, ⟨r1.1, by omega⟩, r2, r3⟩
    · obtain ⟨q, q0, q1, q2⟩ := h
      exact ⟨q, ⟨q0, q1⟩, q2, fun z z0 z1 hz => h1 ⟨z, z0, by omega, hz⟩⟩
theorem aft_r {q : Int} (hq : 0 ≤ q ∧ q < 8) : 0 ≤ aft q ∧ aft q < 8 := by
  unfold aft
  split <;> omega
theorem aft_sur {q : Int} (hq : 0 ≤ q ∧ q < 8) : ∃ z, (0 ≤ z ∧ z < 8) ∧ aft z = q := by
  unfold aft
  by_cases h : q < 4
  · refine ⟨(q + 3) % 4, by omega, ?_⟩
    rw [if_pos (by omega)]
    omega
  · refine ⟨4 + (q + 1) % 4, by omega, ?_⟩
    rw [if_neg (by omega)]
    omega
theorem c_after {q : Int} (hq : 0 ≤ q ∧ q < 8) : f_X0_afterTurn (iI q) = iI (aft q) := by
  have h8 : q = 0 ∨ q = 1 ∨ q = 2 ∨ q = 3 ∨ q = 4 ∨ q = 5 ∨ q = 6 ∨ q = 7 := by omega
  rcases h8 with rfl | rfl | rfl | rfl | rfl | rfl | rfl | rfl <;> decide +kernel
theorem vLk_ex {V : Int → Int} {c : Nat → Int → Int} {s o t : Int} (ht : t = 0 ∨ t = 1) (h : ∃ q, (0 ≤ q ∧ q < 8) ∧ vLike V c s o q) : ∃ r, (0 ≤ r ∧ r < 8) ∧ vLk V c s o t r ∧ ∀ q, 0 ≤ q → q < r → ¬ vLk V c s o t q := by
  refine least 8 ?_
  obtain ⟨q, hq, hl⟩ := h
  rcases ht with rfl | rfl
  · exact ⟨q, hq.1, hq.2, vLk_0.mpr hl⟩
  · obtain ⟨z, hz, e⟩ := aft_sur hq
    exact ⟨z, hz.1, hz.2, (vLk_1 hz).mpr (by rw [e]; exact hl)⟩
theorem c_recStep {V : Int → Int} {R : Int → Int32} {d : Nat → Int → Int} {s o t : Int} (hs : vSh V d s) (ho : vSh V d o) (hrs : vRow V R s) (hro : vRow V R o) (hps : vPx V s) (hpo : vPx V o) (ht : t = 0 ∨ t = 1) {x : Int} (hx : 0 ≤ x ∧ x < 8) :
    ∃ z, f_X0_matches (lA (d 0)) (lA (d 1)) (lA (d 2)) (lA (d 3)) (lR R) (iI s) (iI o) (if iI t = 0 then iI x else f_X0_afterTurn (iI x)) = some (iI z) ∧ isF z (vLk V d s o t x) := by
  rcases ht with rfl | rfl
  · rw [if_pos (by decide +kernel : iI 0 = (0 : Int32))]
    obtain ⟨z, e1, e2⟩ := c_matches hs ho hrs hro hps hpo hx
    exact ⟨z, e1, isF_iff e2 vLk_0.symm⟩
  · rw [if_neg (by decide +kernel : ¬ iI 1 = (0 : Int32)), c_after hx]
    obtain ⟨z, e1, e2⟩ := c_matches hs ho hrs hro hps hpo (aft_r hx)
    exact ⟨z, e1, isF_iff e2 (vLk_1 hx).symm⟩
theorem c_findRecord {V : Int → Int} {R : Int → Int32} {d : Nat → Int → Int} {s o t r : Int} (hs : vSh V d s) (ho : vSh V d o) (hrs : vRow V R s) (hro : vRow V R o) (hps : vPx V s) (hpo : vPx V o) (ht : t = 0 ∨ t = 1) (hr : 0 ≤ r ∧ r < 8) (h1 : vLk V d s o t r) (h2 : ∀ q, 0 ≤ q → q < r → ¬ vLk V d s o t q) :
    f_X0_findRecord (lA (d 0)) (lA (d 1)) (lA (d 2)) (lA (d 3)) (lR R) (iI s) (iI o) (iI t) = some (iI r) := by
  unfold f_X0_findRecord
  obtain ⟨fu, hfu, hfu2⟩ := fuel_ex; rw [hfu]
  rw [il_0]
  refine lp (fun n x (u : Unit) => f_X0_findRecord_L3 (lA (d 0)) (lA (d 1)) (lA (d 2)) (lA (d 3)) (lR R) (iI s) (iI o) (iI t) n (iI x)) (fun q => q = some (iI r)) r (fun x u => 0 ≤ x) ?_ ?_ fu 0 () (by omega) (by omega) (by omega)
  · rintro n u -
    obtain ⟨z, e1, e2⟩ := c_recStep hs ho hrs hro hps hpo ht hr
    have hz : z = 1 := by
      rcases e2 with ⟨a, b⟩ | ⟨a, b⟩
      · exact a
      · exact absurd h1 b
    show f_X0_findRecord_L3 _ _ _ _ _ _ _ _ (n + 1) (iI r) = _
    rw [f_X0_findRecord_L3, if_neg (show ¬ (8 : Int32) ≤ iI r by rw [il_8, iI_le (by omega) (by omega) (by omega) (by omega)]; omega), bd_e, e1, opt_bind, hz, if_neg (by decide +kernel : ¬ iI 1 = (0 : Int32))]
  · rintro n x u hx x0 ih
    obtain ⟨z, e1, e2⟩ := c_recStep hs ho hrs hro hps hpo ht (x := x) (by omega)
    have hz : z = 0 := by
      rcases e2 with ⟨a, b⟩ | ⟨a, b⟩
      · exact absurd b (h2 x x0 hx)
      · exact a
    have ih := ih () (by omega)
    show f_X0_findRecord_L3 _ _ _ _ _ _ _ _ (n + 1) (iI x) = _
    rw [f_X0_findRecord_L3, if_neg (show ¬ (8 : Int32) ≤ iI x by rw [il_8, iI_le (by omega) (by omega) (by omega) (by omega)]; omega), bd_e, e1, opt_bind, hz, if_pos (by decide +kernel : iI 0 = (0 : Int32)), bd_e, il_1, iI_add]
    exact ih
theorem m_record {V : Int → Int} {c : Nat → Int → Int} {s o r : Int} (hs : vSh V c s) (ho : vSh V c o) (hps : vPx V s) (hpo : vPx V o) (ht : V (20 + 72 * o + 6) = 0 ∨ V (20 + 72 * o + 6) = 1) (hr : 0 ≤ r ∧ r < 8) (h1 : vLk V c s o (V (20 + 72 * o + 6)) r) (h2 : ∀ q, 0 ≤ q → q < r → ¬ vLk V c s o (V (20 + 72 * o + 6)) q) (bx by' : Int32) :
    ∃ b1 b2, f_X11_record bx by' (lA V) (lA (c 0)) (lA (c 1)) (lA (c 2)) (lA (c 3)) (iI s) (iI o) = some (iI r, b1, b2) := by
  have ho24 := ho.1
  unfold f_X11_record
  obtain ⟨fu, hfu, hfu2⟩ := fuel_ex; rw [hfu]
  rw [il_0]
  refine lp (fun n x (u : Int32 × Int32) => f_X11_record_L2 (lA V) (lA (c 0)) (lA (c 1)) (lA (c 2)) (lA (c 3)) (iI s) (iI o) n (iI x) u.1 u.2) (fun q => ∃ b1 b2, q = some (iI r, b1, b2)) r (fun x u => 0 ≤ x) ?_ ?_ fu 0 (bx, by') (by omega) (by omega) (by omega)
  · rintro n ⟨b1, b2⟩ -
    show ∃ b3 b4, f_X11_record_L2 _ _ _ _ _ _ _ (n + 1) (iI r) b1 b2 = _
    by_cases h7 : r = 7
    · rw [f_X11_record_L2, if_pos (show (7 : Int32) ≤ iI r by rw [il_7, iI_le (by omega) (by omega) (by omega) (by omega)]; omega)]
      exact ⟨_, _, rfl⟩
    · obtain ⟨z, b3, b4, e1, e2⟩ := m_isLike hs ho hps hpo ht hr b1 b2
      have hz : z = 1 := by
        rcases e2 with ⟨a, b⟩ | ⟨a, b⟩
        · exact a
        · exact absurd h1 b
      subst hz
      rw [f_X11_record_L2]
      refine ⟨b3, b4, ?_⟩
      simp (disch := omega) only [↓bd_e, ↓jn_e, ↓opt_bind, ↓reduceIte, iLeT, iLeF, iLtT, iLtF, iEqT, iEqF, il_0, il_1, il_2, il_3, il_4, il_5, il_6, il_7, il_8, il_9, il_10, il_11, il_12, il_13, il_14, il_15, il_16, il_18, il_20, il_24, il_32, il_35, il_40, il_44, il_47, il_48, il_56, il_57, il_58, il_59, il_63, il_64, il_72, il_100, il_120, il_126, il_127, il_160, il_192, il_255, il_349, il_1748, il_6992, iI_add, iI_sub, iI_mul, iI_neg, iI_le, iI_lt, iI_eq, rd_lA, wr_lA, rd_lR, wr_lR, ite_iI, max_iI, min_iI, rem_iI, div_iI, ite_true, ite_false, if_true, if_false, ite_self, and_self, and_true, true_and, and_false, false_and, or_self, or_true, true_or, or_false, false_or, not_true_eq_false, not_false_eq_true, f_X11_at, e1]
  · rintro n x ⟨b1, b2⟩ hx x0 ih
    obtain ⟨z, b3, b4, e1, e2⟩ := m_isLike hs ho hps hpo ht (q := x) (by omega) b1 b2
    have hz : z = 0 := by
      rcases e2 with ⟨a, b⟩ | ⟨a, b⟩
      · exact absurd b (h2 x x0 hx)
      · exact a
    subst hz
    have ih := ih (b3, b4) (by omega)
    show ∃ b3 b4, f_X11_record_L2 _ _ _ _ _ _ _ (n + 1) (iI x) b1 b2 = _
    rw [f_X11_record_L2]
    simp (disch := omega) only [↓bd_e, ↓jn_e, ↓opt_bind, ↓reduceIte, iLeT, iLeF, iLtT, iLtF, iEqT, iEqF, il_0, il_1, il_2, il_3, il_4, il_5, il_6, il_7, il_8, il_9, il_10, il_11, il_12, il_13, il_14, il_15, il_16, il_18, il_20, il_24, il_32, il_35, il_40, il_44, il_47, il_48, il_56, il_57, il_58, il_59, il_63, il_64, il_72, il_100, il_120, il_126, il_127, il_160, il_192, il_255, il_349, il_1748, il_6992, iI_add, iI_sub, iI_mul, iI_neg, iI_le, iI_lt, iI_eq, rd_lA, wr_lA, rd_lR, wr_lR, ite_iI, max_iI, min_iI, rem_iI, div_iI, ite_true, ite_false, if_true, if_false, ite_self, and_self, and_true, true_and, and_false, false_and, or_self, or_true, true_or, or_false, false_or, not_true_eq_false, not_false_eq_true, f_X11_at, e1]
    exact ih
