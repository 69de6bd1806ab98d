theorem cmp_I {x : Int64} : (lg_cmp x 0 = iI 0) = (x = 0) := by rw [← iI_0, cmp_0]
/-- the maximal rectangles that begin above row top, or there and are lower than high, or there, so high, and left of col -/
def sT (W H : Int) (B : Int → Int → Prop) (top high col z : Int) : Prop := ∃ x y w h, z = cd x y w h ∧ mxR W H B x y w h ∧ (y < top ∨ (y = top ∧ (h < high ∨ (h = high ∧ x < col))))
/-- the columns that are free in all rows from top to bottom -/
def opn (W : Int) (B : Int → Int → Prop) (top bottom : Int) (i : Nat) : Prop := (i : Int) < W ∧ ∀ y, top ≤ y → y ≤ bottom → ¬ B i y
theorem sT_r {W H : Int} {B : Int → Int → Prop} (hW : W ≤ 35) (hH : H ≤ 35) {top high col : Int} : ∀ q, sT W H B top high col q → 0 ≤ q ∧ q < 100000000 := by
  rintro q ⟨x, y, w, h, rfl, hm, -⟩
  have := mx_r hW hH hm
  unfold cd
  omega
theorem c_runs {W H : Int} {B : Int → Int → Prop} (hW : W ≤ 35) (hH : H ≤ 35) {p top bottom : Int} (hp : 0 ≤ p ∧ p < 4) (ht : 0 ≤ top ∧ top ≤ bottom ∧ bottom < H) (hcnt : ∀ n C S, En n C S → (∀ z, S z → rS (mxR W H B) z) → n ≤ 349)
    {o sa sb : Int64} (ho : ∀ i, i < 64 → (lb o i = true ↔ opn W B top bottom i)) (hsa : ∀ i : Nat, (i : Int) < W → (lb sa i = true ↔ top = 0 ∨ B i (top - 1))) (hsb : ∀ i : Nat, (i : Int) < W → (lb sb i = true ↔ bottom + 1 = H ∨ B i (bottom + 1)))
    {n : Int} {K N : Int → Int} (hn : N p = n) (hE : En n (fun k => K (p * 349 + k)) (sT W H B top (bottom - top + 1) 0)) :
    ∃ n' K', f_X7_collectRuns (lA K) (lA N) (iI p) (iI top) (iI (bottom - top + 1)) o sa sb = some (lA K', lA (uI N p n')) ∧ En n' (fun k => K' (p * 349 + k)) (sT W H B top (bottom - top + 1 + 1) 0) ∧ ∀ j, (j < p * 349 ∨ p * 349 + 349 ≤ j) → K' j = K j := by
  have hobig : ∀ i, 35 ≤ i → lb o i = false := fun i hi => by
    by_cases h : i < 64
    · cases e : lb o i with
      | false => rfl
      | true => have := ((ho i h).mp e).1; omega
    · exact lb_big (by omega)
  -- rectangles of these rows are runs
  have hrun : ∀ x w, mxR W H B x top w (bottom - top + 1) → ∀ a : Nat, (a : Int) = x → (∀ i : Nat, a ≤ i → (i : Int) < x + w → lb o i = true) ∧ lb o (x + w).toNat = false ∧ (a = 0 ∨ lb o (a - 1) = false) := by
    rintro x w hm a rfl
    have hr := hm.1
    refine ⟨fun i i0 i1 => (ho i (by omega)).mpr ⟨by omega, fun y y0 y1 => hm.2.1 i y (by omega) i1 y0 (by omega)⟩, ?_, ?_⟩
    · cases e : lb o ((a : Int) + w).toNat with
      | false => rfl
      | true =>
        exfalso
        have h1 := (ho _ (by omega)).mp e
        rcases hm.2.2.2.1 with h | ⟨y, y0, y1, y2⟩
        · have := h1.1; omega
        · have := h1.2 y y0 (by omega)
          rw [Int.toNat_of_nonneg (by omega)] at this
          exact this y2
    · by_cases ha : a = 0
      · exact Or.inl ha
      · right
        cases e : lb o (a - 1) with
        | false => rfl
        | true =>
          exfalso
          have h1 := (ho _ (by omega)).mp e
          rcases hm.2.2.1 with h | ⟨y, y0, y1, y2⟩
          · omega
          · have := h1.2 y y0 (by omega)
            rw [show ((a - 1 : Nat) : Int) = (a : Int) - 1 by omega] at this
            exact this y2
  unfold f_X7_collectRuns
  obtain ⟨fu, hfu, hfu2⟩ := fuel_ex; rw [hfu]
  simp (disch := omega) only [↓bd_e, ↓jn_e, ↓opt_bind, ↓reduceIte, iLeT, iLeF, iLtT, iLtF, iEqT, iEqF, il_0, il_1, il_2, il_3, il_4, il_5, il_6, il_7, il_8, il_9, il_10, il_11, il_12, il_13, il_14, il_15, il_16, il_18, il_20, il_24, il_32, il_35, il_40, il_44, il_47, il_48, il_56, il_57, il_58, il_59, il_63, il_64, il_72, il_100, il_120, il_126, il_127, il_160, il_192, il_255, il_349, il_1748, il_6992, iI_add, iI_sub, iI_mul, iI_neg, iI_le, iI_lt, iI_eq, rd_lA, wr_lA, rd_lR, wr_lR, ite_iI, max_iI, min_iI, rem_iI, div_iI, ite_true, ite_false, if_true, if_false, ite_self, and_self, and_true, true_and, and_false, false_and, or_self, or_true, true_or, or_false, false_or, not_true_eq_false, not_false_eq_true]
  refine lp (fun m i (t : Int64 × Nat × Int × (Int → Int) × (Int → Int)) => f_X7_collectRuns_L7 (iI p) (iI top) (iI (bottom - top + 1)) sa sb m t.1 (iI i) (lA t.2.2.2.1) (lA t.2.2.2.2)) (fun r => ∃ n' K', r = some (lA K', lA (uI N p n')) ∧ En n' (fun k => K' (p * 349 + k)) (sT W H B top (bottom - top + 1 + 1) 0) ∧ ∀ j, (j < p * 349 ∨ p * 349 + 349 ≤ j) → K' j = K j) 35
    (fun i t => 0 ≤ i ∧ 2 * i ≤ (t.2.1 : Int) ∧ (∀ j, j < 64 → lb t.1 j = (decide (t.2.1 ≤ j) && lb o j)) ∧ (t.2.1 = 0 ∨ lb o (t.2.1 - 1) = false) ∧ t.2.2.2.2 = uI N p t.2.2.1 ∧ En t.2.2.1 (fun k => t.2.2.2.1 (p * 349 + k)) (sT W H B top (bottom - top + 1) t.2.1) ∧ ∀ j, (j < p * 349 ∨ p * 349 + 349 ≤ j) → t.2.2.2.1 j = K j) ?_ ?_ fu 0 (o, 0, n, K, N) (by omega) (by omega) ⟨by omega, by dsimp only; omega, fun j _ => by simp, Or.inl rfl, ?_, hE, fun j _ => rfl⟩
  · rintro m ⟨r, c, n, A, M⟩ ⟨-, h1, h2, h3, h4, h5, h6⟩
    dsimp only at h1 h2 h3 h4 h5 h6 ⊢
    subst h4
    unfold f_X7_collectRuns_L7
    simp (disch := omega) only [↓bd_e, ↓jn_e, ↓opt_bind, ↓reduceIte, iLeT, iLeF, iLtT, iLtF, iEqT, iEqF, il_0, il_1, il_2, il_3, il_4, il_5, il_6, il_7, il_8, il_9, il_10, il_11, il_12, il_13, il_14, il_15, il_16, il_18, il_20, il_24, il_32, il_35, il_40, il_44, il_47, il_48, il_56, il_57, il_58, il_59, il_63, il_64, il_72, il_100, il_120, il_126, il_127, il_160, il_192, il_255, il_349, il_1748, il_6992, iI_add, iI_sub, iI_mul, iI_neg, iI_le, iI_lt, iI_eq, rd_lA, wr_lA, rd_lR, wr_lR, ite_iI, max_iI, min_iI, rem_iI, div_iI, ite_true, ite_false, if_true, if_false, ite_self, and_self, and_true, true_and, and_false, false_and, or_self, or_true, true_or, or_false, false_or, not_true_eq_false, not_false_eq_true]
    refine ⟨n, A, rfl, En_iff h5 (fun z => ⟨?_, ?_⟩), h6⟩
    · rintro ⟨x, y, w, h, e, hm, q⟩
      exact ⟨x, y, w, h, e, hm, by omega⟩
    · rintro ⟨x, y, w, h, e, hm, q⟩
      have := hm.1
      exact ⟨x, y, w, h, e, hm, by omega⟩
  · rintro m i ⟨r, c, n, A, M⟩ hi ⟨hi0, h1, h2, h3, h4, h5, h6⟩ ih
    dsimp only at h1 h2 h3 h4 h5 h6 ih ⊢
    subst h4
    unfold f_X7_collectRuns_L7
    by_cases hr0 : r = 0
    · subst hr0
      simp (disch := omega) only [↓bd_e, ↓jn_e, ↓opt_bind, ↓reduceIte, iLeT, iLeF, iLtT, iLtF, iEqT, iEqF, il_0, il_1, il_2, il_3, il_4, il_5, il_6, il_7, il_8, il_9, il_10, il_11, il_12, il_13, il_14, il_15, il_16, il_18, il_20, il_24, il_32, il_35, il_40, il_44, il_47, il_48, il_56, il_57, il_58, il_59, il_63, il_64, il_72, il_100, il_120, il_126, il_127, il_160, il_192, il_255, il_349, il_1748, il_6992, iI_add, iI_sub, iI_mul, iI_neg, iI_le, iI_lt, iI_eq, rd_lA, wr_lA, rd_lR, wr_lR, ite_iI, max_iI, min_iI, rem_iI, div_iI, ite_true, ite_false, if_true, if_false, ite_self, and_self, and_true, true_and, and_false, false_and, or_self, or_true, true_or, or_false, false_or, not_true_eq_false, not_false_eq_true, cmp_I]
      refine ⟨n, A, rfl, En_iff h5 (fun z => ⟨?_, ?_⟩), h6⟩
      · rintro ⟨x, y, w, h, e, hm, q⟩
        exact ⟨x, y, w, h, e, hm, by omega⟩
      · rintro ⟨x, y, w, h, e, hm, q⟩
        have hm1 := hm.1
        refine ⟨x, y, w, h, e, hm, ?_⟩
        by_cases e2 : y = top ∧ h = bottom - top + 1
        · obtain ⟨rfl, rfl⟩ := e2
          have := (hrun x w hm x.toNat (by omega)).1 x.toNat (Nat.le_refl _) (by omega)
          have h7 := h2 x.toNat (by omega)
          rw [lb_0, this, Bool.and_true] at h7
          have := of_decide_eq_false h7.symm
          omega
        · omega
    · have hrbig : ∀ j, 35 ≤ j → lb r j = false := fun j hj => by
        by_cases h : j < 64
        · rw [h2 j h, hobig j hj, Bool.and_false]
        · exact lb_big (by omega)
      obtain ⟨a, l, al, l0, b0, b1, b2⟩ := run_ex hrbig hr0
      obtain ⟨e1, e2⟩ := run_low al l0 hrbig b0 b1 b2
      have hca : c ≤ a := by
        have h7 := h2 a (by omega)
        rw [b1 a (Nat.le_refl _) (by omega)] at h7
        apply Classical.byContradiction
        intro hn
        rw [decide_eq_false (by omega), Bool.false_and] at h7
        cases h7
      have hro : ∀ j, c ≤ j → j < 64 → lb r j = lb o j := fun j j0 j1 => by rw [h2 j j1, decide_eq_true j0, Bool.true_and]
      have o1 : ∀ j, a ≤ j → j < a + l → lb o j = true := fun j j0 j1 => by rw [← hro j (by omega) (by omega)]; exact b1 j j0 j1
      have o2 : lb o (a + l) = false := by rw [← hro _ (by omega) (by omega)]; exact b2
      have oW : ((a + l : Nat) : Int) ≤ W := by
        have := ((ho (a + l - 1) (by omega)).mp (o1 _ (by omega) (by omega))).1
        omega
      have hrest : ∀ j, j < 64 → lb (r &&& (onesL a l ^^^ -1)) j = (decide (a + l + 1 ≤ j) && lb o j) := by
        intro j hj
        rw [lb_and, lb_not _ hj, lb_run al hj, h2 j hj]
        by_cases c1 : a + l + 1 ≤ j
        · rw [decide_eq_true c1, decide_eq_true (show c ≤ j by omega), decide_eq_false (show ¬ (a ≤ j ∧ j < a + l) by omega)]
          cases lb o j <;> rfl
        · rw [decide_eq_false c1]
          by_cases c2 : a ≤ j ∧ j < a + l
          · rw [decide_eq_true c2]
            cases lb o j <;> cases decide (c ≤ j) <;> rfl
          · rw [decide_eq_false c2]
            by_cases c3 : j = a + l
            · rw [c3, o2]
              cases decide (c ≤ a + l) <;> rfl
            · have h7 := b0 j (by omega)
              rw [h2 j hj] at h7
              rw [h7]
              rfl
      -- the only rectangle between c and here
      have honly : ∀ x w, mxR W H B x top w (bottom - top + 1) → (c : Int) ≤ x → x < ((a + l + 1 : Nat) : Int) → x = a ∧ w = l := by
        intro x w hm x0 x1
        have hm1 := hm.1
        obtain ⟨q1, q2, q3⟩ := hrun x w hm x.toNat (by omega)
        have q4 := q1 x.toNat (Nat.le_refl _) (by omega)
        have xa : ¬ x.toNat < a := fun hl => by
          have := b0 x.toNat hl
          rw [hro _ (by omega) (by omega), q4] at this
          cases this
        have xb : ¬ a < x.toNat := fun hl => by
          rcases q3 with q3 | q3
          · omega
          · by_cases e : x.toNat = a + l
            · rw [e, o2] at q4
              cases q4
            · rw [o1 (x.toNat - 1) (by omega) (by omega)] at q3
              cases q3
        have hx : x = a := by omega
        refine ⟨hx, ?_⟩
        subst hx
        have w1 : ¬ w < l := fun hl => by
          rw [o1 _ (by omega) (by omega)] at q2
          cases q2
        have w2 : ¬ (l : Int) < w := fun hl => by
          have := q1 (a + l) (by omega) (by omega)
          rw [o2] at this
          cases this
        omega
      have hmx : (top = 0 ∨ ∃ j : Nat, a ≤ j ∧ j < a + l ∧ B j (top - 1)) → (bottom + 1 = H ∨ ∃ j : Nat, a ≤ j ∧ j < a + l ∧ B j (bottom + 1)) → mxR W H B a top l (bottom - top + 1) := by
        intro s1 s2
        refine ⟨by omega, fun x y x0 x1 y0 y1 => ?_, ?_, ?_, ?_, ?_⟩
        · have := ((ho x.toNat (by omega)).mp (o1 x.toNat (by omega) (by omega))).2 y y0 (by omega)
          rwa [Int.toNat_of_nonneg (by omega)] at this
        · by_cases e : a = 0
          · exact Or.inl (by omega)
          · right
            have h7 : lb o (a - 1) = false := by
              by_cases e2 : c ≤ a - 1
              · rw [← hro _ e2 (by omega)]
                exact b0 _ (by omega)
              · rcases h3 with h3 | h3
                · omega
                · rw [show a - 1 = c - 1 by omega]
                  exact h3
            apply Classical.byContradiction
            intro hne
            have := (ho (a - 1) (by omega)).mpr ⟨by omega, fun y y0 y1 hb => hne ⟨y, y0, by omega, by rw [show (a : Int) - 1 = ((a - 1 : Nat) : Int) by omega]; exact hb⟩⟩
            rw [h7] at this
            cases this
        · by_cases e : (a : Int) + l = W
          · exact Or.inl e
          · right
            apply Classical.byContradiction
            intro hne
            have := (ho (a + l) (by omega)).mpr ⟨by omega, fun y y0 y1 hb => hne ⟨y, y0, by omega, by rw [show (a : Int) + l = ((a + l : Nat) : Int) by omega]; exact hb⟩⟩
            rw [o2] at this
            cases this
        · exact s1.imp id (fun ⟨j, j0, j1, j2⟩ => ⟨j, by omega, by omega, j2⟩)
        · rw [show top + (bottom - top + 1) = bottom + 1 by omega]
          exact s2.imp id (fun ⟨j, j0, j1, j2⟩ => ⟨j, by omega, by omega, j2⟩)
      have hza : (onesL a l &&& sa = 0) = ¬ (top = 0 ∨ ∃ j : Nat, a ≤ j ∧ j < a + l ∧ B j (top - 1)) := by
        apply propext
        rw [lb_zero]
        constructor
        · rintro h (e | ⟨j, j0, j1, j2⟩)
          · have := h a (by omega)
            rw [lb_and, lb_run al (by omega), (hsa a (by omega)).mpr (Or.inl e), decide_eq_true (by omega)] at this
            cases this
          · have := h j (by omega)
            rw [lb_and, lb_run al (by omega), (hsa j (by omega)).mpr (Or.inr j2), decide_eq_true (by omega)] at this
            cases this
        · intro h j hj
          rw [lb_and, lb_run al hj]
          by_cases e : a ≤ j ∧ j < a + l
          · cases e2 : lb sa j with
            | false => rw [Bool.and_false]
            | true =>
              exfalso
              apply h
              exact ((hsa j (by omega)).mp e2).imp id (fun hb => ⟨j, e.1, e.2, hb⟩)
          · rw [decide_eq_false e, Bool.false_and]
      have hzb : (onesL a l &&& sb = 0) = ¬ (bottom + 1 = H ∨ ∃ j : Nat, a ≤ j ∧ j < a + l ∧ B j (bottom + 1)) := by
        apply propext
        rw [lb_zero]
        constructor
        · rintro h (e | ⟨j, j0, j1, j2⟩)
          · have := h a (by omega)
            rw [lb_and, lb_run al (by omega), (hsb a (by omega)).mpr (Or.inl e), decide_eq_true (by omega)] at this
            cases this
          · have := h j (by omega)
            rw [lb_and, lb_run al (by omega), (hsb j (by omega)).mpr (Or.inr j2), decide_eq_true (by omega)] at this
            cases this
        · intro h j hj
          rw [lb_and, lb_run al hj]
          by_cases e : a ≤ j ∧ j < a + l
          · cases e2 : lb sb j with
            | false => rw [Bool.and_false]
            | true =>
              exfalso
              apply h
              exact ((hsb j (by omega)).mp e2).imp id (fun hb => ⟨j, e.1, e.2, hb⟩)
          · rw [decide_eq_false e, Bool.false_and]
      have mx_stop : ∀ {w}, mxR W H B a top w (bottom - top + 1) → w = l → (top = 0 ∨ ∃ j : Nat, a ≤ j ∧ j < a + l ∧ B j (top - 1)) ∧ (bottom + 1 = H ∨ ∃ j : Nat, a ≤ j ∧ j < a + l ∧ B j (bottom + 1)) := by
        rintro w hm rfl
        refine ⟨hm.2.2.2.2.1.imp id (fun ⟨x, x0, x1, x2⟩ => ⟨x.toNat, by omega, by omega, by rw [Int.toNat_of_nonneg (by omega)]; exact x2⟩), ?_⟩
        have := hm.2.2.2.2.2
        rw [show top + (bottom - top + 1) = bottom + 1 by omega] at this
        exact this.imp id (fun ⟨x, x0, x1, x2⟩ => ⟨x.toNat, by omega, by omega, by rw [Int.toNat_of_nonneg (by omega)]; exact x2⟩)
      have hskip : ¬ ((top = 0 ∨ ∃ j : Nat, a ≤ j ∧ j < a + l ∧ B j (top - 1)) ∧ (bottom + 1 = H ∨ ∃ j : Nat, a ≤ j ∧ j < a + l ∧ B j (bottom + 1))) → En n (fun k => A (p * 349 + k)) (sT W H B top (bottom - top + 1) ((a + l + 1 : Nat) : Int)) := by
        intro hn
        refine En_iff h5 (fun z => ⟨?_, ?_⟩)
        · rintro ⟨x, y, w, h, e, hm, q⟩
          exact ⟨x, y, w, h, e, hm, by omega⟩
        · rintro ⟨x, y, w, h, e, hm, q⟩
          refine ⟨x, y, w, h, e, hm, ?_⟩
          by_cases e2 : y = top ∧ h = bottom - top + 1 ∧ (c : Int) ≤ x ∧ x < ((a + l + 1 : Nat) : Int)
          · obtain ⟨rfl, rfl, e3, e4⟩ := e2
            obtain ⟨rfl, e5⟩ := honly x w hm e3 e4
            exact absurd (mx_stop hm e5) hn
          · omega
      have hgo : ∀ n' A', En n' (fun k => A' (p * 349 + k)) (sT W H B top (bottom - top + 1) ((a + l + 1 : Nat) : Int)) → (∀ j, (j < p * 349 ∨ p * 349 + 349 ≤ j) → A' j = K j) → ∃ n'_1 K', f_X7_collectRuns_L7 (iI p) (iI top) (iI (bottom - top + 1)) sa sb m (r &&& (onesL a l ^^^ -1)) (iI (i + 1)) (lA A') (lA (uI N p n')) = some (lA K', lA (uI N p n'_1)) ∧ En n'_1 (fun k => K' (p * 349 + k)) (sT W H B top (bottom - top + 1 + 1) 0) ∧ ∀ j, (j < p * 349 ∨ p * 349 + 349 ≤ j) → K' j = K j :=
        fun n' A' q1 q2 => ih (r &&& (onesL a l ^^^ -1), a + l + 1, n', A', uI N p n') ⟨by omega, by dsimp only; omega, hrest, Or.inr o2, rfl, q1, q2⟩
      by_cases s1 : top = 0 ∨ ∃ j : Nat, a ≤ j ∧ j < a + l ∧ B j (top - 1)
      · by_cases s2 : bottom + 1 = H ∨ ∃ j : Nat, a ≤ j ∧ j < a + l ∧ B j (bottom + 1)
        · have hmm := hmx s1 s2
          have hnz : ¬ sT W H B top (bottom - top + 1) c (cd a top l (bottom - top + 1)) := by
            rintro ⟨x, y, w, h, e, hm, q⟩
            have hr' := mx_r hW hH hm
            have := cd_inj (by omega) (by omega) (by omega) (by omega) (by omega) (by omega) e
            omega
          obtain ⟨C', hC'⟩ := En_more h5 hnz
          have hc9 := hcnt _ _ _ hC' (by
            rintro z (⟨x, y, w, h, e, hm, -⟩ | rfl)
            · exact ⟨x, y, w, h, e, hm⟩
            · exact ⟨_, _, _, _, rfl, hmm⟩)
          obtain ⟨K', k1, k2, k3⟩ := c_addSorted (p := p) (z := cd a top l (bottom - top + 1)) (n := n) (K := A) (N := uI N p n) hp (uI_self _ _ _) h5 hnz (by omega) (by unfold cd; omega) (sT_r hW hH)
          rw [uI_twice] at k1
          have ec := code_iI (x := a) (y := top) (w := l) (h := bottom - top + 1) (by omega) (by omega) (by omega) (by omega)
          rw [iI_nI a, iI_nI l] at ec
          have s1' : ¬ onesL a l &&& sa = 0 := by rw [hza]; exact fun h => h s1
          have s2' : ¬ onesL a l &&& sb = 0 := by rw [hzb]; exact fun h => h s2
          have g := hgo (n + 1) K' (En_iff k2 (fun z => ⟨?_, ?_⟩)) (fun j hj => by rw [k3 j hj]; exact h6 j hj)
          · simp (disch := omega) only [↓bd_e, ↓jn_e, ↓opt_bind, ↓reduceIte, iLeT, iLeF, iLtT, iLtF, iEqT, iEqF, il_0, il_1, il_2, il_3, il_4, il_5, il_6, il_7, il_8, il_9, il_10, il_11, il_12, il_13, il_14, il_15, il_16, il_18, il_20, il_24, il_32, il_35, il_40, il_44, il_47, il_48, il_56, il_57, il_58, il_59, il_63, il_64, il_72, il_100, il_120, il_126, il_127, il_160, il_192, il_255, il_349, il_1748, il_6992, iI_add, iI_sub, iI_mul, iI_neg, iI_le, iI_lt, iI_eq, rd_lA, wr_lA, rd_lR, wr_lR, ite_iI, max_iI, min_iI, rem_iI, div_iI, ite_true, ite_false, if_true, if_false, ite_self, and_self, and_true, true_and, and_false, false_and, or_self, or_true, true_or, or_false, false_or, not_true_eq_false, not_false_eq_true, cmp_I, hr0, e1, e2, s1', s2', cnt_low a (by omega), cnt_run a (by omega) l (by omega) al, ec, k1]
            exact g
          · rintro (⟨x, y, w, h, e, hm, q⟩ | rfl)
            · exact ⟨x, y, w, h, e, hm, by omega⟩
            · exact ⟨_, _, _, _, rfl, hmm, by omega⟩
          · rintro ⟨x, y, w, h, e, hm, q⟩
            by_cases e2 : y = top ∧ h = bottom - top + 1 ∧ (c : Int) ≤ x ∧ x < ((a + l + 1 : Nat) : Int)
            · obtain ⟨rfl, rfl, e3, e4⟩ := e2
              obtain ⟨rfl, rfl⟩ := honly x w hm e3 e4
              exact Or.inr e
            · exact Or.inl ⟨x, y, w, h, e, hm, by omega⟩
        · have g := hgo n A (hskip (fun h => s2 h.2)) h6
          have s1' : ¬ onesL a l &&& sa = 0 := by rw [hza]; exact fun h => h s1
          have s2' : onesL a l &&& sb = 0 := by rw [hzb]; exact s2
          simp (disch := omega) only [↓bd_e, ↓jn_e, ↓opt_bind, ↓reduceIte, iLeT, iLeF, iLtT, iLtF, iEqT, iEqF, il_0, il_1, il_2, il_3, il_4, il_5, il_6, il_7, il_8, il_9, il_10, il_11, il_12, il_13, il_14, il_15, il_16, il_18, il_20, il_24, il_32, il_35, il_40, il_44, il_47, il_48, il_56, il_57, il_58, il_59, il_63, il_64, il_72, il_100, il_120, il_126, il_127, il_160, il_192, il_255, il_349, il_1748, il_6992, iI_add, iI_sub, iI_mul, iI_neg, iI_le, iI_lt, iI_eq, rd_lA, wr_lA, rd_lR, wr_lR, ite_iI, max_iI, min_iI, rem_iI, div_iI, ite_true, ite_false, if_true, if_false, ite_self, and_self, and_true, true_and, and_false, false_and, or_self, or_true, true_or, or_false, false_or, not_true_eq_false, not_false_eq_true, cmp_I, hr0, e1, e2, s1', s2']
          exact g
      · have g := hgo n A (hskip (fun h => s1 h.1)) h6
        have s1' : onesL a l &&& sa = 0 := by rw [hza]; exact s1
        simp (disch := omega) only [↓bd_e, ↓jn_e, ↓opt_bind, ↓reduceIte, iLeT, iLeF, iLtT, iLtF, iEqT, iEqF, il_0, il_1, il_2, il_3, il_4, il_5, il_6, il_7, il_8, il_9, il_10, il_11, il_12, il_13, il_14, il_15, il_16, il_18, il_20, il_24, il_32, il_35, il_40, il_44, il_47, il_48, il_56, il_57, il_58, il_59, il_63, il_64, il_72, il_100, il_120, il_126, il_127, il_160, il_192, il_255, il_349, il_1748, il_6992, iI_add, iI_sub, iI_mul, iI_neg, iI_le, iI_lt, iI_eq, rd_lA, wr_lA, rd_lR, wr_lR, ite_iI, max_iI, min_iI, rem_iI, div_iI, ite_true, ite_false, if_true, if_false, ite_self, and_self, and_true, true_and, and_false, false_and, or_self, or_true, true_or, or_false, false_or, not_true_eq_false, not_false_eq_true, cmp_I, hr0, e1, e2, s1']
        exact g
  · funext j
    unfold uI
    split
    · rename_i e
      subst e
      exact hn
    · rfl
