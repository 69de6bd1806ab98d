/-- what the rows of the class's space say -/
def rowsI (W H : Int) (B : Int → Int → Prop) (F : Nat → Int64) : Prop := ∀ (y i : Nat), (y : Int) < H → i < 64 → (lb (F y) i = true ↔ (i : Int) < W ∧ ¬ B i y)
theorem c_collect {W H : Int} {B : Int → Int → Prop} (hW : W ≤ 35) (hH : H ≤ 35) {p : Int} (hp : 0 ≤ p ∧ p < 4) (hcnt : ∀ n C S, En n C S → (∀ z, S z → rS (mxR W H B) z) → n ≤ 349) {F : Nat → Int64} (hF : rowsI W H B F) (K N : Int → Int) :
    ∃ n' K', f_X7_collect (iI (max H 0)) F (lA K) (lA N) (iI p) = some (lA K', lA (uI N p n')) ∧ En n' (fun k => K' (p * 349 + k)) (rS (mxR W H B)) ∧ ∀ j, (j < p * 349 ∨ p * 349 + 349 ≤ j) → K' j = K j := by
  unfold f_X7_collect
  obtain ⟨fu, hfu, hfu2⟩ := fuel_ex; rw [hfu]
  simp (disch := omega) only [↓bd_e, ↓jn_e, ↓opt_bind, ↓reduceIte, iLeT, iLeF, iLtT, iLtF, iEqT, iEqF, il_0, il_1, il_2, il_3, il_4, il_5, il_6, il_7, il_8, il_9, il_10, il_11, il_12, il_13, il_14, il_15, il_16, il_18, il_20, il_24, il_32, il_35, il_40, il_44, il_47, il_48, il_56, il_57, il_58, il_59, il_63, il_64, il_72, il_100, il_120, il_126, il_127, il_160, il_192, il_255, il_349, il_1748, il_6992, iI_add, iI_sub, iI_mul, iI_neg, iI_le, iI_lt, iI_eq, rd_lA, wr_lA, rd_lR, wr_lR, ite_iI, max_iI, min_iI, rem_iI, div_iI, ite_true, ite_false, if_true, if_false, ite_self, and_self, and_true, true_and, and_false, false_and, or_self, or_true, true_or, or_false, false_or, not_true_eq_false, not_false_eq_true]
  refine lp (fun m y (t : Int × (Int → Int)) => f_X7_collect_L9 (iI (max H 0)) F (iI p) m (iI y) (lA t.2) (lA (uI N p t.1))) (fun r => ∃ n' K', r = some (lA K', lA (uI N p n')) ∧ En n' (fun k => K' (p * 349 + k)) (rS (mxR W H B)) ∧ ∀ j, (j < p * 349 ∨ p * 349 + 349 ≤ j) → K' j = K j) (max H 0)
    (fun y t => 0 ≤ y ∧ En t.1 (fun k => t.2 (p * 349 + k)) (sT W H B y 0 0) ∧ ∀ j, (j < p * 349 ∨ p * 349 + 349 ≤ j) → t.2 j = K j) ?_ ?_ fu 0 (0, K) (by omega) (by omega) ⟨by omega, En_0 ?_, fun j _ => rfl⟩
  · rintro m ⟨n, A⟩ ⟨-, h1, h2⟩
    dsimp only at h1 h2 ⊢
    unfold f_X7_collect_L9
    simp (disch := omega) only [↓bd_e, ↓jn_e, ↓opt_bind, ↓reduceIte, iLeT, iLeF, iLtT, iLtF, iEqT, iEqF, il_0, il_1, il_2, il_3, il_4, il_5, il_6, il_7, il_8, il_9, il_10, il_11, il_12, il_13, il_14, il_15, il_16, il_18, il_20, il_24, il_32, il_35, il_40, il_44, il_47, il_48, il_56, il_57, il_58, il_59, il_63, il_64, il_72, il_100, il_120, il_126, il_127, il_160, il_192, il_255, il_349, il_1748, il_6992, iI_add, iI_sub, iI_mul, iI_neg, iI_le, iI_lt, iI_eq, rd_lA, wr_lA, rd_lR, wr_lR, ite_iI, max_iI, min_iI, rem_iI, div_iI, ite_true, ite_false, if_true, if_false, ite_self, and_self, and_true, true_and, and_false, false_and, or_self, or_true, true_or, or_false, false_or, not_true_eq_false, not_false_eq_true]
    refine ⟨n, A, rfl, En_iff h1 (fun z => ⟨?_, ?_⟩), h2⟩
    · rintro ⟨x, y, w, h, e, hm, -⟩
      exact ⟨x, y, w, h, e, hm⟩
    · rintro ⟨x, y, w, h, e, hm⟩
      have := hm.1
      exact ⟨x, y, w, h, e, hm, by omega⟩
  · rintro m top ⟨n, A⟩ ht ⟨ht0, h1, h2⟩ ih
    dsimp only at h1 h2 ih ⊢
    have htH : top < H := by omega
    -- the row above
    have key : ∀ y5 : Int64, (∀ i : Nat, (i : Int) < W → (lb (y5 ^^^ -1) i = true ↔ top = 0 ∨ B i (top - 1))) → ∃ n' K', f_X7_collect_L45 (iI (max H 0)) F (iI p) (iI top) y5 (fun f8 f9 => f_X7_collect_L9 (iI (max H 0)) F (iI p) m (iI (top + 1)) f8 f9) fu (F top.toNat) (iI top) (lA A) (lA (uI N p n)) = some (lA K', lA (uI N p n')) ∧ En n' (fun k => K' (p * 349 + k)) (rS (mxR W H B)) ∧ ∀ j, (j < p * 349 ∨ p * 349 + 349 ≤ j) → K' j = K j := by
      intro y5 hy5
      refine lp (fun m' b (t : Int64 × Int × (Int → Int)) => f_X7_collect_L45 (iI (max H 0)) F (iI p) (iI top) y5 _ m' t.1 (iI b) (lA t.2.2) (lA (uI N p t.2.1))) (fun r => ∃ n' K', r = some (lA K', lA (uI N p n')) ∧ En n' (fun k => K' (p * 349 + k)) (rS (mxR W H B)) ∧ ∀ j, (j < p * 349 ∨ p * 349 + 349 ≤ j) → K' j = K j) (max H 0)
        (fun b t => top ≤ b ∧ (b < H → ∀ i, i < 64 → (lb t.1 i = true ↔ opn W B top b i)) ∧ En t.2.1 (fun k => t.2.2 (p * 349 + k)) (sT W H B top (b - top + 1) 0) ∧ ∀ j, (j < p * 349 ∨ p * 349 + 349 ≤ j) → t.2.2 j = K j) ?_ ?_ fu top (F top.toNat, n, A) (by omega) (by omega) ⟨by omega, fun _ i hi => ?_, En_iff h1 (fun z => ⟨?_, ?_⟩), h2⟩
      · rintro m' ⟨o, n, A⟩ ⟨-, -, q2, q3⟩
        dsimp only at q2 q3 ⊢
        unfold f_X7_collect_L45
        simp (disch := omega) only [↓bd_e, ↓jn_e, ↓opt_bind, ↓reduceIte, iLeT, iLeF, iLtT, iLtF, iEqT, iEqF, il_0, il_1, il_2, il_3, il_4, il_5, il_6, il_7, il_8, il_9, il_10, il_11, il_12, il_13, il_14, il_15, il_16, il_18, il_20, il_24, il_32, il_35, il_40, il_44, il_47, il_48, il_56, il_57, il_58, il_59, il_63, il_64, il_72, il_100, il_120, il_126, il_127, il_160, il_192, il_255, il_349, il_1748, il_6992, iI_add, iI_sub, iI_mul, iI_neg, iI_le, iI_lt, iI_eq, rd_lA, wr_lA, rd_lR, wr_lR, ite_iI, max_iI, min_iI, rem_iI, div_iI, ite_true, ite_false, if_true, if_false, ite_self, and_self, and_true, true_and, and_false, false_and, or_self, or_true, true_or, or_false, false_or, not_true_eq_false, not_false_eq_true]
        refine ih (n, A) ⟨by omega, En_iff q2 (fun z => ⟨?_, ?_⟩), q3⟩
        · rintro ⟨x, y, w, h, e, hm, q⟩
          have := hm.1
          exact ⟨x, y, w, h, e, hm, by omega⟩
        · rintro ⟨x, y, w, h, e, hm, q⟩
          have := hm.1
          exact ⟨x, y, w, h, e, hm, by omega⟩
      · rintro m' b ⟨o, n, A⟩ hb ⟨hb0, q1, q2, q3⟩ ih2
        dsimp only at q1 q2 q3 ih2 ⊢
        have hbH : b < H := by omega
        have q1 := q1 hbH
        unfold f_X7_collect_L45
        by_cases c1 : o &&& (y5 ^^^ -1) = 0
        · simp (disch := omega) only [↓bd_e, ↓jn_e, ↓opt_bind, ↓reduceIte, iLeT, iLeF, iLtT, iLtF, iEqT, iEqF, il_0, il_1, il_2, il_3, il_4, il_5, il_6, il_7, il_8, il_9, il_10, il_11, il_12, il_13, il_14, il_15, il_16, il_18, il_20, il_24, il_32, il_35, il_40, il_44, il_47, il_48, il_56, il_57, il_58, il_59, il_63, il_64, il_72, il_100, il_120, il_126, il_127, il_160, il_192, il_255, il_349, il_1748, il_6992, iI_add, iI_sub, iI_mul, iI_neg, iI_le, iI_lt, iI_eq, rd_lA, wr_lA, rd_lR, wr_lR, ite_iI, max_iI, min_iI, rem_iI, div_iI, ite_true, ite_false, if_true, if_false, ite_self, and_self, and_true, true_and, and_false, false_and, or_self, or_true, true_or, or_false, false_or, not_true_eq_false, not_false_eq_true, cmp_I, c1]
          refine ih (n, A) ⟨by omega, En_iff q2 (fun z => ⟨?_, ?_⟩), q3⟩
          · rintro ⟨x, y, w, h, e, hm, q⟩
            exact ⟨x, y, w, h, e, hm, by omega⟩
          · rintro ⟨x, y, w, h, e, hm, q⟩
            have hm1 := hm.1
            refine ⟨x, y, w, h, e, hm, ?_⟩
            by_cases e2 : y = top ∧ b - top + 1 ≤ h
            · exfalso
              obtain ⟨rfl, e2⟩ := e2
              have hz := lb_zero.mp c1
              have hin : ∀ a : Int, x ≤ a → a < x + w → lb o a.toNat = true := fun a a0 a1 => (q1 _ (by omega)).mpr ⟨by omega, fun y' y0 y1 => by
                rw [Int.toNat_of_nonneg (by omega)]
                exact hm.2.1 a y' a0 a1 y0 (by omega)⟩
              have hcol : ∃ a : Int, x ≤ a ∧ a < x + w ∧ (y = 0 ∨ B a (y - 1)) := by
                rcases hm.2.2.2.2.1 with e3 | ⟨a, a0, a1, a2⟩
                · exact ⟨x, by omega, by omega, Or.inl e3⟩
                · exact ⟨a, a0, a1, Or.inr a2⟩
              obtain ⟨a, a0, a1, a2⟩ := hcol
              have h3 := hz a.toNat (by omega)
              rw [lb_and, hin a a0 a1, (hy5 a.toNat (by omega)).mpr (by rw [Int.toNat_of_nonneg (by omega)]; exact a2)] at h3
              cases h3
            · omega
        · -- the row below
          have key2 : ∀ y16 : Int64, (∀ i : Nat, (i : Int) < W → (lb (y16 ^^^ -1) i = true ↔ b + 1 = H ∨ B i (b + 1))) → (b + 1 < H → ∀ i, i < 64 → (lb (o &&& y16) i = true ↔ opn W B top (b + 1) i)) → ∃ n' K', (if lg_cmp (o &&& (y16 ^^^ -1)) 0 = iI 0 then f_X7_collect_L45 (iI (max H 0)) F (iI p) (iI top) y5 (fun f8 f9 => f_X7_collect_L9 (iI (max H 0)) F (iI p) m (iI (top + 1)) f8 f9) m' (o &&& y16) (iI (b + 1)) (lA A) (lA (uI N p n)) else (f_X7_collectRuns (lA A) (lA (uI N p n)) (iI p) (iI top) (iI (b - top + 1)) o (y5 ^^^ -1) (y16 ^^^ -1)).bind fun r23 => f_X7_collect_L45 (iI (max H 0)) F (iI p) (iI top) y5 (fun f8 f9 => f_X7_collect_L9 (iI (max H 0)) F (iI p) m (iI (top + 1)) f8 f9) m' (o &&& y16) (iI (b + 1)) r23.1 r23.2) = some (lA K', lA (uI N p n')) ∧ En n' (fun k => K' (p * 349 + k)) (rS (mxR W H B)) ∧ ∀ j, (j < p * 349 ∨ p * 349 + 349 ≤ j) → K' j = K j := by
            intro y16 hy hnext
            by_cases c2 : o &&& (y16 ^^^ -1) = 0
            · rw [if_pos (by rw [cmp_I]; exact c2)]
              refine ih2 (o &&& y16, n, A) ⟨by omega, hnext, En_iff q2 (fun z => ⟨?_, ?_⟩), q3⟩
              · rintro ⟨x, y, w, h, e, hm, q⟩
                have := hm.1
                exact ⟨x, y, w, h, e, hm, by omega⟩
              · rintro ⟨x, y, w, h, e, hm, q⟩
                have hm1 := hm.1
                refine ⟨x, y, w, h, e, hm, ?_⟩
                by_cases e2 : y = top ∧ h = b - top + 1
                · exfalso
                  obtain ⟨rfl, rfl⟩ := e2
                  have hz := lb_zero.mp c2
                  have hin : ∀ a : Int, x ≤ a → a < x + w → lb o a.toNat = true := fun a a0 a1 => (q1 _ (by omega)).mpr ⟨by omega, fun y' y0 y1 => by
                    rw [Int.toNat_of_nonneg (by omega)]
                    exact hm.2.1 a y' a0 a1 y0 (by omega)⟩
                  have hcol : ∃ a : Int, x ≤ a ∧ a < x + w ∧ (b + 1 = H ∨ B a (b + 1)) := by
                    have h5 := hm.2.2.2.2.2
                    rw [show y + (b - y + 1) = b + 1 by omega] at h5
                    rcases h5 with e3 | ⟨a, a0, a1, a2⟩
                    · exact ⟨x, by omega, by omega, Or.inl e3⟩
                    · exact ⟨a, a0, a1, Or.inr a2⟩
                  obtain ⟨a, a0, a1, a2⟩ := hcol
                  have h3 := hz a.toNat (by omega)
                  rw [lb_and, hin a a0 a1, (hy a.toNat (by omega)).mpr (by rw [Int.toNat_of_nonneg (by omega)]; exact a2)] at h3
                  cases h3
                · omega
            · rw [if_neg (by rw [cmp_I]; exact c2)]
              obtain ⟨n', K', k1, k2, k3⟩ := c_runs hW hH hp ⟨ht0, hb0, hbH⟩ hcnt q1 hy5 hy (N := uI N p n) (uI_self _ _ _) q2
              rw [k1, opt_bind, uI_twice]
              exact ih2 (o &&& y16, n', K') ⟨by omega, hnext, by rw [show b + 1 - top + 1 = b - top + 1 + 1 by omega]; exact k2, fun j hj => by dsimp only; rw [k3 j hj]; exact q3 j hj⟩
          by_cases c3 : b + 1 < H
          · have hFb : ∀ i, i < 64 → (lb (F (b + 1).toNat) i = true ↔ (i : Int) < W ∧ ¬ B i (b + 1)) := fun i hi => by
              have := hF (b + 1).toNat i (by omega) hi
              rwa [Int.toNat_of_nonneg (by omega)] at this
            have g := key2 (F (b + 1).toNat) (fun i hi => by
              rw [lb_not _ (by omega)]
              cases e : lb (F (b + 1).toNat) i with
              | true =>
                have h5 := (hFb i (by omega)).mp e
                exact ⟨fun h => (by cases h), fun h => absurd h (fun h => h.elim (fun h => by omega) h5.2)⟩
              | false =>
                refine ⟨fun _ => Or.inr ?_, fun _ => rfl⟩
                apply Classical.byContradiction
                intro hn
                have := (hFb i (by omega)).mpr ⟨hi, hn⟩
                rw [e] at this
                cases this) (fun _ i hi => by
              rw [lb_and, Bool.and_eq_true, q1 i hi, hFb i hi]
              constructor
              · rintro ⟨⟨o1, o2⟩, o3, o4⟩
                refine ⟨o1, fun y y0 y1 => ?_⟩
                by_cases e : y = b + 1
                · rw [e]; exact o4
                · exact o2 y y0 (by omega)
              · rintro ⟨o1, o2⟩
                exact ⟨⟨o1, fun y y0 y1 => o2 y y0 (by omega)⟩, o1, o2 (b + 1) (by omega) (by omega)⟩)
            simp (disch := omega) only [↓bd_e, ↓jn_e, ↓opt_bind, ↓reduceIte, iLeT, iLeF, iLtT, iLtF, iEqT, iEqF, il_0, il_1, il_2, il_3, il_4, il_5, il_6, il_7, il_8, il_9, il_10, il_11, il_12, il_13, il_14, il_15, il_16, il_18, il_20, il_24, il_32, il_35, il_40, il_44, il_47, il_48, il_56, il_57, il_58, il_59, il_63, il_64, il_72, il_100, il_120, il_126, il_127, il_160, il_192, il_255, il_349, il_1748, il_6992, iI_add, iI_sub, iI_mul, iI_neg, iI_le, iI_lt, iI_eq, rd_lA, wr_lA, rd_lR, wr_lR, ite_iI, max_iI, min_iI, rem_iI, div_iI, ite_true, ite_false, if_true, if_false, ite_self, and_self, and_true, true_and, and_false, false_and, or_self, or_true, true_or, or_false, false_or, not_true_eq_false, not_false_eq_true, cmp_I, c1, rd_iI]
            simp only [cmp_I] at g
            exact g
          · have g := key2 0 (fun i hi => by
              rw [lb_not _ (by omega), lb_0]
              exact ⟨fun _ => Or.inl (by omega), fun _ => rfl⟩) (fun h => by omega)
            simp (disch := omega) only [↓bd_e, ↓jn_e, ↓opt_bind, ↓reduceIte, iLeT, iLeF, iLtT, iLtF, iEqT, iEqF, il_0, il_1, il_2, il_3, il_4, il_5, il_6, il_7, il_8, il_9, il_10, il_11, il_12, il_13, il_14, il_15, il_16, il_18, il_20, il_24, il_32, il_35, il_40, il_44, il_47, il_48, il_56, il_57, il_58, il_59, il_63, il_64, il_72, il_100, il_120, il_126, il_127, il_160, il_192, il_255, il_349, il_1748, il_6992, iI_add, iI_sub, iI_mul, iI_neg, iI_le, iI_lt, iI_eq, rd_lA, wr_lA, rd_lR, wr_lR, ite_iI, max_iI, min_iI, rem_iI, div_iI, ite_true, ite_false, if_true, if_false, ite_self, and_self, and_true, true_and, and_false, false_and, or_self, or_true, true_or, or_false, false_or, not_true_eq_false, not_false_eq_true, cmp_I, c1]
            simp only [cmp_I] at g
            exact g
      · dsimp only
        have := hF top.toNat i (by omega) hi
        rw [Int.toNat_of_nonneg ht0] at this
        rw [this]
        constructor
        · rintro ⟨o1, o2⟩
          exact ⟨o1, fun y y0 y1 => by rw [show y = top by omega]; exact o2⟩
        · rintro ⟨o1, o2⟩
          exact ⟨o1, o2 top (Int.le_refl _) (Int.le_refl _)⟩
      · rintro ⟨x, y, w, h, e, hm, q⟩
        exact ⟨x, y, w, h, e, hm, by omega⟩
      · rintro ⟨x, y, w, h, e, hm, q⟩
        have := hm.1
        exact ⟨x, y, w, h, e, hm, by omega⟩
    unfold f_X7_collect_L9
    by_cases c0 : top = 0
    · have g := key 0 (fun i hi => by
        rw [lb_not _ (by omega), lb_0]
        exact ⟨fun _ => Or.inl c0, fun _ => rfl⟩)
      simp (disch := omega) only [↓bd_e, ↓jn_e, ↓opt_bind, ↓reduceIte, iLeT, iLeF, iLtT, iLtF, iEqT, iEqF, il_0, il_1, il_2, il_3, il_4, il_5, il_6, il_7, il_8, il_9, il_10, il_11, il_12, il_13, il_14, il_15, il_16, il_18, il_20, il_24, il_32, il_35, il_40, il_44, il_47, il_48, il_56, il_57, il_58, il_59, il_63, il_64, il_72, il_100, il_120, il_126, il_127, il_160, il_192, il_255, il_349, il_1748, il_6992, iI_add, iI_sub, iI_mul, iI_neg, iI_le, iI_lt, iI_eq, rd_lA, wr_lA, rd_lR, wr_lR, ite_iI, max_iI, min_iI, rem_iI, div_iI, ite_true, ite_false, if_true, if_false, ite_self, and_self, and_true, true_and, and_false, false_and, or_self, or_true, true_or, or_false, false_or, not_true_eq_false, not_false_eq_true, rd_iI, hfu]
      exact g
    · have hFt : ∀ i, i < 64 → (lb (F (top - 1).toNat) i = true ↔ (i : Int) < W ∧ ¬ B i (top - 1)) := fun i hi => by
        have := hF (top - 1).toNat i (by omega) hi
        rwa [Int.toNat_of_nonneg (by omega)] at this
      have g := key (F (top - 1).toNat) (fun i hi => by
        rw [lb_not _ (by omega)]
        cases e : lb (F (top - 1).toNat) i with
        | true =>
          have h5 := (hFt i (by omega)).mp e
          exact ⟨fun h => (by cases h), fun h => absurd h (fun h => h.elim c0 h5.2)⟩
        | false =>
          refine ⟨fun _ => Or.inr ?_, fun _ => rfl⟩
          apply Classical.byContradiction
          intro hn
          have := (hFt i (by omega)).mpr ⟨hi, hn⟩
          rw [e] at this
          cases this)
      simp (disch := omega) only [↓bd_e, ↓jn_e, ↓opt_bind, ↓reduceIte, iLeT, iLeF, iLtT, iLtF, iEqT, iEqF, il_0, il_1, il_2, il_3, il_4, il_5, il_6, il_7, il_8, il_9, il_10, il_11, il_12, il_13, il_14, il_15, il_16, il_18, il_20, il_24, il_32, il_35, il_40, il_44, il_47, il_48, il_56, il_57, il_58, il_59, il_63, il_64, il_72, il_100, il_120, il_126, il_127, il_160, il_192, il_255, il_349, il_1748, il_6992, iI_add, iI_sub, iI_mul, iI_neg, iI_le, iI_lt, iI_eq, rd_lA, wr_lA, rd_lR, wr_lR, ite_iI, max_iI, min_iI, rem_iI, div_iI, ite_true, ite_false, if_true, if_false, ite_self, and_self, and_true, true_and, and_false, false_and, or_self, or_true, true_or, or_false, false_or, not_true_eq_false, not_false_eq_true, rd_iI, hfu]
      exact g
  · rintro z ⟨x, y, w, h, e, hm, q⟩
    have := hm.1
    omega
