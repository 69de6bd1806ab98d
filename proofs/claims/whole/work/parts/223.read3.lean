theorem tS_pre {T : Int → Int} : ∀ {len : Nat} {s : Int × Int × Int × Int × Int}, tS T len = some s → ∀ k, k ≤ len → ∃ s', tS T k = some s' ∧ s'.2.2.2.2 ≤ s.2.2.2.2
  | 0, s, h, k, hk => by
    obtain rfl : k = 0 := by omega
    exact ⟨s, h, Int.le_refl _⟩
  | len + 1, s, h, k, hk => by
    by_cases e : k = len + 1
    · subst e
      exact ⟨s, h, Int.le_refl _⟩
    · obtain ⟨⟨x, y, w, st, m⟩, h0, h1⟩ := tS_succ h
      obtain ⟨s', h2, h3⟩ := tS_pre h0 k (by omega)
      refine ⟨s', h2, ?_⟩
      dsimp only at h3
      rcases tStep_some h1 with ⟨-, -, -, e⟩ | ⟨-, -, -, -, e⟩ | ⟨-, -, -, e⟩ <;> subst e <;> dsimp only <;> omega
theorem tS_last {T : Int → Int} {len k : Nat} {w st mf : Int} {s : Int × Int × Int × Int × Int} (h : tS T len = some (0, 0, w, st, mf)) (hk : k < len) (hs : tS T k = some s) : s.2.2.2.2 + 1 ≤ mf := by
  obtain ⟨n, rfl⟩ : ∃ n, len = n + 1 := ⟨len - 1, by omega⟩
  obtain ⟨⟨x0, y0, w0, st0, m0⟩, h0, h1⟩ := tS_succ h
  obtain ⟨s', h2, h3⟩ := tS_pre h0 k (by omega)
  rw [hs] at h2
  cases h2
  have o := tS_ok h0
  unfold tOk at o
  dsimp only at o h3
  rcases tStep_some h1 with ⟨-, -, -, e⟩ | ⟨-, -, -, -, e⟩ | ⟨-, -, -, e⟩
  · have := congrArg (fun q => q.1) e
    dsimp only at this
    omega
  · have := congrArg (fun q => q.2.1) e
    dsimp only at this
    omega
  · have := congrArg (fun q => q.2.2.2.2) e
    dsimp only at this
    omega
theorem mv_WD {T Vb : Int → Int} {st k : Nat} {x y w m : Int} (h : tS T k = some (x, y, w, (st : Int), m)) (hx : 0 < x) : (st : Int) < k ∧ mv T Vb st (k - st) (20 + 72 * Vb 0 + 0) = x := by
  cases k with
  | zero => cases h; omega
  | succ n =>
    obtain ⟨⟨x0, y0, w0, st0, m0⟩, h0, h1⟩ := tS_succ h
    have o := (tImg h0).2.1
    rcases tStep_some h1 with ⟨c1, c2, -, e⟩ | ⟨-, -, -, -, e⟩ | ⟨-, -, -, e⟩
    · obtain ⟨rfl, rfl, rfl, rfl, rfl⟩ : x = x0 + 1 ∧ y = y0 ∧ w = w0 ∧ (st : Int) = st0 ∧ m = m0 := by
        simp only [Prod.mk.injEq] at e
        exact e
      refine ⟨by omega, ?_⟩
      have ht : n + 1 - st = (n - st) + 1 := by omega
      have hn : st + (n - st) = n := by omega
      rw [ht]
      show (if T ((st + (n - st) : Nat) : Int) = 47 then _ else (tS T (st + (n - st))).elim _ _ : Int → Int) _ = _
      rw [hn, if_neg (by omega), h0]
      exact uI_self _ _ _
    · have := congrArg (fun q => q.1) e
      dsimp only at this
      omega
    · have := congrArg (fun q => q.1) e
      dsimp only at this
      omega
theorem mv_succ {T Vb : Int → Int} {st k : Nat} {s : Int × Int × Int × Int × Int} (h : tS T k = some s) (hk : st ≤ k) : mv T Vb st (k + 1 - st) = if T k = 47 then mv T Vb st (k - st) else uI (uI (mv T Vb st (k - st)) (20 + 72 * (Vb 0) + 8 + 8 * (s.2.1) + (s.1)) (T k - 48)) (20 + 72 * (Vb 0) + 0) (s.1 + 1) := by
  have ht : k + 1 - st = (k - st) + 1 := by omega
  have hn : st + (k - st) = k := by omega
  rw [ht]
  show (if T ((st + (k - st) : Nat) : Int) = 47 then _ else (tS T (st + (k - st))).elim _ _ : Int → Int) = _
  rw [hn, h]
  rfl
theorem mv_0 {T Vb : Int → Int} {st : Nat} (h0 : 0 ≤ Vb 0) (t : Nat) : mv T Vb st t 0 = Vb 0 + 1 := by
  have hqx : ∀ t q, tS T (st + t) = some q → 0 ≤ q.1 ∧ q.1 ≤ 8 ∧ 0 ≤ q.2.1 ∧ q.2.1 ≤ 7 := fun t q hq => by
    have := tS_ok hq
    unfold tOk at this
    omega
  have := cv_keep (T := T) (w := 0) (h := 0) h0 hqx t
  rw [← cv_mv (w := 0) (h := 0) h0 t 0 (by omega) (by omega), ← this.1]
  rfl
theorem cv_end {T Vb : Int → Int} {st k : Nat} {x y w m : Int} (h0 : 0 ≤ Vb 0) (h : tS T k = some (x, y, w, (st : Int), m)) (hx : 0 < x) : uI (mv T Vb st (k - st)) (20 + 72 * (Vb 0) + 1) (y + 1) = cv T Vb st x (y + 1) (k - st) := by
  have hqx : ∀ t q, tS T (st + t) = some q → 0 ≤ q.1 ∧ q.1 ≤ 8 ∧ 0 ≤ q.2.1 ∧ q.2.1 ≤ 7 := fun t q hq => by
    have := tS_ok hq
    unfold tOk at this
    omega
  obtain ⟨-, k2, k3⟩ := cv_keep (T := T) (w := x) (h := y + 1) h0 hqx (k - st)
  funext j
  rw [uI_at]
  by_cases e : j = 20 + 72 * Vb 0 + 1
  · rw [if_pos e, e, k3]
  · rw [if_neg e]
    by_cases e2 : j = 20 + 72 * Vb 0 + 0
    · rw [e2, k2]
      exact (mv_WD h hx).2
    · exact (cv_mv h0 _ _ e2 e).symm
/-- both add the images of the text -/
theorem x_readAll {T V0 : Int → Int} {len : Nat} (ht : tTx T len) {wf sf mf : Int} (hfin : tS T len = some (0, 0, wf, sf, mf)) (h0 : 0 ≤ V0 0) (h24 : V0 0 + mf ≤ 24) (P : Option (Int32 × (Nat → Int32) × (Nat → Int32) × (Nat → Int32) × (Nat → Int32)) × Option (Int32 × Int32 × Int32 × (Nat → Int32) × (Nat → Int32)) → Prop) (Km)
    (hK : ∀ V' W H G R, vImg V' → vOut V' → vMo V0 V' → shR V' W H G R → P (some (iI (V' 0), lA W, lA H, lA G, lR R), Km (lA V'))) (n : Nat) (hn : 160 < n) {W H G : Int → Int} {R : Int → Int32} (hi : vImg V0) (ho : vOut V0) (hs : shR V0 W H G R) :
    P (f_X9_addImagesTo_L4 (iI len) (lA T) n (iI 0) (iI 0) (iI (V0 0)) (lA W) (lA H) (lA G) (lR R), f_X11_read_L39 (iI len) (lA T) Km n (iI 0) (iI 0) (iI 0) (lA V0)) := by
  have hl := ht.1
  refine lpp (fun n k (t : (Int × Int × Int × Int × Int) × (Int → Int) × (Int → Int) × (Int → Int) × (Int → Int) × (Int → Int32)) => (f_X9_addImagesTo_L4 (iI len) (lA T) n (iI t.1.2.2.2.1) (iI k) (iI (t.2.1 0)) (lA t.2.2.1) (lA t.2.2.2.1) (lA t.2.2.2.2.1) (lR t.2.2.2.2.2), f_X11_read_L39 (iI len) (lA T) Km n (iI t.1.1) (iI t.1.2.1) (iI k) (lA (if t.1.1 = 0 ∧ t.1.2.1 = 0 then t.2.1 else mv T t.2.1 t.1.2.2.2.1.toNat (k.toNat - t.1.2.2.2.1.toNat))))) P len
    (fun k t => 0 ≤ k ∧ tS T k.toNat = some t.1 ∧ t.2.1 0 = V0 0 + t.1.2.2.2.2 ∧ vImg t.2.1 ∧ vOut t.2.1 ∧ vMo V0 t.2.1 ∧ shR t.2.1 t.2.2.1 t.2.2.2.1 t.2.2.2.2.1 t.2.2.2.2.2) ?_ ?_ n 0 ((0, 0, 0, 0, 0), V0, W, H, G, R) (by omega) (by omega) ⟨by omega, rfl, by dsimp only; omega, hi, ho, vMo_rf V0, hs⟩
  · rintro n ⟨⟨x, y, w, st, m⟩, Vb, W, H, G, R⟩ ⟨-, h1, h2, h3, h4, h5, h6⟩
    dsimp only at h1 h2 h3 h4 h5 h6 ⊢
    rw [Int.toNat_natCast, hfin] at h1
    cases h1
    have hb := h3.1
    unfold f_X9_addImagesTo_L4 f_X11_read_L39
    simp (disch := omega) only [↓bd_e, ↓jn_e, ↓opt_bind, ↓reduceIte, iLeT, iLeF, iLtT, iLtF, iEqT, iEqF, il_0, il_1, il_2, il_3, il_4, il_5, il_6, il_7, il_8, il_9, il_10, il_11, il_12, il_13, il_14, il_15, il_16, il_18, il_20, il_24, il_32, il_35, il_40, il_44, il_47, il_48, il_56, il_57, il_58, il_59, il_63, il_64, il_72, il_100, il_120, il_126, il_127, il_160, il_192, il_255, il_349, il_1748, il_6992, iI_add, iI_sub, iI_mul, iI_neg, iI_le, iI_lt, iI_eq, rd_lA, wr_lA, rd_lR, wr_lR, ite_iI, max_iI, min_iI, rem_iI, div_iI, ite_true, ite_false, if_true, if_false, ite_self, and_self, and_true, true_and, and_false, false_and, or_self, or_true, true_or, or_false, false_or, not_true_eq_false, not_false_eq_true]
    exact hK Vb W H G R h3 h4 h5 h6
  · rintro n k ⟨⟨x, y, w, st, m⟩, Vb, W, H, G, R⟩ hk ⟨hk0, h1, h2, h3, h4, h5, h6⟩ ih
    dsimp only at h1 h2 h3 h4 h5 h6 ih ⊢
    obtain ⟨kn, rfl⟩ : ∃ kn : Nat, k = kn := ⟨k.toNat, by omega⟩
    rw [Int.toNat_natCast] at h1 ⊢
    obtain ⟨a1, a2, a3, a4, -⟩ := tImg h1
    obtain ⟨sn, rfl⟩ : ∃ sn : Nat, st = sn := ⟨st.toNat, by omega⟩
    rw [Int.toNat_natCast]
    have hcc := ht.2 kn hk0 hk
    have hlast := tS_last hfin (by omega) h1
    dsimp only at hlast
    have hb := h3.1
    have o := tS_ok h1
    unfold tOk at o
    dsimp only at o
    obtain ⟨s', hs', -⟩ := tS_pre hfin (kn + 1) (by omega)
    obtain ⟨s0, g0, g1⟩ := tS_succ hs'
    rw [h1] at g0
    cases g0
    have hnext : ((kn : Int) + 1).toNat = kn + 1 := by omega
    -- the reference's vector with the image begun
    have hadd := m_adds (V := Vb) (w := 0) (h := 0) (by omega)
    have hst0 : x = 0 → y = 0 → mv T Vb sn (kn - sn) = vA Vb 0 0 := by
      intro e1 e2
      have := a3 e2
      rw [show kn - sn = 0 by omega]
      rfl
    have hms := mv_succ (Vb := Vb) h1 (show sn ≤ kn by omega)
    dsimp only at hms
    have hm0 := mv_0 (T := T) (st := sn) hb.1 (kn - sn)
    have e11 : Vb 0 + 1 - 1 = Vb 0 := by omega
    rcases tStep_some g1 with ⟨c1, c2, c3, rfl⟩ | ⟨c1, c2, c3, c4, rfl⟩ | ⟨c1, c2, c3, rfl⟩
    · have g := ih ((x + 1, y, w, (sn : Int), m), Vb, W, H, G, R) ⟨by omega, by rw [hnext]; exact hs', h2, h3, h4, h5, h6⟩
      dsimp only at g
      rw [if_neg (by omega), hnext, Int.toNat_natCast, hms, if_neg (by omega)] at g
      unfold f_X9_addImagesTo_L4 f_X11_read_L39
      by_cases e : x = 0 ∧ y = 0
      · rw [if_pos e]
        rw [hst0 e.1 e.2] at g hm0
        simp (disch := omega) only [↓bd_e, ↓jn_e, ↓opt_bind, ↓reduceIte, iLeT, iLeF, iLtT, iLtF, iEqT, iEqF, il_0, il_1, il_2, il_3, il_4, il_5, il_6, il_7, il_8, il_9, il_10, il_11, il_12, il_13, il_14, il_15, il_16, il_18, il_20, il_24, il_32, il_35, il_40, il_44, il_47, il_48, il_56, il_57, il_58, il_59, il_63, il_64, il_72, il_100, il_120, il_126, il_127, il_160, il_192, il_255, il_349, il_1748, il_6992, iI_add, iI_sub, iI_mul, iI_neg, iI_le, iI_lt, iI_eq, rd_lA, wr_lA, rd_lR, wr_lR, ite_iI, max_iI, min_iI, rem_iI, div_iI, ite_true, ite_false, if_true, if_false, ite_self, and_self, and_true, true_and, and_false, false_and, or_self, or_true, true_or, or_false, false_or, not_true_eq_false, not_false_eq_true, hadd, hm0, e11, f_X11_pixelAt, f_X11_at]
        exact g
      · rw [if_neg e]
        by_cases e1 : x = 0
        · have e2 : ¬ y = 0 := fun z => e ⟨e1, z⟩
          simp (disch := omega) only [↓bd_e, ↓jn_e, ↓opt_bind, ↓reduceIte, iLeT, iLeF, iLtT, iLtF, iEqT, iEqF, il_0, il_1, il_2, il_3, il_4, il_5, il_6, il_7, il_8, il_9, il_10, il_11, il_12, il_13, il_14, il_15, il_16, il_18, il_20, il_24, il_32, il_35, il_40, il_44, il_47, il_48, il_56, il_57, il_58, il_59, il_63, il_64, il_72, il_100, il_120, il_126, il_127, il_160, il_192, il_255, il_349, il_1748, il_6992, iI_add, iI_sub, iI_mul, iI_neg, iI_le, iI_lt, iI_eq, rd_lA, wr_lA, rd_lR, wr_lR, ite_iI, max_iI, min_iI, rem_iI, div_iI, ite_true, ite_false, if_true, if_false, ite_self, and_self, and_true, true_and, and_false, false_and, or_self, or_true, true_or, or_false, false_or, not_true_eq_false, not_false_eq_true, hm0, e11, f_X11_pixelAt, f_X11_at]
          exact g
        · simp (disch := omega) only [↓bd_e, ↓jn_e, ↓opt_bind, ↓reduceIte, iLeT, iLeF, iLtT, iLtF, iEqT, iEqF, il_0, il_1, il_2, il_3, il_4, il_5, il_6, il_7, il_8, il_9, il_10, il_11, il_12, il_13, il_14, il_15, il_16, il_18, il_20, il_24, il_32, il_35, il_40, il_44, il_47, il_48, il_56, il_57, il_58, il_59, il_63, il_64, il_72, il_100, il_120, il_126, il_127, il_160, il_192, il_255, il_349, il_1748, il_6992, iI_add, iI_sub, iI_mul, iI_neg, iI_le, iI_lt, iI_eq, rd_lA, wr_lA, rd_lR, wr_lR, ite_iI, max_iI, min_iI, rem_iI, div_iI, ite_true, ite_false, if_true, if_false, ite_self, and_self, and_true, true_and, and_false, false_and, or_self, or_true, true_or, or_false, false_or, not_true_eq_false, not_false_eq_true, hm0, e11, f_X11_pixelAt, f_X11_at]
          exact g
    · have g := ih ((0, y + 1, x, (sn : Int), m), Vb, W, H, G, R) ⟨by omega, by rw [hnext]; exact hs', h2, h3, h4, h5, h6⟩
      dsimp only at g
      rw [if_neg (by omega), hnext, Int.toNat_natCast, hms, if_pos c1] at g
      unfold f_X9_addImagesTo_L4 f_X11_read_L39
      rw [if_neg (show ¬ (x = 0 ∧ y = 0) by omega)]
      simp (disch := omega) only [↓bd_e, ↓jn_e, ↓opt_bind, ↓reduceIte, iLeT, iLeF, iLtT, iLtF, iEqT, iEqF, il_0, il_1, il_2, il_3, il_4, il_5, il_6, il_7, il_8, il_9, il_10, il_11, il_12, il_13, il_14, il_15, il_16, il_18, il_20, il_24, il_32, il_35, il_40, il_44, il_47, il_48, il_56, il_57, il_58, il_59, il_63, il_64, il_72, il_100, il_120, il_126, il_127, il_160, il_192, il_255, il_349, il_1748, il_6992, iI_add, iI_sub, iI_mul, iI_neg, iI_le, iI_lt, iI_eq, rd_lA, wr_lA, rd_lR, wr_lR, ite_iI, max_iI, min_iI, rem_iI, div_iI, ite_true, ite_false, if_true, if_false, ite_self, and_self, and_true, true_and, and_false, false_and, or_self, or_true, true_or, or_false, false_or, not_true_eq_false, not_false_eq_true, hm0]
      exact g
    · obtain ⟨W', H', G', R', q1, q2, q3, q4, q5⟩ := c_addImage ht (k := kn) (by omega) h1 c2 c3 c1 h0 h3 h4 h5 (by omega) h6
      have hce := cv_end hb.1 h1 c2
      have hc0 : cv T Vb sn x (y + 1) (kn - sn) 0 = Vb 0 + 1 := by
        rw [← hce, uI_ne (by omega)]
        exact hm0
      have g := ih ((0, 0, 0, (kn : Int) + 1, m + 1), cv T Vb sn x (y + 1) (kn - sn), W', H', G', R') ⟨by omega, by rw [hnext]; exact hs', by dsimp only; omega, q2, q3, q4, q5⟩
      dsimp only at g
      rw [if_pos ⟨rfl, rfl⟩, hc0, ← hce] at g
      unfold f_X9_addImagesTo_L4 f_X11_read_L39
      rw [if_neg (show ¬ (x = 0 ∧ y = 0) by omega)]
      simp (disch := omega) only [↓bd_e, ↓jn_e, ↓opt_bind, ↓reduceIte, iLeT, iLeF, iLtT, iLtF, iEqT, iEqF, il_0, il_1, il_2, il_3, il_4, il_5, il_6, il_7, il_8, il_9, il_10, il_11, il_12, il_13, il_14, il_15, il_16, il_18, il_20, il_24, il_32, il_35, il_40, il_44, il_47, il_48, il_56, il_57, il_58, il_59, il_63, il_64, il_72, il_100, il_120, il_126, il_127, il_160, il_192, il_255, il_349, il_1748, il_6992, iI_add, iI_sub, iI_mul, iI_neg, iI_le, iI_lt, iI_eq, rd_lA, wr_lA, rd_lR, wr_lR, ite_iI, max_iI, min_iI, rem_iI, div_iI, ite_true, ite_false, if_true, if_false, ite_self, and_self, and_true, true_and, and_false, false_and, or_self, or_true, true_or, or_false, false_or, not_true_eq_false, not_false_eq_true, hm0, e11, q1, f_X11_at]
      exact g
theorem x_read {V : Int → Int} {c : Nat → Int → Int} {S : Nat → Nat → Int32} {d : Nat → Int → Int} {l p : Int} {H0 H1 H2 H3 H4 : Nat → Nat → Int32} {P : Int → Int} (h : stI V c S d l p (hF H0 H1 H2 H3 H4) P) {T : Int → Int} {len : Nat} (ht : tTx T len) :
    ∃ a V' c' S' d' l' p' K0 K1 K2 K3 K4 P' m', f_X10_read (iI len) (lA T) S (lA (d 0)) (lA (d 1)) (lA (d 2)) (lA (d 3)) (lA (d 4)) (lA (d 5)) (iI l) (iI p) H0 H1 H2 H3 H4 = some (a, S', lA (d' 0), lA (d' 1), lA (d' 2), lA (d' 3), lA (d' 4), lA (d' 5), iI l', iI p', K0, K1, K2, K3, K4) ∧
      f_X11_read (iI p) (iI len) (lA V) (lA P) (lA T) = some (a, iI p', m', lA V', lA P') ∧ stI V' c' S' d' l' p' (hF K0 K1 K2 K3 K4) P' ∧ vMo V V' ∧ cEq (V 0) c c' := by
  obtain ⟨⟨g0, g1, g2, g3, g4⟩, gr, gc, gd, gh⟩ := id h
  have e0 := gr.1.1
  have hn := g2.1
  have hl := ht.1
  have hce : cEq (V 0) c c := fun s _ _ => ⟨rfl, rfl, fun _ => ⟨rfl, rfl⟩, rfl, fun _ => rfl⟩
  have hcf := c_fault ht
  obtain ⟨mt, hmf, hmt⟩ := m_fault ht
  unfold f_X10_read f_X11_read
  rw [hcf, hmf]
  rcases tFin_of (T := T) len with ⟨x, y, w, st, m, t1, t2⟩ | ⟨k, k1, k2⟩
  · have hm := tS_m t1
    have o := tS_ok t1
    unfold tOk at o
    dsimp only at o
    obtain rfl := hmt _ _ _ _ _ t1
    by_cases e : x = 0 ∧ y = 0
    · rw [if_pos e] at t2
      obtain ⟨rfl, rfl⟩ := e
      have hcc := c_count ht t1
      by_cases hf : V 0 + m ≤ 24
      · have gh' := gh.1
        obtain ⟨K0, K1, K2, K3, K4, e1, e2, e3⟩ := c_record g1 gr (l := l) (p := p) (by omega) (by omega) H0 H1 H2 H3 H4
        obtain ⟨P', e4, e5, e6⟩ := m_notes (V := V) (P := P) (p := p) (by omega)
        rw [t2, e0]
        simp (disch := omega) only [↓bd_e, ↓jn_e, ↓opt_bind, ↓reduceIte, iLeT, iLeF, iLtT, iLtF, iEqT, iEqF, il_0, il_1, il_2, il_3, il_4, il_5, il_6, il_7, il_8, il_9, il_10, il_11, il_12, il_13, il_14, il_15, il_16, il_18, il_20, il_24, il_32, il_35, il_40, il_44, il_47, il_48, il_56, il_57, il_58, il_59, il_63, il_64, il_72, il_100, il_120, il_126, il_127, il_160, il_192, il_255, il_349, il_1748, il_6992, iI_add, iI_sub, iI_mul, iI_neg, iI_le, iI_lt, iI_eq, rd_lA, wr_lA, rd_lR, wr_lR, ite_iI, max_iI, min_iI, rem_iI, div_iI, ite_true, ite_false, if_true, if_false, ite_self, and_self, and_true, true_and, and_false, false_and, or_self, or_true, true_or, or_false, false_or, not_true_eq_false, not_false_eq_true, hcc, e1, e4, f_X9_addImagesTo]
        obtain ⟨fu, hfu, hfu2⟩ := fuel_ex
        rw [hfu, sA_lA S 1, sA_lA S 2, sA_lA S 3, sW_lR S]
        have key := x_readAll ht t1 (V0 := V) (by omega) hf (fun q => ∃ a V' c' S' d' l' p' J0 J1 J2 J3 J4 P2 m', (q.1.bind fun r4 =>
            (f_X0_study (lA (d 0)) (lA (d 1)) (lA (d 2)) (lA (d 3)) (lA (d 4)) (lA (d 5)) r4.1 r4.2.1 r4.2.2.1 r4.2.2.2.2 (S 5 6) (S 5 7)).bind fun r5 =>
            some (r4.1, (updC (updC (updC (updC (updC S 0 (upd (S 0) 0 r4.1)) 1 r4.2.1) 2 r4.2.2.1) 3 r4.2.2.2.1) 4 r4.2.2.2.2), r5.1, r5.2.1, r5.2.2.1, r5.2.2.2.1, r5.2.2.2.2.1, r5.2.2.2.2.2, iI ((l + 1) % 5), iI (min (p + 1) 5), K0, K1, K2, K3, K4)) = some (a, S', lA (d' 0), lA (d' 1), lA (d' 2), lA (d' 3), lA (d' 4), lA (d' 5), iI l', iI p', J0, J1, J2, J3, J4) ∧ q.2 = some (a, iI p', m', lA V', lA P2) ∧ stI V' c' S' d' l' p' (hF J0 J1 J2 J3 J4) P2 ∧ vMo V V' ∧ cEq (V 0) c c')
          (fun f4 => g_rd f4 1748 (iI 0) fun x6 => some (x6, iI (min (p + 1) 5), iI m, f4, lA P')) ?_ fu (by omega) g2 g0 (sh_self gr)
        · exact key
        · intro V' W H G R i2 i3 i5 i4
          obtain ⟨c', d', q1, q2, q3, q4, q5, q6⟩ := x_more h i5 i2 i3 i4
          refine ⟨iI (V' 0), V', c', mkS S (V' 0) W H G R, d', _, _, K0, K1, K2, K3, K4, P', iI m, ?_, ?_, ⟨q4, q5, q2, q3, hR_step h.1 gr gh e2 e3 e5 e6⟩, i5, q6⟩
          · simp (disch := omega) only [↓bd_e, ↓jn_e, ↓opt_bind, ↓reduceIte, iLeT, iLeF, iLtT, iLtF, iEqT, iEqF, il_0, il_1, il_2, il_3, il_4, il_5, il_6, il_7, il_8, il_9, il_10, il_11, il_12, il_13, il_14, il_15, il_16, il_18, il_20, il_24, il_32, il_35, il_40, il_44, il_47, il_48, il_56, il_57, il_58, il_59, il_63, il_64, il_72, il_100, il_120, il_126, il_127, il_160, il_192, il_255, il_349, il_1748, il_6992, iI_add, iI_sub, iI_mul, iI_neg, iI_le, iI_lt, iI_eq, rd_lA, wr_lA, rd_lR, wr_lR, ite_iI, max_iI, min_iI, rem_iI, div_iI, ite_true, ite_false, if_true, if_false, ite_self, and_self, and_true, true_and, and_false, false_and, or_self, or_true, true_or, or_false, false_or, not_true_eq_false, not_false_eq_true, mkS_f, q1]
          · simp (disch := omega) only [↓bd_e, ↓jn_e, ↓opt_bind, ↓reduceIte, iLeT, iLeF, iLtT, iLtF, iEqT, iEqF, il_0, il_1, il_2, il_3, il_4, il_5, il_6, il_7, il_8, il_9, il_10, il_11, il_12, il_13, il_14, il_15, il_16, il_18, il_20, il_24, il_32, il_35, il_40, il_44, il_47, il_48, il_56, il_57, il_58, il_59, il_63, il_64, il_72, il_100, il_120, il_126, il_127, il_160, il_192, il_255, il_349, il_1748, il_6992, iI_add, iI_sub, iI_mul, iI_neg, iI_le, iI_lt, iI_eq, rd_lA, wr_lA, rd_lR, wr_lR, ite_iI, max_iI, min_iI, rem_iI, div_iI, ite_true, ite_false, if_true, if_false, ite_self, and_self, and_true, true_and, and_false, false_and, or_self, or_true, true_or, or_false, false_or, not_true_eq_false, not_false_eq_true]
      · refine ⟨iI (-2), V, c, S, d, l, p, H0, H1, H2, H3, H4, P, iI m, ?_, ?_, h, vMo_rf V, hce⟩
        · rw [t2, e0]
          simp (disch := omega) only [↓bd_e, ↓jn_e, ↓opt_bind, ↓reduceIte, iLeT, iLeF, iLtT, iLtF, iEqT, iEqF, il_0, il_1, il_2, il_3, il_4, il_5, il_6, il_7, il_8, il_9, il_10, il_11, il_12, il_13, il_14, il_15, il_16, il_18, il_20, il_24, il_32, il_35, il_40, il_44, il_47, il_48, il_56, il_57, il_58, il_59, il_63, il_64, il_72, il_100, il_120, il_126, il_127, il_160, il_192, il_255, il_349, il_1748, il_6992, iI_add, iI_sub, iI_mul, iI_neg, iI_le, iI_lt, iI_eq, rd_lA, wr_lA, rd_lR, wr_lR, ite_iI, max_iI, min_iI, rem_iI, div_iI, ite_true, ite_false, if_true, if_false, ite_self, and_self, and_true, true_and, and_false, false_and, or_self, or_true, true_or, or_false, false_or, not_true_eq_false, not_false_eq_true, hcc]
        · rw [t2]
          simp (disch := omega) only [↓bd_e, ↓jn_e, ↓opt_bind, ↓reduceIte, iLeT, iLeF, iLtT, iLtF, iEqT, iEqF, il_0, il_1, il_2, il_3, il_4, il_5, il_6, il_7, il_8, il_9, il_10, il_11, il_12, il_13, il_14, il_15, il_16, il_18, il_20, il_24, il_32, il_35, il_40, il_44, il_47, il_48, il_56, il_57, il_58, il_59, il_63, il_64, il_72, il_100, il_120, il_126, il_127, il_160, il_192, il_255, il_349, il_1748, il_6992, iI_add, iI_sub, iI_mul, iI_neg, iI_le, iI_lt, iI_eq, rd_lA, wr_lA, rd_lR, wr_lR, ite_iI, max_iI, min_iI, rem_iI, div_iI, ite_true, ite_false, if_true, if_false, ite_self, and_self, and_true, true_and, and_false, false_and, or_self, or_true, true_or, or_false, false_or, not_true_eq_false, not_false_eq_true]
    · rw [if_neg e] at t2
      refine ⟨iI (-3), V, c, S, d, l, p, H0, H1, H2, H3, H4, P, iI m, ?_, ?_, h, vMo_rf V, hce⟩
      · rw [t2]
        simp (disch := omega) only [↓bd_e, ↓jn_e, ↓opt_bind, ↓reduceIte, iLeT, iLeF, iLtT, iLtF, iEqT, iEqF, il_0, il_1, il_2, il_3, il_4, il_5, il_6, il_7, il_8, il_9, il_10, il_11, il_12, il_13, il_14, il_15, il_16, il_18, il_20, il_24, il_32, il_35, il_40, il_44, il_47, il_48, il_56, il_57, il_58, il_59, il_63, il_64, il_72, il_100, il_120, il_126, il_127, il_160, il_192, il_255, il_349, il_1748, il_6992, iI_add, iI_sub, iI_mul, iI_neg, iI_le, iI_lt, iI_eq, rd_lA, wr_lA, rd_lR, wr_lR, ite_iI, max_iI, min_iI, rem_iI, div_iI, ite_true, ite_false, if_true, if_false, ite_self, and_self, and_true, true_and, and_false, false_and, or_self, or_true, true_or, or_false, false_or, not_true_eq_false, not_false_eq_true]
      · rw [t2]
        simp (disch := omega) only [↓bd_e, ↓jn_e, ↓opt_bind, ↓reduceIte, iLeT, iLeF, iLtT, iLtF, iEqT, iEqF, il_0, il_1, il_2, il_3, il_4, il_5, il_6, il_7, il_8, il_9, il_10, il_11, il_12, il_13, il_14, il_15, il_16, il_18, il_20, il_24, il_32, il_35, il_40, il_44, il_47, il_48, il_56, il_57, il_58, il_59, il_63, il_64, il_72, il_100, il_120, il_126, il_127, il_160, il_192, il_255, il_349, il_1748, il_6992, iI_add, iI_sub, iI_mul, iI_neg, iI_le, iI_lt, iI_eq, rd_lA, wr_lA, rd_lR, wr_lR, ite_iI, max_iI, min_iI, rem_iI, div_iI, ite_true, ite_false, if_true, if_false, ite_self, and_self, and_true, true_and, and_false, false_and, or_self, or_true, true_or, or_false, false_or, not_true_eq_false, not_false_eq_true]
  · refine ⟨iI (-3), V, c, S, d, l, p, H0, H1, H2, H3, H4, P, iI mt, ?_, ?_, h, vMo_rf V, hce⟩
    · rw [k2]
      simp (disch := omega) only [↓bd_e, ↓jn_e, ↓opt_bind, ↓reduceIte, iLeT, iLeF, iLtT, iLtF, iEqT, iEqF, il_0, il_1, il_2, il_3, il_4, il_5, il_6, il_7, il_8, il_9, il_10, il_11, il_12, il_13, il_14, il_15, il_16, il_18, il_20, il_24, il_32, il_35, il_40, il_44, il_47, il_48, il_56, il_57, il_58, il_59, il_63, il_64, il_72, il_100, il_120, il_126, il_127, il_160, il_192, il_255, il_349, il_1748, il_6992, iI_add, iI_sub, iI_mul, iI_neg, iI_le, iI_lt, iI_eq, rd_lA, wr_lA, rd_lR, wr_lR, ite_iI, max_iI, min_iI, rem_iI, div_iI, ite_true, ite_false, if_true, if_false, ite_self, and_self, and_true, true_and, and_false, false_and, or_self, or_true, true_or, or_false, false_or, not_true_eq_false, not_false_eq_true]
    · rw [k2]
      simp (disch := omega) only [↓bd_e, ↓jn_e, ↓opt_bind, ↓reduceIte, iLeT, iLeF, iLtT, iLtF, iEqT, iEqF, il_0, il_1, il_2, il_3, il_4, il_5, il_6, il_7, il_8, il_9, il_10, il_11, il_12, il_13, il_14, il_15, il_16, il_18, il_20, il_24, il_32, il_35, il_40, il_44, il_47, il_48, il_56, il_57, il_58, il_59, il_63, il_64, il_72, il_100, il_120, il_126, il_127, il_160, il_192, il_255, il_349, il_1748, il_6992, iI_add, iI_sub, iI_mul, iI_neg, iI_le, iI_lt, iI_eq, rd_lA, wr_lA, rd_lR, wr_lR, ite_iI, max_iI, min_iI, rem_iI, div_iI, ite_true, ite_false, if_true, if_false, ite_self, and_self, and_true, true_and, and_false, false_and, or_self, or_true, true_or, or_false, false_or, not_true_eq_false, not_false_eq_true]
