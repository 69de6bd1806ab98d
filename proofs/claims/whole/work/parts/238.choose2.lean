/-! the choice over all pages -/
theorem lppn {σ τ : Type} (F : Nat → Int → σ → τ) (P : τ → Prop) (N : Int) (I : Int → σ → Prop) (hend : ∀ n s, I N s → P (F (n + 1) N s)) (hstep : ∀ n x s, x < N → 0 < n → I x s → (∀ s', I (x + 1) s' → P (F n (x + 1) s')) → P (F (n + 1) x s)) (n : Nat) (x : Int) (s : σ) (hx : x ≤ N) (hn : N - x < n) (hI : I x s) : P (F n x s) := by
  induction n generalizing x s with
  | zero => omega
  | succ n ih =>
    by_cases h : x = N
    · subst h
      exact hend n s hI
    · exact hstep n x s (by omega) (by omega) hI (fun s' hI' => ih (x + 1) s' (by omega) (by omega) hI')
theorem c_isEmptyPage {V : Int → Int} {S : Nat → Nat → Int32} (hr : sR V S) {p : Int} (hp : 0 ≤ p ∧ p < 100) (hV : V 0 ≤ 24) (hP : ∀ s, 0 ≤ s → s < V 0 → -1 ≤ V (20 + 72 * s + 3) ∧ V (20 + 72 * s + 3) < 100) :
    ((∃ s, onPg V p s) → f_X4_isEmptyPage (S 8) (iI p) = some (iI 0)) ∧ ((∀ s, ¬ onPg V p s) → f_X4_isEmptyPage (S 8) (iI p) = some (iI 1)) := by
  have h6 := hr.2.2.2.2.1
  have key : f_X4_isEmptyPage (S 8) (iI p) = some (iI 0) ∧ (∃ s, onPg V p s) ∨ f_X4_isEmptyPage (S 8) (iI p) = some (iI 1) ∧ (∀ s, ¬ onPg V p s) := by
    unfold f_X4_isEmptyPage
    rw [sA_lA S 8]
    obtain ⟨fu, hfu, hfu2⟩ := fuel_ex; rw [hfu]
    rw [il_0]
    refine lp (fun n x (_ : Unit) => f_X4_isEmptyPage_L2 (lA (sA S 8)) (iI p) n (iI x)) (fun r => r = some (iI 0) ∧ (∃ s, onPg V p s) ∨ r = some (iI 1) ∧ (∀ s, ¬ onPg V p s)) 24 (fun x _ => 0 ≤ x ∧ ∀ s, s < x → ¬ onPg V p s) ?_ ?_ fu 0 () (by omega) (by omega) ⟨by omega, fun s h1 h2 => by have := h2.1; omega⟩
    · rintro n - ⟨-, h⟩
      refine Or.inr ⟨?_, fun s hs => h s (by have := hs.2.1; omega) hs⟩
      simp only [f_X4_isEmptyPage_L2]
      simp (disch := omega) only [↓bd_e, ↓jn_e, ↓opt_bind, ↓reduceIte, iLeT, iLeF, iLtT, iLtF, iEqT, iEqF, il_0, il_1, il_2, il_3, il_4, il_5, il_6, il_7, il_8, il_9, il_10, il_11, il_12, il_13, il_14, il_15, il_16, il_18, il_20, il_24, il_32, il_35, il_40, il_44, il_47, il_48, il_56, il_57, il_58, il_59, il_63, il_64, il_72, il_100, il_120, il_126, il_127, il_160, il_192, il_255, il_349, il_1748, il_6992, iI_add, iI_sub, iI_mul, iI_neg, iI_le, iI_lt, iI_eq, rd_lA, wr_lA, rd_lR, wr_lR, ite_iI, max_iI, min_iI, rem_iI, div_iI, ite_true, ite_false, if_true, if_false, ite_self, and_self, and_true, true_and, and_false, false_and, or_self, or_true, true_or, or_false, false_or, not_true_eq_false, not_false_eq_true]
    · rintro n x - hx ⟨x0, h⟩ ih
      have e := h6 x x0 hx
      by_cases hon : onPg V p x
      · refine Or.inl ⟨?_, x, hon⟩
        obtain ⟨o1, o2, o3⟩ := hon
        rw [if_pos (by omega)] at e
        simp only [f_X4_isEmptyPage_L2]
        simp (disch := omega) only [↓bd_e, ↓jn_e, ↓opt_bind, ↓reduceIte, iLeT, iLeF, iLtT, iLtF, iEqT, iEqF, il_0, il_1, il_2, il_3, il_4, il_5, il_6, il_7, il_8, il_9, il_10, il_11, il_12, il_13, il_14, il_15, il_16, il_18, il_20, il_24, il_32, il_35, il_40, il_44, il_47, il_48, il_56, il_57, il_58, il_59, il_63, il_64, il_72, il_100, il_120, il_126, il_127, il_160, il_192, il_255, il_349, il_1748, il_6992, iI_add, iI_sub, iI_mul, iI_neg, iI_le, iI_lt, iI_eq, rd_lA, wr_lA, rd_lR, wr_lR, ite_iI, max_iI, min_iI, rem_iI, div_iI, ite_true, ite_false, if_true, if_false, ite_self, and_self, and_true, true_and, and_false, false_and, or_self, or_true, true_or, or_false, false_or, not_true_eq_false, not_false_eq_true, e, o3]
      · have ih := ih () ⟨by omega, fun s hs => by
          by_cases e : s = x
          · rw [e]; exact hon
          · exact h s (by omega)⟩
        have hne : sA S 8 x ≠ p := by
          rw [e]
          split
          · intro q
            exact hon ⟨x0, by omega, q⟩
          · omega
        have hrg : -4 ≤ sA S 8 x ∧ sA S 8 x < 100 := by
          rw [e]
          split
          · have := hP x x0 (by omega); omega
          · omega
        simp only [f_X4_isEmptyPage_L2] at ih ⊢
        simp (disch := omega) only [↓bd_e, ↓jn_e, ↓opt_bind, ↓reduceIte, iLeT, iLeF, iLtT, iLtF, iEqT, iEqF, il_0, il_1, il_2, il_3, il_4, il_5, il_6, il_7, il_8, il_9, il_10, il_11, il_12, il_13, il_14, il_15, il_16, il_18, il_20, il_24, il_32, il_35, il_40, il_44, il_47, il_48, il_56, il_57, il_58, il_59, il_63, il_64, il_72, il_100, il_120, il_126, il_127, il_160, il_192, il_255, il_349, il_1748, il_6992, iI_add, iI_sub, iI_mul, iI_neg, iI_le, iI_lt, iI_eq, rd_lA, wr_lA, rd_lR, wr_lR, ite_iI, max_iI, min_iI, rem_iI, div_iI, ite_true, ite_false, if_true, if_false, ite_self, and_self, and_true, true_and, and_false, false_and, or_self, or_true, true_or, or_false, false_or, not_true_eq_false, not_false_eq_true]
        exact ih
  rcases key with ⟨k1, k2⟩ | ⟨k1, k2⟩
  · exact ⟨fun _ => k1, fun h => by obtain ⟨s, hs⟩ := k2; exact absurd hs (h s)⟩
  · exact ⟨fun ⟨s, hs⟩ => absurd hs (k2 s), fun _ => k1⟩
theorem m_empty {V : Int → Int} {c : Nat → Int → Int} {p m : Int} {X Y W H : Int → Int} (h : bxI V c p (V 0) m X Y W H) : (m = 0 ∧ ∀ s, ¬ onPg V p s) ∨ (0 < m ∧ ∃ s, onPg V p s) := by
  have hm0 := h.1
  by_cases e : m = 0
  · refine Or.inl ⟨e, fun s hs => ?_⟩
    obtain ⟨k, k0, k1, -⟩ := h.2.2.1 s hs hs.2.1
    omega
  · refine Or.inr ⟨by omega, ?_⟩
    obtain ⟨s, hs, -⟩ := h.2.1 0 (by omega) (by omega)
    exact ⟨s, hs⟩
theorem x_open {V : Int → Int} {S : Nat → Nat → Int32} {c : Nat → Int → Int} (hs : vSet V) (hi : vImg V) (hp : vPlc V) (hb : ∀ j, 0 ≤ j → j < V 0 → vBl V c j) (hg : vGeo V c) (hr : sR V S) {i p : Int} (hi0 : 0 ≤ i ∧ i < V 0) (hp0 : 0 ≤ p ∧ p < 4) (A1 A2 A3 A4 : Nat → Int32) :
    ∃ o m B1 B2 B3 B4, f_X3_isOpenTo S (iI p) (iI i) = some (iI o) ∧ f_X11_isOpen (lA V) (lA (c 2)) (lA (c 3)) A1 A2 A3 A4 (iI p) (iI i) = some (iI o, m, B1, B2, B3, B4) ∧ (o = 0 ∨ o = 1) := by
  obtain ⟨m, X, Y, W, H, e1, hbx⟩ := m_boxesOf hs hi hp hb hg (p := p) (by omega) (fun z => (A1 z.toNat).toInt) (fun z => (A2 z.toNat).toInt) (fun z => (A3 z.toNat).toInt) (fun z => (A4 z.toNat).toInt)
  rw [← lA_of, ← lA_of, ← lA_of, ← lA_of] at e1
  have hemp := m_empty hbx
  have hn24 : V 0 ≤ 24 := hi.1.2
  have hm0 := hbx.1
  have h3 : V 3 ≤ 4 := by unfold vSet at hs; omega
  obtain ⟨ce1, ce2⟩ := c_isEmptyPage hr (p := p) (by omega) hn24 (fun s s0 s1 => by have := hp.2.1 s s0 s1; have := hp.1; omega)
  have h10 : V 10 = 0 ∨ V 10 = 1 := by unfold vSet at hs; omega
  have e10 : S 5 9 = iI (V 10) := hr.2.1 9 (by omega)
  have egr := (hi.2.1 i hi0.1 hi0.2).2.2
  have epg := hp.2.2 p hp0.1 hp0.2
  have r7 : sA S 7 p = V (14 + p) := hr.2.2.2.1 p hp0.1 hp0.2
  have r3 : sA S 3 i = V (20 + 72 * i + 2) := (hr.2.2.1 i hi0.1 hi0.2).2.2.1
  unfold f_X3_isOpenTo f_X11_isOpen f_X11_at
  rw [e1, opt_bind, e10]
  rcases h10 with h10 | h10
  · refine ⟨1, iI m, lA X, lA Y, lA W, lA H, ?_, ?_, Or.inr rfl⟩
    · simp (disch := omega) only [↓bd_e, ↓jn_e, ↓opt_bind, ↓reduceIte, iLeT, iLeF, iLtT, iLtF, iEqT, iEqF, il_0, il_1, il_2, il_3, il_4, il_5, il_6, il_7, il_8, il_9, il_10, il_11, il_12, il_13, il_14, il_15, il_16, il_18, il_20, il_24, il_32, il_35, il_40, il_44, il_47, il_48, il_56, il_57, il_58, il_59, il_63, il_64, il_72, il_100, il_120, il_126, il_127, il_160, il_192, il_255, il_349, il_1748, il_6992, iI_add, iI_sub, iI_mul, iI_neg, iI_le, iI_lt, iI_eq, rd_lA, wr_lA, rd_lR, wr_lR, ite_iI, max_iI, min_iI, rem_iI, div_iI, ite_true, ite_false, if_true, if_false, ite_self, and_self, and_true, true_and, and_false, false_and, or_self, or_true, true_or, or_false, false_or, not_true_eq_false, not_false_eq_true, h10]
    · simp (disch := omega) only [↓bd_e, ↓jn_e, ↓opt_bind, ↓reduceIte, iLeT, iLeF, iLtT, iLtF, iEqT, iEqF, il_0, il_1, il_2, il_3, il_4, il_5, il_6, il_7, il_8, il_9, il_10, il_11, il_12, il_13, il_14, il_15, il_16, il_18, il_20, il_24, il_32, il_35, il_40, il_44, il_47, il_48, il_56, il_57, il_58, il_59, il_63, il_64, il_72, il_100, il_120, il_126, il_127, il_160, il_192, il_255, il_349, il_1748, il_6992, iI_add, iI_sub, iI_mul, iI_neg, iI_le, iI_lt, iI_eq, rd_lA, wr_lA, rd_lR, wr_lR, ite_iI, max_iI, min_iI, rem_iI, div_iI, ite_true, ite_false, if_true, if_false, ite_self, and_self, and_true, true_and, and_false, false_and, or_self, or_true, true_or, or_false, false_or, not_true_eq_false, not_false_eq_true, h10]
  · rcases hemp with ⟨hm, hno⟩ | ⟨hm, hex⟩
    · refine ⟨1, iI m, lA X, lA Y, lA W, lA H, ?_, ?_, Or.inr rfl⟩
      · rw [ce2 hno, sA_lA S 7, sA_lA S 3]
        simp (disch := omega) only [↓bd_e, ↓jn_e, ↓opt_bind, ↓reduceIte, iLeT, iLeF, iLtT, iLtF, iEqT, iEqF, il_0, il_1, il_2, il_3, il_4, il_5, il_6, il_7, il_8, il_9, il_10, il_11, il_12, il_13, il_14, il_15, il_16, il_18, il_20, il_24, il_32, il_35, il_40, il_44, il_47, il_48, il_56, il_57, il_58, il_59, il_63, il_64, il_72, il_100, il_120, il_126, il_127, il_160, il_192, il_255, il_349, il_1748, il_6992, iI_add, iI_sub, iI_mul, iI_neg, iI_le, iI_lt, iI_eq, rd_lA, wr_lA, rd_lR, wr_lR, ite_iI, max_iI, min_iI, rem_iI, div_iI, ite_true, ite_false, if_true, if_false, ite_self, and_self, and_true, true_and, and_false, false_and, or_self, or_true, true_or, or_false, false_or, not_true_eq_false, not_false_eq_true, h10, r7, r3]
      · simp (disch := omega) only [↓bd_e, ↓jn_e, ↓opt_bind, ↓reduceIte, iLeT, iLeF, iLtT, iLtF, iEqT, iEqF, il_0, il_1, il_2, il_3, il_4, il_5, il_6, il_7, il_8, il_9, il_10, il_11, il_12, il_13, il_14, il_15, il_16, il_18, il_20, il_24, il_32, il_35, il_40, il_44, il_47, il_48, il_56, il_57, il_58, il_59, il_63, il_64, il_72, il_100, il_120, il_126, il_127, il_160, il_192, il_255, il_349, il_1748, il_6992, iI_add, iI_sub, iI_mul, iI_neg, iI_le, iI_lt, iI_eq, rd_lA, wr_lA, rd_lR, wr_lR, ite_iI, max_iI, min_iI, rem_iI, div_iI, ite_true, ite_false, if_true, if_false, ite_self, and_self, and_true, true_and, and_false, false_and, or_self, or_true, true_or, or_false, false_or, not_true_eq_false, not_false_eq_true, h10]
    · rw [ce1 hex, sA_lA S 7, sA_lA S 3]
      by_cases hgq : V (14 + p) = V (20 + 72 * i + 2)
      · refine ⟨1, iI m, lA X, lA Y, lA W, lA H, ?_, ?_, Or.inr rfl⟩
        · simp (disch := omega) only [↓bd_e, ↓jn_e, ↓opt_bind, ↓reduceIte, iLeT, iLeF, iLtT, iLtF, iEqT, iEqF, il_0, il_1, il_2, il_3, il_4, il_5, il_6, il_7, il_8, il_9, il_10, il_11, il_12, il_13, il_14, il_15, il_16, il_18, il_20, il_24, il_32, il_35, il_40, il_44, il_47, il_48, il_56, il_57, il_58, il_59, il_63, il_64, il_72, il_100, il_120, il_126, il_127, il_160, il_192, il_255, il_349, il_1748, il_6992, iI_add, iI_sub, iI_mul, iI_neg, iI_le, iI_lt, iI_eq, rd_lA, wr_lA, rd_lR, wr_lR, ite_iI, max_iI, min_iI, rem_iI, div_iI, ite_true, ite_false, if_true, if_false, ite_self, and_self, and_true, true_and, and_false, false_and, or_self, or_true, true_or, or_false, false_or, not_true_eq_false, not_false_eq_true, h10, r7, r3]
        · simp (disch := omega) only [↓bd_e, ↓jn_e, ↓opt_bind, ↓reduceIte, iLeT, iLeF, iLtT, iLtF, iEqT, iEqF, il_0, il_1, il_2, il_3, il_4, il_5, il_6, il_7, il_8, il_9, il_10, il_11, il_12, il_13, il_14, il_15, il_16, il_18, il_20, il_24, il_32, il_35, il_40, il_44, il_47, il_48, il_56, il_57, il_58, il_59, il_63, il_64, il_72, il_100, il_120, il_126, il_127, il_160, il_192, il_255, il_349, il_1748, il_6992, iI_add, iI_sub, iI_mul, iI_neg, iI_le, iI_lt, iI_eq, rd_lA, wr_lA, rd_lR, wr_lR, ite_iI, max_iI, min_iI, rem_iI, div_iI, ite_true, ite_false, if_true, if_false, ite_self, and_self, and_true, true_and, and_false, false_and, or_self, or_true, true_or, or_false, false_or, not_true_eq_false, not_false_eq_true, h10]
      · refine ⟨0, iI m, lA X, lA Y, lA W, lA H, ?_, ?_, Or.inl rfl⟩
        · simp (disch := omega) only [↓bd_e, ↓jn_e, ↓opt_bind, ↓reduceIte, iLeT, iLeF, iLtT, iLtF, iEqT, iEqF, il_0, il_1, il_2, il_3, il_4, il_5, il_6, il_7, il_8, il_9, il_10, il_11, il_12, il_13, il_14, il_15, il_16, il_18, il_20, il_24, il_32, il_35, il_40, il_44, il_47, il_48, il_56, il_57, il_58, il_59, il_63, il_64, il_72, il_100, il_120, il_126, il_127, il_160, il_192, il_255, il_349, il_1748, il_6992, iI_add, iI_sub, iI_mul, iI_neg, iI_le, iI_lt, iI_eq, rd_lA, wr_lA, rd_lR, wr_lR, ite_iI, max_iI, min_iI, rem_iI, div_iI, ite_true, ite_false, if_true, if_false, ite_self, and_self, and_true, true_and, and_false, false_and, or_self, or_true, true_or, or_false, false_or, not_true_eq_false, not_false_eq_true, h10, r7, r3]
        · simp (disch := omega) only [↓bd_e, ↓jn_e, ↓opt_bind, ↓reduceIte, iLeT, iLeF, iLtT, iLtF, iEqT, iEqF, il_0, il_1, il_2, il_3, il_4, il_5, il_6, il_7, il_8, il_9, il_10, il_11, il_12, il_13, il_14, il_15, il_16, il_18, il_20, il_24, il_32, il_35, il_40, il_44, il_47, il_48, il_56, il_57, il_58, il_59, il_63, il_64, il_72, il_100, il_120, il_126, il_127, il_160, il_192, il_255, il_349, il_1748, il_6992, iI_add, iI_sub, iI_mul, iI_neg, iI_le, iI_lt, iI_eq, rd_lA, wr_lA, rd_lR, wr_lR, ite_iI, max_iI, min_iI, rem_iI, div_iI, ite_true, ite_false, if_true, if_false, ite_self, and_self, and_true, true_and, and_false, false_and, or_self, or_true, true_or, or_false, false_or, not_true_eq_false, not_false_eq_true, h10]
/-! a new page -/
theorem new_En {V : Int → Int} {c : Nat → Int → Int} {W H p : Int} (hno : ∀ s, ¬ onPg V p s) : En (if 0 < W ∧ 0 < H then 1 else 0) (fun _ => cd 0 0 W H) (rS (mxR W H (blk V c p))) := by
  have hnb : ∀ x y, ¬ blk V c p x y := fun x y ⟨s, h, _⟩ => hno s h
  by_cases hWH : 0 < W ∧ 0 < H
  · rw [if_pos hWH]
    refine ⟨by omega, fun j k _ _ _ => by omega, fun k _ _ => ⟨0, 0, W, H, rfl, by omega, fun a b _ _ _ _ => hnb a b, Or.inl rfl, Or.inl (by omega), Or.inl rfl, Or.inl (by omega)⟩, ?_⟩
    rintro z ⟨x, y, w, h, rfl, h1, h2, h3, h4, h5, h6⟩
    refine ⟨0, by omega, by omega, ?_⟩
    have e1 : x = 0 := h3.resolve_right (fun ⟨b, _, _, q⟩ => hnb _ _ q)
    have e2 : x + w = W := h4.resolve_right (fun ⟨b, _, _, q⟩ => hnb _ _ q)
    have e3 : y = 0 := h5.resolve_right (fun ⟨b, _, _, q⟩ => hnb _ _ q)
    have e4 : y + h = H := h6.resolve_right (fun ⟨b, _, _, q⟩ => hnb _ _ q)
    show cd 0 0 W H = cd x y w h
    rw [e1, e3, show w = W by omega, show h = H by omega]
  · rw [if_neg hWH]
    refine En_0 ?_
    rintro z ⟨x, y, w, h, rfl, h1, -⟩
    omega
theorem c_newPage {V : Int → Int} {S : Nat → Nat → Int32} {d : Nat → Int → Int} (hs : vSet V) (hr : sR V S) (hp : 0 ≤ V 13 ∧ V 13 < 4) (i : Int) (x0 y0 t0 f0 s0 : Int32) :
    f_X3_chooseOnNewPage x0 y0 t0 f0 s0 S (lA (d 2)) (lA (d 3)) (iI i) = f_X3_chooseOn (lA (fun _ => cd 0 0 (fldW V) (fldH V))) (lA (fun _ => if 0 < fldW V ∧ 0 < fldH V then 1 else 0)) x0 y0 t0 f0 s0 S (lA (d 2)) (lA (d 3)) (iI (V 13)) (iI i) := by
  have hWH : (-100 ≤ fldW V ∧ fldW V ≤ 35) ∧ (-100 ≤ fldH V ∧ fldH V ≤ 35) := by
    unfold vSet at hs
    unfold fldW fldH
    omega
  unfold f_X3_chooseOnNewPage f_X3_chooseOn f_X1_startOn f_X5_fieldPositions
  rw [c_fieldW hr.2.1, c_fieldH hr.2.1, hr.1.2]
  obtain ⟨fu, hfu, hfu2⟩ := fuel_ex
  rw [hfu]
  obtain ⟨n, rfl⟩ : ∃ n, fu = n + 2 := ⟨fu - 2, by omega⟩
  simp only [bd_e, jn_e]
  by_cases hpos : 0 < fldW V ∧ 0 < fldH V
  · have hmul : 1 ≤ fldW V * fldH V ∧ fldW V * fldH V ≤ 35 * 35 := ⟨Int.mul_le_mul (show 1 ≤ fldW V by omega) (show 1 ≤ fldH V by omega) (by omega) (by omega), Int.mul_le_mul hWH.1.2 hWH.2.2 (by omega) (by omega)⟩
    have m1 : max (fldW V) 0 = fldW V := by omega
    have m2 : max (fldH V) 0 = fldH V := by omega
    have ecode : f_X7_code (iI 0) (iI 0) (iI (fldW V)) (iI (fldH V)) = iI (cd 0 0 (fldW V) (fldH V)) := code_iI (by omega) (by omega) (by omega) (by omega)
    simp (disch := omega) only [↓bd_e, ↓jn_e, ↓opt_bind, ↓reduceIte, iLeT, iLeF, iLtT, iLtF, iEqT, iEqF, il_0, il_1, il_2, il_3, il_4, il_5, il_6, il_7, il_8, il_9, il_10, il_11, il_12, il_13, il_14, il_15, il_16, il_18, il_20, il_24, il_32, il_35, il_40, il_44, il_47, il_48, il_56, il_57, il_58, il_59, il_63, il_64, il_72, il_100, il_120, il_126, il_127, il_160, il_192, il_255, il_349, il_1748, il_6992, iI_add, iI_sub, iI_mul, iI_neg, iI_le, iI_lt, iI_eq, rd_lA, wr_lA, rd_lR, wr_lR, ite_iI, max_iI, min_iI, rem_iI, div_iI, ite_true, ite_false, if_true, if_false, ite_self, and_self, and_true, true_and, and_false, false_and, or_self, or_true, true_or, or_false, false_or, not_true_eq_false, not_false_eq_true, f_X3_chooseOn_L10, f_X7_codeOf, if_pos hpos, m1, m2, ecode]
  · have hz : max (fldW V) 0 * max (fldH V) 0 = 0 := by
      rcases (show max (fldW V) 0 = 0 ∨ max (fldH V) 0 = 0 by omega) with e | e
      · rw [e, Int.zero_mul]
      · rw [e, Int.mul_zero]
    simp (disch := omega) only [↓bd_e, ↓jn_e, ↓opt_bind, ↓reduceIte, iLeT, iLeF, iLtT, iLtF, iEqT, iEqF, il_0, il_1, il_2, il_3, il_4, il_5, il_6, il_7, il_8, il_9, il_10, il_11, il_12, il_13, il_14, il_15, il_16, il_18, il_20, il_24, il_32, il_35, il_40, il_44, il_47, il_48, il_56, il_57, il_58, il_59, il_63, il_64, il_72, il_100, il_120, il_126, il_127, il_160, il_192, il_255, il_349, il_1748, il_6992, iI_add, iI_sub, iI_mul, iI_neg, iI_le, iI_lt, iI_eq, rd_lA, wr_lA, rd_lR, wr_lR, ite_iI, max_iI, min_iI, rem_iI, div_iI, ite_true, ite_false, if_true, if_false, ite_self, and_self, and_true, true_and, and_false, false_and, or_self, or_true, true_or, or_false, false_or, not_true_eq_false, not_false_eq_true, f_X3_chooseOn_L10, if_neg hpos, hz]
