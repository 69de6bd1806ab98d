/-! maximal free rectangles, as numbers in ascending order -/
def mxR (W H : Int) (B : Int → Int → Prop) (x y w h : Int) : Prop :=
  (0 ≤ x ∧ 0 ≤ y ∧ 0 < w ∧ 0 < h ∧ x + w ≤ W ∧ y + h ≤ H) ∧ (∀ a b, x ≤ a → a < x + w → y ≤ b → b < y + h → ¬ B a b) ∧
  (x = 0 ∨ ∃ b, y ≤ b ∧ b < y + h ∧ B (x - 1) b) ∧ (x + w = W ∨ ∃ b, y ≤ b ∧ b < y + h ∧ B (x + w) b) ∧
  (y = 0 ∨ ∃ a, x ≤ a ∧ a < x + w ∧ B a (y - 1)) ∧ (y + h = H ∨ ∃ a, x ≤ a ∧ a < x + w ∧ B a (y + h))
def cd (x y w h : Int) : Int := ((y * 64 + x) * 64 + w) * 64 + h
theorem cd_inj {x y w h x' y' w' h' : Int} (hx : 0 ≤ x ∧ x < 64) (hw : 0 ≤ w ∧ w < 64) (hh : 0 ≤ h ∧ h < 64) (hx' : 0 ≤ x' ∧ x' < 64) (hw' : 0 ≤ w' ∧ w' < 64) (hh' : 0 ≤ h' ∧ h' < 64) (e : cd x y w h = cd x' y' w' h') : x = x' ∧ y = y' ∧ w = w' ∧ h = h' := by
  unfold cd at e
  omega
theorem mx_h {W H : Int} {B : Int → Int → Prop} {x y w h h' : Int} (a : mxR W H B x y w h) (b : mxR W H B x y w h') : h = h' := by
  have key : ∀ {h h' : Int}, mxR W H B x y w h → mxR W H B x y w h' → ¬ h < h' := by
    intro h h' a b hl
    obtain ⟨a1, a2, a3, a4, a5, a6⟩ := a
    obtain ⟨b1, b2, b3, b4, b5, b6⟩ := b
    rcases a6 with a6 | ⟨q, q1, q2, q3⟩
    · omega
    · exact b2 q (y + h) q1 q2 (by omega) (by omega) q3
  have h1 := key a b
  have h2 := key b a
  omega
/-- C enumerates the set S in ascending order, in its first n places -/
def En (n : Int) (C : Int → Int) (S : Int → Prop) : Prop := 0 ≤ n ∧ (∀ j k, 0 ≤ j → j < k → k < n → C j < C k) ∧ (∀ k, 0 ≤ k → k < n → S (C k)) ∧ ∀ z, S z → ∃ k, 0 ≤ k ∧ k < n ∧ C k = z
theorem En_0 {C : Int → Int} {S : Int → Prop} (h : ∀ z, ¬ S z) : En 0 C S := ⟨by omega, fun j k _ _ _ => by omega, fun k _ _ => by omega, fun z hz => absurd hz (h z)⟩
theorem En_iff {n : Int} {C : Int → Int} {S S' : Int → Prop} (h : En n C S) (e : ∀ z, S z ↔ S' z) : En n C S' := ⟨h.1, h.2.1, fun k k0 k1 => (e _).mp (h.2.2.1 k k0 k1), fun z hz => h.2.2.2 z ((e z).mpr hz)⟩
theorem En_uniq {n n' : Int} {C C' : Int → Int} {S : Int → Prop} (h : En n C S) (h' : En n' C' S) : n = n' ∧ ∀ k, 0 ≤ k → k < n → C k = C' k := by
  obtain ⟨a0, a1, a2, a3⟩ := h
  obtain ⟨b0, b1, b2, b3⟩ := h'
  have key : ∀ k : Nat, (k : Int) < n → (k : Int) < n' → C k = C' k := by
    intro k
    induction k using Nat.strongRecOn with
    | _ k ih =>
      intro h1 h2
      obtain ⟨j, j0, j1, j2⟩ := b3 _ (a2 k (by omega) h1)
      obtain ⟨i, i0, i1, i2⟩ := a3 _ (b2 k (by omega) h2)
      have hj : ¬ j < k := fun hl => by
        have e := ih j.toNat (by omega) (by omega) (by omega)
        rw [Int.toNat_of_nonneg j0] at e
        have := a1 j k j0 hl h1
        omega
      have hi : ¬ i < k := fun hl => by
        have e := ih i.toNat (by omega) (by omega) (by omega)
        rw [Int.toNat_of_nonneg i0] at e
        have := b1 i k i0 hl h2
        omega
      have c1 : C' k ≤ C' j := by
        by_cases e : j = k
        · rw [e]; omega
        · have := b1 k j (by omega) (by omega) j1
          omega
      have c2 : C k ≤ C i := by
        by_cases e : i = k
        · rw [e]; omega
        · have := a1 k i (by omega) (by omega) i1
          omega
      omega
  have hn : n = n' := by
    apply Classical.byContradiction
    intro hne
    rcases (show n < n' ∨ n' < n by omega) with hl | hl
    · obtain ⟨j, j0, j1, j2⟩ := a3 _ (b2 n a0 hl)
      have e := key j.toNat (by omega) (by omega)
      rw [Int.toNat_of_nonneg j0] at e
      have := b1 j n j0 j1 hl
      omega
    · obtain ⟨j, j0, j1, j2⟩ := b3 _ (a2 n' b0 hl)
      have e := key j.toNat (by omega) (by omega)
      rw [Int.toNat_of_nonneg j0] at e
      have := a1 j n' j0 j1 hl
      omega
  refine ⟨hn, fun k k0 k1 => ?_⟩
  have := key k.toNat (by omega) (by omega)
  rwa [Int.toNat_of_nonneg k0] at this
/-- C' is C with z put in at p -/
theorem En_ins {n p z : Int} {C C' : Int → Int} {S : Int → Prop} (h : En n C S) (hz : ¬ S z) (hp : 0 ≤ p ∧ p ≤ n) (h1 : ∀ j, 0 ≤ j → j < p → C' j = C j ∧ C j ≤ z) (h2 : C' p = z) (h3 : ∀ j, p ≤ j → j < n → C' (j + 1) = C j ∧ z ≤ C j) : En (n + 1) C' (fun q => S q ∨ q = z) := by
  obtain ⟨a0, a1, a2, a3⟩ := h
  have hne : ∀ k, 0 ≤ k → k < n → C k ≠ z := fun k k0 k1 e => hz (e ▸ a2 k k0 k1)
  have hC : ∀ k, 0 ≤ k → k < n + 1 → C' k = if k < p then C k else if k = p then z else C (k - 1) := by
    intro k k0 k1
    by_cases e : k < p
    · rw [if_pos e]
      exact (h1 k k0 e).1
    · rw [if_neg e]
      by_cases e2 : k = p
      · rw [if_pos e2, e2, h2]
      · rw [if_neg e2]
        have := (h3 (k - 1) (by omega) (by omega)).1
        rwa [show k - 1 + 1 = k by omega] at this
  refine ⟨by omega, fun j k j0 jk k1 => ?_, fun k k0 k1 => ?_, fun q hq => ?_⟩
  · rw [hC j j0 (by omega), hC k (by omega) k1]
    by_cases e : k < p
    · rw [if_pos (by omega), if_pos e]
      exact a1 j k j0 jk (by omega)
    · rw [if_neg e]
      by_cases e2 : k = p
      · rw [if_pos e2, if_pos (by omega)]
        have := (h1 j j0 (by omega)).2
        have := hne j j0 (by omega)
        omega
      · rw [if_neg e2]
        by_cases e3 : j < p
        · rw [if_pos e3]
          by_cases e4 : j = k - 1
          · omega
          · exact a1 j (k - 1) j0 (by omega) (by omega)
        · rw [if_neg e3]
          by_cases e5 : j = p
          · rw [if_pos e5]
            have := (h3 (k - 1) (by omega) (by omega)).2
            have := hne (k - 1) (by omega) (by omega)
            omega
          · rw [if_neg e5]
            exact a1 (j - 1) (k - 1) (by omega) (by omega) (by omega)
  · rw [hC k k0 k1]
    by_cases e : k < p
    · rw [if_pos e]
      exact Or.inl (a2 k k0 (by omega))
    · rw [if_neg e]
      by_cases e2 : k = p
      · rw [if_pos e2]
        exact Or.inr rfl
      · rw [if_neg e2]
        exact Or.inl (a2 (k - 1) (by omega) (by omega))
  · rcases hq with hq | hq
    · obtain ⟨k, k0, k1, k2⟩ := a3 q hq
      by_cases e : k < p
      · exact ⟨k, k0, by omega, by rw [hC k k0 (by omega), if_pos e, k2]⟩
      · exact ⟨k + 1, by omega, by omega, by rw [hC (k + 1) (by omega) (by omega), if_neg (by omega), if_neg (by omega), show k + 1 - 1 = k by omega, k2]⟩
    · exact ⟨p, hp.1, by omega, by rw [h2, hq]⟩
/-- a set of rectangles -/
def rS (P : Int → Int → Int → Int → Prop) (z : Int) : Prop := ∃ x y w h, z = cd x y w h ∧ P x y w h
/-! the boxes of a page -/
def onPg (V : Int → Int) (p s : Int) : Prop := 0 ≤ s ∧ s < V 0 ∧ V (20 + 72 * s + 3) = p
def blk (V : Int → Int) (c : Nat → Int → Int) (p x y : Int) : Prop := ∃ s, onPg V p s ∧ V (20 + 72 * s + 4) ≤ x ∧ x < V (20 + 72 * s + 4) + bxW V c s (V (20 + 72 * s + 6)) ∧ V (20 + 72 * s + 5) ≤ y ∧ y < V (20 + 72 * s + 5) + bxH V c s (V (20 + 72 * s + 6))
theorem m_fieldW {V : Int → Int} (hs : vSet V) : f_X11_fieldWidth (lA V) = some (iI (fldW V)) := by
  unfold f_X11_fieldWidth fldW
  simp (disch := omega) only [↓bd_e, ↓jn_e, ↓opt_bind, ↓reduceIte, iLeT, iLeF, iLtT, iLtF, iEqT, iEqF, il_0, il_1, il_2, il_3, il_4, il_5, il_6, il_7, il_8, il_9, il_10, il_11, il_12, il_13, il_14, il_15, il_16, il_18, il_20, il_24, il_32, il_35, il_40, il_44, il_47, il_48, il_56, il_57, il_58, il_59, il_63, il_64, il_72, il_100, il_120, il_126, il_127, il_160, il_192, il_255, il_349, il_1748, il_6992, iI_add, iI_sub, iI_mul, iI_neg, iI_le, iI_lt, iI_eq, rd_lA, wr_lA, rd_lR, wr_lR, ite_iI, max_iI, min_iI, rem_iI, div_iI, ite_true, ite_false, if_true, if_false, ite_self, and_self, and_true, true_and, and_false, false_and, or_self, or_true, true_or, or_false, false_or, not_true_eq_false, not_false_eq_true]
theorem m_fieldH {V : Int → Int} (hs : vSet V) : f_X11_fieldHeight (lA V) = some (iI (fldH V)) := by
  unfold f_X11_fieldHeight fldH
  simp (disch := omega) only [↓bd_e, ↓jn_e, ↓opt_bind, ↓reduceIte, iLeT, iLeF, iLtT, iLtF, iEqT, iEqF, il_0, il_1, il_2, il_3, il_4, il_5, il_6, il_7, il_8, il_9, il_10, il_11, il_12, il_13, il_14, il_15, il_16, il_18, il_20, il_24, il_32, il_35, il_40, il_44, il_47, il_48, il_56, il_57, il_58, il_59, il_63, il_64, il_72, il_100, il_120, il_126, il_127, il_160, il_192, il_255, il_349, il_1748, il_6992, iI_add, iI_sub, iI_mul, iI_neg, iI_le, iI_lt, iI_eq, rd_lA, wr_lA, rd_lR, wr_lR, ite_iI, max_iI, min_iI, rem_iI, div_iI, ite_true, ite_false, if_true, if_false, ite_self, and_self, and_true, true_and, and_false, false_and, or_self, or_true, true_or, or_false, false_or, not_true_eq_false, not_false_eq_true]
theorem m_boxW {V : Int → Int} (c : Nat → Int → Int) {s t : Int} (hs : 0 ≤ s ∧ s < 24) (ht : t = 0 ∨ t = 1) : f_X11_boxWidth (lA V) (lA (c 2)) (lA (c 3)) (iI s) (iI t) = some (iI (bxW V c s t)) := by
  unfold f_X11_boxWidth f_X11_imageWidth bxW
  rcases ht with rfl | rfl
  · simp (disch := omega) only [↓bd_e, ↓jn_e, ↓opt_bind, ↓reduceIte, iLeT, iLeF, iLtT, iLtF, iEqT, iEqF, il_0, il_1, il_2, il_3, il_4, il_5, il_6, il_7, il_8, il_9, il_10, il_11, il_12, il_13, il_14, il_15, il_16, il_18, il_20, il_24, il_32, il_35, il_40, il_44, il_47, il_48, il_56, il_57, il_58, il_59, il_63, il_64, il_72, il_100, il_120, il_126, il_127, il_160, il_192, il_255, il_349, il_1748, il_6992, iI_add, iI_sub, iI_mul, iI_neg, iI_le, iI_lt, iI_eq, rd_lA, wr_lA, rd_lR, wr_lR, ite_iI, max_iI, min_iI, rem_iI, div_iI, ite_true, ite_false, if_true, if_false, ite_self, and_self, and_true, true_and, and_false, false_and, or_self, or_true, true_or, or_false, false_or, not_true_eq_false, not_false_eq_true]
  · simp (disch := omega) only [↓bd_e, ↓jn_e, ↓opt_bind, ↓reduceIte, iLeT, iLeF, iLtT, iLtF, iEqT, iEqF, il_0, il_1, il_2, il_3, il_4, il_5, il_6, il_7, il_8, il_9, il_10, il_11, il_12, il_13, il_14, il_15, il_16, il_18, il_20, il_24, il_32, il_35, il_40, il_44, il_47, il_48, il_56, il_57, il_58, il_59, il_63, il_64, il_72, il_100, il_120, il_126, il_127, il_160, il_192, il_255, il_349, il_1748, il_6992, iI_add, iI_sub, iI_mul, iI_neg, iI_le, iI_lt, iI_eq, rd_lA, wr_lA, rd_lR, wr_lR, ite_iI, max_iI, min_iI, rem_iI, div_iI, ite_true, ite_false, if_true, if_false, ite_self, and_self, and_true, true_and, and_false, false_and, or_self, or_true, true_or, or_false, false_or, not_true_eq_false, not_false_eq_true]
theorem m_boxH {V : Int → Int} (c : Nat → Int → Int) {s t : Int} (hs : 0 ≤ s ∧ s < 24) (ht : t = 0 ∨ t = 1) : f_X11_boxHeight (lA V) (lA (c 2)) (lA (c 3)) (iI s) (iI t) = some (iI (bxH V c s t)) := by
  unfold f_X11_boxHeight f_X11_imageHeight bxH
  rcases ht with rfl | rfl
  · simp (disch := omega) only [↓bd_e, ↓jn_e, ↓opt_bind, ↓reduceIte, iLeT, iLeF, iLtT, iLtF, iEqT, iEqF, il_0, il_1, il_2, il_3, il_4, il_5, il_6, il_7, il_8, il_9, il_10, il_11, il_12, il_13, il_14, il_15, il_16, il_18, il_20, il_24, il_32, il_35, il_40, il_44, il_47, il_48, il_56, il_57, il_58, il_59, il_63, il_64, il_72, il_100, il_120, il_126, il_127, il_160, il_192, il_255, il_349, il_1748, il_6992, iI_add, iI_sub, iI_mul, iI_neg, iI_le, iI_lt, iI_eq, rd_lA, wr_lA, rd_lR, wr_lR, ite_iI, max_iI, min_iI, rem_iI, div_iI, ite_true, ite_false, if_true, if_false, ite_self, and_self, and_true, true_and, and_false, false_and, or_self, or_true, true_or, or_false, false_or, not_true_eq_false, not_false_eq_true]
  · simp (disch := omega) only [↓bd_e, ↓jn_e, ↓opt_bind, ↓reduceIte, iLeT, iLeF, iLtT, iLtF, iEqT, iEqF, il_0, il_1, il_2, il_3, il_4, il_5, il_6, il_7, il_8, il_9, il_10, il_11, il_12, il_13, il_14, il_15, il_16, il_18, il_20, il_24, il_32, il_35, il_40, il_44, il_47, il_48, il_56, il_57, il_58, il_59, il_63, il_64, il_72, il_100, il_120, il_126, il_127, il_160, il_192, il_255, il_349, il_1748, il_6992, iI_add, iI_sub, iI_mul, iI_neg, iI_le, iI_lt, iI_eq, rd_lA, wr_lA, rd_lR, wr_lR, ite_iI, max_iI, min_iI, rem_iI, div_iI, ite_true, ite_false, if_true, if_false, ite_self, and_self, and_true, true_and, and_false, false_and, or_self, or_true, true_or, or_false, false_or, not_true_eq_false, not_false_eq_true]
/-- a list of m boxes, from the top down, that covers just what is blocked of the sprites below s -/
def bxI (V : Int → Int) (c : Nat → Int → Int) (p s m : Int) (X Y W H : Int → Int) : Prop :=
  (0 ≤ m ∧ m ≤ s) ∧ (∀ k, 0 ≤ k → k < m → ∃ i, onPg V p i ∧ i < s ∧ X k = V (20 + 72 * i + 4) ∧ Y k = V (20 + 72 * i + 5) ∧ W k = bxW V c i (V (20 + 72 * i + 6)) ∧ H k = bxH V c i (V (20 + 72 * i + 6))) ∧
  (∀ i, onPg V p i → i < s → ∃ k, 0 ≤ k ∧ k < m ∧ X k = V (20 + 72 * i + 4) ∧ Y k = V (20 + 72 * i + 5) ∧ W k = bxW V c i (V (20 + 72 * i + 6)) ∧ H k = bxH V c i (V (20 + 72 * i + 6))) ∧
  (∀ j k, 0 ≤ j → j < k → k < m → Y j ≤ Y k)
theorem geo_r {V : Int → Int} {c : Nat → Int → Int} (hs : vSet V) (hb : ∀ j, 0 ≤ j → j < V 0 → vBl V c j) (hg : vGeo V c) {i : Int} (i0 : 0 ≤ i) (i1 : i < V 0) (i2 : 0 ≤ V (20 + 72 * i + 3)) : (V (20 + 72 * i + 6) = 0 ∨ V (20 + 72 * i + 6) = 1) ∧ 0 ≤ V (20 + 72 * i + 4) ∧ V (20 + 72 * i + 4) + bxW V c i (V (20 + 72 * i + 6)) ≤ fldW V ∧ 0 ≤ V (20 + 72 * i + 5) ∧ V (20 + 72 * i + 5) + bxH V c i (V (20 + 72 * i + 6)) ≤ fldH V ∧ 1 ≤ bxW V c i (V (20 + 72 * i + 6)) ∧ 1 ≤ bxH V c i (V (20 + 72 * i + 6)) ∧ fldW V ≤ 35 ∧ fldH V ≤ 35 ∧ bxW V c i (V (20 + 72 * i + 6)) ≤ 15 ∧ bxH V c i (V (20 + 72 * i + 6)) ≤ 15 := by
  obtain ⟨⟨h1, h2⟩, h3, h4, h5, h6, h7⟩ := hg.1 i i0 i1 i2
  obtain ⟨-, ⟨k1, k2, k3, k4, k5, k6⟩, k7, k8⟩ := (hb i i0 i1).resolve_left (by omega)
  unfold vSet at hs
  refine ⟨h3, h4, h5, h6, h7, ?_, ?_, ?_, ?_, ?_, ?_⟩
  · unfold bxW; split <;> omega
  · unfold bxH; split <;> omega
  · unfold fldW; omega
  · unfold fldH; omega
  · unfold bxW; split <;> omega
  · unfold bxH; split <;> omega
theorem m_boxes_in {V : Int → Int} {s m : Int} (hs : 0 ≤ s ∧ s < 24) (hm : 0 ≤ m ∧ m < 24) (y0 : 0 ≤ V (20 + 72 * s + 5) ∧ V (20 + 72 * s + 5) < 100) {P : Option (Int32 × (Nat → Int32) × (Nat → Int32) × (Nat → Int32) × (Nat → Int32)) → Prop} (X Y W H : Int → Int) (hY : ∀ k, 0 ≤ k → k < m → 0 ≤ Y k ∧ Y k < 100) (K : Int32 → (Nat → Int32) → (Nat → Int32) → (Nat → Int32) → (Nat → Int32) → Option (Int32 × (Nat → Int32) × (Nat → Int32) × (Nat → Int32) × (Nat → Int32)))
    (hK : ∀ k X' Y' W' H', 0 ≤ k → k ≤ m → (∀ j, 0 ≤ j → j < k → X' j = X j ∧ Y' j = Y j ∧ W' j = W j ∧ H' j = H j) → (∀ j, k ≤ j → j < m → X' (j + 1) = X j ∧ Y' (j + 1) = Y j ∧ W' (j + 1) = W j ∧ H' (j + 1) = H j ∧ V (20 + 72 * s + 5) < Y j) → (0 < k → Y (k - 1) ≤ V (20 + 72 * s + 5)) → P (K (iI k) (lA X') (lA Y') (lA W') (lA H'))) (n : Nat) (hn : 24 < n) : P (f_X11_boxesOf_L39 (lA V) (iI s) K n (iI m) (lA X) (lA Y) (lA W) (lA H)) := by
  have key : P (f_X11_boxesOf_L39 (lA V) (iI s) K n (iI (m - 0)) (lA X) (lA Y) (lA W) (lA H)) := by
    refine lp (fun n x (t : (Int → Int) × (Int → Int) × (Int → Int) × (Int → Int)) => f_X11_boxesOf_L39 (lA V) (iI s) K n (iI (m - x)) (lA t.1) (lA t.2.1) (lA t.2.2.1) (lA t.2.2.2)) P m
      (fun x t => 0 ≤ x ∧ (∀ j, 0 ≤ j → j < m - x → t.1 j = X j ∧ t.2.1 j = Y j ∧ t.2.2.1 j = W j ∧ t.2.2.2 j = H j) ∧ (∀ j, m - x ≤ j → j < m → t.1 (j + 1) = X j ∧ t.2.1 (j + 1) = Y j ∧ t.2.2.1 (j + 1) = W j ∧ t.2.2.2 (j + 1) = H j ∧ V (20 + 72 * s + 5) < Y j)) ?_ ?_ n 0 (X, Y, W, H) (by omega) (by omega) ⟨by omega, fun j _ _ => ⟨rfl, rfl, rfl, rfl⟩, fun j _ _ => by omega⟩
    · rintro n ⟨X', Y', W', H'⟩ ⟨-, h1, h2⟩
      dsimp only at h1 h2 ⊢
      rw [show m - m = 0 by omega] at h1 h2 ⊢
      unfold f_X11_boxesOf_L39
      simp (disch := omega) only [↓bd_e, ↓jn_e, ↓opt_bind, ↓reduceIte, iLeT, iLeF, iLtT, iLtF, iEqT, iEqF, il_0, il_1, il_2, il_3, il_4, il_5, il_6, il_7, il_8, il_9, il_10, il_11, il_12, il_13, il_14, il_15, il_16, il_18, il_20, il_24, il_32, il_35, il_40, il_44, il_47, il_48, il_56, il_57, il_58, il_59, il_63, il_64, il_72, il_100, il_120, il_126, il_127, il_160, il_192, il_255, il_349, il_1748, il_6992, iI_add, iI_sub, iI_mul, iI_neg, iI_le, iI_lt, iI_eq, rd_lA, wr_lA, rd_lR, wr_lR, ite_iI, max_iI, min_iI, rem_iI, div_iI, ite_true, ite_false, if_true, if_false, ite_self, and_self, and_true, true_and, and_false, false_and, or_self, or_true, true_or, or_false, false_or, not_true_eq_false, not_false_eq_true]
      exact hK 0 X' Y' W' H' (by omega) hm.1 (fun j j0 j1 => h1 j j0 j1) (fun j j0 j1 => h2 j j0 j1) (fun h => by omega)
    · rintro n x ⟨X', Y', W', H'⟩ hx ⟨hx0, h1, h2⟩ ih
      dsimp only at h1 h2 ih ⊢
      have hyk := hY (m - x - 1) (by omega) (by omega)
      obtain ⟨r1, r2, r3, r4⟩ := h1 (m - x - 1) (by omega) (by omega)
      have e1 : m - x + -1 = m - (x + 1) := by omega
      unfold f_X11_boxesOf_L39
      by_cases hc : Y (m - x - 1) ≤ V (20 + 72 * s + 5)
      · simp (disch := omega) only [↓bd_e, ↓jn_e, ↓opt_bind, ↓reduceIte, iLeT, iLeF, iLtT, iLtF, iEqT, iEqF, il_0, il_1, il_2, il_3, il_4, il_5, il_6, il_7, il_8, il_9, il_10, il_11, il_12, il_13, il_14, il_15, il_16, il_18, il_20, il_24, il_32, il_35, il_40, il_44, il_47, il_48, il_56, il_57, il_58, il_59, il_63, il_64, il_72, il_100, il_120, il_126, il_127, il_160, il_192, il_255, il_349, il_1748, il_6992, iI_add, iI_sub, iI_mul, iI_neg, iI_le, iI_lt, iI_eq, rd_lA, wr_lA, rd_lR, wr_lR, ite_iI, max_iI, min_iI, rem_iI, div_iI, ite_true, ite_false, if_true, if_false, ite_self, and_self, and_true, true_and, and_false, false_and, or_self, or_true, true_or, or_false, false_or, not_true_eq_false, not_false_eq_true, r2, f_X11_at]
        exact hK (m - x) X' Y' W' H' (by omega) (by omega) (fun j j0 j1 => h1 j j0 j1) (fun j j0 j1 => h2 j j0 j1) (fun _ => hc)
      · simp (disch := omega) only [↓bd_e, ↓jn_e, ↓opt_bind, ↓reduceIte, iLeT, iLeF, iLtT, iLtF, iEqT, iEqF, il_0, il_1, il_2, il_3, il_4, il_5, il_6, il_7, il_8, il_9, il_10, il_11, il_12, il_13, il_14, il_15, il_16, il_18, il_20, il_24, il_32, il_35, il_40, il_44, il_47, il_48, il_56, il_57, il_58, il_59, il_63, il_64, il_72, il_100, il_120, il_126, il_127, il_160, il_192, il_255, il_349, il_1748, il_6992, iI_add, iI_sub, iI_mul, iI_neg, iI_le, iI_lt, iI_eq, rd_lA, wr_lA, rd_lR, wr_lR, ite_iI, max_iI, min_iI, rem_iI, div_iI, ite_true, ite_false, if_true, if_false, ite_self, and_self, and_true, true_and, and_false, false_and, or_self, or_true, true_or, or_false, false_or, not_true_eq_false, not_false_eq_true, r1, r2, r3, r4, f_X11_at, e1]
        refine ih (uI X' (m - x) (X (m - x - 1)), uI Y' (m - x) (Y (m - x - 1)), uI W' (m - x) (W (m - x - 1)), uI H' (m - x) (H (m - x - 1))) ⟨by omega, fun j j0 j1 => ?_, fun j j0 j1 => ?_⟩
        · dsimp only
          rw [uI_ne (by omega), uI_ne (by omega), uI_ne (by omega), uI_ne (by omega)]
          exact h1 j j0 (by omega)
        · dsimp only
          by_cases e : j = m - x - 1
          · subst e
            rw [show m - x - 1 + 1 = m - x by omega, uI_self, uI_self, uI_self, uI_self]
            exact ⟨rfl, rfl, rfl, rfl, by omega⟩
          · rw [uI_ne (by omega), uI_ne (by omega), uI_ne (by omega), uI_ne (by omega)]
            exact h2 j (by omega) j1
  rw [show m - 0 = m by omega] at key
  exact key
theorem m_boxesOf {V : Int → Int} {c : Nat → Int → Int} (hs : vSet V) (hi : vImg V) (hp : vPlc V) (hb : ∀ j, 0 ≤ j → j < V 0 → vBl V c j) (hg : vGeo V c) {p : Int} (hp0 : 0 ≤ p ∧ p < 100) (X0 Y0 W0 H0 : Int → Int) :
    ∃ m X Y W H, f_X11_boxesOf (lA V) (lA (c 2)) (lA (c 3)) (lA X0) (lA Y0) (lA W0) (lA H0) (iI p) = some (iI m, lA X, lA Y, lA W, lA H) ∧ bxI V c p (V 0) m X Y W H := by
  have hn := hi.1
  have hgr : ∀ i, onPg V p i → (V (20 + 72 * i + 6) = 0 ∨ V (20 + 72 * i + 6) = 1) ∧ 0 ≤ V (20 + 72 * i + 5) ∧ V (20 + 72 * i + 5) < 100 := by
    rintro i ⟨i0, i1, i2⟩
    have h1 := geo_r hs hb hg i0 i1 (by omega)
    exact ⟨h1.1, by omega, by omega⟩
  unfold f_X11_boxesOf
  obtain ⟨fu, hfu, hfu2⟩ := fuel_ex; rw [hfu]
  refine lp (fun n s (t : Int × (Int → Int) × (Int → Int) × (Int → Int) × (Int → Int)) => f_X11_boxesOf_L7 (lA V) (lA (c 2)) (lA (c 3)) (iI p) n (iI s) (iI t.1) (lA t.2.1) (lA t.2.2.1) (lA t.2.2.2.1) (lA t.2.2.2.2)) (fun r => ∃ m X Y W H, r = some (iI m, lA X, lA Y, lA W, lA H) ∧ bxI V c p (V 0) m X Y W H) (V 0)
    (fun s t => 0 ≤ s ∧ bxI V c p s t.1 t.2.1 t.2.2.1 t.2.2.2.1 t.2.2.2.2) ?_ ?_ fu 0 (0, X0, Y0, W0, H0) (by omega) (by omega) ⟨by omega, by omega, fun k _ _ => by omega, fun i hi h => by have := hi.1; omega, fun j k _ _ _ => by omega⟩
  · rintro n ⟨m, X, Y, W, H⟩ ⟨-, h⟩
    dsimp only at h ⊢
    unfold f_X11_boxesOf_L7
    simp (disch := omega) only [↓bd_e, ↓jn_e, ↓opt_bind, ↓reduceIte, iLeT, iLeF, iLtT, iLtF, iEqT, iEqF, il_0, il_1, il_2, il_3, il_4, il_5, il_6, il_7, il_8, il_9, il_10, il_11, il_12, il_13, il_14, il_15, il_16, il_18, il_20, il_24, il_32, il_35, il_40, il_44, il_47, il_48, il_56, il_57, il_58, il_59, il_63, il_64, il_72, il_100, il_120, il_126, il_127, il_160, il_192, il_255, il_349, il_1748, il_6992, iI_add, iI_sub, iI_mul, iI_neg, iI_le, iI_lt, iI_eq, rd_lA, wr_lA, rd_lR, wr_lR, ite_iI, max_iI, min_iI, rem_iI, div_iI, ite_true, ite_false, if_true, if_false, ite_self, and_self, and_true, true_and, and_false, false_and, or_self, or_true, true_or, or_false, false_or, not_true_eq_false, not_false_eq_true]
    exact ⟨m, X, Y, W, H, rfl, h⟩
  · rintro n s ⟨m, X, Y, W, H⟩ hs1 ⟨hs0, h⟩ ih
    dsimp only at h ih ⊢
    obtain ⟨b0, b1, b2, b3⟩ := h
    have hpg := hp.2.1 s hs0 hs1
    have h13 := hp.1
    have hsl : V 3 ≤ 4 := by unfold vSet at hs; omega
    unfold f_X11_boxesOf_L7
    by_cases he : V (20 + 72 * s + 3) = p
    · have hon : onPg V p s := ⟨hs0, hs1, he⟩
      obtain ⟨g1, g2, g3⟩ := hgr s hon
      have ew := m_boxW (V := V) c (s := s) (t := V (20 + 72 * s + 6)) (by omega) g1
      have eh := m_boxH (V := V) c (s := s) (t := V (20 + 72 * s + 6)) (by omega) g1
      simp (disch := omega) only [↓bd_e, ↓jn_e, ↓opt_bind, ↓reduceIte, iLeT, iLeF, iLtT, iLtF, iEqT, iEqF, il_0, il_1, il_2, il_3, il_4, il_5, il_6, il_7, il_8, il_9, il_10, il_11, il_12, il_13, il_14, il_15, il_16, il_18, il_20, il_24, il_32, il_35, il_40, il_44, il_47, il_48, il_56, il_57, il_58, il_59, il_63, il_64, il_72, il_100, il_120, il_126, il_127, il_160, il_192, il_255, il_349, il_1748, il_6992, iI_add, iI_sub, iI_mul, iI_neg, iI_le, iI_lt, iI_eq, rd_lA, wr_lA, rd_lR, wr_lR, ite_iI, max_iI, min_iI, rem_iI, div_iI, ite_true, ite_false, if_true, if_false, ite_self, and_self, and_true, true_and, and_false, false_and, or_self, or_true, true_or, or_false, false_or, not_true_eq_false, not_false_eq_true, f_X11_at, hfu]
      refine m_boxes_in (V := V) (s := s) (m := m) (P := fun r => ∃ m X Y W H, r = some (iI m, lA X, lA Y, lA W, lA H) ∧ bxI V c p (V 0) m X Y W H) (by omega) (by omega) ⟨g2, g3⟩ X Y W H (fun k k0 k1 => ?_) _ ?_ fu (by omega)
      · obtain ⟨i, i1, -, -, i3, -⟩ := b1 k k0 k1
        rw [i3]
        exact (hgr i i1).2
      · intro k X' Y' W' H' k0 k1 q1 q2 q3
        simp (disch := omega) only [↓bd_e, ↓jn_e, ↓opt_bind, ↓reduceIte, iLeT, iLeF, iLtT, iLtF, iEqT, iEqF, il_0, il_1, il_2, il_3, il_4, il_5, il_6, il_7, il_8, il_9, il_10, il_11, il_12, il_13, il_14, il_15, il_16, il_18, il_20, il_24, il_32, il_35, il_40, il_44, il_47, il_48, il_56, il_57, il_58, il_59, il_63, il_64, il_72, il_100, il_120, il_126, il_127, il_160, il_192, il_255, il_349, il_1748, il_6992, iI_add, iI_sub, iI_mul, iI_neg, iI_le, iI_lt, iI_eq, rd_lA, wr_lA, rd_lR, wr_lR, ite_iI, max_iI, min_iI, rem_iI, div_iI, ite_true, ite_false, if_true, if_false, ite_self, and_self, and_true, true_and, and_false, false_and, or_self, or_true, true_or, or_false, false_or, not_true_eq_false, not_false_eq_true, f_X11_at, ew, eh]
        refine ih (m + 1, uI X' k (V (20 + 72 * s + 4)), uI Y' k (V (20 + 72 * s + 5)), uI W' k (bxW V c s (V (20 + 72 * s + 6))), uI H' k (bxH V c s (V (20 + 72 * s + 6)))) ⟨by omega, by omega, fun j j0 j1 => ?_, fun i hi1 hi2 => ?_, fun j j' j0 j1 j2 => ?_⟩
        · dsimp only
          by_cases e : j = k
          · subst e
            rw [uI_self, uI_self, uI_self, uI_self]
            exact ⟨s, hon, by omega, rfl, rfl, rfl, rfl⟩
          · rw [uI_ne e, uI_ne e, uI_ne e, uI_ne e]
            by_cases e2 : j < k
            · obtain ⟨r1, r2, r3, r4⟩ := q1 j j0 e2
              rw [r1, r2, r3, r4]
              obtain ⟨i, i1, i2, i3⟩ := b1 j j0 (by omega)
              exact ⟨i, i1, by omega, i3⟩
            · obtain ⟨r1, r2, r3, r4, -⟩ := q2 (j - 1) (by omega) (by dsimp only at j1; omega)
              rw [show j - 1 + 1 = j by omega] at r1 r2 r3 r4
              rw [r1, r2, r3, r4]
              obtain ⟨i, i1, i2, i3⟩ := b1 (j - 1) (by omega) (by dsimp only at j1; omega)
              exact ⟨i, i1, by omega, i3⟩
        · dsimp only
          by_cases e : i = s
          · subst e
            exact ⟨k, k0, by omega, uI_self _ _ _, uI_self _ _ _, uI_self _ _ _, uI_self _ _ _⟩
          · obtain ⟨j, j0, j1, j2⟩ := b2 i hi1 (by omega)
            by_cases e2 : j < k
            · obtain ⟨r1, r2, r3, r4⟩ := q1 j j0 e2
              refine ⟨j, j0, by omega, ?_⟩
              rw [uI_ne (by omega), uI_ne (by omega), uI_ne (by omega), uI_ne (by omega), r1, r2, r3, r4]
              exact j2
            · obtain ⟨r1, r2, r3, r4, -⟩ := q2 j (by omega) j1
              refine ⟨j + 1, by omega, by omega, ?_⟩
              rw [uI_ne (by omega), uI_ne (by omega), uI_ne (by omega), uI_ne (by omega), r1, r2, r3, r4]
              exact j2
        · dsimp only at j2 ⊢
          have hYv : ∀ i, 0 ≤ i → i < m + 1 → uI Y' k (V (20 + 72 * s + 5)) i = if i < k then Y i else if i = k then V (20 + 72 * s + 5) else Y (i - 1) := by
            intro i i0 i1
            rw [uI_at]
            by_cases e : i = k
            · rw [if_pos e, if_neg (by omega), if_pos e]
            · rw [if_neg e]
              by_cases e2 : i < k
              · rw [if_pos e2]; exact (q1 i i0 e2).2.1
              · rw [if_neg e2, if_neg e]
                have := (q2 (i - 1) (by omega) (by omega)).2.1
                rwa [show i - 1 + 1 = i by omega] at this
          have hlo : ∀ i, 0 ≤ i → i < k → Y i ≤ V (20 + 72 * s + 5) := by
            intro i i0 i1
            have h4 := q3 (by omega)
            by_cases e : i = k - 1
            · rw [e]; exact h4
            · have := b3 i (k - 1) i0 (by omega) (by omega)
              omega
          rw [hYv j j0 (by omega), hYv j' (by omega) j2]
          by_cases e : j' < k
          · rw [if_pos (by omega), if_pos e]
            exact b3 j j' j0 j1 (by omega)
          · rw [if_neg e]
            by_cases e2 : j' = k
            · rw [if_pos e2, if_pos (by omega)]
              exact hlo j j0 (by omega)
            · rw [if_neg e2]
              have h5 := (q2 (j' - 1) (by omega) (by omega)).2.2.2.2
              by_cases e3 : j < k
              · rw [if_pos e3]
                have := hlo j j0 e3
                omega
              · rw [if_neg e3]
                by_cases e4 : j = k
                · rw [if_pos e4]; omega
                · rw [if_neg e4]
                  exact b3 (j - 1) (j' - 1) (by omega) (by omega) (by omega)
    · simp (disch := omega) only [↓bd_e, ↓jn_e, ↓opt_bind, ↓reduceIte, iLeT, iLeF, iLtT, iLtF, iEqT, iEqF, il_0, il_1, il_2, il_3, il_4, il_5, il_6, il_7, il_8, il_9, il_10, il_11, il_12, il_13, il_14, il_15, il_16, il_18, il_20, il_24, il_32, il_35, il_40, il_44, il_47, il_48, il_56, il_57, il_58, il_59, il_63, il_64, il_72, il_100, il_120, il_126, il_127, il_160, il_192, il_255, il_349, il_1748, il_6992, iI_add, iI_sub, iI_mul, iI_neg, iI_le, iI_lt, iI_eq, rd_lA, wr_lA, rd_lR, wr_lR, ite_iI, max_iI, min_iI, rem_iI, div_iI, ite_true, ite_false, if_true, if_false, ite_self, and_self, and_true, true_and, and_false, false_and, or_self, or_true, true_or, or_false, false_or, not_true_eq_false, not_false_eq_true, f_X11_at]
      refine ih (m, X, Y, W, H) ⟨by omega, by omega, fun k k0 k1 => ?_, fun i hi1 hi2 => ?_, b3⟩
      · obtain ⟨i, i1, i2, i3⟩ := b1 k k0 k1
        exact ⟨i, i1, by omega, i3⟩
      · have : i ≠ s := fun e => he (e ▸ hi1.2.2)
        exact b2 i hi1 (by omega)
