/-! draw -/
theorem mkS_f (S : Nat → Nat → Int32) (n : Int) (W H G : Int → Int) (R : Int → Int32) : updC (updC (updC (updC (updC S 0 (upd (S 0) 0 (iI n))) 1 (lA W)) 2 (lA H)) 3 (lA G)) 4 (lR R) = mkS S n W H G R := rfl
theorem mkS_4 (S : Nat → Nat → Int32) (n : Int) (W H G : Int → Int) (R : Int → Int32) : mkS S n W H G R 4 = lR R := rfl
theorem mkS_0 (S : Nat → Nat → Int32) (n : Int) (W H G : Int → Int) (R : Int → Int32) : mkS S n W H G R 0 0 = iI n := rfl
theorem mkS_1 (S : Nat → Nat → Int32) (n : Int) (W H G : Int → Int) (R : Int → Int32) : mkS S n W H G R 1 = lA W := rfl
theorem mkS_2 (S : Nat → Nat → Int32) (n : Int) (W H G : Int → Int) (R : Int → Int32) : mkS S n W H G R 2 = lA H := rfl
theorem mkS_3 (S : Nat → Nat → Int32) (n : Int) (W H G : Int → Int) (R : Int → Int32) : mkS S n W H G R 3 = lA G := rfl
theorem mkS_t (S : Nat → Nat → Int32) (n n' : Int) (W H G W' H' G' : Int → Int) (R R' : Int → Int32) : mkS (mkS S n W H G R) n' W' H' G' R' = mkS S n' W' H' G' R' := by
  funext k
  unfold mkS updC
  by_cases h4 : k = 4
  · simp only [h4, if_true]
  · by_cases h3 : k = 3
    · subst h3; rfl
    · by_cases h2 : k = 2
      · subst h2; rfl
      · by_cases h1 : k = 1
        · subst h1; rfl
        · by_cases h0 : k = 0
          · subst h0
            funext j
            show upd (upd (S 0) 0 (iI n)) 0 (iI n') j = upd (S 0) 0 (iI n') j
            unfold upd
            by_cases hj : j = 0
            · rw [if_pos hj, if_pos hj]
            · rw [if_neg hj, if_neg hj, if_neg hj]
          · simp only [if_neg h4, if_neg h3, if_neg h2, if_neg h1, if_neg h0]
def dI (V0 : Int → Int) (W H G : Int → Int) (s w h : Int) (z : Int) (V : Int → Int) (R : Int → Int32) : Prop := (0 ≤ z ∧ z < 2147483648) ∧ vImg V ∧ vOut V ∧ shR V W H G R ∧ vMo V0 V ∧ V 0 = s + 1 ∧ V (20 + 72 * s + 0) = w ∧ V (20 + 72 * s + 1) = h
theorem draw_px {V0 : Int → Int} {W H G : Int → Int} {s w h : Int} (hs : 0 ≤ V0 0 ∧ V0 0 ≤ s) {z : Int} {V : Int → Int} {R : Int → Int32} (hI : dI V0 W H G s w h z V R) {x y : Int} (hx : 0 ≤ x ∧ x < w) (hy : 0 ≤ y ∧ y < h) :
    ∃ R', f_X6_setColor (iI (s + 1)) (lA W) (lA H) (lR R) (iI s) (iI x) (iI y) (iI (max (rnX z / 65536 % 6 - 2) 0)) = some (lR R') ∧ dI V0 W H G s w h (rnX z) (uI V (20 + 72 * s + 8 + 8 * y + x) (max (rnX z / 65536 % 6 - 2) 0)) R' := by
  obtain ⟨h1, h2, h3, h4, h5, h6, h7, h8⟩ := hI
  have hp : isPx V s x y := ⟨by omega, by omega, by omega⟩
  obtain ⟨R', e, hr⟩ := shR_px h2 h4 hp (c := max (rnX z / 65536 % 6 - 2) 0) (by omega)
  rw [h6] at e
  have hw := h2.2.1 s (by omega) (by omega)
  have hn := h2.1
  exact ⟨R', e, rnX_r z, vImg_px h2 hp (by omega), vOut_uI h3 (by omega), hr, vMo_px h5 hs.1 hs.2 (by omega) (by omega), by rw [uI_ne (by omega)]; exact h6, by rw [uI_ne (by omega)]; exact h7, by rw [uI_ne (by omega)]; exact h8⟩
theorem x_drawRow {V0 : Int → Int} {W H G : Int → Int} {s w h y : Int} (hs : 0 ≤ V0 0 ∧ V0 0 ≤ s) (hs24 : s < 24) (hw : 1 ≤ w ∧ w ≤ 8) (hh : h ≤ 8) (hy : 0 ≤ y ∧ y < h) {β : Type} (P : Option (Int64 × (Nat → Nat → Int32)) × Option β → Prop) (S : Nat → Nat → Int32) (R0 : Nat → Int32) (Kc : Int64 → (Nat → Nat → Int32) → Option (Int64 × (Nat → Nat → Int32))) (G4 : Nat → Int32 → Int64 → (Nat → Int32) → Option β) (Km : Int64 → (Nat → Int32) → Option β)
    (hG0 : ∀ n z A, G4 (n + 1) (iI w) z A = Km z A) (hGs : ∀ n x z A, 0 ≤ x → x < w → 0 ≤ z → z < 2147483648 → G4 (n + 1) (iI x) (iL z) (lA A) = G4 n (iI (x + 1)) (iL (rnX z)) (lA (uI A (20 + 72 * s + 8 + 8 * y + x) (max (rnX z / 65536 % 6 - 2) 0))))
    (hK : ∀ z' V' R', dI V0 W H G s w h z' V' R' → P (Kc (iL z') (mkS S (s + 1) W H G R'), Km (iL z') (lA V'))) (n : Nat) (hn : 8 < n) {z : Int} {V : Int → Int} {R : Int → Int32} (hI : dI V0 W H G s w h z V R) :
    P (f_X10_drawOne_L43 S (iI w) (iI s, iI (s + 1), lA W, lA H, lA G, R0) (iI y) Kc n (iI 0) (iL z) (mkS S (s + 1) W H G R), G4 n (iI 0) (iL z) (lA V)) := by
  refine lpp (fun n x (t : Int × (Int → Int) × (Int → Int32)) => (f_X10_drawOne_L43 S (iI w) (iI s, iI (s + 1), lA W, lA H, lA G, R0) (iI y) Kc n (iI x) (iL t.1) (mkS S (s + 1) W H G t.2.2), G4 n (iI x) (iL t.1) (lA t.2.1))) P w (fun x t => 0 ≤ x ∧ dI V0 W H G s w h t.1 t.2.1 t.2.2) ?_ ?_ n 0 (z, V, R) (by omega) (by omega) ⟨by omega, hI⟩
  · rintro n ⟨z, V, R⟩ ⟨-, hI⟩
    dsimp only at hI ⊢
    rw [hG0]
    unfold f_X10_drawOne_L43
    simp (disch := omega) only [↓bd_e, ↓jn_e, ↓opt_bind, ↓reduceIte, iLeT, iLeF, iLtT, iLtF, iEqT, iEqF, il_0, il_1, il_2, il_3, il_4, il_5, il_6, il_7, il_8, il_9, il_10, il_11, il_12, il_13, il_14, il_15, il_16, il_18, il_20, il_24, il_32, il_35, il_40, il_44, il_47, il_48, il_56, il_57, il_58, il_59, il_63, il_64, il_72, il_100, il_120, il_126, il_127, il_160, il_192, il_255, il_349, il_1748, il_6992, iI_add, iI_sub, iI_mul, iI_neg, iI_le, iI_lt, iI_eq, rd_lA, wr_lA, rd_lR, wr_lR, ite_iI, max_iI, min_iI, rem_iI, div_iI, ite_true, ite_false, if_true, if_false, ite_self, and_self, and_true, true_and, and_false, false_and, or_self, or_true, true_or, or_false, false_or, not_true_eq_false, not_false_eq_true, mkS_4, mkS_f]
    exact hK z V R hI
  · rintro n x ⟨z, V, R⟩ hx ⟨hx0, hI⟩ ih
    dsimp only at hI ih ⊢
    have hz := hI.1
    have hr := rnX_r z
    obtain ⟨R', e, hI'⟩ := draw_px hs hI (x := x) (y := y) ⟨hx0, hx⟩ hy
    rw [hGs n x z V hx0 hx hz.1 hz.2]
    unfold f_X10_drawOne_L43
    simp (disch := omega) only [↓bd_e, ↓jn_e, ↓opt_bind, ↓reduceIte, iLeT, iLeF, iLtT, iLtF, iEqT, iEqF, il_0, il_1, il_2, il_3, il_4, il_5, il_6, il_7, il_8, il_9, il_10, il_11, il_12, il_13, il_14, il_15, il_16, il_18, il_20, il_24, il_32, il_35, il_40, il_44, il_47, il_48, il_56, il_57, il_58, il_59, il_63, il_64, il_72, il_100, il_120, il_126, il_127, il_160, il_192, il_255, il_349, il_1748, il_6992, iI_add, iI_sub, iI_mul, iI_neg, iI_le, iI_lt, iI_eq, rd_lA, wr_lA, rd_lR, wr_lR, ite_iI, max_iI, min_iI, rem_iI, div_iI, ite_true, ite_false, if_true, if_false, ite_self, and_self, and_true, true_and, and_false, false_and, or_self, or_true, true_or, or_false, false_or, not_true_eq_false, not_false_eq_true, mkS_4, c_next hz, e, mkS_f]
    exact ih (rnX z, _, R') ⟨by omega, hI'⟩
theorem x_drawRows {V0 : Int → Int} {W H G : Int → Int} {s w h : Int} (hs : 0 ≤ V0 0 ∧ V0 0 ≤ s) (hs24 : s < 24) (hw : 1 ≤ w ∧ w ≤ 8) (hh : 1 ≤ h ∧ h ≤ 8) (P : Option (Int64 × (Nat → Nat → Int32)) × Option (Int32 × Int32 × Int64 × (Nat → Int32) × (Nat → Int32)) → Prop) (S : Nat → Nat → Int32) (R0 : Nat → Int32) (Km : Int64 → (Nat → Int32) → Option (Int32 × Int32 × Int64 × (Nat → Int32) × (Nat → Int32)))
    (hK : ∀ z' V' R', dI V0 W H G s w h z' V' R' → P (some (iL z', mkS S (s + 1) W H G R'), Km (iL z') (lA V'))) (n : Nat) (hn : 8 < n) {z : Int} {V : Int → Int} {R : Int → Int32} (hI : dI V0 W H G s w h z V R) :
    P (f_X10_drawOne_L34 S (iI w) (iI h) (iI s, iI (s + 1), lA W, lA H, lA G, R0) n (iI 0) (iL z) (mkS S (s + 1) W H G R), f_X11_draw_L86 (iI w) (iI h) (iI s) Km n (iI 0) (iL z) (lA V)) := by
  refine lpp (fun n x (t : Int × (Int → Int) × (Int → Int32)) => (f_X10_drawOne_L34 S (iI w) (iI h) (iI s, iI (s + 1), lA W, lA H, lA G, R0) n (iI x) (iL t.1) (mkS S (s + 1) W H G t.2.2), f_X11_draw_L86 (iI w) (iI h) (iI s) Km n (iI x) (iL t.1) (lA t.2.1))) P h (fun x t => 0 ≤ x ∧ dI V0 W H G s w h t.1 t.2.1 t.2.2) ?_ ?_ n 0 (z, V, R) (by omega) (by omega) ⟨by omega, hI⟩
  · rintro n ⟨z, V, R⟩ ⟨-, hI⟩
    dsimp only at hI ⊢
    unfold f_X10_drawOne_L34 f_X11_draw_L86
    simp (disch := omega) only [↓bd_e, ↓jn_e, ↓opt_bind, ↓reduceIte, iLeT, iLeF, iLtT, iLtF, iEqT, iEqF, il_0, il_1, il_2, il_3, il_4, il_5, il_6, il_7, il_8, il_9, il_10, il_11, il_12, il_13, il_14, il_15, il_16, il_18, il_20, il_24, il_32, il_35, il_40, il_44, il_47, il_48, il_56, il_57, il_58, il_59, il_63, il_64, il_72, il_100, il_120, il_126, il_127, il_160, il_192, il_255, il_349, il_1748, il_6992, iI_add, iI_sub, iI_mul, iI_neg, iI_le, iI_lt, iI_eq, rd_lA, wr_lA, rd_lR, wr_lR, ite_iI, max_iI, min_iI, rem_iI, div_iI, ite_true, ite_false, if_true, if_false, ite_self, and_self, and_true, true_and, and_false, false_and, or_self, or_true, true_or, or_false, false_or, not_true_eq_false, not_false_eq_true, mkS_4, mkS_f]
    exact hK z V R hI
  · rintro n y ⟨z, V, R⟩ hy ⟨hy0, hI⟩ ih
    dsimp only at hI ih ⊢
    unfold f_X10_drawOne_L34 f_X11_draw_L86
    simp (disch := omega) only [↓bd_e, ↓jn_e, ↓opt_bind, ↓reduceIte, iLeT, iLeF, iLtT, iLtF, iEqT, iEqF, il_0, il_1, il_2, il_3, il_4, il_5, il_6, il_7, il_8, il_9, il_10, il_11, il_12, il_13, il_14, il_15, il_16, il_18, il_20, il_24, il_32, il_35, il_40, il_44, il_47, il_48, il_56, il_57, il_58, il_59, il_63, il_64, il_72, il_100, il_120, il_126, il_127, il_160, il_192, il_255, il_349, il_1748, il_6992, iI_add, iI_sub, iI_mul, iI_neg, iI_le, iI_lt, iI_eq, rd_lA, wr_lA, rd_lR, wr_lR, ite_iI, max_iI, min_iI, rem_iI, div_iI, ite_true, ite_false, if_true, if_false, ite_self, and_self, and_true, true_and, and_false, false_and, or_self, or_true, true_or, or_false, false_or, not_true_eq_false, not_false_eq_true, mkS_4, mkS_f]
    obtain ⟨fu, hfu, hfu2⟩ := fuel_ex
    rw [hfu]
    refine x_drawRow hs hs24 hw hh.2 ⟨hy0, hy⟩ P S R0 _ (fun n x z A => f_X11_draw_L96 (iI w) (iI s) (iI y) _ n x z A) (fun x24 f25 => f_X11_draw_L86 (iI w) (iI h) (iI s) Km n (iI (y + 1)) x24 f25) ?_ ?_ ?_ fu (by omega) hI
    · intro n z A
      unfold f_X11_draw_L96
      simp (disch := omega) only [↓bd_e, ↓jn_e, ↓opt_bind, ↓reduceIte, iLeT, iLeF, iLtT, iLtF, iEqT, iEqF, il_0, il_1, il_2, il_3, il_4, il_5, il_6, il_7, il_8, il_9, il_10, il_11, il_12, il_13, il_14, il_15, il_16, il_18, il_20, il_24, il_32, il_35, il_40, il_44, il_47, il_48, il_56, il_57, il_58, il_59, il_63, il_64, il_72, il_100, il_120, il_126, il_127, il_160, il_192, il_255, il_349, il_1748, il_6992, iI_add, iI_sub, iI_mul, iI_neg, iI_le, iI_lt, iI_eq, rd_lA, wr_lA, rd_lR, wr_lR, ite_iI, max_iI, min_iI, rem_iI, div_iI, ite_true, ite_false, if_true, if_false, ite_self, and_self, and_true, true_and, and_false, false_and, or_self, or_true, true_or, or_false, false_or, not_true_eq_false, not_false_eq_true]
    · intro n x z A x0 x1 z0 z1
      have hr := rnX_r z
      conv => lhs; unfold f_X11_draw_L96
      have e : max (rnX z / 65536 % 6 - 2) 0 = if 0 ≤ rnX z / 65536 % 6 - 2 then rnX z / 65536 % 6 - 2 else 0 := by split <;> omega
      rw [e]
      simp (disch := omega) only [↓bd_e, ↓jn_e, ↓opt_bind, ↓reduceIte, iLeT, iLeF, iLtT, iLtF, iEqT, iEqF, il_0, il_1, il_2, il_3, il_4, il_5, il_6, il_7, il_8, il_9, il_10, il_11, il_12, il_13, il_14, il_15, il_16, il_18, il_20, il_24, il_32, il_35, il_40, il_44, il_47, il_48, il_56, il_57, il_58, il_59, il_63, il_64, il_72, il_100, il_120, il_126, il_127, il_160, il_192, il_255, il_349, il_1748, il_6992, iI_add, iI_sub, iI_mul, iI_neg, iI_le, iI_lt, iI_eq, rd_lA, wr_lA, rd_lR, wr_lR, ite_iI, max_iI, min_iI, rem_iI, div_iI, ite_true, ite_false, if_true, if_false, ite_self, and_self, and_true, true_and, and_false, false_and, or_self, or_true, true_or, or_false, false_or, not_true_eq_false, not_false_eq_true, m_random ⟨z0, z1⟩, f_X11_pixelAt]
    · intro z' V' R' hI'
      simp (disch := omega) only [↓bd_e, ↓jn_e, ↓opt_bind, ↓reduceIte, iLeT, iLeF, iLtT, iLtF, iEqT, iEqF, il_0, il_1, il_2, il_3, il_4, il_5, il_6, il_7, il_8, il_9, il_10, il_11, il_12, il_13, il_14, il_15, il_16, il_18, il_20, il_24, il_32, il_35, il_40, il_44, il_47, il_48, il_56, il_57, il_58, il_59, il_63, il_64, il_72, il_100, il_120, il_126, il_127, il_160, il_192, il_255, il_349, il_1748, il_6992, iI_add, iI_sub, iI_mul, iI_neg, iI_le, iI_lt, iI_eq, rd_lA, wr_lA, rd_lR, wr_lR, ite_iI, max_iI, min_iI, rem_iI, div_iI, ite_true, ite_false, if_true, if_false, ite_self, and_self, and_true, true_and, and_false, false_and, or_self, or_true, true_or, or_false, false_or, not_true_eq_false, not_false_eq_true, mkS_4, mkS_f]
      exact ih (z', V', R') ⟨by omega, hI'⟩
/-- the relation while sprites are drawn -/
def dJ (V0 : Int → Int) (z : Int) (V : Int → Int) (W H G : Int → Int) (R : Int → Int32) : Prop := (0 ≤ z ∧ z < 2147483648) ∧ vImg V ∧ vOut V ∧ shR V W H G R ∧ vMo V0 V
theorem x_drawAll {V0 : Int → Int} (h0 : 0 ≤ V0 0) {m : Int} (hm : 1 ≤ m ∧ m ≤ 8) (hm24 : V0 0 + m ≤ 24) (P : Option (Int32 × Int64 × (Nat → Nat → Int32) × (Nat → Int32) × (Nat → Int32) × (Nat → Int32) × (Nat → Int32) × (Nat → Int32) × (Nat → Int32) × Int32 × Int32 × (Nat → Nat → Int32) × (Nat → Nat → Int32) × (Nat → Nat → Int32) × (Nat → Nat → Int32) × (Nat → Nat → Int32)) × Option (Int32 × Int32 × Int64 × (Nat → Int32) × (Nat → Int32)) → Prop) (S : Nat → Nat → Int32) (Kc) (Km)
    (hK : ∀ z' V' W H G R', dJ V0 z' V' W H G R' → P (Kc (iL z') (mkS S (V' 0) W H G R'), Km (iL z') (lA V'))) (n : Nat) (hn : 8 < n) {z : Int} {W H G : Int → Int} {R : Int → Int32} (hI : dJ V0 z V0 W H G R) :
    P (f_X10_draw_L55 S (iI m) Kc n (iI 0) (iL z) (mkS S (V0 0) W H G R), f_X11_draw_L44 (iI m) Km n (iI 0) (iL z) (lA V0)) := by
  refine lpp (fun n x (t : Int × (Int → Int) × (Int → Int) × (Int → Int) × (Int → Int) × (Int → Int32)) => (f_X10_draw_L55 S (iI m) Kc n (iI x) (iL t.1) (mkS S (t.2.1 0) t.2.2.1 t.2.2.2.1 t.2.2.2.2.1 t.2.2.2.2.2), f_X11_draw_L44 (iI m) Km n (iI x) (iL t.1) (lA t.2.1))) P m (fun x t => 0 ≤ x ∧ t.2.1 0 = V0 0 + x ∧ dJ V0 t.1 t.2.1 t.2.2.1 t.2.2.2.1 t.2.2.2.2.1 t.2.2.2.2.2) ?_ ?_ n 0 (z, V0, W, H, G, R) (by omega) (by omega) ⟨by omega, by dsimp only; omega, hI⟩
  · rintro n ⟨z, V, W, H, G, R⟩ ⟨-, -, hI⟩
    dsimp only at hI ⊢
    unfold f_X10_draw_L55 f_X11_draw_L44
    simp (disch := omega) only [↓bd_e, ↓jn_e, ↓opt_bind, ↓reduceIte, iLeT, iLeF, iLtT, iLtF, iEqT, iEqF, il_0, il_1, il_2, il_3, il_4, il_5, il_6, il_7, il_8, il_9, il_10, il_11, il_12, il_13, il_14, il_15, il_16, il_18, il_20, il_24, il_32, il_35, il_40, il_44, il_47, il_48, il_56, il_57, il_58, il_59, il_63, il_64, il_72, il_100, il_120, il_126, il_127, il_160, il_192, il_255, il_349, il_1748, il_6992, iI_add, iI_sub, iI_mul, iI_neg, iI_le, iI_lt, iI_eq, rd_lA, wr_lA, rd_lR, wr_lR, ite_iI, max_iI, min_iI, rem_iI, div_iI, ite_true, ite_false, if_true, if_false, ite_self, and_self, and_true, true_and, and_false, false_and, or_self, or_true, true_or, or_false, false_or, not_true_eq_false, not_false_eq_true, mkS_4, mkS_3, mkS_2, mkS_1, mkS_0, mkS_f]
    exact hK z V W H G R hI
  · rintro n k ⟨z, V, W, H, G, R⟩ hk ⟨hk0, hV, hI⟩ ih
    dsimp only at hI hV ih ⊢
    obtain ⟨h1, h2, h3, h4, h5⟩ := hI
    have hr1 := rnX_r z
    have hr2 := rnX_r (rnX z)
    have hn := h2.1
    unfold f_X10_draw_L55 f_X11_draw_L44
    have ea := c_add (n := V 0) (w := rnX z / 65536 % 5 + 1) (h := rnX (rnX z) / 65536 % 5 + 1) (by omega) W H G R
    have eb := m_adds (V := V) (w := rnX z / 65536 % 5 + 1) (h := rnX (rnX z) / 65536 % 5 + 1) (by omega)
    obtain ⟨g1, g2⟩ := shR_add h2 (by omega) h4 (w := rnX z / 65536 % 5 + 1) (h := rnX (rnX z) / 65536 % 5 + 1) (by omega) (by omega)
    simp (disch := omega) only [↓bd_e, ↓jn_e, ↓opt_bind, ↓reduceIte, iLeT, iLeF, iLtT, iLtF, iEqT, iEqF, il_0, il_1, il_2, il_3, il_4, il_5, il_6, il_7, il_8, il_9, il_10, il_11, il_12, il_13, il_14, il_15, il_16, il_18, il_20, il_24, il_32, il_35, il_40, il_44, il_47, il_48, il_56, il_57, il_58, il_59, il_63, il_64, il_72, il_100, il_120, il_126, il_127, il_160, il_192, il_255, il_349, il_1748, il_6992, iI_add, iI_sub, iI_mul, iI_neg, iI_le, iI_lt, iI_eq, rd_lA, wr_lA, rd_lR, wr_lR, ite_iI, max_iI, min_iI, rem_iI, div_iI, ite_true, ite_false, if_true, if_false, ite_self, and_self, and_true, true_and, and_false, false_and, or_self, or_true, true_or, or_false, false_or, not_true_eq_false, not_false_eq_true, mkS_4, mkS_3, mkS_2, mkS_1, mkS_0, mkS_f, f_X10_drawOne, c_next h1, c_next hr1, m_random h1, m_random hr1, ea, eb]
    obtain ⟨fu, hfu, hfu2⟩ := fuel_ex
    rw [hfu]
    refine x_drawRows (V0 := V0) (s := V 0) ⟨h0, by omega⟩ (by omega) (by omega) (by omega) (fun q => P (q.1.bind _, q.2)) (mkS S (V 0) W H G R) _ _ ?_ fu (by omega) (V := vA V (rnX z / 65536 % 5 + 1) (rnX (rnX z) / 65536 % 5 + 1)) ?_
    · intro z' V' R' hI'
      simp (disch := omega) only [↓bd_e, ↓jn_e, ↓opt_bind, ↓reduceIte, iLeT, iLeF, iLtT, iLtF, iEqT, iEqF, il_0, il_1, il_2, il_3, il_4, il_5, il_6, il_7, il_8, il_9, il_10, il_11, il_12, il_13, il_14, il_15, il_16, il_18, il_20, il_24, il_32, il_35, il_40, il_44, il_47, il_48, il_56, il_57, il_58, il_59, il_63, il_64, il_72, il_100, il_120, il_126, il_127, il_160, il_192, il_255, il_349, il_1748, il_6992, iI_add, iI_sub, iI_mul, iI_neg, iI_le, iI_lt, iI_eq, rd_lA, wr_lA, rd_lR, wr_lR, ite_iI, max_iI, min_iI, rem_iI, div_iI, ite_true, ite_false, if_true, if_false, ite_self, and_self, and_true, true_and, and_false, false_and, or_self, or_true, true_or, or_false, false_or, not_true_eq_false, not_false_eq_true, mkS_t, mkS_4, mkS_3, mkS_2, mkS_1, mkS_0, mkS_f]
      obtain ⟨i1, i2, i3, i4, i5, i6, i7, i8⟩ := hI'
      rw [← i6]
      exact ih (z', V', _, _, _, R') ⟨by omega, by dsimp only; omega, i1, i2, i3, i4, i5⟩
    · refine ⟨hr2, g1, vOut_add h3 (by omega) _ _, g2, vMo_add h5 (by omega) _ _, rfl, ?_, ?_⟩
      · rw [vA_new (by omega) (by omega) (by omega), if_pos rfl]
      · rw [vA_new (by omega) (by omega) (by omega), if_neg (by omega), if_pos rfl]
