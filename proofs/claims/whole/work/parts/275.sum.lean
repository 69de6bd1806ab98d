theorem c_has1 {V : Int → Int} {S : Nat → Nat → Int32} (hi : vImg V) (hr : sR V S) {i : Int} (h : 0 ≤ i ∧ i < V 0) : f_X6_has (S 0 0) (iI i) = iI 1 := by
  have hn := hi.1
  rw [hr.1.1, c_has hn (by omega), if_pos h]
theorem c_width {V : Int → Int} {S : Nat → Nat → Int32} (hi : vImg V) (hr : sR V S) {i : Int} (h : 0 ≤ i ∧ i < V 0) : f_X10_width S (iI i) = some (iI (V (20 + 72 * i + 0))) := by
  have hn := hi.1
  unfold f_X10_width
  rw [c_has1 hi hr h, if_neg (by decide +kernel : ¬ iI 1 = (0 : Int32)), sA_lA S 1, rd_lA _ _ (by omega) (by omega) (by omega), (hr.2.2.1 i h.1 h.2).1]
theorem c_height {V : Int → Int} {S : Nat → Nat → Int32} (hi : vImg V) (hr : sR V S) {i : Int} (h : 0 ≤ i ∧ i < V 0) : f_X10_height S (iI i) = some (iI (V (20 + 72 * i + 1))) := by
  have hn := hi.1
  unfold f_X10_height
  rw [c_has1 hi hr h, if_neg (by decide +kernel : ¬ iI 1 = (0 : Int32)), sA_lA S 2, rd_lA _ _ (by omega) (by omega) (by omega), (hr.2.2.1 i h.1 h.2).2.1]
theorem c_groupOf {V : Int → Int} {S : Nat → Nat → Int32} (hi : vImg V) (hr : sR V S) {i : Int} (h : 0 ≤ i ∧ i < V 0) : f_X10_groupOf S (iI i) = some (iI (V (20 + 72 * i + 2))) := by
  have hn := hi.1
  unfold f_X10_groupOf
  rw [c_has1 hi hr h, if_neg (by decide +kernel : ¬ iI 1 = (0 : Int32)), sA_lA S 3, rd_lA _ _ (by omega) (by omega) (by omega), (hr.2.2.1 i h.1 h.2).2.2.1]
theorem c_color {V : Int → Int} {S : Nat → Nat → Int32} (hi : vImg V) (gr : sR V S) {s x y : Int} (hp : isPx V s x y) : f_X10_color S (iI s) (iI x) (iI y) = some (iI (V (20 + 72 * s + 8 + 8 * y + x))) := by
  obtain ⟨p1, p2, p3⟩ := id hp
  have hn := hi.1
  have hh := hi.2.1 s p1.1 p1.2
  have hW : ∀ j, 0 ≤ j → j < V 0 → sA S 1 j = V (20 + 72 * j + 0) ∧ sA S 2 j = V (20 + 72 * j + 1) := fun j j0 j1 => ⟨((sR_2 gr).2.2.1 j j0 j1).1, ((sR_2 gr).2.2.1 j j0 j1).2.1⟩
  obtain ⟨r1, e1, f1⟩ := c_hasPixel hi hW (s := s) (x := x) (y := y) (by omega) (by omega) (by omega)
  have hrow := (gr.2.2.1 s p1.1 p1.2).2.2.2.1 x y p2.1 (by omega) p3.1 p3.2
  rw [if_pos p2.2] at hrow
  have ec : f_X6_colorAt (S 4) (iI s) (iI x) (iI y) = some (iI (V (20 + 72 * s + 8 + 8 * y + x))) := by
    rw [sW_lR S, c_colorAt (by omega) (by omega), hrow]
  have q1 : r1 = 1 := by
    rcases f1 with ⟨a, b⟩ | ⟨a, b⟩
    · exact a
    · exact absurd hp b
  unfold f_X10_color
  rw [gr.1.1, sA_lA S 1, sA_lA S 2, e1, opt_bind, q1, if_neg (by decide +kernel : ¬ iI 1 = (0 : Int32)), ec, opt_bind]
theorem more_mix (y : Int64) (x : Int32) : f_X11_more y x = f_X10_mix y x.toInt64 := rfl
theorem x_pixI {V : Int → Int} {S : Nat → Nat → Int32} (hi : vImg V) (hr : sR V S) {i w hh : Int} (h : 0 ≤ i ∧ i < V 0) (hw : w = V (20 + 72 * i + 0)) (hh' : hh = V (20 + 72 * i + 1)) (R : Option Int64 → Option (Int64 × Int32 × Int32) → Prop) (k82 : Int64 → Option (Int64 × Int32 × Int32)) {fu M : Nat} (hfu : 100 < fu) (hM : 100 < M) {y q : Int} (y0 : 0 ≤ y ∧ y < hh) (hq : q = y * w) (hq0 : 0 ≤ q) (hq2 : q + w ≤ w * hh) (hwh : w * hh ≤ 64) (kk : Int64 → Option Int64)
    (hkk : ∀ z, R (kk z) (f_X11_moreOf_L40 (lA V) (iI i) (iI w) (iI hh) k82 (M - (q + w).toNat) z (iI (q + w)))) (z : Int64) :
    R (f_X10_mixSprite_L37 S (iI i) (iI y) kk fu z (iI 0)) (f_X11_moreOf_L40 (lA V) (iI i) (iI w) (iI hh) k82 (M - q.toNat) z (iI q)) := by
  have hn := hi.1
  have hr3 := hi.2.1 i h.1 h.2
  have key := lpp (fun n x (z : Int64) => (f_X10_mixSprite_L37 S (iI i) (iI y) kk n z (iI x), f_X11_moreOf_L40 (lA V) (iI i) (iI w) (iI hh) k82 (M - (q + x).toNat) z (iI (q + x)))) (fun o => R o.1 o.2) w (fun x z => 0 ≤ x) ?_ ?_ fu 0 z (by omega) (by omega) (by omega)
  · rw [Int.add_zero] at key
    exact key
  · rintro n z -
    show R (f_X10_mixSprite_L37 S _ _ kk (n + 1) z (iI w)) _
    rw [f_X10_mixSprite_L37, c_width hi hr h, opt_bind, ← hw, if_pos (Int32.le_refl _)]
    exact hkk z
  · rintro n x z hx x0 ih
    obtain ⟨M', hM'⟩ : ∃ M', M - (q + x).toNat = M' + 1 := ⟨M - (q + x).toNat - 1, by omega⟩
    have hM2 : M - (q + (x + 1)).toNat = M' := by omega
    rw [hM2, show q + (x + 1) = q + x + 1 by omega] at ih
    have hc := c_color hi hr (s := i) (x := x) (y := y) ⟨h, by omega, by omega⟩
    obtain ⟨d1, d2⟩ := place_dm (p := q + x) (r := y) (c := x) (b := w) (by omega) (by omega) x0 hx
    show R (f_X10_mixSprite_L37 S _ _ kk (n + 1) z (iI x)) (f_X11_moreOf_L40 (lA V) (iI i) (iI w) (iI hh) k82 (M - (q + x).toNat) z (iI (q + x)))
    have epx : f_X11_pixelAt (iI i) (iI x) (iI y) = iI (20 + 72 * i + 8 + 8 * y + x) := by
      unfold f_X11_pixelAt
      simp (disch := omega) only [↓bd_e, ↓jn_e, ↓opt_bind, ↓reduceIte, iLeT, iLeF, iLtT, iLtF, iEqT, iEqF, il_0, il_1, il_2, il_3, il_4, il_5, il_6, il_7, il_8, il_9, il_10, il_11, il_12, il_13, il_14, il_15, il_16, il_18, il_20, il_24, il_32, il_35, il_40, il_44, il_47, il_48, il_56, il_57, il_58, il_59, il_63, il_64, il_72, il_100, il_120, il_126, il_127, il_160, il_192, il_255, il_349, il_1748, il_6992, iI_add, iI_sub, iI_mul, iI_neg, iI_le, iI_lt, iI_eq, rd_lA, wr_lA, rd_lR, wr_lR, ite_iI, max_iI, min_iI, rem_iI, div_iI, ite_true, ite_false, if_true, if_false, ite_self, and_self, and_true, true_and, and_false, false_and, or_self, or_true, true_or, or_false, false_or, not_true_eq_false, not_false_eq_true]
    rw [f_X10_mixSprite_L37, c_width hi hr h, opt_bind, ← hw, if_neg (show ¬ iI w ≤ iI x by rw [iI_le (by omega) (by omega) (by omega) (by omega)]; omega), hc, opt_bind, bd_e, bd_e, il_1, iI_add, hM', f_X11_moreOf_L40, iI_mul, if_neg (show ¬ iI (w * hh) ≤ iI (q + x) by rw [iI_le (by omega) (by omega) (by omega) (by omega)]; omega), nzp_iI _ (by omega) (by omega), nzp_iI _ (by omega) (by omega), rem_iI (by omega) (by omega) (by omega) (by omega), div_iI (by omega) (by omega) (by omega) (by omega), d1, d2, epx, rd_lA _ _ (by omega) (by omega) (by omega), bd_e, bd_e, more_mix, il_1, iI_add]
    exact ih _ (by omega)
theorem x_pix {V : Int → Int} {S : Nat → Nat → Int32} (hi : vImg V) (hr : sR V S) {i : Int} (h : 0 ≤ i ∧ i < V 0) (R : Option Int64 → Option (Int64 × Int32 × Int32) → Prop) (k76 : Int64 → Option Int64) (k82 : Int64 → Option (Int64 × Int32 × Int32)) (hk : ∀ z, R (k76 z) (k82 z)) (z : Int64) :
    R (f_X10_mixSprite_L24 S (iI i) k76 g_fuel z 0) (f_X11_moreOf_L40 (lA V) (iI i) (iI (V (20 + 72 * i + 0))) (iI (V (20 + 72 * i + 1))) k82 g_fuel z 0) := by
  have hn := hi.1
  have hr3 := hi.2.1 i h.1 h.2
  obtain ⟨w, hw⟩ : ∃ w, w = V (20 + 72 * i + 0) := ⟨_, rfl⟩
  obtain ⟨hh, hhe⟩ : ∃ w, w = V (20 + 72 * i + 1) := ⟨_, rfl⟩
  have hwh : w * hh ≤ 8 * 8 := Int.mul_le_mul (by omega) (by omega) (by omega) (by omega)
  obtain ⟨fu, hfu, hfu2⟩ := fuel_ex; rw [hfu]
  rw [il_0, ← hw, ← hhe]
  have key := lpp (fun n y (z : Int64) => (f_X10_mixSprite_L24 S (iI i) k76 n z (iI y), f_X11_moreOf_L40 (lA V) (iI i) (iI w) (iI hh) k82 (fu - (y * w).toNat) z (iI (y * w)))) (fun o => R o.1 o.2) hh (fun x z => 0 ≤ x) ?_ ?_ fu 0 z (by omega) (by omega) (by omega)
  · rw [Int.zero_mul] at key
    exact key
  · rintro n z -
    obtain ⟨M', hM'⟩ : ∃ M', fu - (hh * w).toNat = M' + 1 := ⟨fu - (hh * w).toNat - 1, by rw [Int.mul_comm] at hwh; omega⟩
    show R (f_X10_mixSprite_L24 S _ k76 (n + 1) z (iI hh)) (f_X11_moreOf_L40 (lA V) (iI i) (iI w) (iI hh) k82 (fu - (hh * w).toNat) z (iI (hh * w)))
    rw [f_X10_mixSprite_L24, c_height hi hr h, opt_bind, ← hhe, if_pos (Int32.le_refl _), hM', f_X11_moreOf_L40, iI_mul, Int.mul_comm hh w, if_pos (Int32.le_refl _)]
    exact hk z
  · rintro n y z hy y0 ih
    have e0 : 0 ≤ y * w := Int.mul_nonneg y0 (by omega)
    have e1 : (y + 1) * w ≤ hh * w := Int.mul_le_mul_of_nonneg_right (by omega) (by omega)
    rw [Int.add_mul, Int.one_mul, Int.mul_comm hh w] at e1
    rw [Int.add_mul, Int.one_mul] at ih
    show R (f_X10_mixSprite_L24 S _ k76 (n + 1) z (iI y)) (f_X11_moreOf_L40 (lA V) (iI i) (iI w) (iI hh) k82 (fu - (y * w).toNat) z (iI (y * w)))
    rw [f_X10_mixSprite_L24, c_height hi hr h, opt_bind, ← hhe, if_neg (show ¬ iI hh ≤ iI y by rw [iI_le (by omega) (by omega) (by omega) (by omega)]; omega), jn_e, hfu, il_0]
    refine x_pixI hi hr h hw hhe R k82 (by omega) (by omega) ⟨y0, hy⟩ rfl e0 e1 hwh _ ?_ z
    intro z
    rw [bd_e, il_1, iI_add]
    exact ih z (by omega)
