/-! a row of positions as a long, a rectangle as an int -/
def lb (x : Int64) (i : Nat) : Bool := x.toBitVec.getLsbD i
theorem lb_ext {x y : Int64} (h : ∀ i, i < 64 → lb x i = lb y i) : x = y := Int64.toBitVec_inj.mp (BitVec.eq_of_getLsbD_eq (fun i hi => h i hi))
theorem lb_and (x y : Int64) (i : Nat) : lb (x &&& y) i = (lb x i && lb y i) := by unfold lb; rw [Int64.toBitVec_and, BitVec.getLsbD_and]
theorem lb_xor (x y : Int64) (i : Nat) : lb (x ^^^ y) i = (lb x i ^^ lb y i) := by unfold lb; rw [Int64.toBitVec_xor, BitVec.getLsbD_xor]
theorem lb_big {x : Int64} {i : Nat} (h : 64 ≤ i) : lb x i = false := BitVec.getLsbD_of_ge _ _ h
theorem lb_m1 : ∀ i, i < 64 → lb (-1) i = true := by decide +kernel
theorem lb_0 (i : Nat) : lb 0 i = false := BitVec.getLsbD_zero
theorem lb_not (x : Int64) {i : Nat} (h : i < 64) : lb (x ^^^ (-1)) i = !lb x i := by
  rw [lb_xor, lb_m1 i h]
  cases lb x i <;> rfl
theorem lb_zero {x : Int64} : x = 0 ↔ ∀ i, i < 64 → lb x i = false := by
  constructor
  · rintro rfl i _
    exact lb_0 i
  · intro h
    exact lb_ext (fun i hi => by rw [h i hi, lb_0])
theorem cmp_0 {x : Int64} : (lg_cmp x 0 = 0) = (x = 0) := by
  unfold lg_cmp
  by_cases h : x > 0
  · rw [if_pos h]
    apply propext
    constructor
    · intro e
      exact absurd e (by decide)
    · intro e
      rw [e] at h
      exact absurd h (by decide)
  · rw [if_neg h]
    by_cases h2 : x = 0
    · rw [if_pos h2]
      exact propext ⟨fun _ => h2, fun _ => rfl⟩
    · rw [if_neg h2]
      exact propext ⟨fun e => absurd e (by decide), fun e => absurd e h2⟩
theorem lb_ones : ∀ w, w < 36 → ∀ i, i < 64 → lb (g_lshl 1 (nI w) - 1) i = decide (i < w) := by decide +kernel
theorem lb_sm : ∀ n, n < 64 → (((nI n).toInt64 &&& 63).toBitVec.smod 64).toNat = n := by decide +kernel
theorem lb_shl (x : Int64) {n i : Nat} (hn : n < 64) (hi : i < 64) : lb (g_lshl x (nI n)) i = (decide (n ≤ i) && lb x (i - n)) := by
  unfold g_lshl lb
  rw [Int64.toBitVec_shiftLeft]
  show (x.toBitVec <<< (((nI n).toInt64 &&& 63).toBitVec.smod 64).toNat).getLsbD i = _
  rw [lb_sm n hn, BitVec.getLsbD_shiftLeft]
  rcases Nat.lt_or_ge i n with h | h
  · simp [h, Nat.not_le.mpr h]
  · simp [hi, h, Nat.not_lt.mpr h]
/-- a run of n ones from place a on -/
def onesL (a n : Nat) : Int64 := g_lshl (g_lshl 1 (nI n) - 1) (nI a)
theorem lb_run {a n i : Nat} (h : a + n < 36) (hi : i < 64) : lb (onesL a n) i = decide (a ≤ i ∧ i < a + n) := by
  unfold onesL
  rw [lb_shl _ (by omega) hi]
  by_cases h1 : a ≤ i
  · rw [lb_ones n (by omega) (i - a) (by omega), decide_eq_true h1, Bool.true_and]
    by_cases h2 : i < a + n
    · rw [decide_eq_true (show i - a < n by omega), decide_eq_true ⟨h1, h2⟩]
    · rw [decide_eq_false (show ¬ i - a < n by omega), decide_eq_false (fun h => h2 h.2)]
  · rw [decide_eq_false h1, Bool.false_and, decide_eq_false (fun h => h1 h.1)]
theorem cnt_low : ∀ a, a < 36 → f_J13_bitCount_95d88 (onesL a 1 - 1) = nI a := by decide +kernel
theorem cnt_run : ∀ a, a < 36 → ∀ n, n < 36 → a + n < 36 → f_J13_bitCount_95d88 (onesL a n) = nI n := by decide +kernel
/-! the lowest run of a row -/
theorem lb_tb (v : Int64) (i : Nat) : lb v i = v.toBitVec.toNat.testBit i := rfl
theorem lb_pred {v : Int64} {a : Nat} (ha : a < 64) (h0 : ∀ i, i < a → lb v i = false) (h1 : lb v a = true) {i : Nat} (hi : i < 64) : lb (v - 1) i = if i < a then true else if i = a then false else lb v i := by
  have hr : v.toBitVec.toNat < 2 ^ 64 := v.toBitVec.isLt
  generalize hR : v.toBitVec.toNat = r at hr
  have hb : ∀ j, lb v j = r.testBit j := fun j => by rw [lb_tb, hR]
  have hge : 1 ≤ r := by
    apply Classical.byContradiction
    intro h
    have : r = 0 := by omega
    rw [hb a, this, Nat.zero_testBit] at h1
    cases h1
  have e1 : (v - 1).toBitVec.toNat = r - 1 := by
    rw [Int64.toBitVec_sub, BitVec.toNat_sub, hR]
    show (2 ^ 64 - 1 + r) % 2 ^ 64 = r - 1
    omega
  rw [lb_tb, e1, hb i]
  obtain ⟨u, hu⟩ : ∃ u, r = 2 ^ a * (2 * u + 1) := by
    have e2 : r % 2 ^ a = 0 := by
      apply Nat.eq_of_testBit_eq
      intro j
      rw [Nat.testBit_mod_two_pow, Nat.zero_testBit]
      by_cases hj : j < a
      · rw [← hb j, h0 j hj, Bool.and_false]
      · rw [decide_eq_false hj, Bool.false_and]
    have e3 : (r / 2 ^ a) % 2 = 1 := by
      have := h1
      rw [hb a] at this
      rw [Nat.testBit_eq_decide_div_mod_eq] at this
      exact of_decide_eq_true this
    refine ⟨r / 2 ^ a / 2, ?_⟩
    have h5 := Nat.div_add_mod r (2 ^ a)
    have h6 := Nat.div_add_mod (r / 2 ^ a) 2
    rw [e3] at h6
    rw [h6]
    omega
  have hp : 0 < 2 ^ a := Nat.two_pow_pos a
  have e4 : r - 1 = 2 ^ a * (2 * u) + (2 ^ a - 1) := by
    rw [hu, Nat.mul_add, Nat.mul_one]
    omega
  have e5 : r = 2 ^ a * (2 * u + 1) + 0 := by omega
  rw [e4, Nat.testBit_two_pow_mul_add _ (by omega)]
  conv => rhs; rw [e5]
  rw [Nat.testBit_two_pow_mul_add _ (by omega)]
  by_cases hj : i < a
  · rw [if_pos hj, if_pos hj, Nat.testBit_two_pow_sub_one, decide_eq_true hj]
  · rw [if_neg hj, if_neg hj, if_neg hj]
    by_cases hj2 : i = a
    · rw [if_pos hj2, hj2, Nat.sub_self, Nat.testBit_zero]
      simp
    · rw [if_neg hj2]
      obtain ⟨k, hk⟩ : ∃ k, i - a = k + 1 := ⟨i - a - 1, by omega⟩
      rw [hk, Nat.testBit_succ, Nat.testBit_succ]
      congr 1
      omega
theorem neg_low {v : Int64} {a : Nat} (ha : a < 35) (h0 : ∀ i, i < a → lb v i = false) (h1 : lb v a = true) : v &&& (-v) = onesL a 1 := by
  apply lb_ext
  intro i hi
  have e : -v = (v - 1) ^^^ (-1) := by
    apply lb_ext
    intro j hj
    rw [lb_not _ hj]
    unfold lb
    rw [Int64.toBitVec_neg, BitVec.neg_eq_not_add, ← BitVec.not_sub_one_eq_not_add_one, BitVec.getLsbD_not, decide_eq_true hj, Bool.true_and]
    rfl
  rw [lb_and, e, lb_not _ hi, lb_pred (by omega) h0 h1 hi, lb_run (by omega) hi]
  by_cases hj : i < a
  · rw [h0 i hj, Bool.false_and, decide_eq_false (by omega)]
  · rw [if_neg hj]
    by_cases hj2 : i = a
    · rw [if_pos hj2, hj2, h1, decide_eq_true (by omega)]
      rfl
    · rw [if_neg hj2, decide_eq_false (by omega)]
      cases lb v i <;> rfl
theorem add_low {v : Int64} {a n : Nat} (han : a + n < 36) (hn : 0 < n) (hbig : ∀ i, 35 ≤ i → lb v i = false) (h0 : ∀ i, i < a → lb v i = false) (h1 : ∀ i, a ≤ i → i < a + n → lb v i = true) (h2 : lb v (a + n) = false) {i : Nat} (hi : i < 64) : lb (v + onesL a 1) i = if i < a + n then false else if i = a + n then true else lb v i := by
  have hb0 : ∀ j, lb v j = v.toBitVec.toNat.testBit j := fun j => rfl
  generalize hR : v.toBitVec.toNat = r at hb0
  have hp : 0 < 2 ^ a := Nat.two_pow_pos a
  have hr : r < 2 ^ 35 := by
    exact Nat.lt_pow_two_of_testBit r (fun i hi => by rw [← hb0 i]; exact hbig i hi)
  have e1 : (onesL a 1).toBitVec.toNat = 2 ^ a := by
    apply Nat.eq_of_testBit_eq
    intro j
    rw [Nat.testBit_two_pow]
    by_cases hj : j < 64
    · have := lb_run (a := a) (n := 1) (by omega) hj
      rw [← lb_tb, this]
      by_cases e : a = j
      · rw [decide_eq_true e, decide_eq_true (by omega)]
      · rw [decide_eq_false e, decide_eq_false (by omega)]
    · rw [← lb_tb, lb_big (by omega), decide_eq_false (by omega)]
  have hpw : 2 ^ a ≤ 2 ^ 35 := Nat.pow_le_pow_right (by decide) (by omega)
  have e2 : (v + onesL a 1).toBitVec.toNat = r + 2 ^ a := by
    rw [Int64.toBitVec_add, BitVec.toNat_add, hR, e1]
    omega
  have e3 : r % 2 ^ (a + n + 1) = 2 ^ a * (2 ^ n - 1) := by
    apply Nat.eq_of_testBit_eq
    intro j
    rw [Nat.testBit_mod_two_pow, Nat.testBit_two_pow_mul, Nat.testBit_two_pow_sub_one, ← hb0 j]
    by_cases j1 : j < a
    · rw [h0 j j1, decide_eq_false (show ¬ j ≥ a by omega)]
      simp
    · by_cases j2 : j < a + n
      · rw [h1 j (by omega) j2, decide_eq_true (show j < a + n + 1 by omega), decide_eq_true (show j ≥ a by omega), decide_eq_true (show j - a < n by omega)]
      · by_cases j3 : j = a + n
        · rw [j3, h2]
          simp
        · rw [decide_eq_false (show ¬ j < a + n + 1 by omega), decide_eq_false (show ¬ j - a < n by omega)]
          simp
  have hpn : 0 < 2 ^ n := Nat.two_pow_pos n
  have e5 : 2 ^ (a + n) = 2 ^ a * 2 ^ n := Nat.pow_add 2 a n
  have e6 : 2 ^ a * (2 ^ n - 1) + 2 ^ a = 2 ^ (a + n) := by
    rw [e5, Nat.mul_sub, Nat.mul_one]
    have : 2 ^ a ≤ 2 ^ a * 2 ^ n := Nat.le_mul_of_pos_right _ hpn
    omega
  have e7 : 2 ^ (a + n + 1) = 2 * 2 ^ (a + n) := by rw [Nat.pow_succ, Nat.mul_comm]
  have h5 := Nat.div_add_mod r (2 ^ (a + n + 1))
  generalize hq : r / 2 ^ (a + n + 1) = q at h5
  have e4 : r + 2 ^ a = 2 ^ (a + n + 1) * q + 2 ^ (a + n) := by omega
  have hlt : 2 ^ (a + n) < 2 ^ (a + n + 1) := by
    have := Nat.two_pow_pos (a + n)
    omega
  rw [lb_tb, e2, e4, Nat.testBit_two_pow_mul_add _ hlt, Nat.testBit_two_pow]
  by_cases j1 : i < a + n
  · rw [if_pos (by omega), if_pos j1, decide_eq_false (by omega)]
  · rw [if_neg j1]
    by_cases j2 : i = a + n
    · rw [if_pos (by omega), if_pos j2, decide_eq_true (by omega)]
    · rw [if_neg (by omega), if_neg j2, hb0 i, ← h5, Nat.testBit_two_pow_mul_add _ (by rw [e3]; omega), if_neg (by omega)]
theorem run_low {v : Int64} {a n : Nat} (han : a + n < 36) (hn : 0 < n) (hbig : ∀ i, 35 ≤ i → lb v i = false) (h0 : ∀ i, i < a → lb v i = false) (h1 : ∀ i, a ≤ i → i < a + n → lb v i = true) (h2 : lb v (a + n) = false) : v &&& (-v) = onesL a 1 ∧ v &&& ((v + onesL a 1) ^^^ (-1)) = onesL a n := by
  refine ⟨neg_low (by omega) h0 (h1 a (by omega) (by omega)), ?_⟩
  apply lb_ext
  intro i hi
  rw [lb_and, lb_not _ hi, add_low han hn hbig h0 h1 h2 hi, lb_run han hi]
  by_cases j1 : i < a
  · rw [h0 i j1, decide_eq_false (by omega)]
    rfl
  · by_cases j2 : i < a + n
    · rw [h1 i (by omega) j2, if_pos j2, decide_eq_true (by omega)]
      rfl
    · rw [if_neg j2, decide_eq_false (by omega)]
      by_cases j3 : i = a + n
      · rw [j3, h2]
        rfl
      · rw [if_neg j3]
        cases lb v i <;> rfl
theorem run_ex {v : Int64} (hbig : ∀ i, 35 ≤ i → lb v i = false) (hv : v ≠ 0) : ∃ a n, a + n < 36 ∧ 0 < n ∧ (∀ i, i < a → lb v i = false) ∧ (∀ i, a ≤ i → i < a + n → lb v i = true) ∧ lb v (a + n) = false := by
  have hl : ∀ (P : Nat → Bool) (m : Nat), P m = true → ∃ a, a ≤ m ∧ P a = true ∧ ∀ i, i < a → P i = false := by
    intro P m
    induction m using Nat.strongRecOn with
    | _ m ih =>
      intro hm
      by_cases h : ∃ j, j < m ∧ P j = true
      · obtain ⟨j, j1, j2⟩ := h
        obtain ⟨a, a1, a2, a3⟩ := ih j j1 j2
        exact ⟨a, by omega, a2, a3⟩
      · refine ⟨m, Nat.le_refl _, hm, fun i hi => ?_⟩
        cases e : P i with
        | false => rfl
        | true => exact absurd ⟨i, hi, e⟩ h
  obtain ⟨m, hm⟩ : ∃ m, lb v m = true := by
    apply Classical.byContradiction
    intro h
    apply hv
    rw [lb_zero]
    intro i _
    cases e : lb v i with
    | false => rfl
    | true => exact absurd ⟨i, e⟩ h
  have hm35 : m < 35 := by
    apply Classical.byContradiction
    intro h
    rw [hbig m (by omega)] at hm
    cases hm
  obtain ⟨a, a1, a2, a3⟩ := hl (lb v) m hm
  obtain ⟨n, n1, n2, n3⟩ := hl (fun n => !lb v (a + n)) (35 - a) (by rw [show a + (35 - a) = 35 by omega, hbig 35 (by omega)]; rfl)
  have n2' : lb v (a + n) = false := by
    cases e : lb v (a + n) with
    | false => rfl
    | true => rw [e] at n2; cases n2
  refine ⟨a, n, by omega, ?_, a3, fun i i1 i2 => ?_, n2'⟩
  · apply Classical.byContradiction
    intro h
    obtain rfl : n = 0 := by omega
    rw [Nat.add_zero, a2] at n2'
    cases n2'
  · have := n3 (i - a) (by omega)
    rw [show a + (i - a) = i by omega] at this
    cases e : lb v i with
    | true => rfl
    | false => rw [e] at this; cases this
/-! rectangles as ints -/
theorem bt_nI (m : Nat) {i : Nat} (hi : i < 32) : bt (nI m) i = m.testBit i := by
  show (BitVec.ofNat 32 m).getLsbD i = _
  rw [BitVec.getLsbD_ofNat, decide_eq_true hi, Bool.true_and]
theorem code_or (a b : Nat) : nI a ||| nI b = nI (a ||| b) := by
  apply bt_ext
  intro i hi
  rw [bt_or, bt_nI _ hi, bt_nI _ hi, bt_nI _ hi, Nat.testBit_or]
theorem code_shl : ∀ a, a < 64 → g_shl (nI a) 18 = nI (2 ^ 18 * a) ∧ g_shl (nI a) 12 = nI (2 ^ 12 * a) ∧ g_shl (nI a) 6 = nI (2 ^ 6 * a) := by decide +kernel
theorem code_iI {x y w h : Int} (hx : 0 ≤ x ∧ x < 64) (hy : 0 ≤ y ∧ y < 64) (hw : 0 ≤ w ∧ w < 64) (hh : 0 ≤ h ∧ h < 64) : f_X7_code (iI x) (iI y) (iI w) (iI h) = iI (cd x y w h) := by
  obtain ⟨a, rfl⟩ : ∃ a : Nat, x = a := ⟨x.toNat, by omega⟩
  obtain ⟨b, rfl⟩ : ∃ a : Nat, y = a := ⟨y.toNat, by omega⟩
  obtain ⟨c, rfl⟩ : ∃ a : Nat, w = a := ⟨w.toNat, by omega⟩
  obtain ⟨d, rfl⟩ : ∃ a : Nat, h = a := ⟨h.toNat, by omega⟩
  unfold f_X7_code
  rw [iI_nI, iI_nI, iI_nI, iI_nI, (code_shl b (by omega)).1, (code_shl a (by omega)).2.1, (code_shl c (by omega)).2.2, code_or, code_or, code_or, ← Nat.two_pow_add_eq_or_of_lt (show 2 ^ 12 * a < 2 ^ 18 by omega)]
  rw [show 2 ^ 18 * b + 2 ^ 12 * a = 2 ^ 12 * (2 ^ 6 * b + a) by omega, ← Nat.two_pow_add_eq_or_of_lt (show 2 ^ 6 * c < 2 ^ 12 by omega)]
  rw [show 2 ^ 12 * (2 ^ 6 * b + a) + 2 ^ 6 * c = 2 ^ 6 * (2 ^ 6 * (2 ^ 6 * b + a) + c) by omega, ← Nat.two_pow_add_eq_or_of_lt (show d < 2 ^ 6 by omega), ← iI_nI]
  congr 1
  unfold cd
  omega
theorem shr_nI {m k : Nat} (hm : m < 2 ^ 31) (hk : k < 32) : g_shr (nI m) (nI k) = nI (m / 2 ^ k) := by
  apply bt_ext
  intro i hi
  unfold g_shr
  rw [bt_sshr k hk _ hi, bt_nI _ hi]
  have e31 : m.testBit 31 = false := Nat.testBit_lt_two_pow hm
  rw [show (m / 2 ^ k).testBit i = m.testBit (k + i) by rw [Nat.testBit_div_two_pow, Nat.add_comm]]
  by_cases h : k + i < 32
  · rw [if_pos h, bt_nI _ h]
  · rw [if_neg h, bt_nI _ (by omega), e31, Nat.testBit_lt_two_pow]
    exact Nat.lt_of_lt_of_le hm (Nat.pow_le_pow_right (by decide) (by omega))
theorem and63_nI (m : Nat) : nI m &&& nI 63 = nI (m % 64) := by
  apply bt_ext
  intro i hi
  rw [bt_and, bt_nI _ hi, bt_nI _ hi, bt_nI _ hi]
  have := congrArg (fun q => Nat.testBit q i) (Nat.and_two_pow_sub_one_eq_mod m 6)
  rw [Nat.testBit_and] at this
  exact this
theorem code_dec {x y w h : Int} (hx : 0 ≤ x ∧ x < 64) (hy : 0 ≤ y ∧ y < 64) (hw : 0 ≤ w ∧ w < 64) (hh : 0 ≤ h ∧ h < 64) : f_X7_leftIn (iI (cd x y w h)) = iI x ∧ f_X7_topIn (iI (cd x y w h)) = iI y ∧ f_X7_widthIn (iI (cd x y w h)) = iI w ∧ f_X7_heightIn (iI (cd x y w h)) = iI h := by
  obtain ⟨a, rfl⟩ : ∃ a : Nat, x = a := ⟨x.toNat, by omega⟩
  obtain ⟨b, rfl⟩ : ∃ a : Nat, y = a := ⟨y.toNat, by omega⟩
  obtain ⟨c, rfl⟩ : ∃ a : Nat, w = a := ⟨w.toNat, by omega⟩
  obtain ⟨d, rfl⟩ : ∃ a : Nat, h = a := ⟨h.toNat, by omega⟩
  have e : cd a b c d = ((((b * 64 + a) * 64 + c) * 64 + d : Nat) : Int) := by unfold cd; omega
  have l6 : (6 : Int32) = nI 6 := by decide +kernel
  have l12 : (12 : Int32) = nI 12 := by decide +kernel
  have l18 : (18 : Int32) = nI 18 := by decide +kernel
  have l63 : (63 : Int32) = nI 63 := by decide +kernel
  unfold f_X7_leftIn f_X7_topIn f_X7_widthIn f_X7_heightIn
  rw [e, iI_nI, iI_nI, iI_nI, iI_nI, iI_nI, l6, l12, l18, l63, shr_nI (by omega) (by omega), shr_nI (by omega) (by omega), shr_nI (by omega) (by omega), and63_nI, and63_nI, and63_nI]
  refine ⟨?_, ?_, ?_, ?_⟩ <;> congr 1 <;> omega
