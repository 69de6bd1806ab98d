/-! numbers: an int as the Int that it is of, an array of ints as a function on Int -/
def iI (z : Int) : Int32 := Int32.ofInt z
def iL (z : Int) : Int64 := Int64.ofInt z
def lA (A : Int → Int) : Nat → Int32 := fun k => iI (A k)
def uI (A : Int → Int) (i x : Int) : Int → Int := fun j => if j = i then x else A j
theorem iI_add (a b : Int) : iI a + iI b = iI (a + b) := (Int32.ofInt_add a b).symm
theorem iI_sub (a b : Int) : iI a - iI b = iI (a - b) := (Int32.ofInt_sub a b).symm
theorem iI_mul (a b : Int) : iI a * iI b = iI (a * b) := (Int32.ofInt_mul a b).symm
theorem iI_neg (a : Int) : -iI a = iI (-a) := (Int32.ofInt_neg a).symm
theorem iI_n (n : Nat) : (no_index (OfNat.ofNat n) : Int32) = iI (OfNat.ofNat n) := Int32.ofInt_eq_ofNat.symm
theorem iI_0 : (0 : Int32) = iI 0 := by decide +kernel
theorem iI_toInt {a : Int} (h1 : -2147483648 ≤ a) (h2 : a < 2147483648) : (iI a).toInt = a := Int32.toInt_ofInt_of_le h1 h2
theorem iI_le {a b : Int} (h1 : -2147483648 ≤ a) (h2 : a < 2147483648) (h3 : -2147483648 ≤ b) (h4 : b < 2147483648) : (iI a ≤ iI b) = (a ≤ b) := by
  rw [Int32.le_iff_toInt_le, iI_toInt h1 h2, iI_toInt h3 h4]
theorem iI_lt {a b : Int} (h1 : -2147483648 ≤ a) (h2 : a < 2147483648) (h3 : -2147483648 ≤ b) (h4 : b < 2147483648) : (iI a < iI b) = (a < b) := by
  rw [Int32.lt_iff_toInt_lt, iI_toInt h1 h2, iI_toInt h3 h4]
theorem iI_eq {a b : Int} (h1 : -2147483648 ≤ a) (h2 : a < 2147483648) (h3 : -2147483648 ≤ b) (h4 : b < 2147483648) : (iI a = iI b) = (a = b) := by
  rw [← Int32.toInt_inj, iI_toInt h1 h2, iI_toInt h3 h4]
theorem iI_cl {a : Int} (h1 : 0 ≤ a) (h2 : a < 2147483648) : (iI a).toNatClampNeg = a.toNat := Int32.toNatClampNeg_ofInt_of_le (by omega) (by omega)
theorem iI_of (x : Int32) : x = iI x.toInt := (Int32.ofInt_toInt x).symm
theorem lA_of (f : Nat → Int32) : f = lA (fun z => (f z.toNat).toInt) := funext fun k => (Int32.ofInt_toInt (f k)).symm
theorem lA_at (A : Int → Int) {z : Int} (h : 0 ≤ z) : lA A z.toNat = iI (A z) := by
  show iI (A ((z.toNat : Nat) : Int)) = _
  rw [Int.toNat_of_nonneg h]
theorem lA_nat (A : Int → Int) (k : Nat) : lA A k = iI (A (k : Int)) := rfl
theorem uI_self (A : Int → Int) (i x : Int) : uI A i x i = x := if_pos rfl
theorem uI_ne {A : Int → Int} {i x j : Int} (h : j ≠ i) : uI A i x j = A j := if_neg h
theorem uI_at (A : Int → Int) (i x j : Int) : uI A i x j = if j = i then x else A j := rfl
theorem uI_twice (A : Int → Int) (i x y : Int) : uI (uI A i x) i y = uI A i y := by
  funext j
  simp only [uI]
  split <;> rfl
theorem lA_upd (A : Int → Int) {z : Int} (x : Int) (h : 0 ≤ z) : upd (lA A) z.toNat (iI x) = lA (uI A z x) := by
  funext k
  show (if k = z.toNat then iI x else iI (A k)) = iI (if (k : Int) = z then x else A k)
  by_cases hk : k = z.toNat
  · rw [if_pos hk, if_pos (by omega)]
  · rw [if_neg hk, if_neg (by omega)]
theorem iI_in {n : Nat} {z : Int} (h0 : 0 ≤ z) (h1 : z < n) (hn : n < 2147483648) : ¬ (iI z < 0 ∨ n ≤ (iI z).toNatClampNeg) := by
  rw [iI_cl h0 (by omega), iI_0, iI_lt (by omega) (by omega) (by omega) (by omega)]
  omega
theorem rd_iI {α β : Type} (f : Nat → α) {n : Nat} {z : Int} (k : α → Option β) (h0 : 0 ≤ z) (h1 : z < n) (hn : n < 2147483648) : g_rd f n (iI z) k = k (f z.toNat) := by
  unfold g_rd
  rw [if_neg (iI_in h0 h1 hn), iI_cl h0 (by omega)]
theorem rd_lA {β : Type} (A : Int → Int) {n : Nat} {z : Int} (k : Int32 → Option β) (h0 : 0 ≤ z) (h1 : z < n) (hn : n < 2147483648) : g_rd (lA A) n (iI z) k = k (iI (A z)) := by
  rw [rd_iI _ _ h0 h1 hn, lA_at A h0]
theorem wr_iI {β : Type} (f : Nat → Int32) {n : Nat} {z : Int} (x : Int32) (k : (Nat → Int32) → Option β) (h0 : 0 ≤ z) (h1 : z < n) (hn : n < 2147483648) : g_wr f n (iI z) x k = k (upd f z.toNat x) := by
  unfold g_wr
  rw [if_neg (iI_in h0 h1 hn), iI_cl h0 (by omega)]
theorem wr_lA {β : Type} (A : Int → Int) {n : Nat} {z x : Int} (k : (Nat → Int32) → Option β) (h0 : 0 ≤ z) (h1 : z < n) (hn : n < 2147483648) : g_wr (lA A) n (iI z) (iI x) k = k (lA (uI A z x)) := by
  rw [wr_iI _ _ _ h0 h1 hn, lA_upd A x h0]
theorem nar_0 : vp_nar .boolean (iI 0) = iI 0 := by decide +kernel
theorem nar_1 : vp_nar .boolean (iI 1) = iI 1 := by decide +kernel
theorem nar_z {x : Int} (h : x = 0 ∨ x = 1) : vp_nar .boolean (iI x) = iI x := by
  rcases h with rfl | rfl
  · exact nar_0
  · exact nar_1
theorem wrZ_lA {β : Type} (A : Int → Int) {n : Nat} {z x : Int} (k : (Nat → Int32) → Option β) (hx : x = 0 ∨ x = 1) (h0 : 0 ≤ z) (h1 : z < n) (hn : n < 2147483648) : g_wrZ (lA A) n (iI z) (iI x) k = k (lA (uI A z x)) := by
  unfold g_wrZ
  rw [if_neg (iI_in h0 h1 hn), iI_cl h0 (by omega), nar_z hx, lA_upd A x h0]
theorem wrL_iI {β : Type} (f : Nat → Int64) {n : Nat} {z : Int} (x : Int64) (k : (Nat → Int64) → Option β) (h0 : 0 ≤ z) (h1 : z < n) (hn : n < 2147483648) : g_wrL f n (iI z) x k = k (vp_updL f z.toNat x) := by
  unfold g_wrL
  rw [if_neg (iI_in h0 h1 hn), iI_cl h0 (by omega)]
theorem z_iI {β : Type} {x : Int} (k : Option β) (h : x = 0 ∨ x = 1) : g_z (iI x) k = k := by
  unfold g_z
  rcases h with rfl | rfl
  · exact if_pos (Or.inl iI_0.symm)
  · exact if_pos (Or.inr (by decide +kernel))
theorem nz_iI {β : Type} {x : Int} (k : Option β) (h : x ≠ 0) (h1 : -2147483648 ≤ x) (h2 : x < 2147483648) : g_nz (iI x) k = k := by
  unfold g_nz
  rw [if_neg (by rw [iI_0, iI_eq h1 h2 (by omega) (by omega)]; exact h)]
theorem max_iI {a b : Int} (h1 : -2147483648 ≤ a) (h2 : a < 2147483648) (h3 : -2147483648 ≤ b) (h4 : b < 2147483648) : g_max (iI a) (iI b) = iI (max a b) := by
  unfold g_max
  simp only [iI_lt h1 h2 h3 h4]
  split
  · rw [show max a b = b by omega]
  · rw [show max a b = a by omega]
theorem min_iI {a b : Int} (h1 : -2147483648 ≤ a) (h2 : a < 2147483648) (h3 : -2147483648 ≤ b) (h4 : b < 2147483648) : g_min (iI a) (iI b) = iI (min a b) := by
  unfold g_min
  simp only [iI_lt h3 h4 h1 h2]
  split
  · rw [show min a b = b by omega]
  · rw [show min a b = a by omega]
theorem div_iI {a b : Int} (h1 : 0 ≤ a) (h2 : a < 2147483648) (h3 : 0 < b) (h4 : b < 2147483648) : iI a / iI b = iI (a / b) := by
  have e : a.tdiv b = a / b := Int.tdiv_eq_ediv_of_nonneg h1
  rw [← e]
  exact (Int32.ofInt_tdiv (show (-2147483648 : Int) ≤ a by omega) (show a ≤ (2147483647 : Int) by omega) (show (-2147483648 : Int) ≤ b by omega) (show b ≤ (2147483647 : Int) by omega)).symm
theorem rem_iI {a b : Int} (h1 : 0 ≤ a) (h2 : a < 2147483648) (h3 : 0 < b) (h4 : b < 2147483648) : g_rem (iI a) (iI b) = iI (a % b) := by
  unfold g_rem
  rw [div_iI h1 h2 h3 h4, iI_mul, iI_sub, Int.emod_def, Int.mul_comm]
theorem ite_iI (c : Prop) [Decidable c] (a b : Int) : (if c then iI a else iI b) = iI (if c then a else b) := by split <;> rfl
theorem cpy_lA {β : Type} (A B : Int → Int) {n0 n1 : Nat} {sp dp n : Int} (k : (Nat → Int32) → Option β) (h1 : 0 ≤ sp) (h2 : 0 ≤ dp) (h3 : 0 ≤ n) (h4 : sp + n ≤ n0) (h5 : dp + n ≤ n1) (hn0 : n0 < 2147483648) (hn1 : n1 < 2147483648) : g_cpy (lA A) n0 (iI sp) (lA B) n1 (iI dp) (iI n) k = k (lA (fun j => if dp ≤ j ∧ j < dp + n then A (sp + (j - dp)) else B j)) := by
  unfold g_cpy
  rw [if_neg (by
    rw [iI_cl h1 (by omega), iI_cl h2 (by omega), iI_cl h3 (by omega), iI_0, iI_lt (by omega) (by omega) (by omega) (by omega), iI_lt (by omega) (by omega) (by omega) (by omega), iI_lt (by omega) (by omega) (by omega) (by omega)]
    omega), iI_cl h1 (by omega), iI_cl h2 (by omega), iI_cl h3 (by omega)]
  congr 1
  funext j
  unfold va_cpy
  show (if dp.toNat ≤ j ∧ j < dp.toNat + n.toNat then lA A (sp.toNat + (j - dp.toNat)) else lA B j) = iI (if dp ≤ (j : Int) ∧ (j : Int) < dp + n then A (sp + ((j : Int) - dp)) else B j)
  by_cases hj : dp ≤ (j : Int) ∧ (j : Int) < dp + n
  · rw [if_pos hj, if_pos (by omega), lA_nat]
    congr 2
    omega
  · rw [if_neg hj, if_neg (by omega), lA_nat]
theorem opt_bind {α β : Type} (a : α) (f : α → Option β) : (some a).bind f = f a := (Eq.refl (f a)).trans (Eq.refl (f a))
theorem jn_e {α β : Type} (r : α) (b : α → β) : g_jn r b = b r := (Eq.refl (b r)).trans (Eq.refl (b r))
theorem bd_e {α β : Type} (e : α) (k : α → β) : g_bd e k = k e := (Eq.refl (k e)).trans (Eq.refl (k e))
/-! literals -/
theorem il_0 : (0 : Int32) = iI 0 := by decide +kernel
theorem il_1 : (1 : Int32) = iI 1 := by decide +kernel
theorem il_2 : (2 : Int32) = iI 2 := by decide +kernel
theorem il_3 : (3 : Int32) = iI 3 := by decide +kernel
theorem il_4 : (4 : Int32) = iI 4 := by decide +kernel
theorem il_5 : (5 : Int32) = iI 5 := by decide +kernel
theorem il_6 : (6 : Int32) = iI 6 := by decide +kernel
theorem il_7 : (7 : Int32) = iI 7 := by decide +kernel
theorem il_8 : (8 : Int32) = iI 8 := by decide +kernel
theorem il_9 : (9 : Int32) = iI 9 := by decide +kernel
theorem il_10 : (10 : Int32) = iI 10 := by decide +kernel
theorem il_11 : (11 : Int32) = iI 11 := by decide +kernel
theorem il_12 : (12 : Int32) = iI 12 := by decide +kernel
theorem il_13 : (13 : Int32) = iI 13 := by decide +kernel
theorem il_14 : (14 : Int32) = iI 14 := by decide +kernel
theorem il_15 : (15 : Int32) = iI 15 := by decide +kernel
theorem il_16 : (16 : Int32) = iI 16 := by decide +kernel
theorem il_18 : (18 : Int32) = iI 18 := by decide +kernel
theorem il_20 : (20 : Int32) = iI 20 := by decide +kernel
theorem il_24 : (24 : Int32) = iI 24 := by decide +kernel
theorem il_32 : (32 : Int32) = iI 32 := by decide +kernel
theorem il_35 : (35 : Int32) = iI 35 := by decide +kernel
theorem il_40 : (40 : Int32) = iI 40 := by decide +kernel
theorem il_44 : (44 : Int32) = iI 44 := by decide +kernel
theorem il_47 : (47 : Int32) = iI 47 := by decide +kernel
theorem il_48 : (48 : Int32) = iI 48 := by decide +kernel
theorem il_56 : (56 : Int32) = iI 56 := by decide +kernel
theorem il_57 : (57 : Int32) = iI 57 := by decide +kernel
theorem il_58 : (58 : Int32) = iI 58 := by decide +kernel
theorem il_59 : (59 : Int32) = iI 59 := by decide +kernel
theorem il_63 : (63 : Int32) = iI 63 := by decide +kernel
theorem il_64 : (64 : Int32) = iI 64 := by decide +kernel
theorem il_72 : (72 : Int32) = iI 72 := by decide +kernel
theorem il_100 : (100 : Int32) = iI 100 := by decide +kernel
theorem il_120 : (120 : Int32) = iI 120 := by decide +kernel
theorem il_126 : (126 : Int32) = iI 126 := by decide +kernel
theorem il_127 : (127 : Int32) = iI 127 := by decide +kernel
theorem il_160 : (160 : Int32) = iI 160 := by decide +kernel
theorem il_192 : (192 : Int32) = iI 192 := by decide +kernel
theorem il_255 : (255 : Int32) = iI 255 := by decide +kernel
theorem il_349 : (349 : Int32) = iI 349 := by decide +kernel
theorem il_1748 : (1748 : Int32) = iI 1748 := by decide +kernel
theorem il_6992 : (6992 : Int32) = iI 6992 := by decide +kernel
/-! loops -/
theorem lp {σ β : Type} (F : Nat → Int → σ → Option β) (P : Option β → Prop) (N : Int) (I : Int → σ → Prop) (hend : ∀ n s, I N s → P (F (n + 1) N s)) (hstep : ∀ n x s, x < N → I x s → (∀ s', I (x + 1) s' → P (F n (x + 1) s')) → P (F (n + 1) x s)) (n : Nat) (x : Int) (s : σ) (hx : x ≤ N) (hn : N - x < n) (hI : I x s) : P (F n x s) := by
  induction n generalizing x s with
  | zero => omega
  | succ n ih =>
    by_cases h : x = N
    · subst h
      exact hend n s hI
    · exact hstep n x s (by omega) hI (fun s' hI' => ih (x + 1) s' (by omega) (by omega) hI')
theorem lpm {σ β : Type} (F : Nat → σ → Option β) (P : Option β → Prop) (I : σ → Prop) (μ : σ → Nat) (hstep : ∀ n s, I s → (∀ s', I s' → μ s' < μ s → P (F n s')) → P (F (n + 1) s)) (n : Nat) (s : σ) (hn : μ s < n) (hI : I s) : P (F n s) := by
  induction n generalizing s with
  | zero => omega
  | succ n ih => exact hstep n s hI (fun s' hI' hl => ih s' (by omega) hI')
theorem fuel_lt {z : Int} (h : z < 20000) : z < (g_fuel : Int) := h
theorem fuel_ltN {z : Nat} (h : z < 20000) : z < g_fuel := h
/-- an array's values below a bound, another function elsewhere -/
theorem lA_eq {A B : Int → Int} (h : ∀ j, 0 ≤ j → A j = B j) : lA A = lA B := funext fun k => by rw [lA_nat, lA_nat, h _ (by omega)]
theorem iLeT {a b : Int} (h : a ≤ b) : (a ≤ b) = True := eq_true h
theorem iLeF {a b : Int} (h : b < a) : (a ≤ b) = False := eq_false (by omega)
theorem iLtT {a b : Int} (h : a < b) : (a < b) = True := eq_true h
theorem iLtF {a b : Int} (h : b ≤ a) : (a < b) = False := eq_false (by omega)
theorem iEqT {a b : Int} (h : a = b) : (a = b) = True := eq_true h
theorem iEqF {a b : Int} (h : a < b ∨ b < a) : (a = b) = False := eq_false (by omega)
theorem fuel_ex : ∃ fu : Nat, g_fuel = fu ∧ 20000 ≤ fu := ⟨20000, rfl, Nat.le_refl _⟩
def lR (A : Int → Int32) : Nat → Int32 := fun k => A k
def uR (A : Int → Int32) (i : Int) (x : Int32) : Int → Int32 := fun j => if j = i then x else A j
theorem lR_of (f : Nat → Int32) : f = lR (fun z => f z.toNat) := rfl
theorem rd_lR {β : Type} (A : Int → Int32) {n : Nat} {z : Int} (k : Int32 → Option β) (h0 : 0 ≤ z) (h1 : z < n) (hn : n < 2147483648) : g_rd (lR A) n (iI z) k = k (A z) := by
  rw [rd_iI _ _ h0 h1 hn]
  show k (A ((z.toNat : Nat) : Int)) = _
  rw [Int.toNat_of_nonneg h0]
theorem wr_lR {β : Type} (A : Int → Int32) {n : Nat} {z : Int} {x : Int32} (k : (Nat → Int32) → Option β) (h0 : 0 ≤ z) (h1 : z < n) (hn : n < 2147483648) : g_wr (lR A) n (iI z) x k = k (lR (uR A z x)) := by
  rw [wr_iI _ _ _ h0 h1 hn]
  congr 1
  funext k
  show (if k = z.toNat then x else A k) = (if (k : Int) = z then x else A k)
  by_cases hk : k = z.toNat
  · rw [if_pos hk, if_pos (by omega)]
  · rw [if_neg hk, if_neg (by omega)]
theorem lpp {σ τ : Type} (F : Nat → Int → σ → τ) (P : τ → Prop) (N : Int) (I : Int → σ → Prop) (hend : ∀ n s, I N s → P (F (n + 1) N s)) (hstep : ∀ n x s, x < N → I x s → (∀ s', I (x + 1) s' → P (F n (x + 1) s')) → P (F (n + 1) x s)) (n : Nat) (x : Int) (s : σ) (hx : x ≤ N) (hn : N - x < n) (hI : I x s) : P (F n x s) := by
  induction n generalizing x s with
  | zero => omega
  | succ n ih =>
    by_cases h : x = N
    · subst h
      exact hend n s hI
    · exact hstep n x s (by omega) hI (fun s' hI' => ih (x + 1) s' (by omega) (by omega) hI')
