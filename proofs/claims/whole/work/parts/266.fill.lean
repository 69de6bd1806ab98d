theorem nzp_iI {β : Type} {x : Int} (k : Option β) (h0 : 0 < x) (h1 : x < 2147483648) : g_nz (iI x) k = k := by
  unfold g_nz
  rw [if_neg (show ¬ iI x = 0 by rw [il_0, iI_eq (by omega) (by omega) (by omega) (by omega)]; omega)]
theorem rem_nat {a b : Nat} (ha : a < 2147483648) (hb : 0 < b) (hb2 : b < 2147483648) : g_rem (iI (a : Int)) (iI (b : Int)) = iI ((a % b : Nat) : Int) := by
  rw [rem_iI (by omega) (by omega) (by omega) (by omega)]
  rfl
theorem mod_half {a b : Nat} (hb : 0 < b) (h : b ≤ a) : 2 * (a % b) < a + 1 ∧ a % b < b := by
  have h1 := Nat.mod_lt a hb
  have h2 : a % b = (a - b) % b := Nat.mod_eq_sub_mod h
  have h3 := Nat.mod_le (a - b) b
  omega
theorem gcd_step (a b : Nat) : Nat.gcd a b = Nat.gcd b (a % b) := by
  rw [Nat.gcd_comm a b, Nat.gcd_rec b a, Nat.gcd_comm]
theorem c_gcd (k : Int32 → Option Int32) : ∀ (m n a b s : Nat), b ≤ a → a < 2 ^ m → a < 2147483648 → s + 2 * m < 64 → 2 * m + 1 < n → f_X10_commonDivisor_L7 k n (iI (a : Int)) (iI (b : Int)) (iI (s : Int)) = k (iI (Nat.gcd a b : Nat))
  | 0, n, a, b, s, hb, ha, _, hs, hn => by
    obtain ⟨n, rfl⟩ : ∃ n', n = n' + 1 := ⟨n - 1, by omega⟩
    have ha' : a = 0 := by omega
    have hb' : b = 0 := by omega
    subst ha'
    subst hb'
    rw [f_X10_commonDivisor_L7, if_neg (show ¬ (64 : Int32) ≤ iI (s : Int) by rw [il_64, iI_le (by omega) (by omega) (by omega) (by omega)]; omega), if_pos (by decide +kernel)]
    rfl
  | m + 1, n, a, b, s, hb, ha, h31, hs, hn => by
    obtain ⟨n, rfl⟩ : ∃ n', n = n' + 1 + 1 := ⟨n - 2, by omega⟩
    rw [f_X10_commonDivisor_L7, if_neg (show ¬ (64 : Int32) ≤ iI (s : Int) by rw [il_64, iI_le (by omega) (by omega) (by omega) (by omega)]; omega)]
    by_cases h0 : b = 0
    · subst h0
      rw [if_pos (by decide +kernel), Nat.gcd_zero_right]
    · rw [if_neg (show ¬ iI (b : Int) ≤ (0 : Int32) by rw [il_0, iI_le (by omega) (by omega) (by omega) (by omega)]; omega), nzp_iI _ (by omega) (by omega), bd_e, bd_e, rem_nat (by omega) (by omega) (by omega), il_1, iI_add]
      obtain ⟨e1, e2⟩ := mod_half (a := a) (b := b) (by omega) hb
      rw [gcd_step a b, f_X10_commonDivisor_L7, if_neg (show ¬ (64 : Int32) ≤ iI ((s : Int) + 1) by rw [il_64, iI_le (by omega) (by omega) (by omega) (by omega)]; omega)]
      by_cases h1 : a % b = 0
      · rw [h1, if_pos (by decide +kernel), Nat.gcd_zero_right]
      · rw [if_neg (show ¬ iI ((a % b : Nat) : Int) ≤ (0 : Int32) by rw [il_0, iI_le (by omega) (by omega) (by omega) (by omega)]; omega), nzp_iI _ (by omega) (by omega), bd_e, bd_e, rem_nat (by omega) (by omega) (by omega), il_1, iI_add, gcd_step b]
        have e3 := Nat.mod_lt b (show 0 < a % b by omega)
        have := c_gcd k m n (a % b) (b % (a % b)) (s + 2) (by omega) (by rw [Nat.pow_succ] at ha; omega) (by omega) (by omega) (by omega)
        rw [← this]
        congr 2
theorem c_common {a b : Nat} (ha : 0 < a ∧ a < 2048) (hb : b < 2048) : f_X10_commonDivisor (iI (a : Int)) (iI (b : Int)) = some (iI (Nat.gcd a b : Nat)) := by
  have hg : 0 < Nat.gcd a b := Nat.gcd_pos_of_pos_left b ha.1
  have hg2 : Nat.gcd a b ≤ a := Nat.gcd_le_left b ha.1
  have hk : some (g_max (iI (Nat.gcd a b : Nat)) 1) = some (iI (Nat.gcd a b : Nat)) := by
    rw [il_1, max_iI (by omega) (by omega) (by omega) (by omega), show max ((Nat.gcd a b : Nat) : Int) 1 = ((Nat.gcd a b : Nat) : Int) by omega]
  unfold f_X10_commonDivisor
  obtain ⟨fu, hfu, hfu2⟩ := fuel_ex; rw [hfu]
  rw [jn_e]
  by_cases h : b ≤ a
  · rw [show (0 : Int32) = iI ((0 : Nat) : Int) by decide +kernel, c_gcd _ 11 fu a b 0 h (by omega) (by omega) (by omega) (by omega), hk]
  · obtain ⟨n, hn⟩ : ∃ n', fu = n' + 1 := ⟨fu - 1, by omega⟩
    rw [hn, f_X10_commonDivisor_L7, if_neg (by decide +kernel : ¬ (64 : Int32) ≤ 0), if_neg (show ¬ iI (b : Int) ≤ (0 : Int32) by rw [il_0, iI_le (by omega) (by omega) (by omega) (by omega)]; omega), nzp_iI _ (by omega) (by omega), bd_e, bd_e, rem_nat (by omega) (by omega) (by omega), Nat.mod_eq_of_lt (by omega), show (0 : Int32) + 1 = iI ((1 : Nat) : Int) by decide +kernel, c_gcd _ 11 n b a 1 (by omega) (by omega) (by omega) (by omega) (by omega), Nat.gcd_comm b a, hk]
theorem m_gcd {k : Int32 → Option (Int32 × Int32 × Int32 × (Nat → Int32) × (Nat → Int32) × (Nat → Int32) × (Nat → Int32) × (Nat → Int32) × (Nat → Int32))} : ∀ (m n a b : Nat), b ≤ m → a < 2147483648 → b < 2147483648 → m + 1 < n → f_X11_fill_L95 k n (iI (a : Int)) (iI (b : Int)) = k (iI (Nat.gcd a b : Nat))
  | 0, n, a, b, hb, ha, _, hn => by
    obtain ⟨n, rfl⟩ : ∃ n', n = n' + 1 := ⟨n - 1, by omega⟩
    have hb' : b = 0 := by omega
    subst hb'
    rw [f_X11_fill_L95, if_pos (by decide +kernel), Nat.gcd_zero_right]
  | m + 1, n, a, b, hb, ha, hb2, hn => by
    obtain ⟨n, rfl⟩ : ∃ n', n = n' + 1 := ⟨n - 1, by omega⟩
    by_cases h0 : b = 0
    · subst h0
      rw [f_X11_fill_L95, if_pos (by decide +kernel), Nat.gcd_zero_right]
    · have e2 := Nat.mod_lt a (show 0 < b by omega)
      rw [f_X11_fill_L95, if_neg (show ¬ iI (b : Int) = (0 : Int32) by rw [il_0, iI_eq (by omega) (by omega) (by omega) (by omega)]; omega), nzp_iI _ (by omega) (by omega), bd_e, rem_nat (by omega) (by omega) (by omega), gcd_step a b]
      exact m_gcd m n b (a % b) (by omega) (by omega) (by omega) (by omega)
