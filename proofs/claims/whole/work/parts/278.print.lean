/-- the model's paper holds the text t -/
def paR (t : List Int) (pr : Int) (A : Int → Int) : Prop := pr = t.length ∧ ∀ (j : Nat) (x : Int), t[j]? = some x → A j = x
theorem paR_0 (A : Int → Int) : paR [] 0 A := ⟨rfl, fun j x h => by simp at h⟩
theorem m_sign {t : List Int} {pr : Int} {A : Int → Int} (h : paR t pr A) (hl : t.length < 100) (c : Int) : ∃ A', f_X11_sign (iI pr) (lA A) (iI c) = some (iI (pr + 1), lA A') ∧ paR (t ++ [c]) (pr + 1) A' := by
  obtain ⟨rfl, h2⟩ := h
  unfold f_X11_sign
  refine ⟨uI A t.length c, ?_, ?_, fun j x hj => ?_⟩
  · rw [wr_lA _ _ (by omega) (by omega) (by omega), bd_e, il_1, iI_add]
  · rw [List.length_append]
    rfl
  · by_cases hlt : j < t.length
    · rw [List.getElem?_append_left hlt] at hj
      rw [uI_ne (by omega)]
      exact h2 j x hj
    · rw [List.getElem?_append_right (by omega)] at hj
      have hz : j - t.length < 1 := (List.getElem?_eq_some_iff.mp hj).1
      rw [show j - t.length = 0 by omega] at hj
      cases hj
      rw [show (j : Int) = (t.length : Int) by omega, uI_self]
def numT (n : Int) : List Int := if n ≤ 9 then [48 + n] else [48 + n / 10, 48 + n % 10]
theorem numT_len (n : Int) : (numT n).length ≤ 2 := by
  unfold numT
  split <;> simp
theorem m_number {t : List Int} {pr : Int} {A : Int → Int} (h : paR t pr A) (hl : t.length < 98) {n : Int} (hn : 0 ≤ n ∧ n < 100) : ∃ pr' A', f_X11_number (iI pr) (lA A) (iI n) = some (iI pr', lA A') ∧ paR (t ++ numT n) pr' A' := by
  unfold f_X11_number numT
  rw [jn_e, il_9, il_48, il_10, div_iI (by omega) (by omega) (by omega) (by omega), rem_iI (by omega) (by omega) (by omega) (by omega), iI_add, iI_add]
  by_cases h9 : n ≤ 9
  · obtain ⟨A', e1, e2⟩ := m_sign h (by omega) (48 + n)
    rw [if_pos (by rw [iI_le (by omega) (by omega) (by omega) (by omega)]; exact h9), if_pos h9, show n % 10 = n by omega]
    dsimp only
    rw [e1, opt_bind]
    exact ⟨_, A', rfl, e2⟩
  · obtain ⟨A1, e1, e2⟩ := m_sign h (by omega) (48 + n / 10)
    obtain ⟨A', e3, e4⟩ := m_sign e2 (by rw [List.length_append]; show t.length + 1 < 100; omega) (48 + n % 10)
    rw [if_neg (by rw [iI_le (by omega) (by omega) (by omega) (by omega)]; exact h9), if_neg h9, e1, opt_bind]
    simp only []
    rw [e3, opt_bind]
    refine ⟨_, A', rfl, ?_⟩
    rw [List.append_assoc] at e4
    exact e4
def wch (w1 w2 : Int64) (x2 : Int32) : Int32 := (g_lshr (if (8 : Int32) ≤ x2 then w2 else w1) (56 - (8 * (g_rem x2 8)))).toInt32 &&& 255
def wtx (w1 w2 : Int64) : Nat → List Int
  | 0 => []
  | n + 1 => (if wch w1 w2 (iI (15 - (n : Int))) = 0 then [] else [(wch w1 w2 (iI (15 - (n : Int)))).toInt]) ++ wtx w1 w2 n
theorem m_wordL (w1 w2 : Int64) : ∀ (n m : Nat) (t : List Int) (pr : Int) (A : Int → Int), n ≤ 16 → n < m → paR t pr A → t.length + n ≤ 100 → ∃ pr' A', f_X11_word_L9 w1 w2 m (iI (16 - (n : Int))) (iI pr) (lA A) = some (iI pr', lA A') ∧ paR (t ++ wtx w1 w2 n) pr' A'
  | 0, m, t, pr, A, hn, hm, h, hl => by
    obtain ⟨m, rfl⟩ : ∃ m', m = m' + 1 := ⟨m - 1, by omega⟩
    refine ⟨pr, A, ?_, ?_⟩
    · rw [f_X11_word_L9, if_pos (by decide +kernel)]
    · show paR (t ++ []) pr A
      rw [List.append_nil]
      exact h
  | n + 1, m, t, pr, A, hn, hm, h, hl => by
    obtain ⟨m, rfl⟩ : ∃ m', m = m' + 1 := ⟨m - 1, by omega⟩
    rw [f_X11_word_L9, show (16 : Int) - ((n + 1 : Nat) : Int) = 15 - (n : Int) by omega, if_neg (show ¬ (16 : Int32) ≤ iI (15 - (n : Int)) by rw [il_16, iI_le (by omega) (by omega) (by omega) (by omega)]; omega), bd_e, bd_e, jn_e]
    obtain ⟨z, hz⟩ : ∃ z, z = wch w1 w2 (iI (15 - (n : Int))) := ⟨_, rfl⟩
    have ht : wtx w1 w2 (n + 1) = (if z = 0 then [] else [z.toInt]) ++ wtx w1 w2 n := by rw [hz]; rfl
    rw [ht]
    unfold wch at hz
    rw [← hz]
    by_cases h0 : z = 0
    · obtain ⟨pr', A', e1, e2⟩ := m_wordL w1 w2 n m t pr A (by omega) (by omega) h (by omega)
      rw [if_pos h0, if_pos h0]
      dsimp only
      rw [bd_e, il_1, iI_add, show (15 : Int) - (n : Int) + 1 = 16 - (n : Int) by omega]
      exact ⟨pr', A', e1, e2⟩
    · obtain ⟨A1, e1, e2⟩ := m_sign h (by omega) z.toInt
      obtain ⟨pr', A', e3, e4⟩ := m_wordL w1 w2 n m (t ++ [z.toInt]) (pr + 1) A1 (by omega) (by omega) e2 (by rw [List.length_append]; show t.length + 1 + n ≤ 100; omega)
      rw [show iI z.toInt = z from Int32.ofInt_toInt z] at e1
      rw [if_neg h0, if_neg h0, e1, opt_bind]
      simp only []
      rw [bd_e, il_1, iI_add, show (15 : Int) - (n : Int) + 1 = 16 - (n : Int) by omega]
      refine ⟨pr', A', e3, ?_⟩
      rw [List.append_assoc] at e4
      exact e4
theorem m_word {w1 w2 : Int64} {L : List Int} (hL : 32 :: wtx w1 w2 16 = L) {t : List Int} {pr : Int} {A : Int → Int} (h : paR t pr A) (hl : t.length < 80) : ∃ pr' A', f_X11_word (iI pr) (lA A) w1 w2 = some (iI pr', lA A') ∧ paR (t ++ L) pr' A' := by
  obtain ⟨A1, e1, e2⟩ := m_sign h (by omega) 32
  unfold f_X11_word
  obtain ⟨fu, hfu, hfu2⟩ := fuel_ex; rw [hfu]
  rw [il_32, e1, opt_bind]
  obtain ⟨pr', A', e3, e4⟩ := m_wordL w1 w2 16 fu (t ++ [32]) (pr + 1) A1 (by omega) (by omega) e2 (by rw [List.length_append]; show t.length + 1 + 16 ≤ 100; omega)
  refine ⟨pr', A', ?_, ?_⟩
  · rw [il_0]
    exact e3
  · rw [← hL, show t ++ 32 :: wtx w1 w2 16 = t ++ [32] ++ wtx w1 w2 16 by rw [List.append_assoc]; rfl]
    exact e4
def tPage : List Int := [32, 112, 97, 103, 101, 32]
def tAt : List Int := [32, 97, 116, 32]
def tSize : List Int := [32, 115, 105, 122, 101, 32]
def tRec : List Int := [32, 114, 101, 99, 111, 114, 100, 32]
def tBlank : List Int := [32, 98, 108, 97, 110, 107]
def tUnp : List Int := [32, 117, 110, 112, 108, 97, 99, 101, 100]
def tCopy : List Int := [32, 99, 111, 112, 121, 32, 111, 102, 32]
theorem w_Page : 32 :: wtx 8097867289015091200 0 16 = tPage := by decide +kernel
theorem w_At : 32 :: wtx 7022272903349534720 0 16 = tAt := by decide +kernel
theorem w_Size : 32 :: wtx 8316312761663488000 0 16 = tSize := by decide +kernel
theorem w_Rec : 32 :: wtx 8243104023283245056 0 16 = tRec := by decide +kernel
theorem w_Blank : 32 :: wtx 7092150640071147520 0 16 = tBlank := by decide +kernel
theorem w_Unp : 32 :: wtx 8461824360668423524 0 16 = tUnp := by decide +kernel
theorem w_Copy : 32 :: wtx 7165069197707273760 0 16 = tCopy := by decide +kernel
