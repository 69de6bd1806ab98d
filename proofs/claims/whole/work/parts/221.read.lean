/-! read: an image's characters -/
theorem tImg {T : Int → Int} : ∀ {k : Nat} {x y w st m : Int}, tS T k = some (x, y, w, st, m) → 0 ≤ st ∧ st ≤ k ∧ (y = 0 → (k : Int) - st = x) ∧ (y ≠ 0 → y * (w + 1) + x = k - st) ∧ ∀ i : Nat, st ≤ i → i ≤ k → ∃ xi yi wi, tS T i = some (xi, yi, wi, st, m) ∧ 0 ≤ yi ∧ yi ≤ y ∧ 0 ≤ xi ∧ (y = 0 → xi = i - st) ∧ (y ≠ 0 → yi * (w + 1) + xi = i - st ∧ xi ≤ w ∧ (yi = 0 ∨ wi = w))
  | 0, x, y, w, st, m, h => by
    cases h
    refine ⟨by omega, by omega, fun _ => by omega, fun h => absurd rfl h, fun i h1 h2 => ?_⟩
    obtain rfl : i = 0 := by omega
    exact ⟨0, 0, 0, rfl, by omega, by omega, by omega, fun _ => by omega, fun h => absurd rfl h⟩
  | k + 1, x, y, w, st, m, h => by
    obtain ⟨⟨x0, y0, w0, st0, m0⟩, h0, h1⟩ := tS_succ h
    obtain ⟨a1, a2, a3, a3', a4⟩ := tImg h0
    have o := tS_ok h0
    have o' := tS_ok h
    unfold tOk at o o'
    dsimp only at o o'
    rcases tStep_some h1 with ⟨c1, c2, c3, e⟩ | ⟨c1, c2, c3, c4, e⟩ | ⟨c1, c2, c3, e⟩
    · cases e
      refine ⟨a1, by omega, fun e0 => by have := a3 e0; omega, fun e0 => by have := a3' e0; omega, fun i i0 i1 => ?_⟩
      by_cases e : i = k + 1
      · subst e
        exact ⟨x0 + 1, y, w, h, by omega, by omega, by omega, fun e0 => by have := a3 e0; omega, fun e0 => ⟨by have := a3' e0; omega, by omega, Or.inr rfl⟩⟩
      · exact a4 i i0 (by omega)
    · cases e
      have hy : (y0 + 1) * (w + 1) = y0 * (w + 1) + (w + 1) := by rw [Int.add_mul, Int.one_mul]
      have hk : y0 * (w + 1) + w = k - st := by
        by_cases e0 : y0 = 0
        · have := a3 e0
          rw [e0, Int.zero_mul]
          omega
        · have a3' := a3' e0
          rcases c3 with c3 | c3
          · exact absurd c3 e0
          · rw [c3]; rw [c3] at a3'; omega
      refine ⟨a1, by omega, fun e0 => by omega, fun e0 => by omega, fun i i0 i1 => ?_⟩
      by_cases e : i = k + 1
      · subst e
        exact ⟨0, y0 + 1, w, h, by omega, by omega, by omega, fun e0 => by omega, fun e0 => ⟨by omega, by omega, Or.inr rfl⟩⟩
      · obtain ⟨xi, yi, wi, b1, b2, b3, b4, b5, b5'⟩ := a4 i i0 (by omega)
        refine ⟨xi, yi, wi, b1, b2, by omega, b4, fun e0 => by omega, fun _ => ?_⟩
        by_cases e0 : y0 = 0
        · have b5 := b5 e0
          have a3 := a3 e0
          have hyi : yi = 0 := by omega
          rw [hyi, Int.zero_mul]
          exact ⟨by omega, by omega, Or.inl rfl⟩
        · have b5' := b5' e0
          rcases c3 with c3 | c3
          · exact absurd c3 e0
          · rw [c3]; exact b5'
    · cases e
      refine ⟨by omega, by omega, fun _ => by omega, fun h => absurd rfl h, fun i i0 i1 => ?_⟩
      obtain rfl : i = k + 1 := by omega
      exact ⟨0, 0, 0, h, by omega, by omega, by omega, fun _ => by omega, fun h => absurd rfl h⟩
/-- an image from st to the semicolon at k: its width W, its height y + 1 -/
theorem tImgE {T : Int → Int} {k : Nat} {x y w st m : Int} (h : tS T k = some (x, y, w, st, m)) (hx : 0 < x) (hw : y = 0 ∨ x = w) : y * (x + 1) + x = k - st ∧ ∀ i : Nat, st ≤ i → (i : Int) < k → ∃ xi yi wi, tS T i = some (xi, yi, wi, st, m) ∧ 0 ≤ yi ∧ yi ≤ y ∧ 0 ≤ xi ∧ xi ≤ x ∧ yi * (x + 1) + xi = i - st ∧ ((48 ≤ T i ∧ T i ≤ 57 ∧ xi < x) ∨ (T i = 47 ∧ xi = x)) := by
  obtain ⟨a1, a2, a3, a3', a4⟩ := tImg h
  have hy : 0 ≤ y := (tS_ok h).2.2.1
  refine ⟨?_, fun i i0 i1 => ?_⟩
  · by_cases e : y = 0
    · have := a3 e
      rw [e, Int.zero_mul]
      omega
    · have := a3' e
      rw [hw.resolve_left e]
      rw [hw.resolve_left e] at this
      exact this
  · obtain ⟨xi, yi, wi, b1, b2, b3, b4, b5, b5'⟩ := a4 i i0 (by omega)
    obtain ⟨xj, yj, wj, d1, d2, d3, d4, d5, d5'⟩ := a4 (i + 1) (by omega) (by omega)
    obtain ⟨s0, d6, d7⟩ := tS_succ d1
    rw [b1] at d6
    cases d6
    have hxi : xi ≤ x ∧ yi * (x + 1) + xi = i - st := by
      by_cases e : y = 0
      · have b5 := b5 e
        have a3 := a3 e
        have : yi = 0 := by omega
        rw [this, Int.zero_mul]
        omega
      · have b5' := b5' e
        rw [hw.resolve_left e]
        exact ⟨b5'.2.1, b5'.1⟩
    refine ⟨xi, yi, wi, b1, b2, b3, b4, hxi.1, hxi.2, ?_⟩
    rcases tStep_some d7 with ⟨c1, c2, c3, e⟩ | ⟨c1, c2, c3, c4, e⟩ | ⟨c1, c2, c3, e⟩
    · cases e
      refine Or.inl ⟨c1, c2, ?_⟩
      by_cases e : y = 0
      · have := d5 e
        have := a3 e
        omega
      · have d5' := d5' e
        rw [hw.resolve_left e]
        omega
    · cases e
      refine Or.inr ⟨c1, ?_⟩
      by_cases e : y = 0
      · omega
      · have d5' := d5' e
        rw [hw.resolve_left e]
        omega
    · exfalso
      have h9 := congrArg (fun q => q.2.2.2.1) e
      dsimp only at h9
      omega
theorem place_dm {p r c b : Int} (hb : 0 < b) (h : r * b + c = p) (h0 : 0 ≤ c) (h1 : c < b) : p % b = c ∧ p / b = r := by
  have e1 : p / b = r := by
    rw [← h, Int.add_comm, Int.add_mul_ediv_right _ _ (by omega), Int.ediv_eq_zero_of_lt h0 h1, Int.zero_add]
  refine ⟨?_, e1⟩
  rw [Int.emod_def, e1, Int.mul_comm]
  omega
/-- the vectors while an image's characters are read: the reference's, and the finished one's -/
def mv (T Vb : Int → Int) (st : Nat) : Nat → Int → Int
  | 0 => vA Vb 0 0
  | t + 1 => if T ((st + t : Nat) : Int) = 47 then mv T Vb st t else (tS T (st + t)).elim (mv T Vb st t) (fun q => uI (uI (mv T Vb st t) (20 + 72 * (Vb 0) + 8 + 8 * (q.2.1) + (q.1)) (T ((st + t : Nat) : Int) - 48)) (20 + 72 * (Vb 0) + 0) (q.1 + 1))
def cv (T Vb : Int → Int) (st : Nat) (w h : Int) : Nat → Int → Int
  | 0 => vA Vb w h
  | t + 1 => if T ((st + t : Nat) : Int) = 47 then cv T Vb st w h t else (tS T (st + t)).elim (cv T Vb st w h t) (fun q => uI (cv T Vb st w h t) (20 + 72 * (Vb 0) + 8 + 8 * (q.2.1) + (q.1)) (T ((st + t : Nat) : Int) - 48))
theorem cv_mv {T Vb : Int → Int} {st : Nat} {w h : Int} (h0 : 0 ≤ Vb 0) : ∀ t j, j ≠ 20 + 72 * Vb 0 + 0 → j ≠ 20 + 72 * Vb 0 + 1 → cv T Vb st w h t j = mv T Vb st t j
  | 0, j, h1, h2 => by
    show vA Vb w h j = vA Vb 0 0 j
    unfold vA
    by_cases e : j = 0
    · rw [if_pos e, if_pos e]
    · rw [if_neg e, if_neg e]
      by_cases e2 : 20 + 72 * Vb 0 ≤ j ∧ j < 20 + 72 * Vb 0 + 72 ∧ j ≠ 20 + 72 * Vb 0 + 7
      · rw [if_pos e2, if_pos e2, if_neg (by omega), if_neg (by omega)]
        simp only [if_neg (show ¬ j = 20 + 72 * Vb 0 by omega), if_neg h2]
      · rw [if_neg e2, if_neg e2]
  | t + 1, j, h1, h2 => by
    unfold cv mv
    by_cases e : T ((st + t : Nat) : Int) = 47
    · rw [if_pos e, if_pos e]
      exact cv_mv h0 t j h1 h2
    · rw [if_neg e, if_neg e]
      cases tS T (st + t) with
      | none => exact cv_mv h0 t j h1 h2
      | some q =>
        show uI (cv T Vb st w h t) _ _ j = uI (uI (mv T Vb st t) _ _) _ _ j
        rw [uI_ne (A := uI (mv T Vb st t) _ _) h1, uI_at, uI_at, cv_mv h0 t j h1 h2]
