/-! how many maximal free rectangles there are -/
theorem pigeon : ∀ (m n : Nat) (f : Nat → Nat), (∀ k, k < n → f k < m) → (∀ j k, j < k → k < n → f j ≠ f k) → n ≤ m
  | 0, n, f, h1, h2 => by
    apply Classical.byContradiction
    intro h
    have := h1 0 (by omega)
    omega
  | m + 1, n, f, h1, h2 => by
    by_cases h : ∃ k, k < n ∧ f k = m
    · obtain ⟨k0, k1, k2⟩ := h
      have := pigeon m (n - 1) (fun k => if k < k0 then f k else f (k + 1)) (fun k hk => by
        split
        · have a := h1 k (by omega)
          have b := h2 k k0 (by omega) k1
          omega
        · have a := h1 (k + 1) (by omega)
          have b := h2 k0 (k + 1) (by omega) (by omega)
          omega) (fun j k hj hk => by
        split
        · split
          · exact h2 j k hj (by omega)
          · exact h2 j (k + 1) (by omega) (by omega)
        · rw [if_neg (by omega)]
          exact h2 (j + 1) (k + 1) (by omega) (by omega))
      omega
    · have := pigeon m n f (fun k hk => by
        have a := h1 k hk
        have b : f k ≠ m := fun e => h ⟨k, hk, e⟩
        omega) h2
      omega
def tri : Nat → Nat
  | 0 => 0
  | n + 1 => tri n + n
theorem tri_mono : ∀ {a b : Nat}, a ≤ b → tri a ≤ tri b
  | a, 0, h => by
    obtain rfl : a = 0 := by omega
    exact Nat.le_refl _
  | a, b + 1, h => by
    by_cases e : a = b + 1
    · rw [e]
      exact Nat.le_refl _
    · have := tri_mono (a := a) (b := b) (by omega)
      show tri a ≤ tri b + b
      omega
theorem tri_inj {i j i' j' : Nat} (h : i < j) (h' : i' < j') (e : tri j + i = tri j' + i') : i = i' ∧ j = j' := by
  have key : ∀ {i j i' j' : Nat}, i < j → i' < j' → tri j + i = tri j' + i' → ¬ j < j' := by
    intro i j i' j' h h' e hl
    have h1 := tri_mono (a := j + 1) (b := j') (by omega)
    have h2 : tri (j + 1) = tri j + j := rfl
    omega
  have h1 := key h h' e
  have h2 := key h' h e.symm
  have h3 : j = j' := by omega
  subst h3
  exact ⟨by omega, rfl⟩
def pc (p q : Nat) : Nat := if p = 24 then (if q = 24 then 324 else 276 + q) else if q = 24 then 300 + p else if p < q then tri q + p else tri p + q
theorem pc_lt {p q : Nat} (hp : p ≤ 24) (hq : q ≤ 24) (hne : p = q → p = 24) : pc p q < 325 := by
  have h24 : tri 24 = 276 := by decide
  unfold pc
  split
  · split <;> omega
  · split
    · omega
    · split
      · have h1 := tri_mono (a := q + 1) (b := 24) (by omega)
        have h2 : tri (q + 1) = tri q + q := rfl
        omega
      · have h1 := tri_mono (a := p + 1) (b := 24) (by omega)
        have h2 : tri (p + 1) = tri p + p := rfl
        omega
theorem pc_inj {p q p' q' : Nat} (hp : p ≤ 24) (hq : q ≤ 24) (hne : p = q → p = 24) (hp' : p' ≤ 24) (hq' : q' ≤ 24) (hne' : p' = q' → p' = 24) (e : pc p q = pc p' q') : (p = p' ∧ q = q') ∨ (p = q' ∧ q = p' ∧ p < 24 ∧ q < 24) := by
  have h24 : tri 24 = 276 := by decide
  have hb : ∀ i j : Nat, i < j → j < 24 → tri j + i < 276 := by
    intro i j h1 h2
    have h3 := tri_mono (a := j + 1) (b := 24) (by omega)
    have h4 : tri (j + 1) = tri j + j := rfl
    omega
  have cases1 : ∀ p q : Nat, p ≤ 24 → q ≤ 24 → (p = q → p = 24) → (p = 24 ∧ q = 24 ∧ pc p q = 324) ∨ (p = 24 ∧ q < 24 ∧ pc p q = 276 + q) ∨ (p < 24 ∧ q = 24 ∧ pc p q = 300 + p) ∨ (p < q ∧ q < 24 ∧ pc p q = tri q + p) ∨ (q < p ∧ p < 24 ∧ pc p q = tri p + q) := by
    intro p q hp hq hne
    unfold pc
    by_cases e1 : p = 24
    · by_cases e2 : q = 24
      · exact Or.inl ⟨e1, e2, by rw [if_pos e1, if_pos e2]⟩
      · exact Or.inr (Or.inl ⟨e1, by omega, by rw [if_pos e1, if_neg e2]⟩)
    · by_cases e2 : q = 24
      · exact Or.inr (Or.inr (Or.inl ⟨by omega, e2, by rw [if_neg e1, if_pos e2]⟩))
      · by_cases e3 : p < q
        · exact Or.inr (Or.inr (Or.inr (Or.inl ⟨e3, by omega, by rw [if_neg e1, if_neg e2, if_pos e3]⟩)))
        · exact Or.inr (Or.inr (Or.inr (Or.inr ⟨by omega, by omega, by rw [if_neg e1, if_neg e2, if_neg e3]⟩)))
  rcases cases1 p q hp hq hne with ⟨a1, a2, a3⟩ | ⟨a1, a2, a3⟩ | ⟨a1, a2, a3⟩ | ⟨a1, a2, a3⟩ | ⟨a1, a2, a3⟩ <;> rcases cases1 p' q' hp' hq' hne' with ⟨b1, b2, b3⟩ | ⟨b1, b2, b3⟩ | ⟨b1, b2, b3⟩ | ⟨b1, b2, b3⟩ | ⟨b1, b2, b3⟩ <;> rw [a3, b3] at e
  all_goals first
    | omega
    | (have := hb _ _ a1 a2; omega)
    | (have := hb _ _ b1 b2; omega)
    | (have := tri_inj a1 b1 e; omega)
/-- a cell of the box of a sprite -/
def cel (V : Int → Int) (c : Nat → Int → Int) (p s x y : Int) : Prop := onPg V p s ∧ V (20 + 72 * s + 4) ≤ x ∧ x < V (20 + 72 * s + 4) + bxW V c s (V (20 + 72 * s + 6)) ∧ V (20 + 72 * s + 5) ≤ y ∧ y < V (20 + 72 * s + 5) + bxH V c s (V (20 + 72 * s + 6))
theorem cel_uniq {V : Int → Int} {c : Nat → Int → Int} (hg : vGeo V c) {p s s' x y : Int} (hp : 0 ≤ p) (a : cel V c p s x y) (b : cel V c p s' x y) : s = s' := by
  have key : ∀ {s s' : Int}, cel V c p s x y → cel V c p s' x y → ¬ s < s' := by
    intro s s' a b hl
    obtain ⟨⟨a1, a2, a3⟩, a4, a5, a6, a7⟩ := a
    obtain ⟨⟨b1, b2, b3⟩, b4, b5, b6, b7⟩ := b
    have := hg.2 s s' a1 hl b2 (by omega) (by omega)
    omega
  have h1 := key a b
  have h2 := key b a
  omega
theorem mx_w {W H : Int} {B : Int → Int → Prop} {x y w h w' : Int} (a : mxR W H B x y w h) (b : mxR W H B x y w' h) : w = w' := by
  have key : ∀ {w w' : Int}, mxR W H B x y w h → mxR W H B x y w' h → ¬ w < w' := by
    intro w w' a b hl
    obtain ⟨a1, a2, a3, a4, a5, a6⟩ := a
    obtain ⟨b1, b2, b3, b4, b5, b6⟩ := b
    rcases a4 with a4 | ⟨q, q1, q2, q3⟩
    · omega
    · exact b2 (x + w) q (by omega) (by omega) q1 q2 q3
  have h1 := key a b
  have h2 := key b a
  omega
/-- box q (24: the edge) touches the rectangle above; below -/
def tTop (V : Int → Int) (c : Nat → Int → Int) (p x y w : Int) (q : Nat) : Prop := (q = 24 ∧ y = 0) ∨ (q < 24 ∧ ∃ a, x ≤ a ∧ a < x + w ∧ cel V c p q a (y - 1))
def tBot (V : Int → Int) (c : Nat → Int → Int) (p x y w h : Int) (q : Nat) : Prop := (q = 24 ∧ y + h = fldH V) ∨ (q < 24 ∧ ∃ a, x ≤ a ∧ a < x + w ∧ cel V c p q a (y + h))
def cdR (V : Int → Int) (c : Nat → Int → Int) (p x y w h : Int) (k : Nat) : Prop :=
  (∃ q r, tTop V c p x y w q ∧ tBot V c p x y w h r ∧ k = pc q r ∧ ∀ x' y' w' h', mxR (fldW V) (fldH V) (blk V c p) x' y' w' h' → tTop V c p x' y' w' q → tBot V c p x' y' w' h' r → x ≤ x') ∨
  (∃ b : Nat, b < 24 ∧ k = 325 + b ∧ onPg V p b ∧ V (20 + 72 * ((b : Int)) + 4) + bxW V c b (V (20 + 72 * ((b : Int)) + 6)) = x ∧ y ≤ V (20 + 72 * ((b : Int)) + 5) ∧ V (20 + 72 * ((b : Int)) + 5) + bxH V c b (V (20 + 72 * ((b : Int)) + 6)) ≤ y + h ∧ (y = 0 ∨ blk V c p x (y - 1)) ∧ (y + h = fldH V ∨ blk V c p x (y + h)))
theorem top_eq {V : Int → Int} {c : Nat → Int → Int} {p x y w h : Int} {q : Nat} (hm : mxR (fldW V) (fldH V) (blk V c p) x y w h) (ht : tTop V c p x y w q) (hq : q < 24) : V (20 + 72 * ((q : Int)) + 5) + bxH V c q (V (20 + 72 * ((q : Int)) + 6)) = y ∧ onPg V p q := by
  rcases ht with ⟨e, -⟩ | ⟨-, a, a0, a1, a2⟩
  · omega
  · obtain ⟨b1, b2, b3, b4, b5⟩ := a2
    refine ⟨?_, b1⟩
    apply Classical.byContradiction
    intro hne
    exact hm.2.1 a y a0 a1 (by omega) (by have := hm.1; omega) ⟨q, b1, b2, b3, by omega, by omega⟩
theorem bot_eq {V : Int → Int} {c : Nat → Int → Int} {p x y w h : Int} {q : Nat} (hm : mxR (fldW V) (fldH V) (blk V c p) x y w h) (ht : tBot V c p x y w h q) (hq : q < 24) : V (20 + 72 * ((q : Int)) + 5) = y + h ∧ onPg V p q := by
  rcases ht with ⟨e, -⟩ | ⟨-, a, a0, a1, a2⟩
  · omega
  · obtain ⟨b1, b2, b3, b4, b5⟩ := a2
    refine ⟨?_, b1⟩
    apply Classical.byContradiction
    intro hne
    exact hm.2.1 a (y + h - 1) a0 a1 (by have := hm.1; omega) (by omega) ⟨q, b1, b2, b3, by omega, by omega⟩
theorem rows_eq {V : Int → Int} {c : Nat → Int → Int} {p x y w h x' y' w' h' : Int} {q r : Nat} (hm : mxR (fldW V) (fldH V) (blk V c p) x y w h) (hm' : mxR (fldW V) (fldH V) (blk V c p) x' y' w' h') (h1 : tTop V c p x y w q) (h2 : tTop V c p x' y' w' q) (h3 : tBot V c p x y w h r) (h4 : tBot V c p x' y' w' h' r) : y = y' ∧ h = h' := by
  have e1 : y = y' := by
    by_cases e : q < 24
    · have a := (top_eq hm h1 e).1
      have b := (top_eq hm' h2 e).1
      omega
    · rcases h1 with ⟨-, h1⟩ | ⟨h1, -⟩
      · rcases h2 with ⟨-, h2⟩ | ⟨h2, -⟩
        · omega
        · omega
      · omega
  have e2 : y + h = y' + h' := by
    by_cases e : r < 24
    · have a := (bot_eq hm h3 e).1
      have b := (bot_eq hm' h4 e).1
      omega
    · rcases h3 with ⟨-, h3⟩ | ⟨h3, -⟩
      · rcases h4 with ⟨-, h4⟩ | ⟨h4, -⟩
        · omega
        · omega
      · omega
  exact ⟨e1, by omega⟩
theorem left_of {W H : Int} {B : Int → Int → Prop} {x y w h x' w' : Int} (a : mxR W H B x y w h) (b : mxR W H B x' y w' h) (hl : x < x') : x + w ≤ x' - 1 := by
  obtain ⟨a1, a2, a3, a4, a5, a6⟩ := a
  obtain ⟨b1, b2, b3, b4, b5, b6⟩ := b
  apply Classical.byContradiction
  intro hn
  rcases b3 with b3 | ⟨q, q1, q2, q3⟩
  · omega
  · exact a2 (x' - 1) q (by omega) (by omega) q1 q2 q3
theorem nat_of {V : Int → Int} (hi : vImg V) {p s : Int} (h : onPg V p s) : ∃ q : Nat, q < 24 ∧ s = q := by
  have := hi.1
  exact ⟨s.toNat, by have := h.1; have := h.2.1; omega, by have := h.1; omega⟩
theorem cdR_ex {V : Int → Int} {c : Nat → Int → Int} (hs : vSet V) (hi : vImg V) (hb : ∀ j, 0 ≤ j → j < V 0 → vBl V c j) (hg : vGeo V c) {p x y w h : Int} (hp : 0 ≤ p) (hm : mxR (fldW V) (fldH V) (blk V c p) x y w h) : ∃ k, k < 349 ∧ cdR V c p x y w h k := by
  have hm0 := hm
  obtain ⟨m1, m2, m3, m4, m5, m6⟩ := hm
  have hbx : ∀ q : Nat, onPg V p q → 1 ≤ bxW V c q (V (20 + 72 * ((q : Int)) + 6)) ∧ 1 ≤ bxH V c q (V (20 + 72 * ((q : Int)) + 6)) := fun q hq => by
    have h1 := hq.1
    have h2 := hq.2.1
    have h3 := hq.2.2
    have := geo_r hs hb hg h1 h2 (by omega)
    omega
  obtain ⟨q, hq⟩ : ∃ q, tTop V c p x y w q := by
    rcases m5 with m5 | ⟨a, a0, a1, ⟨s, s1, s2⟩⟩
    · exact ⟨24, Or.inl ⟨rfl, m5⟩⟩
    · obtain ⟨q, q0, rfl⟩ := nat_of hi s1
      exact ⟨q, Or.inr ⟨q0, a, a0, a1, s1, s2⟩⟩
  obtain ⟨r, hr⟩ : ∃ r, tBot V c p x y w h r := by
    rcases m6 with m6 | ⟨a, a0, a1, ⟨s, s1, s2⟩⟩
    · exact ⟨24, Or.inl ⟨rfl, m6⟩⟩
    · obtain ⟨q, q0, rfl⟩ := nat_of hi s1
      exact ⟨q, Or.inr ⟨q0, a, a0, a1, s1, s2⟩⟩
  have hq24 : q ≤ 24 := by rcases hq with ⟨e, -⟩ | ⟨e, -⟩ <;> omega
  have hr24 : r ≤ 24 := by rcases hr with ⟨e, -⟩ | ⟨e, -⟩ <;> omega
  by_cases hL : ∀ x' y' w' h', mxR (fldW V) (fldH V) (blk V c p) x' y' w' h' → tTop V c p x' y' w' q → tBot V c p x' y' w' h' r → x ≤ x'
  · refine ⟨pc q r, ?_, Or.inl ⟨q, r, hq, hr, rfl, hL⟩⟩
    have := pc_lt hq24 hr24 (fun e => by
      apply Classical.byContradiction
      intro hne
      subst e
      have a := top_eq hm0 hq (by omega)
      have b := bot_eq hm0 hr (by omega)
      have := hbx q a.2
      omega)
    omega
  · obtain ⟨x', y', w', h', n1, n2, n3, n4⟩ : ∃ x' y' w' h', mxR (fldW V) (fldH V) (blk V c p) x' y' w' h' ∧ tTop V c p x' y' w' q ∧ tBot V c p x' y' w' h' r ∧ x' < x := by
      apply Classical.byContradiction
      intro hne
      apply hL
      intro x' y' w' h' a b d
      apply Classical.byContradiction
      intro hl
      exact hne ⟨x', y', w', h', a, b, d, by omega⟩
    obtain ⟨rfl, rfl⟩ := rows_eq n1 hm0 n2 hq n3 hr
    have hlo := left_of n1 hm0 n4
    have n5 := n1.1
    have tcov : y' ≠ 0 → q < 24 ∧ cel V c p q (x - 1) (y' - 1) ∧ cel V c p q x (y' - 1) := by
      intro hy
      rcases hq with ⟨-, e⟩ | ⟨e, a, a0, a1, ⟨a2, a3, a4, a5, a6⟩⟩
      · exact absurd e hy
      · rcases n2 with ⟨-, e'⟩ | ⟨-, a', a0', a1', ⟨a2', a3', a4', a5', a6'⟩⟩
        · exact absurd e' hy
        · exact ⟨e, ⟨a2, by omega, by omega, a5, a6⟩, ⟨a2, by omega, by omega, a5, a6⟩⟩
    have bcov : y' + h' ≠ fldH V → r < 24 ∧ cel V c p r (x - 1) (y' + h') ∧ cel V c p r x (y' + h') := by
      intro hy
      rcases hr with ⟨-, e⟩ | ⟨e, a, a0, a1, ⟨a2, a3, a4, a5, a6⟩⟩
      · exact absurd e hy
      · rcases n3 with ⟨-, e'⟩ | ⟨-, a', a0', a1', ⟨a2', a3', a4', a5', a6'⟩⟩
        · exact absurd e' hy
        · exact ⟨e, ⟨a2, by omega, by omega, a5, a6⟩, ⟨a2, by omega, by omega, a5, a6⟩⟩
    rcases m3 with m3 | ⟨b, b0, b1, ⟨s, s1, s2, s3, s4, s5⟩⟩
    · omega
    · obtain ⟨β, β0, rfl⟩ := nat_of hi s1
      have hright : V (20 + 72 * ((β : Int)) + 4) + bxW V c β (V (20 + 72 * ((β : Int)) + 6)) = x := by
        apply Classical.byContradiction
        intro hne
        exact m2 x b (by omega) (by omega) b0 b1 ⟨β, s1, by omega, by omega, s4, s5⟩
      refine ⟨325 + β, by omega, Or.inr ⟨β, β0, rfl, s1, hright, ?_, ?_, ?_, ?_⟩⟩
      · apply Classical.byContradiction
        intro hne
        by_cases hy : y' = 0
        · have h1 := s1.1
          have h2 := s1.2.1
          have h3 := s1.2.2
          have := geo_r hs hb hg h1 h2 (by omega)
          omega
        · obtain ⟨t1, t2, -⟩ := tcov hy
          have e := cel_uniq hg hp t2 (show cel V c p β (x - 1) (y' - 1) from ⟨s1, s2, s3, by omega, by omega⟩)
          have e' : q = β := by omega
          subst e'
          have := (top_eq hm0 hq t1).1
          omega
      · apply Classical.byContradiction
        intro hne
        by_cases hy : y' + h' = fldH V
        · have h1 := s1.1
          have h2 := s1.2.1
          have h3 := s1.2.2
          have := geo_r hs hb hg h1 h2 (by omega)
          omega
        · obtain ⟨t1, t2, -⟩ := bcov hy
          have e := cel_uniq hg hp t2 (show cel V c p β (x - 1) (y' + h') from ⟨s1, s2, s3, by omega, by omega⟩)
          have e' : r = β := by omega
          subst e'
          have := (bot_eq hm0 hr t1).1
          omega
      · by_cases hy : y' = 0
        · exact Or.inl hy
        · obtain ⟨t1, -, t3⟩ := tcov hy
          exact Or.inr ⟨q, t3⟩
      · by_cases hy : y' + h' = fldH V
        · exact Or.inl hy
        · obtain ⟨t1, -, t3⟩ := bcov hy
          exact Or.inr ⟨r, t3⟩
theorem cdR_inj {V : Int → Int} {c : Nat → Int → Int} (hs : vSet V) (hb : ∀ j, 0 ≤ j → j < V 0 → vBl V c j) (hg : vGeo V c) {p x y w h x' y' w' h' : Int} (hp : 0 ≤ p) {k : Nat} (hm : mxR (fldW V) (fldH V) (blk V c p) x y w h) (hm' : mxR (fldW V) (fldH V) (blk V c p) x' y' w' h') (a : cdR V c p x y w h k) (b : cdR V c p x' y' w' h' k) : x = x' ∧ y = y' ∧ w = w' ∧ h = h' := by
  have hbx : ∀ q : Nat, onPg V p q → 1 ≤ bxW V c q (V (20 + 72 * ((q : Int)) + 6)) ∧ 1 ≤ bxH V c q (V (20 + 72 * ((q : Int)) + 6)) := fun q hq => by
    have h1 := hq.1
    have h2 := hq.2.1
    have h3 := hq.2.2
    have := geo_r hs hb hg h1 h2 (by omega)
    omega
  have hne : ∀ {x y w h : Int} {q r : Nat}, mxR (fldW V) (fldH V) (blk V c p) x y w h → tTop V c p x y w q → tBot V c p x y w h r → q ≤ 24 ∧ r ≤ 24 ∧ (q = r → q = 24) := by
    intro x y w h q r hm hq hr
    refine ⟨by rcases hq with ⟨e, -⟩ | ⟨e, -⟩ <;> omega, by rcases hr with ⟨e, -⟩ | ⟨e, -⟩ <;> omega, fun e => ?_⟩
    apply Classical.byContradiction
    intro hn
    subst e
    have h24 : q ≤ 24 := by rcases hq with ⟨e, -⟩ | ⟨e, -⟩ <;> omega
    have a := top_eq hm hq (by omega)
    have b := bot_eq hm hr (by omega)
    have := hbx q a.2
    have := hm.1
    omega
  have m1 := hm.1
  have m1' := hm'.1
  rcases a with ⟨q, r, a1, a2, a3, a4⟩ | ⟨s, a0, a1, a2, a3, a4, a5, a6, a7⟩
  · obtain ⟨q1, q2, q3⟩ := hne hm a1 a2
    rcases b with ⟨q', r', b1, b2, b3, b4⟩ | ⟨s', b0, b1, b2, b3, b4, b5, b6, b7⟩
    · obtain ⟨r1, r2, r3⟩ := hne hm' b1 b2
      rcases pc_inj q1 q2 q3 r1 r2 r3 (by omega) with ⟨rfl, rfl⟩ | ⟨rfl, rfl, h1, h2⟩
      · have e1 := a4 _ _ _ _ hm' b1 b2
        have e2 := b4 _ _ _ _ hm a1 a2
        obtain rfl : x = x' := by omega
        obtain ⟨rfl, rfl⟩ := rows_eq hm hm' a1 b1 a2 b2
        exact ⟨rfl, rfl, mx_w hm hm', rfl⟩
      · exfalso
        have c1 := top_eq hm a1 h1
        have c2 := bot_eq hm a2 h2
        have c3 := top_eq hm' b1 h2
        have c4 := bot_eq hm' b2 h1
        have := hbx q c1.2
        have := hbx r c2.2
        omega
    · exfalso
      have := pc_lt q1 q2 q3
      omega
  · rcases b with ⟨q', r', b1, b2, b3, b4⟩ | ⟨s', b0, b1, b2, b3, b4, b5, b6, b7⟩
    · exfalso
      obtain ⟨q1, q2, q3⟩ := hne hm' b1 b2
      have := pc_lt q1 q2 q3
      omega
    · obtain rfl : s = s' := by omega
      obtain rfl : x = x' := by omega
      have hs1 := hbx s a2
      have e1 : ¬ y < y' := fun hl => by
        rcases b6 with b6 | b6
        · omega
        · exact hm.2.1 x (y' - 1) (by omega) (by omega) (by omega) (by omega) b6
      have e2 : ¬ y' < y := fun hl => by
        rcases a6 with a6 | a6
        · omega
        · exact hm'.2.1 x (y - 1) (by omega) (by omega) (by omega) (by omega) a6
      obtain rfl : y = y' := by omega
      have e3 : ¬ h < h' := fun hl => by
        rcases a7 with a7 | a7
        · omega
        · exact hm'.2.1 x (y + h) (by omega) (by omega) (by omega) (by omega) a7
      have e4 : ¬ h' < h := fun hl => by
        rcases b7 with b7 | b7
        · omega
        · exact hm.2.1 x (y + h') (by omega) (by omega) (by omega) (by omega) b7
      obtain rfl : h = h' := by omega
      exact ⟨rfl, rfl, mx_w hm hm', rfl⟩
/-- at most 349 -/
theorem mx_count {V : Int → Int} {c : Nat → Int → Int} (hs : vSet V) (hi : vImg V) (hb : ∀ j, 0 ≤ j → j < V 0 → vBl V c j) (hg : vGeo V c) {p : Int} (hp : 0 ≤ p) {n : Int} {C : Int → Int} {S : Int → Prop} (he : En n C S) (hS : ∀ z, S z → rS (mxR (fldW V) (fldH V) (blk V c p)) z) : n ≤ 349 := by
  have hex : ∀ k : Nat, (k : Int) < n → ∃ m, m < 349 ∧ ∃ x y w h, C k = cd x y w h ∧ mxR (fldW V) (fldH V) (blk V c p) x y w h ∧ cdR V c p x y w h m := by
    intro k hk
    obtain ⟨x, y, w, h, e, hm⟩ := hS _ (he.2.2.1 k (by omega) hk)
    obtain ⟨m, m1, m2⟩ := cdR_ex hs hi hb hg hp hm
    exact ⟨m, m1, x, y, w, h, e, hm, m2⟩
  have := pigeon 349 n.toNat (fun k => if h : (k : Int) < n then (hex k h).choose else 0) (fun k hk => by
    have h : (k : Int) < n := by omega
    rw [dif_pos h]
    exact (hex k h).choose_spec.1) (fun j k hj hk => by
    have h1 : (j : Int) < n := by omega
    have h2 : (k : Int) < n := by omega
    rw [dif_pos h1, dif_pos h2]
    intro e
    obtain ⟨-, x, y, w, h, a1, a2, a3⟩ := (hex j h1).choose_spec
    obtain ⟨-, x', y', w', h', b1, b2, b3⟩ := (hex k h2).choose_spec
    rw [← e] at b3
    obtain ⟨rfl, rfl, rfl, rfl⟩ := cdR_inj hs hb hg hp a2 b2 a3 b3
    have := he.2.1 j k (by omega) (by omega) h2
    omega)
  have h0 := he.1
  omega
