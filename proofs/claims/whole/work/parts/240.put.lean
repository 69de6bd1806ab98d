/-! an original is put on a page -/
theorem vPl_at (V : Int → Int) (i p g x y t z : Int) : vPl V i p g x y t z = if z = 13 then max (V 13) (p + 1) else if z = (20 + 72 * i + 6) then t else if z = (20 + 72 * i + 5) then y else if z = (20 + 72 * i + 4) then x else if z = (20 + 72 * i + 3) then p else if z = 14 + p then g else V z := rfl
theorem vPl_lo {V : Int → Int} {i p g x y t z : Int} (hi : 0 ≤ i) (hp : 0 ≤ p) (hz : z ≤ 12) : vPl V i p g x y t z = V z := by
  rw [vPl_at, if_neg (by omega), if_neg (by omega), if_neg (by omega), if_neg (by omega), if_neg (by omega), if_neg (by omega)]
theorem vPl_hi {V : Int → Int} {i p g x y t z : Int} (hi : i < 24) (hp : p < 4) (hz : 1748 ≤ z) : vPl V i p g x y t z = V z := by
  rw [vPl_at, if_neg (by omega), if_neg (by omega), if_neg (by omega), if_neg (by omega), if_neg (by omega), if_neg (by omega)]
theorem vPl_13 {V : Int → Int} {i p g x y t : Int} : vPl V i p g x y t 13 = max (V 13) (p + 1) := by
  rw [vPl_at, if_pos rfl]
theorem vPl_gr {V : Int → Int} {i p g x y t q : Int} (hi : 0 ≤ i) (hq : 0 ≤ q ∧ q < 4) : vPl V i p g x y t (14 + q) = if q = p then g else V (14 + q) := by
  rw [vPl_at, if_neg (by omega), if_neg (by omega), if_neg (by omega), if_neg (by omega), if_neg (by omega)]
  by_cases e : q = p
  · rw [if_pos (by omega), if_pos e]
  · rw [if_neg (by omega), if_neg e]
theorem vPl_im {V : Int → Int} {i p g x y t s o : Int} (hp : p < 4) (hs : 0 ≤ s) (ho : 0 ≤ o ∧ o < 72 ∧ (o < 3 ∨ 6 < o)) : vPl V i p g x y t (20 + 72 * s + o) = V (20 + 72 * s + o) := by
  rw [vPl_at, if_neg (by omega), if_neg (by omega), if_neg (by omega), if_neg (by omega), if_neg (by omega), if_neg (by omega)]
theorem vPl_px {V : Int → Int} {i p g x y t s a b : Int} (hp : p < 4) (hs : 0 ≤ s) (ha : 0 ≤ a ∧ a < 8) (hb : 0 ≤ b ∧ b < 8) : vPl V i p g x y t (20 + 72 * s + 8 + 8 * b + a) = V (20 + 72 * s + 8 + 8 * b + a) := by
  rw [vPl_at, if_neg (by omega), if_neg (by omega), if_neg (by omega), if_neg (by omega), if_neg (by omega), if_neg (by omega)]
theorem vPl_i {V : Int → Int} {i p g x y t : Int} (hi : 0 ≤ i) : vPl V i p g x y t (20 + 72 * i + 3) = p ∧ vPl V i p g x y t (20 + 72 * i + 4) = x ∧ vPl V i p g x y t (20 + 72 * i + 5) = y ∧ vPl V i p g x y t (20 + 72 * i + 6) = t := by
  refine ⟨?_, ?_, ?_, ?_⟩
  · rw [vPl_at, if_neg (by omega), if_neg (by omega), if_neg (by omega), if_neg (by omega), if_pos rfl]
  · rw [vPl_at, if_neg (by omega), if_neg (by omega), if_neg (by omega), if_pos rfl]
  · rw [vPl_at, if_neg (by omega), if_neg (by omega), if_pos rfl]
  · rw [vPl_at, if_neg (by omega), if_pos rfl]
theorem vPl_s {V : Int → Int} {i p g x y t s : Int} (hp : p < 4) (hs : 0 ≤ s) (h : s ≠ i) : vPl V i p g x y t (20 + 72 * s + 3) = V (20 + 72 * s + 3) ∧ vPl V i p g x y t (20 + 72 * s + 4) = V (20 + 72 * s + 4) ∧ vPl V i p g x y t (20 + 72 * s + 5) = V (20 + 72 * s + 5) ∧ vPl V i p g x y t (20 + 72 * s + 6) = V (20 + 72 * s + 6) := by
  refine ⟨?_, ?_, ?_, ?_⟩ <;> rw [vPl_at, if_neg (by omega), if_neg (by omega), if_neg (by omega), if_neg (by omega), if_neg (by omega), if_neg (by omega)]
theorem vPl_bx {V : Int → Int} {i p g x y t : Int} (hi : 0 ≤ i) (hp : 0 ≤ p) (c : Nat → Int → Int) (s u : Int) : bxW (vPl V i p g x y t) c s u = bxW V c s u ∧ bxH (vPl V i p g x y t) c s u = bxH V c s u ∧ fldW (vPl V i p g x y t) = fldW V ∧ fldH (vPl V i p g x y t) = fldH V := by
  unfold bxW bxH fldW fldH
  rw [vPl_lo hi hp (by omega), vPl_lo hi hp (by omega), vPl_lo hi hp (by omega), vPl_lo hi hp (by omega), vPl_lo hi hp (by omega)]
  exact ⟨rfl, rfl, rfl, rfl⟩
theorem vPl_good {V : Int → Int} {c : Nat → Int → Int} (hs : vSet V) (hi : vImg V) (hp : vPlc V) (hb : ∀ j, 0 ≤ j → j < V 0 → vBl V c j) (hg : vGeo V c) {i p g x y t : Int} (hi0 : 0 ≤ i ∧ i < V 0) (hc : c 4 i = -1 ∧ 0 < c 2 i) (hun : V (20 + 72 * i + 3) = -1) (hp0 : 0 ≤ p ∧ p ≤ V 13 ∧ p < V 3) (hf : vFit V c i p x y t) (hgr : grOf V i p g) :
    vSet (vPl V i p g x y t) ∧ vImg (vPl V i p g x y t) ∧ vPlc (vPl V i p g x y t) ∧ vIA (V 0) V (vPl V i p g x y t) ∧ vGeo (vPl V i p g x y t) c ∧ (0 ≤ g ∧ g ≤ 3) := by
  have h3 : V 3 ≤ 4 := by unfold vSet at hs; omega
  have hp4 : p < 4 := by omega
  have hg3 : 0 ≤ g ∧ g ≤ 3 := by
    by_cases e : ∃ s, onPg V p s
    · have := hp.2.2 p hp0.1 hp4
      rw [hgr.1 e]
      exact this
    · have := hi.2.1 i hi0.1 hi0.2
      rw [hgr.2 (fun s h => e ⟨s, h⟩)]
      exact this.2.2.2.2
  have hlo : ∀ z, z ≤ 12 → vPl V i p g x y t z = V z := fun z hz => vPl_lo hi0.1 hp0.1 hz
  have him : ∀ s o, 0 ≤ s → 0 ≤ o ∧ o < 72 ∧ (o < 3 ∨ 6 < o) → vPl V i p g x y t (20 + 72 * s + o) = V (20 + 72 * s + o) := fun s o h1 h2 => vPl_im hp4 h1 h2
  refine ⟨?_, ⟨?_, ?_, ?_⟩, ⟨?_, ?_, ?_⟩, ⟨⟨?_, ?_⟩, ?_⟩, ⟨?_, ?_⟩, hg3⟩
  · unfold vSet at hs ⊢
    rw [hlo 1 (by omega), hlo 2 (by omega), hlo 3 (by omega), hlo 4 (by omega), hlo 5 (by omega), hlo 6 (by omega), hlo 7 (by omega), hlo 8 (by omega), hlo 9 (by omega), hlo 10 (by omega), hlo 11 (by omega), hlo 12 (by omega)]
    exact hs
  · rw [hlo 0 (by omega)]
    exact hi.1
  · intro s s0 s1
    rw [hlo 0 (by omega)] at s1
    rw [him s 0 s0 (by omega), him s 1 s0 (by omega), him s 2 s0 (by omega)]
    exact hi.2.1 s s0 s1
  · intro s a b s0 s1 a0 a1 b0 b1
    rw [hlo 0 (by omega)] at s1
    rw [vPl_px hp4 s0 ⟨a0, a1⟩ ⟨b0, b1⟩]
    exact hi.2.2 s a b s0 s1 a0 a1 b0 b1
  · rw [vPl_13, hlo 3 (by omega)]
    have := hp.1
    omega
  · intro s s0 s1
    rw [hlo 0 (by omega)] at s1
    rw [vPl_13]
    by_cases e : s = i
    · rw [e, (vPl_i hi0.1).1]
      omega
    · rw [(vPl_s hp4 s0 e).1]
      have := hp.2.1 s s0 s1
      omega
  · intro q q0 q1
    rw [vPl_gr hi0.1 ⟨q0, q1⟩]
    split
    · exact hg3
    · exact hp.2.2 q q0 q1
  · exact (hlo 7 (by omega)).symm
  · exact (hlo 8 (by omega)).symm
  · intro s s0 s1
    rw [him s 0 s0 (by omega), him s 1 s0 (by omega)]
    exact ⟨rfl, rfl, fun a b a0 a1 b0 b1 => (vPl_px hp4 s0 ⟨a0, a1⟩ ⟨b0, b1⟩).symm⟩
  · intro s s0 s1 s2
    rw [hlo 0 (by omega)] at s1
    obtain ⟨bw, bh, fw, fh⟩ := vPl_bx (V := V) (g := g) (x := x) (y := y) (t := t) hi0.1 hp0.1 c s (vPl V i p g x y t (20 + 72 * s + 6))
    rw [bw, bh, fw, fh]
    by_cases e : s = i
    · subst e
      obtain ⟨e1, e2, e3, e4⟩ := vPl_i (V := V) (p := p) (g := g) (x := x) (y := y) (t := t) hi0.1
      rw [e2, e3, e4]
      obtain ⟨f1, f2, f3, -⟩ := hf
      exact ⟨hc, f1, f2.1, f2.2, f3.1, f3.2⟩
    · obtain ⟨e1, e2, e3, e4⟩ := vPl_s (V := V) (p := p) (g := g) (x := x) (y := y) (t := t) hp4 s0 e
      rw [e1] at s2
      rw [e2, e3, e4]
      exact hg.1 s s0 s1 s2
  · -- no two boxes share a pixel
    have sep : ∀ s, 0 ≤ s → s < V 0 → s ≠ i → V (20 + 72 * s + 3) = p → V (20 + 72 * s + 4) + bxW V c s (V (20 + 72 * s + 6)) ≤ x ∨ x + bxW V c i t ≤ V (20 + 72 * s + 4) ∨ V (20 + 72 * s + 5) + bxH V c s (V (20 + 72 * s + 6)) ≤ y ∨ y + bxH V c i t ≤ V (20 + 72 * s + 5) := by
      intro s s0 s1 _ s3
      apply Classical.byContradiction
      intro hn
      have hmx := geo_r hs hb hg s0 s1 (by omega)
      obtain ⟨hb2, hh2⟩ := bx_r (c := c) (i := i) hs (by obtain ⟨-, ⟨k1, k2, k3, k4, k5, k6⟩, k7, k8⟩ := (hb i hi0.1 hi0.2).resolve_left (by omega); omega) (by obtain ⟨-, ⟨k1, k2, k3, k4, k5, k6⟩, k7, k8⟩ := (hb i hi0.1 hi0.2).resolve_left (by omega); omega) t
      exact hf.2.2.2 (max x (V (20 + 72 * s + 4))) (max y (V (20 + 72 * s + 5))) (by omega) (by omega) (by omega) (by omega) ⟨s, ⟨s0, s1, s3⟩, by omega, by omega, by omega, by omega⟩
    intro s s' s0 hl s1 s2 s3
    rw [hlo 0 (by omega)] at s1
    rw [(vPl_bx hi0.1 hp0.1 c s _).1, (vPl_bx hi0.1 hp0.1 c s _).2.1, (vPl_bx hi0.1 hp0.1 c s' _).1, (vPl_bx hi0.1 hp0.1 c s' _).2.1]
    by_cases e : s = i
    · subst e
      obtain ⟨e1, e2, e3, e4⟩ := vPl_i (V := V) (p := p) (g := g) (x := x) (y := y) (t := t) hi0.1
      obtain ⟨d1, d2, d3, d4⟩ := vPl_s (V := V) (i := s) (p := p) (g := g) (x := x) (y := y) (t := t) hp4 (show 0 ≤ s' by omega) (show s' ≠ s by omega)
      rw [e1, d1] at s3
      rw [e2, e3, e4, d2, d3, d4]
      have := sep s' (by omega) s1 (by omega) s3.symm
      omega
    · obtain ⟨e1, e2, e3, e4⟩ := vPl_s (V := V) (i := i) (p := p) (g := g) (x := x) (y := y) (t := t) hp4 s0 e
      by_cases e' : s' = i
      · subst e'
        obtain ⟨d1, d2, d3, d4⟩ := vPl_i (V := V) (p := p) (g := g) (x := x) (y := y) (t := t) hi0.1
        rw [e1, d1] at s3
        rw [e2, e3, e4, d2, d3, d4]
        have := sep s s0 (by omega) e s3
        omega
      · obtain ⟨d1, d2, d3, d4⟩ := vPl_s (V := V) (i := i) (p := p) (g := g) (x := x) (y := y) (t := t) hp4 (show 0 ≤ s' by omega) e'
        rw [e1] at s2
        rw [e1, d1] at s3
        rw [e2, e3, e4, d2, d3, d4]
        exact hg.2 s s' s0 hl s1 s2 s3
