theorem lpp2 {σ τ : Type} (F : Nat → Int → σ → τ) (P : τ → Prop) (N : Int) (I : Int → σ → Prop) (hend : ∀ n s, 0 < n → I N s → P (F (n + 1) N s)) (hstep : ∀ n x s, x < N → 0 < n → I x s → (∀ s', I (x + 1) s' → P (F n (x + 1) s')) → P (F (n + 1) x s)) (n : Nat) (x : Int) (s : σ) (hx : x ≤ N) (hn : N - x + 1 < n) (hI : I x s) : P (F n x s) := by
  induction n generalizing x s with
  | zero => omega
  | succ n ih =>
    by_cases h : x = N
    · subst h
      exact hend n s (by omega) hI
    · exact hstep n x s (by omega) (by omega) hI (fun s' hI' => ih (x + 1) s' (by omega) (by omega) hI')
def chn (S S' : Nat → Nat → Int32) : Nat → Nat → Int32 := updC (updC (updC (updC (updC (updC S 6 (upd (S 6) 0 (S' 6 0))) 7 (S' 7)) 8 (S' 8)) 9 (S' 9)) 10 (S' 10)) 11 (S' 11)
theorem chn_eq {S S' : Nat → Nat → Int32} (h : ∀ k, (k < 6 ∨ 11 < k) → S' k = S k) (h6 : S' 6 = upd (S 6) 0 (S' 6 0)) : chn S S' = S' := by
  funext k
  unfold chn
  by_cases a : k < 6 ∨ 11 < k
  · rw [h k a]
    unfold updC
    rw [if_neg (by omega), if_neg (by omega), if_neg (by omega), if_neg (by omega), if_neg (by omega), if_neg (by omega)]
  · have : k = 6 ∨ k = 7 ∨ k = 8 ∨ k = 9 ∨ k = 10 ∨ k = 11 := by omega
    rcases this with rfl | rfl | rfl | rfl | rfl | rfl
    · exact h6.symm
    · rfl
    · rfl
    · rfl
    · rfl
    · rfl
def pcA (W V : Int → Int) (c : Nat → Int → Int) (S0 S : Nat → Nat → Int32) (K N : Int → Int) : Prop :=
  (vSet V ∧ vImg V ∧ vPlc V ∧ (∀ j, 0 ≤ j → j < V 0 → vBl V c j) ∧ vGeo V c) ∧ (sR V S ∧ spI V c K N) ∧ ((∀ z, z ≤ 12 → V z = W z) ∧ vIA (W 0) W V ∧ vOut V) ∧ (∀ k, (k < 6 ∨ 11 < k) → S k = S0 k) ∧ S 6 = upd (S0 6) 0 (S 6 0)
def pcT (W V : Int → Int) (c : Nat → Int → Int) (L : Int → Int) (k : Int) (T : Int → Int) : Prop :=
  (∀ s, 0 ≤ s → s < W 0 → (T s = 0 ∨ T s = 1) ∧ (T s = 0 ↔ (0 < c 2 s ∧ c 4 s = -1) ∧ ∀ j, 0 ≤ j → j < k → L j ≠ s)) ∧ (∀ s, 0 ≤ s → s < W 0 → 0 ≤ V (20 + 72 * s + 3) → ∃ j, 0 ≤ j ∧ j < k ∧ L j = s)
theorem vIA_tr {n : Int} {A B C : Int → Int} (h : vIA n A B) (g : vIA n B C) : vIA n A C := by
  refine ⟨⟨h.1.1.trans g.1.1, h.1.2.trans g.1.2⟩, fun s s0 s1 => ?_⟩
  obtain ⟨a1, a2, a3⟩ := h.2 s s0 s1
  obtain ⟨b1, b2, b3⟩ := g.2 s s0 s1
  exact ⟨a1.trans b1, a2.trans b2, fun x y x0 x1 y0 y1 => (a3 x y x0 x1 y0 y1).trans (b3 x y x0 x1 y0 y1)⟩
theorem pcA_put {W V : Int → Int} {c : Nat → Int → Int} {S0 S S' : Nat → Nat → Int32} {K N K' N' : Int → Int} (h : pcA W V c S0 S K N) {i p g x y t : Int} (hi0 : 0 ≤ i ∧ i < V 0) (hc : c 4 i = -1 ∧ 0 < c 2 i) (hun : V (20 + 72 * i + 3) = -1) (hp0 : 0 ≤ p ∧ p ≤ V 13 ∧ p < V 3) (hf : vFit V c i p x y t) (hgr : grOf V i p g)
    (h1 : ∀ k, (k < 6 ∨ 11 < k) → S' k = S k) (h2 : S' 6 = upd (S 6) 0 (S' 6 0)) (h3 : sR (vPl V i p g x y t) S') (h4 : spI (vPl V i p g x y t) c K' N') : pcA W (vPl V i p g x y t) c S0 S' K' N' := by
  obtain ⟨⟨gs, gi, gp, gb, gg⟩, -, ⟨w1, w2, w3⟩, k1, k2⟩ := h
  have hn24 := gi.1
  have hp4 : p < 4 := by unfold vSet at gs; omega
  obtain ⟨a1, a2, a3, a4, a5, a6⟩ := vPl_good gs gi gp gb gg hi0 hc hun hp0 hf hgr
  have e0 : vPl V i p g x y t 0 = V 0 := vPl_lo hi0.1 hp0.1 (by omega)
  refine ⟨⟨a1, a2, a3, fun j j0 j1 => vBl_cong a4 (by rw [e0] at j1; exact j1) (gb j j0 (by rw [e0] at j1; exact j1)), a5⟩, ⟨h3, h4⟩, ⟨fun z hz => by rw [vPl_lo hi0.1 hp0.1 hz]; exact w1 z hz, ?_, ?_⟩, fun k hk => (h1 k hk).trans (k1 k hk), ?_⟩
  · refine vIA_tr w2 ?_
    rw [← w1 0 (by omega)]
    exact a4
  · intro k hk
    rcases hk with hk | hk
    · rw [vPl_lo hi0.1 hp0.1 (by omega)]
      exact w3 k (Or.inl hk)
    · rw [vPl_hi (by omega) hp4 hk]
      exact w3 k (Or.inr hk)
  · rw [h2, k2]
    funext z
    unfold upd
    split
    · rw [if_pos rfl]
    · rfl
theorem vKy_cong {V W : Int → Int} (h : V 11 = W 11) (c : Nat → Int → Int) (i : Int) : vKy V c i = vKy W c i := by
  unfold vKy vRk
  rw [h]
theorem vKy_inj {V : Int → Int} {c : Nat → Int → Int} {i j : Int} (hi : 0 ≤ i ∧ i < 24) (hj : 0 ≤ j ∧ j < 24) (h : vKy V c i = vKy V c j) : i = j := by
  unfold vKy at h
  omega
/-- the next of the line is the one that the selection picks -/
theorem pick_eq {W V : Int → Int} {c : Nat → Int → Int} {L T : Int → Int} {len k b : Int} (hn : V 0 ≤ 24) (h0 : V 0 = W 0) (h11 : V 11 = W 11) (hE : En len (fun k => vKy W c (L k)) (orS W c (W 0))) (hL : ∀ k, 0 ≤ k → k < len → 0 ≤ L k ∧ L k < W 0) (hT : pcT W V c L k T) (hb : pkI V c T (-1) b) :
    (0 ≤ k → k < len → b = L k ∧ (0 < c 2 b ∧ c 4 b = -1) ∧ ∀ j, 0 ≤ j → j < k → L j ≠ b) ∧ (k = len → b = -1) := by
  have mem : ∀ s, 0 ≤ s → s < W 0 → (0 < c 2 s ∧ c 4 s = -1) → ∃ m, 0 ≤ m ∧ m < len ∧ L m = s := by
    intro s s0 s1 s2
    obtain ⟨m, m0, m1, m2⟩ := hE.2.2.2 (vKy W c s) ⟨s, ⟨s0, s1⟩, s2, rfl⟩
    have := hL m m0 m1
    exact ⟨m, m0, m1, vKy_inj (by omega) (by omega) m2⟩
  constructor
  · intro k0 k1
    have hLk := hL k k0 k1
    have hor : 0 < c 2 (L k) ∧ c 4 (L k) = -1 := by
      obtain ⟨i, ⟨i0, i1⟩, i2, i3⟩ := hE.2.2.1 k k0 k1
      have : L k = i := vKy_inj (V := W) (c := c) (by omega) (by omega) i3
      rw [this]
      exact i2
    have hTk : T (L k) = 0 := (hT.1 _ hLk.1 hLk.2).2.mpr ⟨hor, fun j j0 j1 e => by
      have := hE.2.1 j k j0 j1 k1
      have : vKy W c (L j) < vKy W c (L k) := this
      rw [e] at this
      omega⟩
    rcases hb with ⟨-, h⟩ | ⟨⟨b0, b1⟩, b2, b3⟩
    · exact absurd hTk (h _ (by omega) (by omega))
    · obtain ⟨c1, c2⟩ := (hT.1 b (by omega) (by omega)).2.mp b2
      obtain ⟨m, m0, m1, m2⟩ := mem b (by omega) (by omega) c1
      have hle := b3 (L k) (by omega) (by omega) hTk
      rw [vKy_cong h11, vKy_cong h11] at hle
      have hmk : ¬ m < k := fun h => c2 m m0 h m2
      have hkm : ¬ k < m := fun h => by
        have : vKy W c (L k) < vKy W c (L m) := hE.2.1 k m k0 h m1
        rw [m2] at this
        omega
      have : m = k := by omega
      rw [this] at m2
      exact ⟨m2.symm, c1, c2⟩
  · intro hk
    rcases hb with ⟨h, -⟩ | ⟨⟨b0, b1⟩, b2, b3⟩
    · exact h
    · obtain ⟨c1, c2⟩ := (hT.1 b (by omega) (by omega)).2.mp b2
      obtain ⟨m, m0, m1, m2⟩ := mem b (by omega) (by omega) c1
      exact absurd m2 (c2 m m0 (by omega))
theorem pcT_step {W V V' : Int → Int} {c : Nat → Int → Int} {L T : Int → Int} {k b : Int} (hk : 0 ≤ k) (hb : b = L k) (hT : pcT W V c L k T) (hV : ∀ s, 0 ≤ s → s < W 0 → s ≠ b → V' (20 + 72 * s + 3) = V (20 + 72 * s + 3)) : pcT W V' c L (k + 1) (uI T b 1) := by
  refine ⟨fun s s0 s1 => ?_, fun s s0 s1 h => ?_⟩
  · obtain ⟨t1, t2⟩ := hT.1 s s0 s1
    rw [uI_at]
    by_cases e : s = b
    · rw [if_pos e]
      refine ⟨Or.inr rfl, fun h => by omega, fun h => absurd (hb.symm.trans e.symm) (h.2 k hk (by omega))⟩
    · rw [if_neg e]
      refine ⟨t1, fun h => ?_, fun h => ?_⟩
      · obtain ⟨g1, g2⟩ := t2.mp h
        refine ⟨g1, fun j j0 j1 => ?_⟩
        by_cases e2 : j = k
        · rw [e2, ← hb]
          exact fun z => e z.symm
        · exact g2 j j0 (by omega)
      · exact t2.mpr ⟨h.1, fun j j0 j1 => h.2 j j0 (by omega)⟩
  · by_cases e : s = b
    · exact ⟨k, hk, by omega, by rw [e, hb]⟩
    · rw [hV s s0 s1 e] at h
      obtain ⟨j, j0, j1, j2⟩ := hT.2 s s0 s1 h
      exact ⟨j, j0, by omega, j2⟩
