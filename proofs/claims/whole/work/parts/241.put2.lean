theorem sA_put {S S' : Nat → Nat → Int32} {k : Nat} {i x : Int} (e : S' k = lA (uI (sA S k) i x)) (hx : -2147483648 ≤ x ∧ x < 2147483648) {z : Int} (hz : 0 ≤ z) : sA S' k z = if z = i then x else sA S k z := by
  show (S' k z.toNat).toInt = _
  rw [e, lA_at _ hz, uI_at]
  split
  · exact iI_toInt hx.1 hx.2
  · show (iI (S k z.toNat).toInt).toInt = _
    rw [← iI_of]
    rfl
theorem x_put {V : Int → Int} {S : Nat → Nat → Int32} {c d : Nat → Int → Int} (hs : vSet V) (hi : vImg V) (hp : vPlc V) (hb : ∀ j, 0 ≤ j → j < V 0 → vBl V c j) (hg : vGeo V c) (hr : sR V S) (hd : ∀ j, 0 ≤ j → j < V 0 → d 2 j = c 2 j ∧ d 3 j = c 3 j) {i p g x y t : Int} (hi0 : 0 ≤ i ∧ i < V 0) (hc : c 4 i = -1 ∧ 0 < c 2 i) (hun : V (20 + 72 * i + 3) = -1) (hp0 : 0 ≤ p ∧ p ≤ V 13 ∧ p < V 3) (hf : vFit V c i p x y t) (hgr : grOf V i p g)
    {K N : Int → Int} (hK : spI V c K N) (fr : Nat → Int64) :
    ∃ w h F K' N' S', f_X3_putAsChosen fr (lA K) (lA N) (iI p) (iI x) (iI y) (iI t) S (lA (d 2)) (lA (d 3)) (iI i) = some (w, h, F, lA K', lA N', S') ∧ (∀ k, (k < 6 ∨ 11 < k) → S' k = S k) ∧ S' 6 = upd (S 6) 0 (S' 6 0) ∧ sR (vPl V i p g x y t) S' ∧ spI (vPl V i p g x y t) c K' N' := by
  obtain ⟨gs, gi, gp, gI, gg, hg3⟩ := vPl_good hs hi hp hb hg hi0 hc hun hp0 hf hgr
  have h3 : V 3 ≤ 4 := by unfold vSet at hs; omega
  have hn24 : V 0 ≤ 24 := hi.1.2
  have h13 := hp.1
  have hp4 : p < 4 := by omega
  have hlo : ∀ z, z ≤ 12 → vPl V i p g x y t z = V z := fun z hz => vPl_lo hi0.1 hp0.1 hz
  have him : ∀ s o, 0 ≤ s → 0 ≤ o ∧ o < 72 ∧ (o < 3 ∨ 6 < o) → vPl V i p g x y t (20 + 72 * s + o) = V (20 + 72 * s + o) := fun s o h1 h2 => vPl_im hp4 h1 h2
  obtain ⟨⟨r0, r6⟩, r5, rs, r7, r8, r11⟩ := id hr
  have hWH : fldW V ≤ 35 ∧ fldH V ≤ 35 := by
    unfold vSet at hs
    unfold fldW fldH
    omega
  have hxy : (0 ≤ x ∧ x < 100) ∧ (0 ≤ y ∧ y < 100) := by
    obtain ⟨hb2, hh2⟩ := bx_r (c := c) (i := i) hs (by obtain ⟨-, ⟨k1, k2, k3, k4, k5, k6⟩, k7, k8⟩ := (hb i hi0.1 hi0.2).resolve_left (by omega); omega) (by obtain ⟨-, ⟨k1, k2, k3, k4, k5, k6⟩, k7, k8⟩ := (hb i hi0.1 hi0.2).resolve_left (by omega); omega) t
    obtain ⟨f1, f2, f3, -⟩ := hf
    omega
  have ht := hf.1
  -- the page's group
  have hG : ∃ e, f_X4_isEmptyPage (S 8) (iI p) = some (iI e) ∧ ((e = 0 ∧ S 7 = lA (uI (sA S 7) p g)) ∨ (e = 1 ∧ g = V (20 + 72 * i + 2))) := by
    obtain ⟨ce1, ce2⟩ := c_isEmptyPage hr (p := p) (by omega) hn24 (fun s s0 s1 => by have := hp.2.1 s s0 s1; omega)
    by_cases e : ∃ s, onPg V p s
    · refine ⟨0, ce1 e, Or.inl ⟨rfl, ?_⟩⟩
      have e1 := hgr.1 e
      have e2 := r7 p hp0.1 hp4
      rw [show uI (sA S 7) p g = sA S 7 from funext fun z => by unfold uI; split; (next q => rw [q, e1, e2]); rfl]
      exact sA_lA S 7
    · exact ⟨1, ce2 (fun s h => e ⟨s, h⟩), Or.inr ⟨rfl, hgr.2 (fun s h => e ⟨s, h⟩)⟩⟩
  have key : ∀ S', S' = updC (updC (updC (updC (updC (updC S 6 (upd (S 6) 0 (iI (max (V 13) (p + 1))))) 7 (lA (uI (sA S 7) p g))) 8 (lA (uI (sA S 8) i p))) 9 (lA (uI (sA S 9) i x))) 10 (lA (uI (sA S 10) i y))) 11 (lA (uI (sA S 11) i t)) → sR (vPl V i p g x y t) S' := by
    intro S' e
    have q7 : S' 7 = lA (uI (sA S 7) p g) := by rw [e]; rfl
    have q8 : S' 8 = lA (uI (sA S 8) i p) := by rw [e]; rfl
    have q9 : S' 9 = lA (uI (sA S 9) i x) := by rw [e]; rfl
    have q10 : S' 10 = lA (uI (sA S 10) i y) := by rw [e]; rfl
    have q11 : S' 11 = lA (uI (sA S 11) i t) := by rw [e]; rfl
    have q0 : S' 0 = S 0 := by rw [e]; rfl
    have q1 : S' 1 = S 1 := by rw [e]; rfl
    have q2 : S' 2 = S 2 := by rw [e]; rfl
    have q3 : S' 3 = S 3 := by rw [e]; rfl
    have q4 : S' 4 = S 4 := by rw [e]; rfl
    have q5 : S' 5 = S 5 := by rw [e]; rfl
    have q6 : S' 6 0 = iI (max (V 13) (p + 1)) := by rw [e]; rfl
    clear e
    refine ⟨⟨?_, ?_⟩, ?_, ?_, ?_, ?_, ?_⟩
    · rw [q0, hlo 0 (by omega)]
      exact r0
    · rw [q6, vPl_13]
    · intro k hk
      rw [q5, hlo _ (by omega)]
      exact r5 k hk
    · intro s s0 s1
      rw [hlo 0 (by omega)] at s1
      obtain ⟨z1, z2, z3, z4, z5⟩ := rs s s0 s1
      rw [him s 0 s0 (by omega), him s 1 s0 (by omega), him s 2 s0 (by omega)]
      refine ⟨?_, ?_, ?_, ?_, fun h => ?_⟩
      · unfold sA at z1 ⊢
        rw [q1]
        exact z1
      · unfold sA at z2 ⊢
        rw [q2]
        exact z2
      · unfold sA at z3 ⊢
        rw [q3]
        exact z3
      · intro a b a0 a1 b0 b1
        have hh := hi.2.1 s s0 s1
        rw [him s 1 s0 (by omega)] at b1
        rw [him s 0 s0 (by omega), vPl_px hp4 s0 ⟨a0, a1⟩ ⟨b0, by omega⟩]
        have := z4 a b a0 a1 b0 b1
        unfold sW at this ⊢
        rw [q4]
        exact this
      · rw [sA_put q9 (by omega) s0, sA_put q10 (by omega) s0, sA_put q11 (by omega) s0]
        by_cases e : s = i
        · subst e
          obtain ⟨e1, e2, e3, e4⟩ := vPl_i (V := V) (p := p) (g := g) (x := x) (y := y) (t := t) hi0.1
          rw [if_pos rfl, if_pos rfl, if_pos rfl, e2, e3, e4]
          exact ⟨rfl, rfl, rfl⟩
        · obtain ⟨e1, e2, e3, e4⟩ := vPl_s (V := V) (p := p) (g := g) (x := x) (y := y) (t := t) hp4 s0 e
          rw [e1] at h
          rw [if_neg e, if_neg e, if_neg e, e2, e3, e4]
          exact z5 h
    · intro q h0 h1
      rw [sA_put q7 (by omega) h0, vPl_gr hi0.1 ⟨h0, h1⟩, r7 q h0 h1]
    · intro s s0 s1
      rw [sA_put q8 (by omega) s0, hlo 0 (by omega), r8 s s0 s1]
      by_cases e : s = i
      · subst e
        obtain ⟨e1, e2, e3, e4⟩ := vPl_i (V := V) (p := p) (g := g) (x := x) (y := y) (t := t) hi0.1
        rw [if_pos rfl, e1, if_pos (by omega)]
      · obtain ⟨e1, e2, e3, e4⟩ := vPl_s (V := V) (p := p) (g := g) (x := x) (y := y) (t := t) hp4 s0 e
        rw [if_neg e, e1]
    · intro s s0 s1
      rw [sA_put q11 (by omega) s0]
      split
      · exact ht
      · exact r11 s s0 s1
  have hr' := key _ rfl
  obtain ⟨w, h, F, n', K', e1, e2, e3⟩ := c_survey gs gi (fun j j0 j1 => vBl_cong gI (by rw [hlo 0 (by omega)] at j1; exact j1) (hb j j0 (by rw [hlo 0 (by omega)] at j1; exact j1))) gp gg hr' (fun j j0 j1 => hd j j0 (by rw [hlo 0 (by omega)] at j1; exact j1)) (p := p) ⟨hp0.1, hp4⟩ fr K N
  refine ⟨w, h, F, K', uI N p n', updC (updC (updC (updC (updC (updC S 6 (upd (S 6) 0 (iI (max (V 13) (p + 1))))) 7 (lA (uI (sA S 7) p g))) 8 (lA (uI (sA S 8) i p))) 9 (lA (uI (sA S 9) i x))) 10 (lA (uI (sA S 10) i y))) 11 (lA (uI (sA S 11) i t)), ?_, ?_, rfl, hr', ?_⟩
  · obtain ⟨e, ee, he⟩ := hG
    have hgg := (rs i hi0.1 hi0.2).2.2.1
    have hg2 := (hi.2.1 i hi0.1 hi0.2).2.2
    have w8 : ∀ (f : (Nat → Int32) → Option (Int32 × Int32 × (Nat → Int64) × (Nat → Int32) × (Nat → Int32) × (Nat → Nat → Int32))), g_wr (S 8) 24 (iI i) (iI p) f = f (lA (uI (sA S 8) i p)) := fun f => by rw [sA_lA S 8, wr_lA _ _ (by omega) (by omega) (by omega)]
    have w9 : ∀ (f : (Nat → Int32) → Option (Int32 × Int32 × (Nat → Int64) × (Nat → Int32) × (Nat → Int32) × (Nat → Nat → Int32))), g_wr (S 9) 24 (iI i) (iI x) f = f (lA (uI (sA S 9) i x)) := fun f => by rw [sA_lA S 9, wr_lA _ _ (by omega) (by omega) (by omega)]
    have w10 : ∀ (f : (Nat → Int32) → Option (Int32 × Int32 × (Nat → Int64) × (Nat → Int32) × (Nat → Int32) × (Nat → Nat → Int32))), g_wr (S 10) 24 (iI i) (iI y) f = f (lA (uI (sA S 10) i y)) := fun f => by rw [sA_lA S 10, wr_lA _ _ (by omega) (by omega) (by omega)]
    have w11 : ∀ (f : (Nat → Int32) → Option (Int32 × Int32 × (Nat → Int64) × (Nat → Int32) × (Nat → Int32) × (Nat → Nat → Int32))), g_wrZ (S 11) 24 (iI i) (iI t) f = f (lA (uI (sA S 11) i t)) := fun f => by rw [sA_lA S 11, wrZ_lA _ _ ht (by omega) (by omega) (by omega)]
    unfold f_X3_putAsChosen
    rw [ee, opt_bind, r6]
    rcases he with ⟨rfl, e7⟩ | ⟨rfl, rfl⟩
    · simp (disch := omega) only [jn_e, bd_e, il_0, il_1, iI_add, max_iI, w8, w9, w10, w11, if_true]
      rw [← e7] at e1
      rw [← e7]
      rw [e1]
      rfl
    · rw [jn_e, if_neg (by decide +kernel : ¬ iI 1 = (0 : Int32))]
      have rd3 : ∀ (f : Int32 → Option (Int32 × Int32 × (Nat → Int64) × (Nat → Int32) × (Nat → Int32) × (Nat → Nat → Int32))), g_rd (S 3) 24 (iI i) f = f (iI (V (20 + 72 * i + 2))) := fun f => by rw [sA_lA S 3, rd_lA _ _ (by omega) (by omega) (by omega), hgg]
      have w7 : ∀ (f : (Nat → Int32) → Option (Int32 × Int32 × (Nat → Int64) × (Nat → Int32) × (Nat → Int32) × (Nat → Nat → Int32))), g_wr (S 7) 4 (iI p) (iI (V (20 + 72 * i + 2))) f = f (lA (uI (sA S 7) p (V (20 + 72 * i + 2)))) := fun f => by rw [sA_lA S 7, wr_lA _ _ (by omega) (by omega) (by omega)]
      simp (disch := omega) only [jn_e, bd_e, il_1, iI_add, max_iI, rd3, w7, w8, w9, w10, w11]
      show (f_X3_survey fr (lA K) (lA N) (updC (updC (updC (updC (updC (updC S 6 (upd (S 6) 0 (iI (max (V 13) (p + 1))))) 7 (lA (uI (sA S 7) p (V (20 + 72 * i + 2))))) 8 (lA (uI (sA S 8) i p))) 9 (lA (uI (sA S 9) i x))) 10 (lA (uI (sA S 10) i y))) 11 (lA (uI (sA S 11) i t))) (lA (d 2)) (lA (d 3)) (iI p)).bind _ = _
      rw [e1]
      rfl
  · intro k hk
    unfold updC
    rw [if_neg (by omega), if_neg (by omega), if_neg (by omega), if_neg (by omega), if_neg (by omega), if_neg (by omega)]
  · intro q q0 q1
    rw [vPl_13] at q1
    obtain ⟨-, -, fw, fh⟩ := vPl_bx (V := V) (g := g) (x := x) (y := y) (t := t) hi0.1 hp0.1 c 0 0
    by_cases e : q = p
    · rw [e, uI_self]
      exact e2
    · rw [uI_ne e, fw, fh]
      have hq := hK q q0 (by omega)
      have hb' : ∀ u v, blk V c q u v ↔ blk (vPl V i p g x y t) c q u v := by
        intro u v
        constructor
        · rintro ⟨s, ⟨s0, s1, s2⟩, h1, h2, h3, h4⟩
          have hne : s ≠ i := fun z => by rw [z] at s2; omega
          obtain ⟨z1, z2, z3, z4⟩ := vPl_s (V := V) (i := i) (p := p) (g := g) (x := x) (y := y) (t := t) hp4 s0 hne
          refine ⟨s, ⟨s0, by rw [hlo 0 (by omega)]; exact s1, by rw [z1]; exact s2⟩, ?_⟩
          rw [(vPl_bx hi0.1 hp0.1 c s _).1, (vPl_bx hi0.1 hp0.1 c s _).2.1, z2, z3, z4]
          exact ⟨h1, h2, h3, h4⟩
        · rintro ⟨s, ⟨s0, s1, s2⟩, h⟩
          have hne : s ≠ i := fun z => by rw [z, (vPl_i hi0.1).1] at s2; omega
          obtain ⟨z1, z2, z3, z4⟩ := vPl_s (V := V) (i := i) (p := p) (g := g) (x := x) (y := y) (t := t) hp4 s0 hne
          rw [(vPl_bx hi0.1 hp0.1 c s _).1, (vPl_bx hi0.1 hp0.1 c s _).2.1, z2, z3, z4] at h
          rw [hlo 0 (by omega)] at s1
          rw [z1] at s2
          exact ⟨s, ⟨s0, s1, s2⟩, h⟩
      have hbe : blk (vPl V i p g x y t) c q = blk V c q := funext fun u => funext fun v => propext (hb' u v).symm
      rw [hbe]
      refine ⟨hq.1, fun j k j0 jk k1 => ?_, fun k k0 k1 => ?_, fun z hz => ?_⟩
      · show K' (q * 349 + j) < K' (q * 349 + k)
        have hq349 : N q ≤ 349 := mx_count hs hi hb hg q0 hq (fun z hz => hz)
        rw [e3 _ (by omega), e3 _ (by omega)]
        exact hq.2.1 j k j0 jk k1
      · show rS _ (K' (q * 349 + k))
        have hq349 : N q ≤ 349 := mx_count hs hi hb hg q0 hq (fun z hz => hz)
        rw [e3 _ (by omega)]
        exact hq.2.2.1 k k0 k1
      · have hq349 : N q ≤ 349 := mx_count hs hi hb hg q0 hq (fun z hz => hz)
        obtain ⟨k, k0, k1, k2⟩ := hq.2.2.2 z hz
        refine ⟨k, k0, k1, ?_⟩
        show K' (q * 349 + k) = z
        rw [e3 _ (by omega)]
        exact k2
