theorem trI2_set {V0 V W : Int → Int} {c : Nat → Int → Int} {R S : Nat → Nat → Int32} (h : trI2 V0 V c R S) (hW : ∀ z, (z ≤ 0 ∨ 13 ≤ z ∨ z = 7 ∨ z = 8) → W z = V z) (hs : vSet W) : trI2 V0 W c R S := by
  obtain ⟨⟨go, gs, gi, gg⟩, ⟨gc, g0⟩, gh, g7, g11⟩ := h
  have h8 : 0 ≤ V 8 ∧ V 8 ≤ 3 := by unfold vSet at gs; omega
  have e0 := hW 0 (by omega)
  have hi : vImg W := by
    obtain ⟨i0, i1, i2⟩ := gi
    refine ⟨by rw [e0]; exact i0, fun s s0 s1 => ?_, fun s x y s0 s1 x0 x1 y0 y1 => ?_⟩
    · rw [hW _ (by omega), hW _ (by omega), hW _ (by omega)]
      exact i1 s s0 (by omega)
    · rw [hW _ (by omega)]
      exact i2 s x y s0 (by omega) x0 x1 y0 y1
  refine ⟨⟨fun k hk => by rw [hW k (by omega)]; exact go k hk, hs, hi, fun p p0 p1 => by rw [hW _ (by omega)]; exact gg p p0 p1⟩, ⟨vCat_cong gi hi h8 e0.symm ⟨⟨(hW 7 (by omega)).symm, (hW 8 (by omega)).symm⟩, fun s s0 s1 => ⟨(hW _ (by omega)).symm, (hW _ (by omega)).symm, fun x y x0 x1 y0 y1 => (hW _ (by omega)).symm⟩⟩ gc, by rw [e0]; exact g0⟩, fun s s0 s1 => ?_, fun p p0 p1 => by rw [hW _ (by omega)]; exact g7 p p0 p1, g11⟩
  obtain ⟨a1, a2, a3, a4⟩ := gh s s0 (by omega)
  refine ⟨by rw [hW _ (by omega)]; exact a1, by rw [hW _ (by omega)]; exact a2, by rw [hW _ (by omega)]; exact a3, fun x y x0 x1 y0 y1 => ?_⟩
  rw [hW _ (by omega)] at y1
  rw [hW _ (by omega), hW _ (by omega)]
  exact a4 x y x0 x1 y0 y1
/-- the trial state before it is packed by smallestPage -/
def spT (R S : Nat → Nat → Int32) (x : Int32) : Nat → Nat → Int32 := updC (updC (updC (updC (updC (updC (updC R 5 (upd (upd (upd (upd (R 5) 0 x) 1 x) 2 1) 9 0)) 6 (upd (R 6) 0 (S 6 0))) 7 (S 7)) 8 (S 8)) 9 (S 9)) 10 (S 10)) 11 (S 11)
theorem spT_e (R S : Nat → Nat → Int32) (x : Int32) : (spT R S x 0 = R 0 ∧ spT R S x 1 = R 1 ∧ spT R S x 2 = R 2 ∧ spT R S x 3 = R 3 ∧ spT R S x 4 = R 4) ∧ spT R S x 5 = upd (upd (upd (upd (R 5) 0 x) 1 x) 2 1) 9 0 ∧ spT R S x 7 = S 7 ∧ spT R S x 11 = S 11 := ⟨⟨rfl, rfl, rfl, rfl, rfl⟩, rfl, rfl, rfl⟩
theorem trI2_sp {V0 V : Int → Int} {c : Nat → Int → Int} {R S : Nat → Nat → Int32} {x : Int32} (h : trI2 V0 V c R S) : trI2 V0 V c R (spT R S x) := by
  obtain ⟨g1, g2, g3, g4, g5⟩ := h
  obtain ⟨-, -, e7, e11⟩ := spT_e R S x
  refine ⟨g1, g2, g3, ?_, ?_⟩
  · unfold sA at *
    rw [e7]
    exact g4
  · unfold sA at *
    rw [e11]
    exact g5
theorem sR2_sp {V0 V : Int → Int} {c : Nat → Int → Int} {R S : Nat → Nat → Int32} (h : trI2 V0 V c R S) (hr : sR V0 R) (hU : ∀ z, 4 ≤ z → z ≤ 12 → z ≠ 10 → V z = V0 z) (h3 : V 3 = 1) (h10 : V 10 = 0) (x : Int) (hx : V 1 = x ∧ V 2 = x) : sR2 V (spT R S (iI x)) := by
  obtain ⟨e, e5, e7, e11⟩ := spT_e R S (iI x)
  obtain ⟨g1, g2, g3, g4, g5⟩ := trI2_sp (x := iI x) h
  refine sR2_mk ?_ (fun k hk => ?_) g3 ⟨⟨e.2.1, e.2.2.1⟩, e.2.2.2.1, e.2.2.2.2⟩ g4 g5
  · rw [e.1, hr.1.1, g2.2]
  · rw [e5]
    unfold upd
    by_cases k9 : k = 9
    · subst k9
      rw [if_pos rfl, show (1 : Int) + ((9 : Nat) : Int) = 10 by rfl, h10]
      decide +kernel
    · rw [if_neg k9]
      by_cases k2 : k = 2
      · subst k2
        rw [if_pos rfl, show (1 : Int) + ((2 : Nat) : Int) = 3 by rfl, h3]
        decide +kernel
      · rw [if_neg k2]
        by_cases k1 : k = 1
        · subst k1
          rw [if_pos rfl, show (1 : Int) + ((1 : Nat) : Int) = 2 by rfl, hx.2]
        · rw [if_neg k1]
          by_cases k0 : k = 0
          · subst k0
            rw [if_pos rfl, show (1 : Int) + ((0 : Nat) : Int) = 1 by rfl, hx.1]
          · rw [if_neg k0, hr.2.1 k hk, hU _ (by omega) (by omega) (by omega)]
abbrev tC15b : Type := Int32 × (Nat → Nat → Int32) × Int32 × Int32 × (Nat → Int64) × (Nat → Int32) × (Nat → Int32) × Int32 × Int32 × Int32 × Int32 × Int32 × Int32 × Int32 × (Nat → Int32)
abbrev tM28 : Type := Int32 × Int32 × Int32 × Int32 × Int32 × Int32 × Int32 × Int32 × Int32 × (Nat → Int32) × (Nat → Int32) × (Nat → Int32) × (Nat → Int32) × (Nat → Int32) × (Nat → Int32) × (Nat → Int32) × (Nat → Int32) × (Nat → Int32) × (Nat → Int32) × (Nat → Int32) × (Nat → Int32) × (Nat → Int32) × (Nat → Int32) × (Nat → Int32) × (Nat → Int32) × (Nat → Int32) × (Nat → Int32) × (Nat → Int32)
abbrev tK : Type := Int32 → Int32 → Int32 → Int32 → Int32 → Int32 → Int32 → (Nat → Int32) → (Nat → Int32) → (Nat → Int32) → (Nat → Int32) → (Nat → Int32) → (Nat → Int32) → (Nat → Int32) → (Nat → Int32) → (Nat → Int32) → (Nat → Int32) → (Nat → Int32) → (Nat → Int32) → Option tM28
/-- how a search over packings ends on both sides -/
def seaP (k : tK) (o1 : Option tC15b) (o2 : Option tM28) : Prop :=
  ∃ (a : Int32) (ST : Nat → Nat → Int32) (w h : Int32) (fr : Nat → Int64) (K N : Nat → Int32) (F Pg X Y Tt f s : Int32) (line : Nat → Int32) (b1 b2 b3 b4 b5 b6 : Int32) (V' : Int → Int) (A1 A2 A3 A4 A5 A6 A7 A8 A9 A10 T : Nat → Int32), o1 = some (a, ST, w, h, fr, K, N, F, Pg, X, Y, Tt, f, s, line) ∧ o2 = k a b1 b2 b3 b4 b5 b6 (lA V') A1 A2 A3 A4 A5 A6 A7 A8 A9 A10 T ∧ vOut V'
theorem x_small1 {V0 : Int → Int} {c d : Nat → Int → Int} {R : Nat → Nat → Int32} (hs0 : vSet V0) (hr : sR V0 R) (hd' : ∀ j, 0 ≤ j → j < V0 0 → vDd c d j) {V : Int → Int} {S3 : Nat → Nat → Int32} (hI : trI2 V0 V c R S3) (hU : (∀ z, 4 ≤ z → z ≤ 12 → z ≠ 10 → V z = V0 z) ∧ V 3 = 1 ∧ V 10 = 0) (k : tK) (x1 x2 : Int32) (r0 r1 r5 : Nat → Int32) {n : Nat} (hn : 100 < n) (w h : Int32) (fr : Nat → Int64) (K N : Int → Int) (F Pg X Y Tt f s : Int32) (line : Nat → Int32) (b1 b2 b3 b4 b5 b6 : Int32) (A1 A2 A3 A4 A5 A6 A7 A8 A9 A10 T0 : Nat → Int32) :
    seaP k (f_X10_smallestPage_L35 (lA (d 2)) (lA (d 3)) (lA (d 4)) R n (iI 4) S3 w h fr (lA K) (lA N) F Pg X Y Tt f s line) (f_X11_smallestPage_L28 (x1, x2, r0, r1, lA (c 2), lA (c 3), lA (c 4), r5) k n (iI (-4)) (iI 4) b1 b2 b3 b4 b5 b6 (lA V) A1 A2 A3 A4 A5 A6 A7 A8 A9 A10 T0) := by
  refine lppn (fun n x (u : ((Int → Int) × (Nat → Nat → Int32) × (Int → Int) × (Int → Int)) × (Int32 × Int32 × (Nat → Int64) × Int32 × Int32 × Int32 × Int32 × Int32 × Int32 × Int32 × (Nat → Int32)) × (Int32 × Int32 × Int32 × Int32 × Int32 × Int32) × ((Nat → Int32) × (Nat → Int32) × (Nat → Int32) × (Nat → Int32) × (Nat → Int32) × (Nat → Int32) × (Nat → Int32) × (Nat → Int32) × (Nat → Int32) × (Nat → Int32) × (Nat → Int32))) =>
    (f_X10_smallestPage_L35 (lA (d 2)) (lA (d 3)) (lA (d 4)) R n (iI x) u.1.2.1 u.2.1.1 u.2.1.2.1 u.2.1.2.2.1 (lA u.1.2.2.1) (lA u.1.2.2.2) u.2.1.2.2.2.1 u.2.1.2.2.2.2.1 u.2.1.2.2.2.2.2.1 u.2.1.2.2.2.2.2.2.1 u.2.1.2.2.2.2.2.2.2.1 u.2.1.2.2.2.2.2.2.2.2.1 u.2.1.2.2.2.2.2.2.2.2.2.1 u.2.1.2.2.2.2.2.2.2.2.2.2,
     f_X11_smallestPage_L28 (x1, x2, r0, r1, lA (c 2), lA (c 3), lA (c 4), r5) k n (iI (-4)) (iI x) u.2.2.1.1 u.2.2.1.2.1 u.2.2.1.2.2.1 u.2.2.1.2.2.2.1 u.2.2.1.2.2.2.2.1 u.2.2.1.2.2.2.2.2 (lA u.1.1) u.2.2.2.1 u.2.2.2.2.1 u.2.2.2.2.2.1 u.2.2.2.2.2.2.1 u.2.2.2.2.2.2.2.1 u.2.2.2.2.2.2.2.2.1 u.2.2.2.2.2.2.2.2.2.1 u.2.2.2.2.2.2.2.2.2.2.1 u.2.2.2.2.2.2.2.2.2.2.2.1 u.2.2.2.2.2.2.2.2.2.2.2.2.1 u.2.2.2.2.2.2.2.2.2.2.2.2.2))
    (fun o => seaP k o.1 o.2) 33 (fun x u => 4 ≤ x ∧ trI2 V0 u.1.1 c R u.1.2.1 ∧ (∀ z, 4 ≤ z → z ≤ 12 → z ≠ 10 → u.1.1 z = V0 z) ∧ u.1.1 3 = 1 ∧ u.1.1 10 = 0) ?_ ?_ n 4 ((V, S3, K, N), (w, h, fr, F, Pg, X, Y, Tt, f, s, line), (b1, b2, b3, b4, b5, b6), A1, A2, A3, A4, A5, A6, A7, A8, A9, A10, T0) (by omega) (by omega) ⟨by omega, hI, hU⟩
  · rintro n ⟨⟨V, S3, K, N⟩, ⟨w, h, fr, F, Pg, X, Y, Tt, f, s, line⟩, ⟨b1, b2, b3, b4, b5, b6⟩, A1, A2, A3, A4, A5, A6, A7, A8, A9, A10, T0⟩ ⟨-, hI, -⟩
    have hI : trI2 V0 V c R S3 := hI
    show seaP k (f_X10_smallestPage_L35 (lA (d 2)) (lA (d 3)) (lA (d 4)) R (n + 1) (iI 33) S3 w h fr (lA K) (lA N) F Pg X Y Tt f s line) (f_X11_smallestPage_L28 (x1, x2, r0, r1, lA (c 2), lA (c 3), lA (c 4), r5) k (n + 1) (iI (-4)) (iI 33) b1 b2 b3 b4 b5 b6 (lA V) A1 A2 A3 A4 A5 A6 A7 A8 A9 A10 T0)
    rw [f_X10_smallestPage_L35, f_X11_smallestPage_L28, if_pos (by decide +kernel : (32 : Int32) < iI 33), if_pos (by decide +kernel : (32 : Int32) < iI 33), show (-4 : Int32) = iI (-4) by decide +kernel]
    exact ⟨_, _, _, _, _, _, _, _, _, _, _, _, _, _, _, _, _, _, _, _, _, V, _, _, _, _, _, _, _, _, _, _, _, rfl, rfl, hI.1.1⟩
  · rintro n x ⟨⟨V, S3, K, N⟩, ⟨w, h, fr, F, Pg, X, Y, Tt, f, s, line⟩, ⟨b1, b2, b3, b4, b5, b6⟩, A1, A2, A3, A4, A5, A6, A7, A8, A9, A10, T0⟩ hx hn ⟨x4, hI, hU, h3, h10⟩ ih
    have hI : trI2 V0 V c R S3 := hI
    have hU : ∀ z, 4 ≤ z → z ≤ 12 → z ≠ 10 → V z = V0 z := hU
    have h3 : V 3 = 1 := h3
    have h10 : V 10 = 0 := h10
    show seaP k (f_X10_smallestPage_L35 (lA (d 2)) (lA (d 3)) (lA (d 4)) R (n + 1) (iI x) S3 w h fr (lA K) (lA N) F Pg X Y Tt f s line) (f_X11_smallestPage_L28 (x1, x2, r0, r1, lA (c 2), lA (c 3), lA (c 4), r5) k (n + 1) (iI (-4)) (iI x) b1 b2 b3 b4 b5 b6 (lA V) A1 A2 A3 A4 A5 A6 A7 A8 A9 A10 T0)
    obtain ⟨W, hW⟩ : ∃ W, W = uI (uI V 1 x) 2 x := ⟨_, rfl⟩
    have w1 : W 1 = x := by rw [hW, uI_ne (by omega), uI_self]
    have w2 : W 2 = x := by rw [hW, uI_self]
    have wn : ∀ z, z ≠ 1 → z ≠ 2 → W z = V z := fun z z1 z2 => by rw [hW, uI_ne z2, uI_ne z1]
    have hWs : vSet W := by
      unfold vSet at hs0 ⊢
      rw [w1, w2, wn 3 (by omega) (by omega), wn 4 (by omega) (by omega), wn 5 (by omega) (by omega), wn 6 (by omega) (by omega), wn 7 (by omega) (by omega), wn 8 (by omega) (by omega), wn 9 (by omega) (by omega), wn 10 (by omega) (by omega), wn 11 (by omega) (by omega), wn 12 (by omega) (by omega), h3, h10, hU 4 (by omega) (by omega) (by omega), hU 5 (by omega) (by omega) (by omega), hU 6 (by omega) (by omega) (by omega), hU 7 (by omega) (by omega) (by omega), hU 8 (by omega) (by omega) (by omega), hU 9 (by omega) (by omega) (by omega), hU 11 (by omega) (by omega) (by omega), hU 12 (by omega) (by omega) (by omega)]
      omega
    have hIW := trI2_set hI (fun z hz => wn z (by omega) (by omega)) hWs
    have hr2 := sR2_sp hIW hr (fun z z0 z1 z2 => by rw [wn z (by omega) (by omega)]; exact hU z z0 z1 z2) (by rw [wn 3 (by omega) (by omega)]; exact h3) (by rw [wn 10 (by omega) (by omega)]; exact h10) x ⟨w1, w2⟩
    obtain ⟨⟨go, gs, gi, gg⟩, ⟨gc, g0⟩, -⟩ := id hIW
    have h8 : 0 ≤ W 8 ∧ W 8 ≤ 3 := by unfold vSet at gs; omega
    obtain ⟨V', S', K', N', miss, w', h', fr', F', Pg', X', Y', Tt', f', s', b1', b2', b3', b4', b5', b6', li, B1, B2, B3, B4, B5, B6, B7, B8, B9, B10, T', o1, o2, hA, z, hz, rfl⟩ := x_packs go gs gi gg hr2 gc (fun j j0 j1 => hd' j j0 (by omega)) w h fr K N F Pg X Y Tt f s line b1 b2 b3 b4 b5 b6 A1 A2 A3 A4 A5 A6 A7 A8 A9 A10 T0
    have hst := trI2_step gi h8 gc g0 hA ⟨⟨rfl, rfl⟩, rfl, rfl⟩
    have hv' : ∀ z, 1 ≤ z → z ≤ 12 → V' z = W z := fun z z0 z1 => by rw [hA.2.2.1.1 z z1, vE_ne (by omega) (by omega)]
    have hvo : vOut V' := hst.1.1
    unfold spT at o1
    rw [f_X10_smallestPage_L35, f_X11_smallestPage_L28, if_neg (show ¬ (32 : Int32) < iI x by rw [il_32, iI_lt (by omega) (by omega) (by omega) (by omega)]; omega), if_neg (show ¬ (32 : Int32) < iI x by rw [il_32, iI_lt (by omega) (by omega) (by omega) (by omega)]; omega), if_neg (by decide +kernel : ¬ (0 : Int32) ≤ iI (-4)), o1, opt_bind, show (1 : Int32) = iI 1 by decide +kernel, show (2 : Int32) = iI 2 by decide +kernel, wr_lA _ _ (by omega) (by omega) (by omega), wr_lA _ _ (by omega) (by omega) (by omega), ← hW, o2, opt_bind, bd_e, bd_e, bd_e, iI_add]
    by_cases z0 : z = 0
    · subst z0
      obtain ⟨n', rfl⟩ : ∃ n', n = n' + 1 := ⟨n - 1, by omega⟩
      rw [if_pos (by decide +kernel : iI 0 = (0 : Int32)), if_pos (by decide +kernel : iI 0 = (0 : Int32)), f_X11_smallestPage_L28]
      rw [if_pos (show (0 : Int32) ≤ iI x by rw [il_0, iI_le (by omega) (by omega) (by omega) (by omega)]; omega)]
      refine ⟨iI x, _, _, _, _, _, _, _, _, _, _, _, _, _, _, b1', b2', b3', b4', b5', b6', V', B1, B2, B3, B4, B5, B6, B7, B8, B9, B10, T', rfl, ?_, hvo⟩
      split <;> rfl
    · rw [if_neg (show ¬ iI z = (0 : Int32) by rw [il_0, iI_eq (by omega) (by omega) (by omega) (by omega)]; omega), if_neg (show ¬ iI z = (0 : Int32) by rw [il_0, iI_eq (by omega) (by omega) (by omega) (by omega)]; omega)]
      exact ih ((V', spT R S' (iI x), K', N'), (w', h', fr', F', Pg', X', Y', Tt', f', s', li), (b1', b2', b3', b4', b5', b6'), B1, B2, B3, B4, B5, B6, B7, B8, B9, B10, T') ⟨by omega, trI2_sp hst, fun z z0 z1 z2 => by show V' z = V0 z; rw [hv' z (by omega) z1, wn z (by omega) (by omega)]; exact hU z z0 z1 z2, by show V' 3 = 1; rw [hv' 3 (by omega) (by omega), wn 3 (by omega) (by omega)]; exact h3, by show V' 10 = 0; rw [hv' 10 (by omega) (by omega), wn 10 (by omega) (by omega)]; exact h10⟩
