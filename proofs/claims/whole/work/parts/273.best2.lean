theorem x_bestI {V0 : Int → Int} {c d : Nat → Int → Int} {R : Nat → Nat → Int32} (hs0 : vSet V0) (hr : sR V0 R) (hd' : ∀ j, 0 ≤ j → j < V0 0 → vDd c d j) (k : tK) (x1 x2 : Int32) (r0 r1 r5 : Nat → Int32) {fu M : Nat} (hn : 100 < fu) (hM : 100 < M) {x : Int} (x0 : 0 ≤ x) (hx : x < 4) {kk : (Int32 → Int64 → (Nat → Nat → Int32) → Int32 → Int32 → (Nat → Int64) → (Nat → Int32) → (Nat → Int32) → Int32 → Int32 → Int32 → Int32 → Int32 → Int32 → Int32 → (Nat → Int32) → Option tC15b)}
    (hkk : ∀ (bm fw pg le : Int) (best : Int32) (cost : Int64) (V : Int → Int) (S : Nat → Nat → Int32) (K N : Int → Int) (w h : Int32) (fr : Nat → Int64) (F Pg X Y Tt f s : Int32) (line : Nat → Int32) (b1 b2 b3 b4 b5 b6 : Int32) (A1 A2 A3 A4 A5 A6 A7 A8 A9 A10 T0 : Nat → Int32), bmR (4 * x + 4) bm fw pg le best cost → trI2 V0 V c R S → (∀ z, 1 ≤ z → z ≤ 10 → V z = V0 z) → seaB k (kk best cost (bmT R S (S 5 10) (S 5 11)) w h fr (lA K) (lA N) F Pg X Y Tt f s line) (f_X11_bestMethod_L20 (x1, x2, r0, r1, lA (c 2), lA (c 3), lA (c 4), r5) k (M - (4 * x + 4).toNat) (iI bm) (iI fw) (iI pg) (iI le) (iI (4 * x + 4)) b1 b2 b3 b4 b5 b6 (lA V) A1 A2 A3 A4 A5 A6 A7 A8 A9 A10 T0))
    {bm fw pg le : Int} {best : Int32} {cost : Int64} {V : Int → Int} {S : Nat → Nat → Int32} (hB : bmR (4 * x) bm fw pg le best cost) (hI : trI2 V0 V c R S) (hU : ∀ z, 1 ≤ z → z ≤ 10 → V z = V0 z) (w h : Int32) (fr : Nat → Int64) (K N : Int → Int) (F Pg X Y Tt f s : Int32) (line : Nat → Int32) (b1 b2 b3 b4 b5 b6 : Int32) (A1 A2 A3 A4 A5 A6 A7 A8 A9 A10 T0 : Nat → Int32) :
    seaB k (f_X10_bestMethod_L29 (lA (d 2)) (lA (d 3)) (lA (d 4)) R (iI x) kk fu best cost (iI 0) S w h fr (lA K) (lA N) F Pg X Y Tt f s line) (f_X11_bestMethod_L20 (x1, x2, r0, r1, lA (c 2), lA (c 3), lA (c 4), r5) k (M - (4 * x).toNat) (iI bm) (iI fw) (iI pg) (iI le) (iI (4 * x)) b1 b2 b3 b4 b5 b6 (lA V) A1 A2 A3 A4 A5 A6 A7 A8 A9 A10 T0) := by
  rw [show 4 * x = 4 * x + 0 by omega]
  refine lpp (fun n w (u : ((Int × Int × Int × Int × Int32 × Int64) × ((Int → Int) × (Nat → Nat → Int32) × (Int → Int) × (Int → Int)) × (Int32 × Int32 × (Nat → Int64) × Int32 × Int32 × Int32 × Int32 × Int32 × Int32 × Int32 × (Nat → Int32)) × (Int32 × Int32 × Int32 × Int32 × Int32 × Int32) × ((Nat → Int32) × (Nat → Int32) × (Nat → Int32) × (Nat → Int32) × (Nat → Int32) × (Nat → Int32) × (Nat → Int32) × (Nat → Int32) × (Nat → Int32) × (Nat → Int32) × (Nat → Int32)))) => (f_X10_bestMethod_L29 (lA (d 2)) (lA (d 3)) (lA (d 4)) R (iI x) kk n u.1.2.2.2.2.1 u.1.2.2.2.2.2 (iI w) u.2.1.2.1 u.2.2.1.1 u.2.2.1.2.1 u.2.2.1.2.2.1 (lA u.2.1.2.2.1) (lA u.2.1.2.2.2) u.2.2.1.2.2.2.1 u.2.2.1.2.2.2.2.1 u.2.2.1.2.2.2.2.2.1 u.2.2.1.2.2.2.2.2.2.1 u.2.2.1.2.2.2.2.2.2.2.1 u.2.2.1.2.2.2.2.2.2.2.2.1 u.2.2.1.2.2.2.2.2.2.2.2.2.1 u.2.2.1.2.2.2.2.2.2.2.2.2.2, f_X11_bestMethod_L20 (x1, x2, r0, r1, lA (c 2), lA (c 3), lA (c 4), r5) k (M - (4 * x + w).toNat) (iI u.1.1) (iI u.1.2.1) (iI u.1.2.2.1) (iI u.1.2.2.2.1) (iI (4 * x + w)) u.2.2.2.1.1 u.2.2.2.1.2.1 u.2.2.2.1.2.2.1 u.2.2.2.1.2.2.2.1 u.2.2.2.1.2.2.2.2.1 u.2.2.2.1.2.2.2.2.2 (lA u.2.1.1) u.2.2.2.2.1 u.2.2.2.2.2.1 u.2.2.2.2.2.2.1 u.2.2.2.2.2.2.2.1 u.2.2.2.2.2.2.2.2.1 u.2.2.2.2.2.2.2.2.2.1 u.2.2.2.2.2.2.2.2.2.2.1 u.2.2.2.2.2.2.2.2.2.2.2.1 u.2.2.2.2.2.2.2.2.2.2.2.2.1 u.2.2.2.2.2.2.2.2.2.2.2.2.2.1 u.2.2.2.2.2.2.2.2.2.2.2.2.2.2))
    (fun o => seaB k o.1 o.2) 4 (fun w u => 0 ≤ w ∧ bmR (4 * x + w) u.1.1 u.1.2.1 u.1.2.2.1 u.1.2.2.2.1 u.1.2.2.2.2.1 u.1.2.2.2.2.2 ∧ trI2 V0 u.2.1.1 c R u.2.1.2.1 ∧ (∀ z, 1 ≤ z → z ≤ 10 → u.2.1.1 z = V0 z)) ?_ ?_ fu 0 ((bm, fw, pg, le, best, cost), (V, S, K, N), (w, h, fr, F, Pg, X, Y, Tt, f, s, line), (b1, b2, b3, b4, b5, b6), A1, A2, A3, A4, A5, A6, A7, A8, A9, A10, T0) (by omega) (by omega) ⟨by omega, by rw [Int.add_zero]; exact hB, hI, hU⟩
  · clear hB hI hU
    rintro n' ⟨⟨bm, fw, pg, le, best, cost⟩, ⟨V, S, K, N⟩, ⟨w, h, fr, F, Pg, X, Y, Tt, f, s, line⟩, ⟨b1, b2, b3, b4, b5, b6⟩, A1, A2, A3, A4, A5, A6, A7, A8, A9, A10, T0⟩ ⟨-, hB, hI, hU⟩
    have hB : bmR (4 * x + 4) bm fw pg le best cost := hB
    have hI : trI2 V0 V c R S := hI
    have hU : ∀ z, 1 ≤ z → z ≤ 10 → V z = V0 z := hU
    show seaB k (f_X10_bestMethod_L29 (lA (d 2)) (lA (d 3)) (lA (d 4)) R (iI x) kk (n' + 1) best cost (iI 4) S w h fr (lA K) (lA N) F Pg X Y Tt f s line) (f_X11_bestMethod_L20 (x1, x2, r0, r1, lA (c 2), lA (c 3), lA (c 4), r5) k (M - (4 * x + 4).toNat) (iI bm) (iI fw) (iI pg) (iI le) (iI (4 * x + 4)) b1 b2 b3 b4 b5 b6 (lA V) A1 A2 A3 A4 A5 A6 A7 A8 A9 A10 T0)
    rw [f_X10_bestMethod_L29, if_pos (by decide +kernel : (3 : Int32) < iI 4)]
    exact hkk bm fw pg le best cost V S K N w h fr F Pg X Y Tt f s line b1 b2 b3 b4 b5 b6 A1 A2 A3 A4 A5 A6 A7 A8 A9 A10 T0 hB hI hU
  · clear hB hI hU hkk
    rintro n' y ⟨⟨bm, fw, pg, le, best, cost⟩, ⟨V, S, K, N⟩, ⟨w, h, fr, F, Pg, X, Y, Tt, f, s, line⟩, ⟨b1, b2, b3, b4, b5, b6⟩, A1, A2, A3, A4, A5, A6, A7, A8, A9, A10, T0⟩ hy ⟨y0, hB, hI, hU⟩ ih2
    have hB : bmR (4 * x + y) bm fw pg le best cost := hB
    have hI : trI2 V0 V c R S := hI
    have hU : ∀ z, 1 ≤ z → z ≤ 10 → V z = V0 z := hU
    show seaB k (f_X10_bestMethod_L29 (lA (d 2)) (lA (d 3)) (lA (d 4)) R (iI x) kk (n' + 1) best cost (iI y) S w h fr (lA K) (lA N) F Pg X Y Tt f s line) (f_X11_bestMethod_L20 (x1, x2, r0, r1, lA (c 2), lA (c 3), lA (c 4), r5) k (M - (4 * x + y).toNat) (iI bm) (iI fw) (iI pg) (iI le) (iI (4 * x + y)) b1 b2 b3 b4 b5 b6 (lA V) A1 A2 A3 A4 A5 A6 A7 A8 A9 A10 T0)
    obtain ⟨M', hM'⟩ : ∃ M', M - (4 * x + y).toNat = M' + 1 := ⟨M - (4 * x + y).toNat - 1, by omega⟩
    have hM2 : M - (4 * x + (y + 1)).toNat = M' := by omega
    rw [hM2, show 4 * x + (y + 1) = 4 * x + y + 1 by omega] at ih2
    obtain ⟨W, hW⟩ : ∃ W, W = uI (uI V 11 x) 12 y := ⟨_, rfl⟩
    have w11 : W 11 = x := by rw [hW, uI_ne (by omega), uI_self]
    have w12 : W 12 = y := by rw [hW, uI_self]
    have wn : ∀ z, z ≠ 11 → z ≠ 12 → W z = V z := fun z z1 z2 => by rw [hW, uI_ne z2, uI_ne z1]
    have hWs : vSet W := by
      unfold vSet at hs0 ⊢
      rw [w11, w12, wn 1 (by omega) (by omega), wn 2 (by omega) (by omega), wn 3 (by omega) (by omega), wn 4 (by omega) (by omega), wn 5 (by omega) (by omega), wn 6 (by omega) (by omega), wn 7 (by omega) (by omega), wn 8 (by omega) (by omega), wn 9 (by omega) (by omega), wn 10 (by omega) (by omega), hU 1 (by omega) (by omega), hU 2 (by omega) (by omega), hU 3 (by omega) (by omega), hU 4 (by omega) (by omega), hU 5 (by omega) (by omega), hU 6 (by omega) (by omega), hU 7 (by omega) (by omega), hU 8 (by omega) (by omega), hU 9 (by omega) (by omega), hU 10 (by omega) (by omega)]
      omega
    have hIW := trI2_set hI (fun z hz => wn z (by omega) (by omega)) hWs
    have hr2 := sR2_bm hIW hr (fun z z0 z1 => by rw [wn z (by omega) (by omega)]; exact hU z z0 z1) w11 w12
    obtain ⟨⟨go, gs, gi, gg⟩, ⟨gc, g0⟩, -⟩ := id hIW
    have h8 : 0 ≤ W 8 ∧ W 8 ≤ 3 := by unfold vSet at gs; omega
    have hWn := gi.1
    obtain ⟨V', S', K', N', miss, w', h', fr', F', Pg', X', Y', Tt', f', s', b1', b2', b3', b4', b5', b6', li, B1, B2, B3, B4, B5, B6, B7, B8, B9, B10, T', o1, o2, hA, z, hz, rfl⟩ := x_packs go gs gi gg hr2 gc (fun j j0 j1 => hd' j j0 (by omega)) w h fr K N F Pg X Y Tt f s line b1 b2 b3 b4 b5 b6 A1 A2 A3 A4 A5 A6 A7 A8 A9 A10 T0
    have hst := trI2_step gi h8 gc g0 hA ⟨⟨rfl, rfl⟩, rfl, rfl⟩
    have hv' : ∀ z, 1 ≤ z → z ≤ 10 → V' z = V0 z := fun z z0 z1 => by rw [hA.2.2.1.1 z (by omega), vE_ne (by omega) (by omega), wn z (by omega) (by omega)]; exact hU z z0 z1
    have hV0 : V' 0 = W 0 := by rw [hA.2.2.1.1 0 (by omega), vE_ne (by omega) (by omega)]
    have hbm := bmT_eq hA.2.2.2.1 hA.2.2.2.2
    obtain ⟨⟨as, ai, ap, ab, ag⟩, ⟨ar, -⟩, -⟩ := hA
    obtain ⟨le', l0, l1, l2⟩ := x_cost as ai ap ab ag ar (d := d) (fun j j0 j1 => by obtain ⟨-, -, q2, q3, -⟩ := hd' j j0 (by omega); exact ⟨q2, q3⟩) hz
    have h13 := ap.1
    have h3' : V' 3 ≤ 4 := by unfold vSet at as; omega
    have ediv : iI (4 * x + y) / (4 : Int32) = iI x := by rw [il_4, div_iI (by omega) (by omega) (by omega) (by omega)]; congr 1; omega
    have erem : g_rem (iI (4 * x + y)) (4 : Int32) = iI y := by rw [il_4, rem_iI (by omega) (by omega) (by omega) (by omega)]; congr 1; omega
    unfold bmT at o1 hbm
    rw [f_X10_bestMethod_L29, if_neg (show ¬ (3 : Int32) < iI y by rw [il_3, iI_lt (by omega) (by omega) (by omega) (by omega)]; omega), o1, opt_bind]
    simp only []
    rw [hbm, l1, opt_bind, jn_e, hM', f_X11_bestMethod_L20, if_neg (show ¬ (16 : Int32) ≤ iI (4 * x + y) by rw [il_16, iI_le (by omega) (by omega) (by omega) (by omega)]; omega), bd_e, bd_e, ediv, il_11, wr_lA _ _ (by omega) (by omega) (by omega), bd_e, erem, il_12, wr_lA _ _ (by omega) (by omega) (by omega), ← hW, o2, opt_bind]
    simp only []
    rw [l2, opt_bind, il_1, il_0]
    have keep := ih2 ((bm, fw, pg, le, best, cost), (V', S', K', N'), (w', h', fr', F', Pg', X', Y', Tt', f', s', li), (b1', b2', b3', b4', b5', b6'), B1, B2, B3, B4, B5, B6, B7, B8, B9, B10, T')
    have hbn : bmR (4 * x + y + 1) (4 * x + y) z (V' 13) le' (iI (10 * x + y)) (iL ((z * 10 + V' 13) * 10000 + le')) := Or.inr ⟨by omega, hz, by omega, l0, by congr 1; omega, rfl⟩
    have take := ih2 ((4 * x + y, z, V' 13, le', iI (10 * x + y), iL ((z * 10 + V' 13) * 10000 + le')), (V', S', K', N'), (w', h', fr', F', Pg', X', Y', Tt', f', s', li), (b1', b2', b3', b4', b5', b6'), B1, B2, B3, B4, B5, B6, B7, B8, B9, B10, T') ⟨by omega, hbn, hst, hv'⟩
    rcases hB with ⟨t0, rfl, ⟨rfl, rfl, rfl⟩, rfl⟩ | ⟨q1, q2, q3, q4, rfl, rfl⟩
    · have hc : ¬ (iI 0 : Int32) ≤ lg_cmp (iL ((z * 10 + V' 13) * 10000 + le')) (iL 1000000000) := by
        rw [← il_0, cmp_ge (by omega) (by omega)]
        omega
      rw [if_neg hc]
      simp (disch := omega) only [↓bd_e, ↓jn_e, ↓opt_bind, ↓reduceIte, iLeT, iLeF, iLtT, iLtF, iEqT, iEqF, il_0, il_1, il_2, il_3, il_4, il_5, il_6, il_7, il_8, il_9, il_10, il_11, il_12, il_13, il_14, il_15, il_16, il_18, il_20, il_24, il_32, il_35, il_40, il_44, il_47, il_48, il_56, il_57, il_58, il_59, il_63, il_64, il_72, il_100, il_120, il_126, il_127, il_160, il_192, il_255, il_349, il_1748, il_6992, iI_add, iI_sub, iI_mul, iI_neg, iI_le, iI_lt, iI_eq, rd_lA, wr_lA, rd_lR, wr_lR, ite_iI, max_iI, min_iI, rem_iI, div_iI, ite_true, ite_false, if_true, if_false, ite_self, and_self, and_true, true_and, and_false, false_and, or_self, or_true, true_or, or_false, false_or, not_true_eq_false, not_false_eq_true]
      exact take
    · have keep := keep ⟨by omega, Or.inr ⟨q1, q2, q3, q4, rfl, rfl⟩, hst, hv'⟩
      by_cases hb : (fw * 10 + pg) * 10000 + le ≤ (z * 10 + V' 13) * 10000 + le'
      · have hc : (iI 0 : Int32) ≤ lg_cmp (iL ((z * 10 + V' 13) * 10000 + le')) (iL ((fw * 10 + pg) * 10000 + le)) := by
          rw [← il_0, cmp_ge (by omega) (by omega)]
          exact hb
        rw [if_pos hc]
        by_cases e1 : z = fw
        · subst e1
          by_cases e2 : V' 13 = pg
          · subst e2
            simp (disch := omega) only [↓bd_e, ↓jn_e, ↓opt_bind, ↓reduceIte, iLeT, iLeF, iLtT, iLtF, iEqT, iEqF, il_0, il_1, il_2, il_3, il_4, il_5, il_6, il_7, il_8, il_9, il_10, il_11, il_12, il_13, il_14, il_15, il_16, il_18, il_20, il_24, il_32, il_35, il_40, il_44, il_47, il_48, il_56, il_57, il_58, il_59, il_63, il_64, il_72, il_100, il_120, il_126, il_127, il_160, il_192, il_255, il_349, il_1748, il_6992, iI_add, iI_sub, iI_mul, iI_neg, iI_le, iI_lt, iI_eq, rd_lA, wr_lA, rd_lR, wr_lR, ite_iI, max_iI, min_iI, rem_iI, div_iI, ite_true, ite_false, if_true, if_false, ite_self, and_self, and_true, true_and, and_false, false_and, or_self, or_true, true_or, or_false, false_or, not_true_eq_false, not_false_eq_true]
            exact keep
          · simp (disch := omega) only [↓bd_e, ↓jn_e, ↓opt_bind, ↓reduceIte, iLeT, iLeF, iLtT, iLtF, iEqT, iEqF, il_0, il_1, il_2, il_3, il_4, il_5, il_6, il_7, il_8, il_9, il_10, il_11, il_12, il_13, il_14, il_15, il_16, il_18, il_20, il_24, il_32, il_35, il_40, il_44, il_47, il_48, il_56, il_57, il_58, il_59, il_63, il_64, il_72, il_100, il_120, il_126, il_127, il_160, il_192, il_255, il_349, il_1748, il_6992, iI_add, iI_sub, iI_mul, iI_neg, iI_le, iI_lt, iI_eq, rd_lA, wr_lA, rd_lR, wr_lR, ite_iI, max_iI, min_iI, rem_iI, div_iI, ite_true, ite_false, if_true, if_false, ite_self, and_self, and_true, true_and, and_false, false_and, or_self, or_true, true_or, or_false, false_or, not_true_eq_false, not_false_eq_true]
            exact keep
        · simp (disch := omega) only [↓bd_e, ↓jn_e, ↓opt_bind, ↓reduceIte, iLeT, iLeF, iLtT, iLtF, iEqT, iEqF, il_0, il_1, il_2, il_3, il_4, il_5, il_6, il_7, il_8, il_9, il_10, il_11, il_12, il_13, il_14, il_15, il_16, il_18, il_20, il_24, il_32, il_35, il_40, il_44, il_47, il_48, il_56, il_57, il_58, il_59, il_63, il_64, il_72, il_100, il_120, il_126, il_127, il_160, il_192, il_255, il_349, il_1748, il_6992, iI_add, iI_sub, iI_mul, iI_neg, iI_le, iI_lt, iI_eq, rd_lA, wr_lA, rd_lR, wr_lR, ite_iI, max_iI, min_iI, rem_iI, div_iI, ite_true, ite_false, if_true, if_false, ite_self, and_self, and_true, true_and, and_false, false_and, or_self, or_true, true_or, or_false, false_or, not_true_eq_false, not_false_eq_true]
          exact keep
      · have hc : ¬ (iI 0 : Int32) ≤ lg_cmp (iL ((z * 10 + V' 13) * 10000 + le')) (iL ((fw * 10 + pg) * 10000 + le)) := by
          rw [← il_0, cmp_ge (by omega) (by omega)]
          exact hb
        rw [if_neg hc]
        by_cases e1 : z = fw
        · subst e1
          by_cases e2 : V' 13 = pg
          · subst e2
            simp (disch := omega) only [↓bd_e, ↓jn_e, ↓opt_bind, ↓reduceIte, iLeT, iLeF, iLtT, iLtF, iEqT, iEqF, il_0, il_1, il_2, il_3, il_4, il_5, il_6, il_7, il_8, il_9, il_10, il_11, il_12, il_13, il_14, il_15, il_16, il_18, il_20, il_24, il_32, il_35, il_40, il_44, il_47, il_48, il_56, il_57, il_58, il_59, il_63, il_64, il_72, il_100, il_120, il_126, il_127, il_160, il_192, il_255, il_349, il_1748, il_6992, iI_add, iI_sub, iI_mul, iI_neg, iI_le, iI_lt, iI_eq, rd_lA, wr_lA, rd_lR, wr_lR, ite_iI, max_iI, min_iI, rem_iI, div_iI, ite_true, ite_false, if_true, if_false, ite_self, and_self, and_true, true_and, and_false, false_and, or_self, or_true, true_or, or_false, false_or, not_true_eq_false, not_false_eq_true]
            exact take
          · simp (disch := omega) only [↓bd_e, ↓jn_e, ↓opt_bind, ↓reduceIte, iLeT, iLeF, iLtT, iLtF, iEqT, iEqF, il_0, il_1, il_2, il_3, il_4, il_5, il_6, il_7, il_8, il_9, il_10, il_11, il_12, il_13, il_14, il_15, il_16, il_18, il_20, il_24, il_32, il_35, il_40, il_44, il_47, il_48, il_56, il_57, il_58, il_59, il_63, il_64, il_72, il_100, il_120, il_126, il_127, il_160, il_192, il_255, il_349, il_1748, il_6992, iI_add, iI_sub, iI_mul, iI_neg, iI_le, iI_lt, iI_eq, rd_lA, wr_lA, rd_lR, wr_lR, ite_iI, max_iI, min_iI, rem_iI, div_iI, ite_true, ite_false, if_true, if_false, ite_self, and_self, and_true, true_and, and_false, false_and, or_self, or_true, true_or, or_false, false_or, not_true_eq_false, not_false_eq_true]
            exact take
        · simp (disch := omega) only [↓bd_e, ↓jn_e, ↓opt_bind, ↓reduceIte, iLeT, iLeF, iLtT, iLtF, iEqT, iEqF, il_0, il_1, il_2, il_3, il_4, il_5, il_6, il_7, il_8, il_9, il_10, il_11, il_12, il_13, il_14, il_15, il_16, il_18, il_20, il_24, il_32, il_35, il_40, il_44, il_47, il_48, il_56, il_57, il_58, il_59, il_63, il_64, il_72, il_100, il_120, il_126, il_127, il_160, il_192, il_255, il_349, il_1748, il_6992, iI_add, iI_sub, iI_mul, iI_neg, iI_le, iI_lt, iI_eq, rd_lA, wr_lA, rd_lR, wr_lR, ite_iI, max_iI, min_iI, rem_iI, div_iI, ite_true, ite_false, if_true, if_false, ite_self, and_self, and_true, true_and, and_false, false_and, or_self, or_true, true_or, or_false, false_or, not_true_eq_false, not_false_eq_true]
          exact take
theorem x_best1 {V0 : Int → Int} {c d : Nat → Int → Int} {R : Nat → Nat → Int32} (hs0 : vSet V0) (hr : sR V0 R) (hd' : ∀ j, 0 ≤ j → j < V0 0 → vDd c d j) {V : Int → Int} {S : Nat → Nat → Int32} (hI : trI2 V0 V c R S) (hU : ∀ z, 1 ≤ z → z ≤ 10 → V z = V0 z) (k : tK) (x1 x2 : Int32) (r0 r1 r5 : Nat → Int32) {fu M : Nat} (hfu : g_fuel = fu) (hn : 100 < fu) (hM : 100 < M) (w h : Int32) (fr : Nat → Int64) (K N : Int → Int) (F Pg X Y Tt f s : Int32) (line : Nat → Int32) (b1 b2 b3 b4 b5 b6 : Int32) (A1 A2 A3 A4 A5 A6 A7 A8 A9 A10 T0 : Nat → Int32) (best : Int32) :
    seaB k (f_X10_bestMethod_L20 (lA (d 2)) (lA (d 3)) (lA (d 4)) R fu best (iL 1000000000) (iI 0) S w h fr (lA K) (lA N) F Pg X Y Tt f s line) (f_X11_bestMethod_L20 (x1, x2, r0, r1, lA (c 2), lA (c 3), lA (c 4), r5) k M (iI (-1)) (iI 0) (iI 0) (iI 0) (iI (4 * 0)) b1 b2 b3 b4 b5 b6 (lA V) A1 A2 A3 A4 A5 A6 A7 A8 A9 A10 T0) := by
  refine lpp (fun n o (u : ((Int × Int × Int × Int × Int32 × Int64) × ((Int → Int) × (Nat → Nat → Int32) × (Int → Int) × (Int → Int)) × (Int32 × Int32 × (Nat → Int64) × Int32 × Int32 × Int32 × Int32 × Int32 × Int32 × Int32 × (Nat → Int32)) × (Int32 × Int32 × Int32 × Int32 × Int32 × Int32) × ((Nat → Int32) × (Nat → Int32) × (Nat → Int32) × (Nat → Int32) × (Nat → Int32) × (Nat → Int32) × (Nat → Int32) × (Nat → Int32) × (Nat → Int32) × (Nat → Int32) × (Nat → Int32)))) => (f_X10_bestMethod_L20 (lA (d 2)) (lA (d 3)) (lA (d 4)) R n u.1.2.2.2.2.1 u.1.2.2.2.2.2 (iI o) u.2.1.2.1 u.2.2.1.1 u.2.2.1.2.1 u.2.2.1.2.2.1 (lA u.2.1.2.2.1) (lA u.2.1.2.2.2) u.2.2.1.2.2.2.1 u.2.2.1.2.2.2.2.1 u.2.2.1.2.2.2.2.2.1 u.2.2.1.2.2.2.2.2.2.1 u.2.2.1.2.2.2.2.2.2.2.1 u.2.2.1.2.2.2.2.2.2.2.2.1 u.2.2.1.2.2.2.2.2.2.2.2.2.1 u.2.2.1.2.2.2.2.2.2.2.2.2.2, f_X11_bestMethod_L20 (x1, x2, r0, r1, lA (c 2), lA (c 3), lA (c 4), r5) k (M - (4 * o).toNat) (iI u.1.1) (iI u.1.2.1) (iI u.1.2.2.1) (iI u.1.2.2.2.1) (iI (4 * o)) u.2.2.2.1.1 u.2.2.2.1.2.1 u.2.2.2.1.2.2.1 u.2.2.2.1.2.2.2.1 u.2.2.2.1.2.2.2.2.1 u.2.2.2.1.2.2.2.2.2 (lA u.2.1.1) u.2.2.2.2.1 u.2.2.2.2.2.1 u.2.2.2.2.2.2.1 u.2.2.2.2.2.2.2.1 u.2.2.2.2.2.2.2.2.1 u.2.2.2.2.2.2.2.2.2.1 u.2.2.2.2.2.2.2.2.2.2.1 u.2.2.2.2.2.2.2.2.2.2.2.1 u.2.2.2.2.2.2.2.2.2.2.2.2.1 u.2.2.2.2.2.2.2.2.2.2.2.2.2.1 u.2.2.2.2.2.2.2.2.2.2.2.2.2.2))
    (fun o => seaB k o.1 o.2) 4 (fun x u => 0 ≤ x ∧ bmR (4 * x) u.1.1 u.1.2.1 u.1.2.2.1 u.1.2.2.2.1 u.1.2.2.2.2.1 u.1.2.2.2.2.2 ∧ trI2 V0 u.2.1.1 c R u.2.1.2.1 ∧ (∀ z, 1 ≤ z → z ≤ 10 → u.2.1.1 z = V0 z)) ?_ ?_ fu 0 ((-1, 0, 0, 0, best, iL 1000000000), (V, S, K, N), (w, h, fr, F, Pg, X, Y, Tt, f, s, line), (b1, b2, b3, b4, b5, b6), A1, A2, A3, A4, A5, A6, A7, A8, A9, A10, T0) (by omega) (by omega) ⟨by omega, Or.inl ⟨rfl, rfl, ⟨rfl, rfl, rfl⟩, rfl⟩, hI, hU⟩
  · rintro n ⟨⟨bm, fw, pg, le, best, cost⟩, ⟨V, S, K, N⟩, ⟨w, h, fr, F, Pg, X, Y, Tt, f, s, line⟩, ⟨b1, b2, b3, b4, b5, b6⟩, A1, A2, A3, A4, A5, A6, A7, A8, A9, A10, T0⟩ ⟨-, hB, hI, hU⟩
    have hB : bmR (4 * 4) bm fw pg le best cost := hB
    have hI : trI2 V0 V c R S := hI
    have hU : ∀ z, 1 ≤ z → z ≤ 10 → V z = V0 z := hU
    show seaB k (f_X10_bestMethod_L20 (lA (d 2)) (lA (d 3)) (lA (d 4)) R (n + 1) best cost (iI 4) S w h fr (lA K) (lA N) F Pg X Y Tt f s line) (f_X11_bestMethod_L20 (x1, x2, r0, r1, lA (c 2), lA (c 3), lA (c 4), r5) k (M - 16) (iI bm) (iI fw) (iI pg) (iI le) (iI 16) b1 b2 b3 b4 b5 b6 (lA V) A1 A2 A3 A4 A5 A6 A7 A8 A9 A10 T0)
    obtain ⟨M', hM'⟩ : ∃ M', M - 16 = M' + 1 := ⟨M - 17, by omega⟩
    rcases hB with ⟨z, -⟩ | ⟨q1, -, -, -, rfl, -⟩
    · omega
    rw [hM', f_X10_bestMethod_L20, f_X11_bestMethod_L20, if_pos (by decide +kernel : (3 : Int32) < iI 4), if_pos (by decide +kernel : (16 : Int32) ≤ iI 16)]
    exact ⟨bm, _, _, _, _, _, _, _, _, _, _, _, _, _, _, _, _, _, _, _, _, V, _, _, _, _, _, _, _, _, _, _, _, q1, rfl, rfl, hI.1.1⟩
  · rintro n x ⟨⟨bm, fw, pg, le, best, cost⟩, ⟨V, S, K, N⟩, ⟨w, h, fr, F, Pg, X, Y, Tt, f, s, line⟩, ⟨b1, b2, b3, b4, b5, b6⟩, A1, A2, A3, A4, A5, A6, A7, A8, A9, A10, T0⟩ hx ⟨x0, hB, hI, hU⟩ ih
    have hB : bmR (4 * x) bm fw pg le best cost := hB
    have hI : trI2 V0 V c R S := hI
    have hU : ∀ z, 1 ≤ z → z ≤ 10 → V z = V0 z := hU
    show seaB k (f_X10_bestMethod_L20 (lA (d 2)) (lA (d 3)) (lA (d 4)) R (n + 1) best cost (iI x) S w h fr (lA K) (lA N) F Pg X Y Tt f s line) (f_X11_bestMethod_L20 (x1, x2, r0, r1, lA (c 2), lA (c 3), lA (c 4), r5) k (M - (4 * x).toNat) (iI bm) (iI fw) (iI pg) (iI le) (iI (4 * x)) b1 b2 b3 b4 b5 b6 (lA V) A1 A2 A3 A4 A5 A6 A7 A8 A9 A10 T0)
    rw [f_X10_bestMethod_L20, if_neg (show ¬ (3 : Int32) < iI x by rw [il_3, iI_lt (by omega) (by omega) (by omega) (by omega)]; omega), jn_e, hfu, show (0 : Int32) = iI 0 by decide +kernel]
    refine x_bestI hs0 hr hd' k x1 x2 r0 r1 r5 (by omega) hM x0 hx ?_ hB (trI2_bm _ _ hI) hU w h fr K N F Pg X Y Tt f s line b1 b2 b3 b4 b5 b6 A1 A2 A3 A4 A5 A6 A7 A8 A9 A10 T0
    clear hB hI hU
    intro bm fw pg le best cost V S K N w h fr F Pg X Y Tt f s line b1 b2 b3 b4 b5 b6 A1 A2 A3 A4 A5 A6 A7 A8 A9 A10 T0 hB hI hU
    rw [bd_e, il_1, iI_add, show 4 * x + 4 = 4 * (x + 1) by omega]
    exact ih ((bm, fw, pg, le, best, cost), (V, bmT R (bmT R S (S 5 10) (S 5 11)) (bmT R S (S 5 10) (S 5 11) 5 10) (bmT R S (S 5 10) (S 5 11) 5 11), K, N), (w, h, fr, F, Pg, X, Y, Tt, f, s, line), (b1, b2, b3, b4, b5, b6), A1, A2, A3, A4, A5, A6, A7, A8, A9, A10, T0) ⟨by omega, by rw [show 4 * (x + 1) = 4 * x + 4 by omega]; exact hB, trI2_bm _ _ (trI2_bm _ _ hI), hU⟩
