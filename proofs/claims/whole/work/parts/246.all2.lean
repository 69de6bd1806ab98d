abbrev tC15 : Type := Int32 × Int32 × Int32 × (Nat → Int64) × (Nat → Int32) × (Nat → Int32) × Int32 × Int32 × Int32 × Int32 × Int32 × Int32 × Int32 × (Nat → Int32) × (Nat → Nat → Int32)
def allP (W : Int → Int) (c : Nat → Int → Int) (S0 : Nat → Nat → Int32) (o1 : Option tC15) (o2 : Option tM19) : Prop :=
  ∃ (V' : Int → Int) (S' : Nat → Nat → Int32) (K' N' : Int → Int) (miss w h : Int32) (fr : Nat → Int64) (F Pg X Y Tt f s b1 b2 b3 b4 b5 b6 : Int32) (li A1 A2 A3 A4 A5 A6 A7 A8 A9 A10 T' : Nat → Int32), o1 = some (miss, w, h, fr, lA K', lA N', F, Pg, X, Y, Tt, f, s, li, S') ∧ o2 = some (miss, b1, b2, b3, b4, b5, b6, lA V', A1, A2, A3, A4, A5, A6, A7, A8, A9, A10, T') ∧ pcA W V' c S0 S' K' N' ∧ ∃ z : Int, (0 ≤ z ∧ z ≤ 24) ∧ miss = iI z
theorem x_place {W : Int → Int} {c d : Nat → Int → Int} {S0 : Nat → Nat → Int32} {len : Int} {L : Int → Int} (hW : 0 ≤ W 0 ∧ W 0 ≤ 24) (hd : ∀ j, 0 ≤ j → j < W 0 → d 2 j = c 2 j ∧ d 3 j = c 3 j) (hc : catR W c) (hE : En len (fun k => vKy W c (L k)) (orS W c (W 0))) (hlen : 0 ≤ len ∧ len ≤ W 0) (hL : ∀ k, 0 ≤ k → k < len → 0 ≤ L k ∧ L k < W 0)
    {V : Int → Int} {S : Nat → Nat → Int32} {K N T : Int → Int} (hA : pcA W V c S0 S K N) (hT : pcT W V c L 0 T) {n : Nat} (hn : 20000 ≤ n) (w h : Int32) (fr : Nat → Int64) (F Pg X Y Tt f s b1 b2 b3 b4 b5 b6 : Int32) (A1 A2 A3 A4 A5 A6 A7 A8 A9 A10 : Nat → Int32) :
    allP W c S0 (f_X3_placeAll_L19 S0 (lA (d 2)) (lA (d 3)) (iI len, lA L) n (iI 0) (iI 0) w h fr (lA K) (lA N) F Pg X Y Tt f s S) (f_X11_packs_L45 (lA (c 2)) (lA (c 3)) n (iI 0) (iI 1) b1 b2 b3 b4 b5 b6 (lA V) A1 A2 A3 A4 A5 A6 A7 A8 A9 A10 (lA T)) := by
  obtain ⟨fu, hfu, hfu2⟩ := fuel_ex
  refine lpp2 (fun n x (u : Int × ((Int → Int) × (Nat → Nat → Int32) × (Int → Int) × (Int → Int) × (Int → Int)) × (Int32 × Int32 × (Nat → Int64) × Int32 × Int32 × Int32 × Int32 × Int32 × Int32 × Int32) × (Int32 × Int32 × Int32 × Int32 × Int32 × Int32) × ((Nat → Int32) × (Nat → Int32) × (Nat → Int32) × (Nat → Int32) × (Nat → Int32) × (Nat → Int32) × (Nat → Int32) × (Nat → Int32) × (Nat → Int32) × (Nat → Int32))) =>
    (f_X3_placeAll_L19 S0 (lA (d 2)) (lA (d 3)) (iI len, lA L) n (iI u.1) (iI x) u.2.2.1.1 u.2.2.1.2.1 u.2.2.1.2.2.1 (lA u.2.1.2.2.1) (lA u.2.1.2.2.2.1) u.2.2.1.2.2.2.1 u.2.2.1.2.2.2.2.1 u.2.2.1.2.2.2.2.2.1 u.2.2.1.2.2.2.2.2.2.1 u.2.2.1.2.2.2.2.2.2.2.1 u.2.2.1.2.2.2.2.2.2.2.2.1 u.2.2.1.2.2.2.2.2.2.2.2.2 u.2.1.2.1,
     f_X11_packs_L45 (lA (c 2)) (lA (c 3)) n (iI u.1) (iI 1) u.2.2.2.1.1 u.2.2.2.1.2.1 u.2.2.2.1.2.2.1 u.2.2.2.1.2.2.2.1 u.2.2.2.1.2.2.2.2.1 u.2.2.2.1.2.2.2.2.2 (lA u.2.1.1) u.2.2.2.2.1 u.2.2.2.2.2.1 u.2.2.2.2.2.2.1 u.2.2.2.2.2.2.2.1 u.2.2.2.2.2.2.2.2.1 u.2.2.2.2.2.2.2.2.2.1 u.2.2.2.2.2.2.2.2.2.2.1 u.2.2.2.2.2.2.2.2.2.2.2.1 u.2.2.2.2.2.2.2.2.2.2.2.2.1 u.2.2.2.2.2.2.2.2.2.2.2.2.2 (lA u.2.1.2.2.2.2)))
    (fun o => allP W c S0 o.1 o.2) len (fun x u => (0 ≤ x ∧ 0 ≤ u.1 ∧ u.1 ≤ x) ∧ pcA W u.2.1.1 c S0 u.2.1.2.1 u.2.1.2.2.1 u.2.1.2.2.2.1 ∧ pcT W u.2.1.1 c L x u.2.1.2.2.2.2) ?_ ?_ n 0 (0, (V, S, K, N, T), (w, h, fr, F, Pg, X, Y, Tt, f, s), (b1, b2, b3, b4, b5, b6), A1, A2, A3, A4, A5, A6, A7, A8, A9, A10) (by omega) (by omega) ⟨⟨by omega, Int.le_refl _, Int.le_refl _⟩, hA, hT⟩
  · rintro n ⟨miss, ⟨V, S, K, N, T⟩, ⟨w, h, fr, F, Pg, X, Y, Tt, f, s⟩, ⟨b1, b2, b3, b4, b5, b6⟩, A1, A2, A3, A4, A5, A6, A7, A8, A9, A10⟩ hn ⟨⟨x0, m0, m1⟩, hA, hT⟩
    have m0 : 0 ≤ miss := m0
    have m1 : miss ≤ len := m1
    have hA : pcA W V c S0 S K N := hA
    have hT : pcT W V c L len T := hT
    show allP W c S0 (f_X3_placeAll_L19 S0 _ _ _ (n + 1) (iI miss) (iI len) w h fr (lA K) (lA N) F Pg X Y Tt f s S) (f_X11_packs_L45 _ _ (n + 1) (iI miss) (iI 1) b1 b2 b3 b4 b5 b6 (lA V) A1 A2 A3 A4 A5 A6 A7 A8 A9 A10 (lA T))
    obtain ⟨⟨gs, gi, gp, gb, gg⟩, ⟨gr, gsp⟩, ⟨w1, w2, w3⟩, k1, k2⟩ := id hA
    have h0 := w1 0 (by omega)
    have hch : updC (updC (updC (updC (updC (updC S0 6 (upd (S0 6) 0 (S 6 0))) 7 (S 7)) 8 (S 8)) 9 (S 9)) 10 (S 10)) 11 (S 11) = S := chn_eq k1 k2
    have el : f_X3_placeAll_L19 S0 (lA (d 2)) (lA (d 3)) (iI len, lA L) (n + 1) (iI miss) (iI len) w h fr (lA K) (lA N) F Pg X Y Tt f s S = some (iI miss, w, h, fr, lA K, lA N, F, Pg, X, Y, Tt, f, s, lA L, S) := by
      rw [f_X3_placeAll_L19]
      simp (disch := omega) only [↓bd_e, ↓jn_e, ↓opt_bind, ↓reduceIte, iLeT, iLeF, iLtT, iLtF, iEqT, iEqF, il_0, il_1, il_2, il_3, il_4, il_5, il_6, il_7, il_8, il_9, il_10, il_11, il_12, il_13, il_14, il_15, il_16, il_18, il_20, il_24, il_32, il_35, il_40, il_44, il_47, il_48, il_56, il_57, il_58, il_59, il_63, il_64, il_72, il_100, il_120, il_126, il_127, il_160, il_192, il_255, il_349, il_1748, il_6992, iI_add, iI_sub, iI_mul, iI_neg, iI_le, iI_lt, iI_eq, rd_lA, wr_lA, rd_lR, wr_lR, ite_iI, max_iI, min_iI, rem_iI, div_iI, ite_true, ite_false, if_true, if_false, ite_self, and_self, and_true, true_and, and_false, false_and, or_self, or_true, true_or, or_false, false_or, not_true_eq_false, not_false_eq_true, hch]
    rw [el, f_X11_packs_L45, if_neg (by decide +kernel : ¬ iI 1 = (0 : Int32)), il_0, rd_lA V _ (by omega) (by omega) (by omega)]
    simp only [bd_e, jn_e, hfu]
    rw [show (-1 : Int32) = iI (-1) by decide +kernel, il_1, iI_sub]
    refine m_pick (P := fun r => allP W c S0 _ r) gs gi (fun j j0 j1 => hc j j0 (by omega)) (fun s s0 s1 => (hT.1 s s0 (by omega)).1) ?_ (by omega)
    intro b hb
    have hbe := (pick_eq (by omega) h0 (w1 11 (by omega)) hE hL hT hb).2 rfl
    obtain ⟨n', rfl⟩ : ∃ n', n = n' + 1 := ⟨n - 1, by omega⟩
    rw [hbe]
    simp (disch := omega) only [↓bd_e, ↓jn_e, ↓opt_bind, ↓reduceIte, iLeT, iLeF, iLtT, iLtF, iEqT, iEqF, il_0, il_1, il_2, il_3, il_4, il_5, il_6, il_7, il_8, il_9, il_10, il_11, il_12, il_13, il_14, il_15, il_16, il_18, il_20, il_24, il_32, il_35, il_40, il_44, il_47, il_48, il_56, il_57, il_58, il_59, il_63, il_64, il_72, il_100, il_120, il_126, il_127, il_160, il_192, il_255, il_349, il_1748, il_6992, iI_add, iI_sub, iI_mul, iI_neg, iI_le, iI_lt, iI_eq, rd_lA, wr_lA, rd_lR, wr_lR, ite_iI, max_iI, min_iI, rem_iI, div_iI, ite_true, ite_false, if_true, if_false, ite_self, and_self, and_true, true_and, and_false, false_and, or_self, or_true, true_or, or_false, false_or, not_true_eq_false, not_false_eq_true]
    rw [f_X11_packs_L45]
    simp (disch := omega) only [↓bd_e, ↓jn_e, ↓opt_bind, ↓reduceIte, iLeT, iLeF, iLtT, iLtF, iEqT, iEqF, il_0, il_1, il_2, il_3, il_4, il_5, il_6, il_7, il_8, il_9, il_10, il_11, il_12, il_13, il_14, il_15, il_16, il_18, il_20, il_24, il_32, il_35, il_40, il_44, il_47, il_48, il_56, il_57, il_58, il_59, il_63, il_64, il_72, il_100, il_120, il_126, il_127, il_160, il_192, il_255, il_349, il_1748, il_6992, iI_add, iI_sub, iI_mul, iI_neg, iI_le, iI_lt, iI_eq, rd_lA, wr_lA, rd_lR, wr_lR, ite_iI, max_iI, min_iI, rem_iI, div_iI, ite_true, ite_false, if_true, if_false, ite_self, and_self, and_true, true_and, and_false, false_and, or_self, or_true, true_or, or_false, false_or, not_true_eq_false, not_false_eq_true]
    exact ⟨V, S, K, N, iI miss, w, h, fr, F, Pg, X, Y, Tt, f, s, b1, b2, b3, b4, b5, b6, lA L, A1, A2, A3, A4, A5, A6, A7, A8, A9, A10, lA T, rfl, rfl, hA, miss, by omega, rfl⟩
  · rintro n x ⟨miss, ⟨V, S, K, N, T⟩, ⟨w, h, fr, F, Pg, X, Y, Tt, f, s⟩, ⟨b1, b2, b3, b4, b5, b6⟩, A1, A2, A3, A4, A5, A6, A7, A8, A9, A10⟩ hx hn ⟨⟨x0, m0, m1⟩, hA, hT⟩ ih
    have m0 : 0 ≤ miss := m0
    have m1 : miss ≤ x := m1
    have hA : pcA W V c S0 S K N := hA
    have hT : pcT W V c L x T := hT
    show allP W c S0 (f_X3_placeAll_L19 S0 _ _ _ (n + 1) (iI miss) (iI x) w h fr (lA K) (lA N) F Pg X Y Tt f s S) (f_X11_packs_L45 _ _ (n + 1) (iI miss) (iI 1) b1 b2 b3 b4 b5 b6 (lA V) A1 A2 A3 A4 A5 A6 A7 A8 A9 A10 (lA T))
    obtain ⟨⟨gs, gi, gp, gb, gg⟩, ⟨gr, gsp⟩, ⟨w1, w2, w3⟩, k1, k2⟩ := id hA
    have h0 := w1 0 (by omega)
    have hch : updC (updC (updC (updC (updC (updC S0 6 (upd (S0 6) 0 (S 6 0))) 7 (S 7)) 8 (S 8)) 9 (S 9)) 10 (S 10)) 11 (S 11) = S := chn_eq k1 k2
    have hLx := hL x x0 hx
    rw [f_X11_packs_L45, if_neg (by decide +kernel : ¬ iI 1 = (0 : Int32)), il_0, rd_lA V _ (by omega) (by omega) (by omega)]
    simp only [bd_e, jn_e, hfu]
    rw [show (-1 : Int32) = iI (-1) by decide +kernel, il_1, iI_sub]
    refine m_pick (P := fun r => allP W c S0 _ r) gs gi (fun j j0 j1 => hc j j0 (by omega)) (fun s s0 s1 => (hT.1 s s0 (by omega)).1) ?_ (by omega)
    intro b hb
    obtain ⟨hbe, hbo, hbn⟩ := (pick_eq (by omega) h0 (w1 11 (by omega)) hE hL hT hb).1 x0 hx
    have hb0 : 0 ≤ b ∧ b < V 0 := by omega
    have hun : V (20 + 72 * b + 3) = -1 := by
      have h1 := gp.2.1 b hb0.1 hb0.2
      apply Classical.byContradiction
      intro hne
      obtain ⟨j, j0, j1, j2⟩ := hT.2 b hb0.1 (by omega) (by omega)
      exact hbn j j0 j1 j2
    obtain ⟨a, p, x', y', t', g, F', Pg', X', Y', Tt', f', s', b1', b2', b3', b4', b5', b6', B1, B2, B3, B4, B5, B6, B7, B8, B9, B10, o1, o2, ho⟩ := x_choose gs gi gp gb gg gr (fun j j0 j1 => hd j j0 (by omega)) hb0 hbo.1 gsp F Pg X Y Tt f s b1 b2 b3 b4 b5 b6 A1 A2 A3 A4 A5 A6 A7 A8 A9 A10
    have hbL : L x = b := hbe.symm
    rcases ho with ha | ⟨ha, ⟨rfl, rfl, rfl, rfl⟩, hp0, hf, hgr⟩
    · rw [ha] at o1 o2
      rw [if_neg (by omega)] at o2
      have el : f_X3_placeAll_L19 S0 (lA (d 2)) (lA (d 3)) (iI len, lA L) (n + 1) (iI miss) (iI x) w h fr (lA K) (lA N) F Pg X Y Tt f s S = f_X3_placeAll_L19 S0 (lA (d 2)) (lA (d 3)) (iI len, lA L) n (iI (miss + 1)) (iI (x + 1)) w h fr (lA K) (lA N) F' Pg' X' Y' Tt' f' s' S := by
        rw [f_X3_placeAll_L19]
        simp (disch := omega) only [↓bd_e, ↓jn_e, ↓opt_bind, ↓reduceIte, iLeT, iLeF, iLtT, iLtF, iEqT, iEqF, il_0, il_1, il_2, il_3, il_4, il_5, il_6, il_7, il_8, il_9, il_10, il_11, il_12, il_13, il_14, il_15, il_16, il_18, il_20, il_24, il_32, il_35, il_40, il_44, il_47, il_48, il_56, il_57, il_58, il_59, il_63, il_64, il_72, il_100, il_120, il_126, il_127, il_160, il_192, il_255, il_349, il_1748, il_6992, iI_add, iI_sub, iI_mul, iI_neg, iI_le, iI_lt, iI_eq, rd_lA, wr_lA, rd_lR, wr_lR, ite_iI, max_iI, min_iI, rem_iI, div_iI, ite_true, ite_false, if_true, if_false, ite_self, and_self, and_true, true_and, and_false, false_and, or_self, or_true, true_or, or_false, false_or, not_true_eq_false, not_false_eq_true, hch, hbL, o1]
      have ih := ih (miss + 1, (V, S, K, N, uI T b 1), (w, h, fr, F', Pg', X', Y', Tt', f', s'), (b1', b2', b3', b4', b5', b6'), B1, B2, B3, B4, B5, B6, B7, B8, B9, B10) ⟨by show 0 ≤ x + 1 ∧ 0 ≤ miss + 1 ∧ miss + 1 ≤ x + 1; omega, hA, pcT_step x0 hbe hT (fun s _ _ _ => rfl)⟩
      rw [el]
      have hw : ∀ (k : (Nat → Int32) → Option tM19), g_wrZ (lA T) 24 (iI b) (iI 1) k = k (lA (uI T b 1)) := fun k => wrZ_lA T _ (Or.inr rfl) (by omega) (by omega) (by omega)
      simp (disch := omega) only [↓bd_e, ↓jn_e, ↓opt_bind, ↓reduceIte, iLeT, iLeF, iLtT, iLtF, iEqT, iEqF, il_0, il_1, il_2, il_3, il_4, il_5, il_6, il_7, il_8, il_9, il_10, il_11, il_12, il_13, il_14, il_15, il_16, il_18, il_20, il_24, il_32, il_35, il_40, il_44, il_47, il_48, il_56, il_57, il_58, il_59, il_63, il_64, il_72, il_100, il_120, il_126, il_127, il_160, il_192, il_255, il_349, il_1748, il_6992, iI_add, iI_sub, iI_mul, iI_neg, iI_le, iI_lt, iI_eq, rd_lA, wr_lA, rd_lR, wr_lR, ite_iI, max_iI, min_iI, rem_iI, div_iI, ite_true, ite_false, if_true, if_false, ite_self, and_self, and_true, true_and, and_false, false_and, or_self, or_true, true_or, or_false, false_or, not_true_eq_false, not_false_eq_true, hw, o2]
      exact ih
    · rw [ha] at o1 o2
      rw [if_pos rfl] at o2
      obtain ⟨w', h', fr', K', N', S', q1, q2, q3, q4, q5⟩ := x_put gs gi gp gb gg gr (fun j j0 j1 => hd j j0 (by omega)) hb0 ⟨hbo.2, hbo.1⟩ hun ⟨hp0.1, hp0.2.1, hp0.2.2⟩ hf hgr gsp fr
      have hA' := pcA_put hA hb0 ⟨hbo.2, hbo.1⟩ hun ⟨hp0.1, hp0.2.1, hp0.2.2⟩ hf hgr q2 q3 q4 q5
      have hch' : updC (updC (updC (updC (updC (updC S0 6 (upd (S0 6) 0 (S' 6 0))) 7 (S' 7)) 8 (S' 8)) 9 (S' 9)) 10 (S' 10)) 11 (S' 11) = S' := chn_eq hA'.2.2.2.1 hA'.2.2.2.2
      have el : f_X3_placeAll_L19 S0 (lA (d 2)) (lA (d 3)) (iI len, lA L) (n + 1) (iI miss) (iI x) w h fr (lA K) (lA N) F Pg X Y Tt f s S = f_X3_placeAll_L19 S0 (lA (d 2)) (lA (d 3)) (iI len, lA L) n (iI miss) (iI (x + 1)) w' h' fr' (lA K') (lA N') F' (iI p) (iI x') (iI y') (iI t') f' s' S' := by
        rw [f_X3_placeAll_L19]
        simp (disch := omega) only [↓bd_e, ↓jn_e, ↓opt_bind, ↓reduceIte, iLeT, iLeF, iLtT, iLtF, iEqT, iEqF, il_0, il_1, il_2, il_3, il_4, il_5, il_6, il_7, il_8, il_9, il_10, il_11, il_12, il_13, il_14, il_15, il_16, il_18, il_20, il_24, il_32, il_35, il_40, il_44, il_47, il_48, il_56, il_57, il_58, il_59, il_63, il_64, il_72, il_100, il_120, il_126, il_127, il_160, il_192, il_255, il_349, il_1748, il_6992, iI_add, iI_sub, iI_mul, iI_neg, iI_le, iI_lt, iI_eq, rd_lA, wr_lA, rd_lR, wr_lR, ite_iI, max_iI, min_iI, rem_iI, div_iI, ite_true, ite_false, if_true, if_false, ite_self, and_self, and_true, true_and, and_false, false_and, or_self, or_true, true_or, or_false, false_or, not_true_eq_false, not_false_eq_true, hch, hbL, o1, q1, hch']
      have h3 : V 3 ≤ 4 := by unfold vSet at gs; omega
      have ih := ih (miss, (vPl V b p g x' y' t', S', K', N', uI T b 1), (w', h', fr', F', iI p, iI x', iI y', iI t', f', s'), (b1', b2', b3', b4', b5', b6'), B1, B2, B3, B4, B5, B6, B7, B8, B9, B10) ⟨by show 0 ≤ x + 1 ∧ 0 ≤ miss ∧ miss ≤ x + 1; omega, hA', pcT_step x0 hbe hT (fun s s0 _ hne => (vPl_s (by omega) s0 hne).1)⟩
      rw [el]
      have hw : ∀ (k : (Nat → Int32) → Option tM19), g_wrZ (lA T) 24 (iI b) (iI 1) k = k (lA (uI T b 1)) := fun k => wrZ_lA T _ (Or.inr rfl) (by omega) (by omega) (by omega)
      simp (disch := omega) only [↓bd_e, ↓jn_e, ↓opt_bind, ↓reduceIte, iLeT, iLeF, iLtT, iLtF, iEqT, iEqF, il_0, il_1, il_2, il_3, il_4, il_5, il_6, il_7, il_8, il_9, il_10, il_11, il_12, il_13, il_14, il_15, il_16, il_18, il_20, il_24, il_32, il_35, il_40, il_44, il_47, il_48, il_56, il_57, il_58, il_59, il_63, il_64, il_72, il_100, il_120, il_126, il_127, il_160, il_192, il_255, il_349, il_1748, il_6992, iI_add, iI_sub, iI_mul, iI_neg, iI_le, iI_lt, iI_eq, rd_lA, wr_lA, rd_lR, wr_lR, ite_iI, max_iI, min_iI, rem_iI, div_iI, ite_true, ite_false, if_true, if_false, ite_self, and_self, and_true, true_and, and_false, false_and, or_self, or_true, true_or, or_false, false_or, not_true_eq_false, not_false_eq_true, hw, o2]
      rw [show miss + 0 = miss by omega]
      exact ih
