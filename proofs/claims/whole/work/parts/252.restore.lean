theorem x_restore {V : Int → Int} {c : Nat → Int → Int} {S : Nat → Nat → Int32} {d : Nat → Int → Int} {l p : Int} {H0 H1 H2 H3 H4 : Nat → Nat → Int32} {P : Int → Int} (h : stI V c S d l p (hF H0 H1 H2 H3 H4) P) {K N : Int → Int} (hsp : spI V c K N) {SA SB : Nat → Nat → Int32} {Fl Fm Q : Int → Int} (hk : kpR SA SB Fl Fm Q) (spW spH : Int32) (fr : Nat → Int64) (i : Int) (hir : -2147483648 ≤ i ∧ i < 2147483648) :
    ∃ (a : Int32) (V' : Int → Int) (c' : Nat → Int → Int) (S' : Nat → Nat → Int32) (d' : Nat → Int → Int) (p' : Int) (K' N' : Int → Int) (spW' spH' : Int32) (fr' : Nat → Int64),
      f_X10_restore S (lA (d 0)) (lA (d 1)) (lA (d 2)) (lA (d 3)) (lA (d 4)) (lA (d 5)) spW spH fr (lA K) (lA N) (iI p) SA SB (lA Fl) (iI i) = some (a, S', lA (d' 0), lA (d' 1), lA (d' 2), lA (d' 3), lA (d' 4), lA (d' 5), spW', spH', fr', lA K', lA N', iI p') ∧
      f_X11_restore (iI p) (lA V) (lA Q) (lA Fm) (iI i) = some (a, iI p', lA V') ∧ stI V' c' S' d' l p' (hF H0 H1 H2 H3 H4) P ∧ spI V' c' K' N' := by
  obtain ⟨g1, g2, g3, g4, g5⟩ := id h
  have hin := in_iI (a := i) (b := 0) (c := 1) hir.1 hir.2 (by omega) (by omega) (by omega) (by omega)
  have hwi := within_iI (a := i) (b := 0) (c := 1) hir.1 hir.2 (by omega) (by omega) (by omega) (by omega)
  unfold f_X10_restore f_X11_restore
  rw [show (-1 : Int32) = iI (-1) by decide +kernel, show (-3 : Int32) = iI (-3) by decide +kernel, il_0, il_1, hin, hwi]
  by_cases h1 : 0 ≤ i ∧ i ≤ 1
  · obtain ⟨k1, k2, k3⟩ := hk i h1.1 (by omega)
    rw [if_pos h1, if_neg (by decide +kernel : ¬ iI 1 = iI 0), if_neg (by decide +kernel : ¬ iI 1 = iI 0), rd_lA Fl _ (by omega) (by omega) (by omega), rd_lA Fm _ (by omega) (by omega) (by omega), ← k1]
    rcases k2 with z | z
    · rw [z, if_pos rfl, if_pos rfl]
      exact ⟨iI (-3), V, c, S, d, p, K, N, spW, spH, fr, rfl, rfl, h, hsp⟩
    · rw [z, if_neg (by decide +kernel : ¬ iI 1 = iI 0), if_neg (by decide +kernel : ¬ iI 1 = iI 0)]
      obtain ⟨W, w1, w2, w3⟩ := k3 z
      obtain ⟨S', t1, t2⟩ := c_copy w2.2.1 w3 S
      have hr' := sR_eq w2.2.2.1 t2 w3
      have hn24 := w2.2.2.1.1
      obtain ⟨c', d', w, hh', F, K', N', s1, s2, s3, s4⟩ := c_studyAll w2 hr' d spW spH fr K N
      refine ⟨iI (W 0), W, c', S', d', 0, K', N', w, hh', F, ?_, ?_, ⟨w2, hr', s2, s3, ⟨⟨by omega, by omega, g5.1.2.2⟩, fun j j0 j1 => by omega⟩⟩, s4⟩
      · rcases (show i = 0 ∨ i = 1 by omega) with rfl | rfl
        · rw [if_pos rfl] at t1
          rw [if_pos rfl, t1, opt_bind, s1, opt_bind, hr'.1.1]
        · rw [if_neg (by omega)] at t1
          rw [if_neg (by decide +kernel : ¬ iI 1 = iI 0), t1, opt_bind, s1, opt_bind, hr'.1.1]
      · rw [jn_e]
        obtain ⟨fu, hfu, hfu2⟩ := fuel_ex; rw [hfu]
        have e : ∀ (r : Option (Int32 × Int32 × (Nat → Int32))), g_rd (lA W) 1748 (iI 0) (fun x4 => some (x4, iI 0, lA W)) = r → some (iI (W 0), iI 0, lA W) = r := by
          intro r hr
          rw [← hr, rd_lA W _ (by omega) (by omega) (by omega)]
        rw [e _ rfl]
        refine m_bring (P := Q) (o := 1748 * i) g1.1 w2.1 w1 (fun f2 => g_rd f2 1748 (iI 0) fun x4 => some (x4, iI 0, f2)) (fun n x A => f_X11_restore_L25 (lA Q) (iI i) (fun f2 => g_rd f2 1748 (iI 0) fun x4 => some (x4, iI 0, f2)) n x A) ?_ ?_ fu (by omega)
        · intro n A
          simp only [f_X11_restore_L25]
          simp (disch := omega) only [↓bd_e, ↓jn_e, ↓opt_bind, ↓reduceIte, iLeT, iLeF, iLtT, iLtF, iEqT, iEqF, il_0, il_1, il_2, il_3, il_4, il_5, il_6, il_7, il_8, il_9, il_10, il_11, il_12, il_13, il_14, il_15, il_16, il_18, il_20, il_24, il_32, il_35, il_40, il_44, il_47, il_48, il_56, il_57, il_58, il_59, il_63, il_64, il_72, il_100, il_120, il_126, il_127, il_160, il_192, il_255, il_349, il_1748, il_6992, iI_add, iI_sub, iI_mul, iI_neg, iI_le, iI_lt, iI_eq, rd_lA, wr_lA, rd_lR, wr_lR, ite_iI, max_iI, min_iI, rem_iI, div_iI, ite_true, ite_false, if_true, if_false, ite_self, and_self, and_true, true_and, and_false, false_and, or_self, or_true, true_or, or_false, false_or, not_true_eq_false, not_false_eq_true]
        · intro n x A x0 x1
          simp only [f_X11_restore_L25]
          simp (disch := omega) only [↓bd_e, ↓jn_e, ↓opt_bind, ↓reduceIte, iLeT, iLeF, iLtT, iLtF, iEqT, iEqF, il_0, il_1, il_2, il_3, il_4, il_5, il_6, il_7, il_8, il_9, il_10, il_11, il_12, il_13, il_14, il_15, il_16, il_18, il_20, il_24, il_32, il_35, il_40, il_44, il_47, il_48, il_56, il_57, il_58, il_59, il_63, il_64, il_72, il_100, il_120, il_126, il_127, il_160, il_192, il_255, il_349, il_1748, il_6992, iI_add, iI_sub, iI_mul, iI_neg, iI_le, iI_lt, iI_eq, rd_lA, wr_lA, rd_lR, wr_lR, ite_iI, max_iI, min_iI, rem_iI, div_iI, ite_true, ite_false, if_true, if_false, ite_self, and_self, and_true, true_and, and_false, false_and, or_self, or_true, true_or, or_false, false_or, not_true_eq_false, not_false_eq_true]
  · rw [if_neg h1, if_pos (by decide +kernel : iI 0 = iI 0), if_pos (by decide +kernel : iI 0 = iI 0)]
    exact ⟨iI (-1), V, c, S, d, p, K, N, spW, spH, fr, rfl, rfl, h, hsp⟩
