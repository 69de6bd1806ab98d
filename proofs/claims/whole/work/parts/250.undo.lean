theorem En_page {V : Int → Int} {c : Nat → Int → Int} (hs : vSet V) (hi : vImg V) (hb : ∀ j, 0 ≤ j → j < V 0 → vBl V c j) (hg : vGeo V c) {K K' N : Int → Int} {p q n' : Int} (q0 : 0 ≤ q) (hne : q ≠ p) (hK : ∀ j, (j < p * 349 ∨ p * 349 + 349 ≤ j) → K' j = K j) (hq : En (N q) (fun k => K (q * 349 + k)) (rS (mxR (fldW V) (fldH V) (blk V c q)))) : En (uI N p n' q) (fun k => K' (q * 349 + k)) (rS (mxR (fldW V) (fldH V) (blk V c q))) := by
  have hq349 : N q ≤ 349 := mx_count hs hi hb hg q0 hq (fun z hz => hz)
  rw [uI_ne hne]
  refine ⟨hq.1, fun j k j0 jk k1 => ?_, fun k k0 k1 => ?_, fun z hz => ?_⟩
  · show K' (q * 349 + j) < K' (q * 349 + k)
    rw [hK _ (by omega), hK _ (by omega)]
    exact hq.2.1 j k j0 jk k1
  · show rS _ (K' (q * 349 + k))
    rw [hK _ (by omega)]
    exact hq.2.2.1 k k0 k1
  · obtain ⟨k, k0, k1, k2⟩ := hq.2.2.2 z hz
    refine ⟨k, k0, k1, ?_⟩
    show K' (q * 349 + k) = z
    rw [hK _ (by omega)]
    exact k2
theorem c_studyAll {V : Int → Int} {S : Nat → Nat → Int32} (hg : vGood V) (hr : sR V S) (d : Nat → Int → Int) (spW spH : Int32) (fr : Nat → Int64) (K N : Int → Int) :
    ∃ c' d' w h F K' N', f_X10_studyAll S (lA (d 0)) (lA (d 1)) (lA (d 2)) (lA (d 3)) (lA (d 4)) (lA (d 5)) spW spH fr (lA K) (lA N) = some (lA (d' 0), lA (d' 1), lA (d' 2), lA (d' 3), lA (d' 4), lA (d' 5), w, h, F, lA K', lA N') ∧ vCat V c' ∧ (∀ j, 0 ≤ j → j < V 0 → vDd c' d' j) ∧ spI V c' K' N' := by
  obtain ⟨go, gs, gi, gp, gg⟩ := id hg
  have h3 : V 3 ≤ 4 := by unfold vSet at gs; omega
  have h13 := gp.1
  obtain ⟨c', d', e1, e2, e3⟩ := c_studyS gs gi (sR_2 hr) d
  have hgeo := gg c' e2
  have hbl := vCat_bl gi e2
  refine ⟨c', d', ?_⟩
  suffices key : ∃ w h F K' N', f_X10_studyAll S (lA (d 0)) (lA (d 1)) (lA (d 2)) (lA (d 3)) (lA (d 4)) (lA (d 5)) spW spH fr (lA K) (lA N) = some (lA (d' 0), lA (d' 1), lA (d' 2), lA (d' 3), lA (d' 4), lA (d' 5), w, h, F, lA K', lA N') ∧ spI V c' K' N' by
    obtain ⟨w, h, F, K', N', k1, k2⟩ := key
    exact ⟨w, h, F, K', N', k1, e2, e3, k2⟩
  unfold f_X10_studyAll
  rw [e1, opt_bind]
  obtain ⟨fu, hfu, hfu2⟩ := fuel_ex; rw [hfu]
  rw [il_0]
  refine lp (fun n x (u : Int32 × Int32 × (Nat → Int64) × (Int → Int) × (Int → Int)) => f_X10_studyAll_L23 S (lA (d' 0), lA (d' 1), lA (d' 2), lA (d' 3), lA (d' 4), lA (d' 5)) n (iI x) u.1 u.2.1 u.2.2.1 (lA u.2.2.2.1) (lA u.2.2.2.2)) (fun r => ∃ w h F K' N', r = some (lA (d' 0), lA (d' 1), lA (d' 2), lA (d' 3), lA (d' 4), lA (d' 5), w, h, F, lA K', lA N') ∧ spI V c' K' N') (V 13) (fun x u => 0 ≤ x ∧ ∀ p, 0 ≤ p → p < x → En (u.2.2.2.2 p) (fun k => u.2.2.2.1 (p * 349 + k)) (rS (mxR (fldW V) (fldH V) (blk V c' p)))) ?_ ?_ fu 0 (spW, spH, fr, K, N) (by omega) (by omega) ⟨by omega, fun p p0 p1 => by omega⟩
  · rintro n ⟨w, h, F, K', N'⟩ ⟨-, hI⟩
    refine ⟨w, h, F, K', N', ?_, hI⟩
    show f_X10_studyAll_L23 S _ (n + 1) (iI (V 13)) w h F (lA K') (lA N') = _
    rw [f_X10_studyAll_L23, hr.1.2]
    simp (disch := omega) only [↓bd_e, ↓jn_e, ↓opt_bind, ↓reduceIte, iLeT, iLeF, iLtT, iLtF, iEqT, iEqF, il_0, il_1, il_2, il_3, il_4, il_5, il_6, il_7, il_8, il_9, il_10, il_11, il_12, il_13, il_14, il_15, il_16, il_18, il_20, il_24, il_32, il_35, il_40, il_44, il_47, il_48, il_56, il_57, il_58, il_59, il_63, il_64, il_72, il_100, il_120, il_126, il_127, il_160, il_192, il_255, il_349, il_1748, il_6992, iI_add, iI_sub, iI_mul, iI_neg, iI_le, iI_lt, iI_eq, rd_lA, wr_lA, rd_lR, wr_lR, ite_iI, max_iI, min_iI, rem_iI, div_iI, ite_true, ite_false, if_true, if_false, ite_self, and_self, and_true, true_and, and_false, false_and, or_self, or_true, true_or, or_false, false_or, not_true_eq_false, not_false_eq_true]
  · rintro n x ⟨w, h, F, K1, N1⟩ hx ⟨x0, hI⟩ ih
    have hI : ∀ p, 0 ≤ p → p < x → En (N1 p) (fun k => K1 (p * 349 + k)) (rS (mxR (fldW V) (fldH V) (blk V c' p))) := hI
    obtain ⟨w', h', F', n', K', s1, s2, s3⟩ := c_survey gs gi hbl gp hgeo hr (fun j j0 j1 => by obtain ⟨-, -, q2, q3, -⟩ := e3 j j0 j1; exact ⟨q2, q3⟩) (p := x) (by omega) F K1 N1
    have ih := ih (w', h', F', K', uI N1 x n') ⟨by omega, fun p p0 p1 => by
      show En (uI N1 x n' p) (fun k => K' (p * 349 + k)) _
      by_cases e : p = x
      · rw [e, uI_self]
        exact s2
      · exact En_page gs gi hbl hgeo p0 e s3 (hI p p0 (by omega))⟩
    show ∃ w2 h2 F2 K2 N2, f_X10_studyAll_L23 S _ (n + 1) (iI x) w h F (lA K1) (lA N1) = _ ∧ _
    rw [f_X10_studyAll_L23, hr.1.2]
    simp (disch := omega) only [↓bd_e, ↓jn_e, ↓opt_bind, ↓reduceIte, iLeT, iLeF, iLtT, iLtF, iEqT, iEqF, il_0, il_1, il_2, il_3, il_4, il_5, il_6, il_7, il_8, il_9, il_10, il_11, il_12, il_13, il_14, il_15, il_16, il_18, il_20, il_24, il_32, il_35, il_40, il_44, il_47, il_48, il_56, il_57, il_58, il_59, il_63, il_64, il_72, il_100, il_120, il_126, il_127, il_160, il_192, il_255, il_349, il_1748, il_6992, iI_add, iI_sub, iI_mul, iI_neg, iI_le, iI_lt, iI_eq, rd_lA, wr_lA, rd_lR, wr_lR, ite_iI, max_iI, min_iI, rem_iI, div_iI, ite_true, ite_false, if_true, if_false, ite_self, and_self, and_true, true_and, and_false, false_and, or_self, or_true, true_or, or_false, false_or, not_true_eq_false, not_false_eq_true, s1]
    exact ih
theorem x_undo {V : Int → Int} {c : Nat → Int → Int} {S : Nat → Nat → Int32} {d : Nat → Int → Int} {l p : Int} {H0 H1 H2 H3 H4 : Nat → Nat → Int32} {P : Int → Int} (h : stI V c S d l p (hF H0 H1 H2 H3 H4) P) {K N : Int → Int} (hsp : spI V c K N) (spW spH : Int32) (fr : Nat → Int64) :
    ∃ (a : Int32) (V' : Int → Int) (c' : Nat → Int → Int) (S' : Nat → Nat → Int32) (d' : Nat → Int → Int) (l' p' : Int) (K' N' : Int → Int) (spW' spH' : Int32) (fr' : Nat → Int64),
      f_X10_undo S (lA (d 0)) (lA (d 1)) (lA (d 2)) (lA (d 3)) (lA (d 4)) (lA (d 5)) spW spH fr (lA K) (lA N) (iI l) (iI p) H0 H1 H2 H3 H4 = some (a, S', lA (d' 0), lA (d' 1), lA (d' 2), lA (d' 3), lA (d' 4), lA (d' 5), spW', spH', fr', lA K', lA N', iI l', iI p') ∧
      f_X11_undo (iI p) (lA V) (lA P) = some (a, iI p', lA V') ∧ stI V' c' S' d' l' p' (hF H0 H1 H2 H3 H4) P ∧ spI V' c' K' N' := by
  obtain ⟨g1, g2, g3, g4, g5⟩ := id h
  obtain ⟨⟨p0, p1, l0⟩, hh⟩ := id g5
  by_cases hp : p = 0
  · refine ⟨iI (-3), V, c, S, d, l, p, K, N, spW, spH, fr, ?_, ?_, h, hsp⟩
    · unfold f_X10_undo
      rw [hp, if_pos (by decide +kernel : iI 0 = (0 : Int32)), show (-3 : Int32) = iI (-3) by decide +kernel]
    · unfold f_X11_undo
      rw [hp, if_pos (by decide +kernel : iI 0 = (0 : Int32)), show (-3 : Int32) = iI (-3) by decide +kernel]
  · obtain ⟨W, w1, w2, w3⟩ := hh (p - 1) (by omega) (by omega)
    rw [show (l - (p - 1 - (p - 1))) % 5 = l by omega] at w3
    obtain ⟨S', t1, t2⟩ := c_takeBack (p := p) l0 (by omega) w2.2.1 H0 H1 H2 H3 H4 w3 S
    have hr' := sR_eq w2.2.2.1 t2 w3
    have hm := m_undo (V := V) (P := P) (W := W) (p := p) (by omega) g1.1 w2.1 w1
    obtain ⟨c', d', w, hh', F, K', N', s1, s2, s3, s4⟩ := c_studyAll w2 hr' d spW spH fr K N
    refine ⟨iI (p - 1), W, c', S', d', (l + 4) % 5, p - 1, K', N', w, hh', F, ?_, hm, ⟨w2, hr', s2, s3, ⟨by omega, fun i i0 i1 => ?_⟩⟩, s4⟩
    · unfold f_X10_undo
      rw [if_neg (by rw [il_0, iI_eq (by omega) (by omega) (by omega) (by omega)]; exact hp), t1, opt_bind, s1, opt_bind]
    · have := hh i i0 (by omega)
      rw [show ((l + 4) % 5 - (p - 1 - 1 - i)) % 5 = (l - (p - 1 - i)) % 5 by omega]
      exact this
