/-! print: the program's text is the model's -/
theorem numN_T (k : Nat) : (numN k).map (fun (x : Nat) => (x : Int)) = numT (k : Int) := by
  unfold numN numT
  by_cases h : k < 10
  · rw [if_pos h, if_pos (by omega)]
    show [((48 + k : Nat) : Int)] = _
    rw [show ((48 + k : Nat) : Int) = 48 + (k : Int) by omega]
  · rw [if_neg h, if_neg (by omega)]
    show [((48 + k / 10 : Nat) : Int), ((48 + k % 10 : Nat) : Int)] = _
    rw [show ((48 + k / 10 : Nat) : Int) = 48 + (k : Int) / 10 by omega, show ((48 + k % 10 : Nat) : Int) = 48 + (k : Int) % 10 by omega]
theorem pt_0 : (sNat.getD 0 []).map (fun (x : Nat) => (x : Int)) = tBlank := rfl
theorem pt_1 : (sNat.getD 1 []).map (fun (x : Nat) => (x : Int)) = tUnp := rfl
theorem pt_2 : (sNat.getD 2 []).map (fun (x : Nat) => (x : Int)) = tPage := rfl
theorem pt_3 : (sNat.getD 3 []).map (fun (x : Nat) => (x : Int)) = tAt := rfl
theorem pt_4 : (sNat.getD 4 []).map (fun (x : Nat) => (x : Int)) = tSize := rfl
theorem pt_5 : (sNat.getD 5 []).map (fun (x : Nat) => (x : Int)) = tRec := rfl
theorem pt_6 : (sNat.getD 6 []).map (fun (x : Nat) => (x : Int)) = tCopy := rfl
theorem pt_58 : ([58] : List Nat).map (fun (x : Nat) => (x : Int)) = [58] := rfl
theorem pt_44 : ([44] : List Nat).map (fun (x : Nat) => (x : Int)) = [44] := rfl
theorem pt_120 : ([120] : List Nat).map (fun (x : Nat) => (x : Int)) = [120] := rfl
theorem pt_n : ([] : List Nat).map (fun (x : Nat) => (x : Int)) = [] := rfl
theorem pt_int (z : Int) (h : 0 ≤ z) : ∃ n : Nat, (n : Int) = z := ⟨z.toNat, by omega⟩
set_option maxRecDepth 100000 in
set_option maxHeartbeats 4000000 in
theorem lc_pct {V : Int → Int} {c : Nat → Int → Int} {S : Nat → Nat → Int32} {d : Nat → Int → Int} {vl vp : Int} {F : Int → Nat → Nat → Int32} {P : Int → Int} (h : stI V c S d vl vp F P) (l : Launch) (D : va_G) (g : Nat → ClassId) (t1 t2 : Nat) (adK adV : Nat → Nat) (a : Nat → Nat) (rnd : Int64) {z : Int} (h1 : 0 ≤ z ∧ z < V 0) {s0 r : Int} {c' : Nat → Int → Int} (hD : vDd c' d z) (hA : ((0 ≤ c' 2 z ∧ c' 2 z ≤ 8) ∧ (0 ≤ c' 3 z ∧ c' 3 z ≤ 8) ∧ -1 ≤ c' 4 z ∧ c' 4 z < 24)) (hB : (((0 < c' 2 z ∧ 0 ≤ V (20 + 72 * s0 + 3)) ∧ V (20 + 72 * s0 + 3) < 4 ∧ (0 ≤ imX V s0 ∧ imX V s0 ≤ 40) ∧ (0 ≤ imY V s0 ∧ imY V s0 ≤ 40) ∧ (0 ≤ r ∧ r < 8) ∧ f_X10_pageOf S (lA (d 2)) (lA (d 4)) (iI z) = some (iI (V (20 + 72 * s0 + 3))) ∧ f_X10_xOf S (lA (d 2)) (lA (d 4)) (iI z) = some (iI (imX V s0)) ∧ f_X10_yOf S (lA (d 2)) (lA (d 4)) (iI z) = some (iI (imY V s0)) ∧ f_X10_recordOf S (lA (d 0)) (lA (d 1)) (lA (d 2)) (lA (d 3)) (lA (d 4)) (iI z) = some (iI r)) ∨ (¬ (0 < c' 2 z ∧ 0 ≤ V (20 + 72 * s0 + 3)) ∧ f_X10_pageOf S (lA (d 2)) (lA (d 4)) (iI z) = some (iI (-4))))) (v : Nat) (ml : Int32) (m : Nat) (f : Nat → Int32) (t : List Nat) (ht : sbT t m f) :
    ∃ tn : List Nat, tn.map (fun (x : Nat) => (x : Int)) = prT V c' z s0 r ∧ s_Ct l yX10_print cX10_print 2 (some .int) 9 20 2600 400 (e_St t1 t2 adK adV) D g [.ref (a 0), .int (iI z)] ([k_Atlas g a rnd, k_StO g a 4, k_Sheet g a 5 (S 0 0) (S 1) (S 2) (S 3) (S 4), k_Settings g a 10 (S 5 0) (S 5 1) (S 5 2) (S 5 3) (S 5 4) (S 5 5) (S 5 6) (S 5 7) (S 5 8) (S 5 9) (S 5 10) (S 5 11), k_Places g a 11 (S 6 0) (S 7) (S 8) (S 9) (S 10) (S 11), k_Catalog g a 30 (lA (d 0)) (lA (d 1)) (lA (d 2)) (lA (d 3)) (lA (d 4)) (lA (d 5)), k_PkO g a 37 (a 4) (a 30)] ++ [k_SB g (a 3) v ml (nI t.length) m f]).flatten (fun rv w1 => ∃ (v2 m2 : Nat) (f2 : Nat → Int32) (ml2 : Int32), (rv = some (.int (nI tn.length)) ∧ sbT tn m2 f2) ∧ w1 = ([k_Atlas g a rnd, k_StO g a 4, k_Sheet g a 5 (S 0 0) (S 1) (S 2) (S 3) (S 4), k_Settings g a 10 (S 5 0) (S 5 1) (S 5 2) (S 5 3) (S 5 4) (S 5 5) (S 5 6) (S 5 7) (S 5 8) (S 5 9) (S 5 10) (S 5 11), k_Places g a 11 (S 6 0) (S 7) (S 8) (S 9) (S 10) (S 11), k_Catalog g a 30 (lA (d 0)) (lA (d 1)) (lA (d 2)) (lA (d 3)) (lA (d 4)) (lA (d 5)), k_PkO g a 37 (a 4) (a 30)] ++ [k_SB g (a 3) v2 ml2 (nI tn.length) m2 f2]).flatten) := by
  obtain ⟨i, rfl⟩ : ∃ i : Nat, z = i := ⟨z.toNat, by omega⟩
  obtain ⟨g1, g2, -, -, -⟩ := id h
  obtain ⟨go, gs, gi, gp, gg⟩ := id g1
  have hn := gi.1
  obtain ⟨-, -, d2, d3, d4, -⟩ := hD
  obtain ⟨hA2, hA3, hA4⟩ := hA
  have hcl : (nI i).toNatClampNeg = i := nI_clamp (by omega)
  have hhas : f_X6_has (S 0 0) (nI i) ≠ 0 := by
    rw [← iI_nI, c_has1 gi g2 h1]
    decide +kernel
  have hi9 : vp_in (nI i) 24 := vp_in_nI (by omega) (by omega)
  have hpo : f_X10_pageOf S (lA (d 2)) (lA (d 4)) (nI i) = f_X10_placeOf S (lA (d 2)) (lA (d 4)) (nI i) := by
    unfold f_X10_pageOf
    rw [if_neg hhas]
    cases f_X10_placeOf S (lA (d 2)) (lA (d 4)) (nI i) <;> rfl
  have hbl := c_isBlank (d := d) (j := (i : Int)) (by omega) (by rw [d2]; exact hA2)
  have hb1 : c' 2 i = 0 → f_X0_isBlank (lA (d 2)) (nI i) = some 1 := fun e => by
    rw [if_pos (by rw [d2]; exact e), iI_nI i] at hbl
    rw [hbl]
    decide +kernel
  have hb0 : ¬ c' 2 i = 0 → f_X0_isBlank (lA (d 2)) (nI i) = some 0 := fun e => by
    rw [if_neg (by rw [d2]; exact e), iI_nI i] at hbl
    rw [hbl]
    decide +kernel
  have ho4 : c' 4 i = -1 → lA (d 4) (nI i).toNatClampNeg = -4 := fun e => by
    rw [hcl]
    show iI (d 4 i) = -4
    rw [d4]
    unfold or4
    rw [if_pos e]
    decide +kernel
  have ho5 : ∀ oc : Nat, (oc : Int) = c' 4 i → lA (d 4) (nI i).toNatClampNeg = nI oc := fun oc e => by
    rw [hcl]
    show iI (d 4 i) = _
    rw [d4]
    unfold or4
    rw [if_neg (by omega), ← e, iI_nI]
  have key : (i : Int) = i := rfl
  rw [iI_nI i] at hB ⊢
  rcases hB with ⟨hq, hp3, hx9, hy9, hr9, q1, q2, q3, q4⟩ | ⟨hq, q1⟩
  · have h2 : ¬ c' 2 i = 0 := by omega
    obtain ⟨pg, hpg⟩ := pt_int (V (20 + 72 * s0 + 3)) (by omega)
    obtain ⟨x, hx⟩ := pt_int (imX V s0) (by omega)
    obtain ⟨y, hy⟩ := pt_int (imY V s0) (by omega)
    obtain ⟨wd, hwd⟩ := pt_int (c' 2 i) (by omega)
    obtain ⟨hg, hhg⟩ := pt_int (c' 3 i) (by omega)
    obtain ⟨rc, hrc⟩ := pt_int (r) (by omega)
    rw [← hpg, iI_nI] at q1
    rw [← hx, iI_nI] at q2
    rw [← hy, iI_nI] at q3
    rw [← hrc, iI_nI] at q4
    have hwd9 : lA (d 2) (nI i).toNatClampNeg = nI wd := by
      rw [hcl]
      show iI (d 2 i) = _
      rw [d2, ← hwd, iI_nI]
    have hhg9 : lA (d 3) (nI i).toNatClampNeg = nI hg := by
      rw [hcl]
      show iI (d 3 i) = _
      rw [d3, ← hhg, iI_nI]
    by_cases h4 : c' 4 i = -1
    · refine ⟨_, ?_, c_X10_print_place0 l D g t1 t2 adK adV a rnd S (lA (d 0)) (lA (d 1)) (lA (d 2)) (lA (d 3)) (lA (d 4)) (lA (d 5)) i v ml m f t (nI pg) pg x y wd hg rc ht (by omega) hhas (hb0 h2) (hpo.symm.trans q1) (j_n4 (by omega)) q1 (by omega) q2 (by omega) q3 (by omega) hi9 hwd9 (by omega) hhg9 (by omega) q4 (by omega) (ho4 h4)⟩
      unfold prT
      rw [if_neg h2, if_pos hq.2, if_pos h4]
      simp only [List.map_append, numN_T, pt_0, pt_1, pt_2, pt_3, pt_4, pt_5, pt_6, pt_58, pt_44, pt_120, pt_n, List.append_assoc, List.nil_append, List.append_nil, hpg, hx, hy, hwd, hhg, hrc]
    · obtain ⟨oc, hoc⟩ := pt_int (c' 4 i) (by omega)
      refine ⟨_, ?_, c_X10_print_place1 l D g t1 t2 adK adV a rnd S (lA (d 0)) (lA (d 1)) (lA (d 2)) (lA (d 3)) (lA (d 4)) (lA (d 5)) i v ml m f t (nI pg) pg x y wd hg rc oc ht (by omega) hhas (hb0 h2) (hpo.symm.trans q1) (j_n4 (by omega)) q1 (by omega) q2 (by omega) q3 (by omega) hi9 hwd9 (by omega) hhg9 (by omega) q4 (by omega) (ho5 oc hoc) (by omega)⟩
      unfold prT
      rw [if_neg h2, if_pos hq.2, if_neg h4]
      simp only [List.map_append, numN_T, pt_0, pt_1, pt_2, pt_3, pt_4, pt_5, pt_6, pt_58, pt_44, pt_120, pt_n, List.append_assoc, List.nil_append, List.append_nil, hpg, hx, hy, hwd, hhg, hrc, hoc]
  · have hp5 : f_X10_placeOf S (lA (d 2)) (lA (d 4)) (nI i) = some (-4) := by
      rw [← hpo, q1]
      decide +kernel
    by_cases h2 : c' 2 i = 0
    · by_cases h4 : c' 4 i = -1
      · refine ⟨_, ?_, c_X10_print_blank0 l D g t1 t2 adK adV a rnd S (lA (d 0)) (lA (d 1)) (lA (d 2)) (lA (d 3)) (lA (d 4)) (lA (d 5)) i v ml m f t ht (by omega) hhas hi9 (hb1 h2) (ho4 h4)⟩
        unfold prT
        rw [if_pos h2, if_pos h4]
        simp only [List.map_append, numN_T, pt_0, pt_1, pt_2, pt_3, pt_4, pt_5, pt_6, pt_58, pt_44, pt_120, pt_n, List.append_assoc, List.nil_append, List.append_nil]
      · obtain ⟨oc, hoc⟩ := pt_int (c' 4 i) (by omega)
        refine ⟨_, ?_, c_X10_print_blank1 l D g t1 t2 adK adV a rnd S (lA (d 0)) (lA (d 1)) (lA (d 2)) (lA (d 3)) (lA (d 4)) (lA (d 5)) i v ml m f t oc ht (by omega) hhas hi9 (hb1 h2) (ho5 oc hoc) (by omega)⟩
        unfold prT
        rw [if_pos h2, if_neg h4]
        simp only [List.map_append, numN_T, pt_0, pt_1, pt_2, pt_3, pt_4, pt_5, pt_6, pt_58, pt_44, pt_120, pt_n, List.append_assoc, List.nil_append, List.append_nil, hoc]
    · have h3 : ¬ 0 ≤ V (20 + 72 * s0 + 3) := by omega
      by_cases h4 : c' 4 i = -1
      · refine ⟨_, ?_, c_X10_print_unp0 l D g t1 t2 adK adV a rnd S (lA (d 0)) (lA (d 1)) (lA (d 2)) (lA (d 3)) (lA (d 4)) (lA (d 5)) i v ml m f t ht (by omega) hhas hi9 (hb0 h2) hp5 (ho4 h4)⟩
        unfold prT
        rw [if_neg h2, if_neg h3, if_pos h4]
        simp only [List.map_append, numN_T, pt_0, pt_1, pt_2, pt_3, pt_4, pt_5, pt_6, pt_58, pt_44, pt_120, pt_n, List.append_assoc, List.nil_append, List.append_nil]
      · obtain ⟨oc, hoc⟩ := pt_int (c' 4 i) (by omega)
        refine ⟨_, ?_, c_X10_print_unp1 l D g t1 t2 adK adV a rnd S (lA (d 0)) (lA (d 1)) (lA (d 2)) (lA (d 3)) (lA (d 4)) (lA (d 5)) i v ml m f t oc ht (by omega) hhas hi9 (hb0 h2) hp5 (ho5 oc hoc) (by omega)⟩
        unfold prT
        rw [if_neg h2, if_neg h3, if_neg h4]
        simp only [List.map_append, numN_T, pt_0, pt_1, pt_2, pt_3, pt_4, pt_5, pt_6, pt_58, pt_44, pt_120, pt_n, List.append_assoc, List.nil_append, List.append_nil, hoc]
theorem lc_pno {V : Int → Int} (hn : 0 ≤ V 0 ∧ V 0 ≤ 24) {z : Int} (hz : -2147483648 ≤ z ∧ z < 2147483648) (h : ¬ (0 ≤ z ∧ z < V 0)) (pr0 bx bY : Int32) (pap A0 A1 A2 A3 A4 A5 : Nat → Int32) : f_X11_print pr0 bx bY (lA V) pap A0 A1 A2 A3 A4 A5 (iI z) = some (iI (-1), pr0, bx, bY, pap, A0, A1, A2, A3, A4, A5) := by
  unfold f_X11_print
  rw [m_isSprite hn hz, if_neg h, opt_bind, if_pos (by decide +kernel), show (-1 : Int32) = iI (-1) by decide +kernel]
theorem lc_pno2 {V : Int → Int} {S : Nat → Nat → Int32} (hi : vImg V) (hr : sR V S) {z : Int} (hz : -2147483648 ≤ z ∧ z < 2147483648) (h : ¬ (0 ≤ z ∧ z < V 0)) : f_X6_has (S 0 0) (iI z) = 0 := by
  rw [hr.1.1, c_has hi.1 hz, if_neg h]
  decide +kernel
