theorem iL_toInt {a : Int} (h1 : -9223372036854775808 ≤ a) (h2 : a < 9223372036854775808) : (iL a).toInt = a := Int64.toInt_ofInt_of_le h1 h2
theorem cmp_ge {a b : Int} (ha : -9223372036854775808 ≤ a ∧ a < 9223372036854775808) (hb : -9223372036854775808 ≤ b ∧ b < 9223372036854775808) : ((0 : Int32) ≤ lg_cmp (iL a) (iL b)) = (b ≤ a) := by
  have e1 := iL_toInt ha.1 ha.2
  have e2 := iL_toInt hb.1 hb.2
  have hlt : (iL a > iL b) = (b < a) := by
    rw [gt_iff_lt, Int64.lt_iff_toInt_lt, e1, e2]
  have heq : (iL a = iL b) = (a = b) := by
    refine propext ⟨fun h => ?_, fun h => by rw [h]⟩
    have := congrArg Int64.toInt h
    rw [e1, e2] at this
    exact this
  unfold lg_cmp
  simp only [hlt, heq]
  by_cases h : b < a
  · rw [if_pos h]
    exact propext ⟨fun _ => by omega, fun _ => by decide +kernel⟩
  · rw [if_neg h]
    by_cases h' : a = b
    · rw [if_pos h']
      exact propext ⟨fun _ => by omega, fun _ => by decide +kernel⟩
    · rw [if_neg h']
      exact propext ⟨fun z => absurd z (by decide +kernel), fun _ => by omega⟩
theorem x_cost {V : Int → Int} {c d : Nat → Int → Int} {S : Nat → Nat → Int32} (hs : vSet V) (hi : vImg V) (hp : vPlc V) (hbl : ∀ j, 0 ≤ j → j < V 0 → vBl V c j) (hg : vGeo V c) (hr : sR V S) (hd : ∀ j, 0 ≤ j → j < V 0 → d 2 j = c 2 j ∧ d 3 j = c 3 j) {z : Int} (hz : 0 ≤ z ∧ z ≤ 24) :
    ∃ le, (0 ≤ le ∧ le ≤ 4096) ∧ f_X10_packingCost S (lA (d 2)) (lA (d 3)) (iI z) = some (iL ((z * 10 + V 13) * 10000 + le)) ∧ f_X11_usedByAll (lA V) (lA (c 2)) (lA (c 3)) = some (iI le) := by
  have h3 : V 3 ≤ 4 := by unfold vSet at hs; omega
  have h13 := hp.1
  have e6 : S 6 0 = iI (V 13) := hr.1.2
  unfold f_X10_packingCost f_X11_usedByAll
  obtain ⟨fu, hfu, hfu2⟩ := fuel_ex; rw [hfu]
  rw [jn_e, il_0, show (0 : Int64) = iL 0 by decide +kernel, e6, iI_L (by omega) (by omega), iI_L (by omega) (by omega), show (10 : Int64) = iL 10 by decide +kernel, show (10000 : Int64) = iL 10000 by decide +kernel, iL_mul, iL_add, iL_mul]
  refine lpp (fun n x (u : Int) => (f_X10_packingCost_L5 S (lA (d 2)) (lA (d 3)) (fun y1 => some (iL ((z * 10 + V 13) * 10000) + y1)) n (iL u) (iI x), f_X11_usedByAll_L4 (lA V) (lA (c 2)) (lA (c 3)) n (iI u) (iI x))) (fun o => ∃ le, (0 ≤ le ∧ le ≤ 4096) ∧ o.1 = some (iL ((z * 10 + V 13) * 10000 + le)) ∧ o.2 = some (iI le)) (V 13) (fun x u => 0 ≤ x ∧ 0 ≤ u ∧ u ≤ 1024 * x) ?_ ?_ fu 0 0 (by omega) (by omega) (by omega)
  · rintro n u ⟨-, u0, u1⟩
    refine ⟨u, by omega, ?_, ?_⟩
    · show f_X10_packingCost_L5 S _ _ _ (n + 1) (iL u) (iI (V 13)) = _
      rw [f_X10_packingCost_L5, e6, if_pos (Int32.le_refl _), iL_add]
    · show f_X11_usedByAll_L4 _ _ _ (n + 1) (iI u) (iI (V 13)) = _
      rw [f_X11_usedByAll_L4, il_13, rd_lA _ _ (by omega) (by omega) (by omega), if_pos (Int32.le_refl _)]
  · rintro n x u hx ⟨x0, u0, u1⟩ ih
    obtain ⟨p, p0, p1, p2⟩ := x_usedC hs hi hp hbl hg hr hd (p := x) (by omega)
    obtain ⟨q, q0, q1, q2⟩ := x_usedR hs hi hp hbl hg hr hd (p := x) (by omega)
    have m0 : 0 ≤ p * q := Int.mul_nonneg p0.1 q0.1
    have m1 : p * q ≤ 32 * 32 := Int.mul_le_mul p0.2 q0.2 q0.1 (by omega)
    have ih := ih (u + p * q) (by omega)
    show ∃ le, (0 ≤ le ∧ le ≤ 4096) ∧ f_X10_packingCost_L5 S _ _ _ (n + 1) (iL u) (iI x) = _ ∧ f_X11_usedByAll_L4 _ _ _ (n + 1) (iI u) (iI x) = _
    rw [f_X10_packingCost_L5, f_X11_usedByAll_L4, e6, if_neg (show ¬ iI (V 13) ≤ iI x by rw [iI_le (by omega) (by omega) (by omega) (by omega)]; omega), il_13, rd_lA _ _ (by omega) (by omega) (by omega), if_neg (show ¬ iI (V 13) ≤ iI x by rw [iI_le (by omega) (by omega) (by omega) (by omega)]; omega), p1, p2, q1, q2, opt_bind, opt_bind, opt_bind, opt_bind, bd_e, bd_e, bd_e, bd_e, iI_mul, iI_L (by omega) (by omega), iL_add, iI_add, il_1, iI_add]
    exact ih
def bmT (R S : Nat → Nat → Int32) (a b : Int32) : Nat → Nat → Int32 := updC (updC (updC (updC (updC (updC (updC R 5 (upd (upd (R 5) 10 a) 11 b)) 6 (upd (R 6) 0 (S 6 0))) 7 (S 7)) 8 (S 8)) 9 (S 9)) 10 (S 10)) 11 (S 11)
theorem trI2_bm {V0 V : Int → Int} {c : Nat → Int → Int} {R S : Nat → Nat → Int32} (a b : Int32) (h : trI2 V0 V c R S) : trI2 V0 V c R (bmT R S a b) := ⟨h.1, h.2.1, h.2.2.1, h.2.2.2.1, h.2.2.2.2⟩
theorem sR2_bm {V0 V : Int → Int} {c : Nat → Int → Int} {R S : Nat → Nat → Int32} (h : trI2 V0 V c R S) (hr : sR V0 R) (hU : ∀ z, 1 ≤ z → z ≤ 10 → V z = V0 z) {o w : Int} (h11 : V 11 = o) (h12 : V 12 = w) : sR2 V (bmT R S (iI o) (iI w)) := by
  obtain ⟨g1, g2, g3, g4, g5⟩ := trI2_bm (iI o) (iI w) h
  refine sR2_mk ?_ (fun k hk => ?_) g3 ⟨⟨rfl, rfl⟩, rfl, rfl⟩ g4 g5
  · show R 0 0 = _
    rw [hr.1.1, g2.2]
  · show upd (upd (R 5) 10 (iI o)) 11 (iI w) k = _
    unfold upd
    by_cases k9 : k = 11
    · subst k9
      rw [if_pos rfl, show (1 : Int) + ((11 : Nat) : Int) = 12 by rfl, h12]
    · rw [if_neg k9]
      by_cases k2 : k = 10
      · subst k2
        rw [if_pos rfl, show (1 : Int) + ((10 : Nat) : Int) = 11 by rfl, h11]
      · rw [if_neg k2, hr.2.1 k hk, hU _ (by omega) (by omega)]
theorem bmT_eq {R S0 S : Nat → Nat → Int32} {a b : Int32} (h : ∀ k, (k < 6 ∨ 11 < k) → S k = bmT R S0 a b k) (h6 : S 6 = upd (bmT R S0 a b 6) 0 (S 6 0)) : bmT R S a b = S := by
  funext k
  by_cases q : k < 6 ∨ 11 < k
  · rw [h k q]
    unfold bmT updC
    simp only [if_neg (show ¬ k = 11 by omega), if_neg (show ¬ k = 10 by omega), if_neg (show ¬ k = 9 by omega), if_neg (show ¬ k = 8 by omega), if_neg (show ¬ k = 7 by omega), if_neg (show ¬ k = 6 by omega)]
  · have : k = 6 ∨ k = 7 ∨ k = 8 ∨ k = 9 ∨ k = 10 ∨ k = 11 := by omega
    rcases this with rfl | rfl | rfl | rfl | rfl | rfl
    · rw [h6]
      show upd (R 6) 0 (S 6 0) = upd (upd (R 6) 0 (S0 6 0)) 0 (S 6 0)
      funext j
      unfold upd
      split <;> rfl
    · rfl
    · rfl
    · rfl
    · rfl
    · rfl
def bmR (t bm fw pg le : Int) (best : Int32) (cost : Int64) : Prop := (t = 0 ∧ bm = -1 ∧ (fw = 0 ∧ pg = 0 ∧ le = 0) ∧ cost = iL 1000000000) ∨ ((0 ≤ bm ∧ bm < 16) ∧ (0 ≤ fw ∧ fw ≤ 24) ∧ (0 ≤ pg ∧ pg ≤ 4) ∧ (0 ≤ le ∧ le ≤ 4096) ∧ best = iI (10 * (bm / 4) + bm % 4) ∧ cost = iL ((fw * 10 + pg) * 10000 + le))
def seaB (k : tK) (o1 : Option tC15b) (o2 : Option tM28) : Prop :=
  ∃ (bm : Int) (ST : Nat → Nat → Int32) (w h : Int32) (fr : Nat → Int64) (K N : Nat → Int32) (F Pg X Y Tt f s : Int32) (line : Nat → Int32) (b1 b2 b3 b4 b5 b6 : Int32) (V' : Int → Int) (A1 A2 A3 A4 A5 A6 A7 A8 A9 A10 T : Nat → Int32), (0 ≤ bm ∧ bm < 16) ∧ o1 = some (iI (10 * (bm / 4) + bm % 4), ST, w, h, fr, K, N, F, Pg, X, Y, Tt, f, s, line) ∧ o2 = k (iI bm) b1 b2 b3 b4 b5 b6 (lA V') A1 A2 A3 A4 A5 A6 A7 A8 A9 A10 T ∧ vOut V'
