/-! the choice of a place, on both sides -/
def chR (V : Int → Int) (c : Nat → Int → Int) (i nf : Int) (FX FY FW FH : Int → Int) (a x y t f s k tm fm sm : Int) : Prop :=
  ((-2147483648 ≤ f ∧ f < 2147483648) ∧ (-2147483648 ≤ s ∧ s < 2147483648) ∧ (-2147483648 ≤ fm ∧ fm < 2147483648) ∧ (-2147483648 ≤ sm ∧ sm < 2147483648)) ∧
  ((a = 0 ∧ k = -1) ∨ (a = 1 ∧ (0 ≤ k ∧ k < nf) ∧ x = FX k ∧ y = FY k ∧ t = tm ∧ f = fm ∧ s = sm ∧ (t = 0 ∨ t = 1) ∧ bxW V c i t ≤ FW k ∧ bxH V c i t ≤ FH k))
theorem bx_r {V : Int → Int} {c : Nat → Int → Int} (hs : vSet V) {i : Int} (h2 : 1 ≤ c 2 i ∧ c 2 i ≤ 8) (h3 : 1 ≤ c 3 i ∧ c 3 i ≤ 8) (t : Int) : (1 ≤ bxW V c i t ∧ bxW V c i t ≤ 15) ∧ 1 ≤ bxH V c i t ∧ bxH V c i t ≤ 15 := by
  unfold vSet at hs
  unfold bxW bxH
  split <;> omega
theorem ch_step {V : Int → Int} {S : Nat → Nat → Int32} {c d : Nat → Int → Int} (hs : vSet V) (hr : ∀ k : Nat, k < 12 → S 5 k = iI (V (1 + k))) {i t : Int} (hi : 0 ≤ i ∧ i < 24) (hd : d 2 i = c 2 i ∧ d 3 i = c 3 i) (ht : t = 0 ∨ t = 1) (h2 : 1 ≤ c 2 i ∧ c 2 i ≤ 8) (h3 : 1 ≤ c 3 i ∧ c 3 i ≤ 8)
    {FX FY FW FH : Int → Int} {nf j : Int} (hj : 0 ≤ j ∧ j < nf) (hnf : nf ≤ 2000) (hX : 0 ≤ FX j ∧ FX j < 64) (hY : 0 ≤ FY j ∧ FY j < 64) (hW : 0 < FW j ∧ FW j < 64) (hH : 0 < FH j ∧ FH j < 64) {a x y t0 f s k tm fm sm : Int} (h : chR V c i nf FX FY FW FH a x y t0 f s k tm fm sm) :
    ∃ a' x' y' t' f' s' k' tm' fm' sm', f_X3_offer (iI a) (iI x) (iI y) (iI t0) (iI f) (iI s) S (lA (d 2)) (lA (d 3)) (iI (cd (FX j) (FY j) (FW j) (FH j))) (iI i) (iI t) = some (iI a', iI x', iI y', iI t', iI f', iI s') ∧
      f_X11_values (iI k) (iI tm) (iI fm) (iI sm) (lA V) (lA (c 2)) (lA (c 3)) (lA FX) (lA FY) (lA FW) (lA FH) (iI j) (iI i) (iI t) = some (iI k', iI tm', iI fm', iI sm') ∧ chR V c i nf FX FY FW FH a' x' y' t' f' s' k' tm' fm' sm' := by
  obtain ⟨hbw, hbh⟩ := bx_r hs h2 h3 t
  obtain ⟨q1, q2, q3, q4⟩ := vFS_r (way := V 12) hX hY hW hH hbw hbh
  obtain ⟨⟨r1, r2, r3, r4⟩, h⟩ := id h
  have ha : a = 0 ∨ a = 1 := by omega
  have hk : -1 ≤ k ∧ k < 2000 := by omega
  obtain ⟨o1, o2⟩ := c_offer (S := S) (c := c) (d := d) (x := x) (y := y) (t0 := t0) hs hr hi hd ht hbw hbh hX hY hW hH ha r1 r2
  obtain ⟨p1, p2⟩ := m_values (V := V) (c := c) (t0 := tm) hs hi ht hbw hbh (by omega : 0 ≤ j ∧ j < 2000) hX hY hW hH hk r3 r4
  have hiff : chC (V 12) (FX j) (FY j) (FW j) (FH j) (bxW V c i t) (bxH V c i t) a f s ↔ chC (V 12) (FX j) (FY j) (FW j) (FH j) (bxW V c i t) (bxH V c i t) (if k < 0 then 0 else 1) fm sm := by
    rcases h with ⟨e1, e2⟩ | ⟨e1, e2, -, -, -, e3, e4, -⟩
    · rw [if_pos (by omega)]
      unfold chC
      constructor
      · rintro ⟨z1, z2, z3⟩
        exact ⟨z1, z2, Or.inl rfl⟩
      · rintro ⟨z1, z2, z3⟩
        exact ⟨z1, z2, Or.inl e1⟩
    · rw [if_neg (by omega), e1, e3, e4]
  by_cases hc : chC (V 12) (FX j) (FY j) (FW j) (FH j) (bxW V c i t) (bxH V c i t) a f s
  · exact ⟨_, _, _, _, _, _, _, _, _, _, o1 hc, p1 (hiff.mp hc), ⟨⟨by omega, by omega, by omega, by omega⟩, Or.inr ⟨rfl, hj, rfl, rfl, rfl, rfl, rfl, ht, hc.1, hc.2.1⟩⟩⟩
  · exact ⟨_, _, _, _, _, _, _, _, _, _, o2 hc, p2 (fun z => hc (hiff.mpr z)), ⟨⟨r1, r2, r3, r4⟩, h⟩⟩
theorem ch_both {V : Int → Int} {S : Nat → Nat → Int32} {c d : Nat → Int → Int} (hs : vSet V) (hr : ∀ k : Nat, k < 12 → S 5 k = iI (V (1 + k))) {i : Int} (hi : 0 ≤ i ∧ i < 24) (hd : d 2 i = c 2 i ∧ d 3 i = c 3 i) (h2 : 1 ≤ c 2 i ∧ c 2 i ≤ 8) (h3 : 1 ≤ c 3 i ∧ c 3 i ≤ 8)
    {FX FY FW FH : Int → Int} {nf j : Int} (hj : 0 ≤ j ∧ j < nf) (hnf : nf ≤ 2000) (hX : 0 ≤ FX j ∧ FX j < 64) (hY : 0 ≤ FY j ∧ FY j < 64) (hW : 0 < FW j ∧ FW j < 64) (hH : 0 < FH j ∧ FH j < 64) {a x y t0 f s k tm fm sm : Int} (h : chR V c i nf FX FY FW FH a x y t0 f s k tm fm sm) :
    ∃ a' x' y' t' f' s' k1 tm1 fm1 sm1 k' tm' fm' sm', f_X3_offerBoth (iI a) (iI x) (iI y) (iI t0) (iI f) (iI s) S (lA (d 2)) (lA (d 3)) (iI (cd (FX j) (FY j) (FW j) (FH j))) (iI i) = some (iI a', iI x', iI y', iI t', iI f', iI s') ∧
      f_X11_values (iI k) (iI tm) (iI fm) (iI sm) (lA V) (lA (c 2)) (lA (c 3)) (lA FX) (lA FY) (lA FW) (lA FH) (iI j) (iI i) (iI 0) = some (iI k1, iI tm1, iI fm1, iI sm1) ∧ (V 9 = 1 → f_X11_values (iI k1) (iI tm1) (iI fm1) (iI sm1) (lA V) (lA (c 2)) (lA (c 3)) (lA FX) (lA FY) (lA FW) (lA FH) (iI j) (iI i) (iI 1) = some (iI k', iI tm', iI fm', iI sm')) ∧ (V 9 = 0 → k' = k1 ∧ tm' = tm1 ∧ fm' = fm1 ∧ sm' = sm1) ∧ chR V c i nf FX FY FW FH a' x' y' t' f' s' k' tm' fm' sm' := by
  have h9 : V 9 = 0 ∨ V 9 = 1 := by unfold vSet at hs; omega
  have e8 : S 5 8 = iI (V 9) := hr 8 (by omega)
  obtain ⟨a1, x1, y1, t1, f1, s1, k1, tm1, fm1, sm1, o1, p1, z1⟩ := ch_step hs hr hi hd (Or.inl rfl) h2 h3 hj hnf hX hY hW hH h
  rcases h9 with h9 | h9
  · refine ⟨a1, x1, y1, t1, f1, s1, k1, tm1, fm1, sm1, k1, tm1, fm1, sm1, ?_, p1, fun q => by omega, fun _ => ⟨rfl, rfl, rfl, rfl⟩, z1⟩
    unfold f_X3_offerBoth
    rw [il_0, o1, opt_bind, e8, h9]
    simp (disch := omega) only [↓bd_e, ↓jn_e, ↓opt_bind, ↓reduceIte, iLeT, iLeF, iLtT, iLtF, iEqT, iEqF, il_0, il_1, il_2, il_3, il_4, il_5, il_6, il_7, il_8, il_9, il_10, il_11, il_12, il_13, il_14, il_15, il_16, il_18, il_20, il_24, il_32, il_35, il_40, il_44, il_47, il_48, il_56, il_57, il_58, il_59, il_63, il_64, il_72, il_100, il_120, il_126, il_127, il_160, il_192, il_255, il_349, il_1748, il_6992, iI_add, iI_sub, iI_mul, iI_neg, iI_le, iI_lt, iI_eq, rd_lA, wr_lA, rd_lR, wr_lR, ite_iI, max_iI, min_iI, rem_iI, div_iI, ite_true, ite_false, if_true, if_false, ite_self, and_self, and_true, true_and, and_false, false_and, or_self, or_true, true_or, or_false, false_or, not_true_eq_false, not_false_eq_true]
  · obtain ⟨a2, x2, y2, t2, f2, s2, k2, tm2, fm2, sm2, o2, p2, z2⟩ := ch_step hs hr hi hd (Or.inr rfl) h2 h3 hj hnf hX hY hW hH z1
    refine ⟨a2, x2, y2, t2, f2, s2, k1, tm1, fm1, sm1, k2, tm2, fm2, sm2, ?_, p1, fun _ => p2, fun q => by omega, z2⟩
    unfold f_X3_offerBoth
    rw [il_0, o1, opt_bind, e8, h9, il_1, if_neg (by decide +kernel : ¬ iI 1 = iI 0), o2, opt_bind]
theorem ch_loop {V : Int → Int} {S : Nat → Nat → Int32} {c d : Nat → Int → Int} (hs : vSet V) (hr : ∀ k : Nat, k < 12 → S 5 k = iI (V (1 + k))) {i : Int} (hi : 0 ≤ i ∧ i < 24) (hd : d 2 i = c 2 i ∧ d 3 i = c 3 i) (h2 : 1 ≤ c 2 i ∧ c 2 i ≤ 8) (h3 : 1 ≤ c 3 i ∧ c 3 i ≤ 8)
    {FX FY FW FH : Int → Int} {nf : Int} {R : Int → Prop} (hnf : nf ≤ 2000) (hI : frI nf FX FY FW FH R) {K N : Int → Int} {p : Int} (hp : 0 ≤ p ∧ p < 4) (hn : N p = nf) (hK : ∀ j, 0 ≤ j → j < nf → K (p * 349 + j) = cd (FX j) (FY j) (FW j) (FH j)) (h349 : nf ≤ 349)
    {mb : Int32} {bX bY bW bH bg en : Nat → Int32} {Kc : Int32 → Int32 → Int32 → Int32 → Int32 → Int32 → Option (Int32 × Int32 × Int32 × Int32 × Int32 × Int32 × Int32 × Int32)} {Km : Int32 → Int32 → Int32 → Int32 → Option (Int32 × Int32 × Int32 × Int32 × Int32 × Int32 × Int32 × (Nat → Int32) × (Nat → Int32) × (Nat → Int32) × (Nat → Int32) × (Nat → Int32) × (Nat → Int32) × (Nat → Int32) × (Nat → Int32) × (Nat → Int32) × (Nat → Int32) × (Nat → Int32))}
    {P : Option (Int32 × Int32 × Int32 × Int32 × Int32 × Int32 × Int32 × Int32) × Option (Int32 × Int32 × Int32 × Int32 × Int32 × Int32 × Int32 × (Nat → Int32) × (Nat → Int32) × (Nat → Int32) × (Nat → Int32) × (Nat → Int32) × (Nat → Int32) × (Nat → Int32) × (Nat → Int32) × (Nat → Int32) × (Nat → Int32) × (Nat → Int32)) → Prop}
    (hP : ∀ a x y t f s k tm fm sm, chR V c i nf FX FY FW FH a x y t f s k tm fm sm → P (Kc (iI a) (iI x) (iI y) (iI t) (iI f) (iI s), Km (iI k) (iI tm) (iI fm) (iI sm))) {n : Nat} (hfu : 20000 ≤ n) {a x y t0 f s k tm fm sm : Int} (h : chR V c i nf FX FY FW FH a x y t0 f s k tm fm sm) :
    P (f_X3_chooseOn_L10 (lA K) (lA N) S (lA (d 2)) (lA (d 3)) (iI p) (iI i) Kc n (iI 0) (iI a) (iI x) (iI y) (iI t0) (iI f) (iI s), f_X11_placesOn_L12 (lA V) (lA (c 2)) (lA (c 3)) (iI i) (mb, iI nf, bX, bY, bW, bH, lA FX, lA FY, lA FW, lA FH, bg, en) Km n (iI 0) (iI k) (iI tm) (iI fm) (iI sm)) := by
  have hn0 : 0 ≤ nf := hI.1.1
  have h9 : V 9 = 0 ∨ V 9 = 1 := by unfold vSet at hs; omega
  have hbig : ∀ j, 0 ≤ j → j < nf → 0 ≤ p * 349 + j ∧ p * 349 + j < 1396 := fun j j0 j1 => by omega
  refine lpp (fun n j (u : (Int × Int × Int × Int × Int × Int) × Int × Int × Int × Int) => (f_X3_chooseOn_L10 (lA K) (lA N) S (lA (d 2)) (lA (d 3)) (iI p) (iI i) Kc n (iI j) (iI u.1.1) (iI u.1.2.1) (iI u.1.2.2.1) (iI u.1.2.2.2.1) (iI u.1.2.2.2.2.1) (iI u.1.2.2.2.2.2), f_X11_placesOn_L12 (lA V) (lA (c 2)) (lA (c 3)) (iI i) (mb, iI nf, bX, bY, bW, bH, lA FX, lA FY, lA FW, lA FH, bg, en) Km n (iI j) (iI u.2.1) (iI u.2.2.1) (iI u.2.2.2.1) (iI u.2.2.2.2))) P nf (fun j u => 0 ≤ j ∧ chR V c i nf FX FY FW FH u.1.1 u.1.2.1 u.1.2.2.1 u.1.2.2.2.1 u.1.2.2.2.2.1 u.1.2.2.2.2.2 u.2.1 u.2.2.1 u.2.2.2.1 u.2.2.2.2) ?_ ?_ n 0 ((a, x, y, t0, f, s), k, tm, fm, sm) (by omega) (by omega) ⟨by omega, h⟩
  · rintro n ⟨⟨a, x, y, t, f, s⟩, k, tm, fm, sm⟩ ⟨-, hq⟩
    have := hP a x y t f s k tm fm sm hq
    simp only [f_X3_chooseOn_L10, f_X11_placesOn_L12]
    rw [rd_lA N _ (by omega) (by omega) (by omega), hn]
    simp (disch := omega) only [↓bd_e, ↓jn_e, ↓opt_bind, ↓reduceIte, iLeT, iLeF, iLtT, iLtF, iEqT, iEqF, il_0, il_1, il_2, il_3, il_4, il_5, il_6, il_7, il_8, il_9, il_10, il_11, il_12, il_13, il_14, il_15, il_16, il_18, il_20, il_24, il_32, il_35, il_40, il_44, il_47, il_48, il_56, il_57, il_58, il_59, il_63, il_64, il_72, il_100, il_120, il_126, il_127, il_160, il_192, il_255, il_349, il_1748, il_6992, iI_add, iI_sub, iI_mul, iI_neg, iI_le, iI_lt, iI_eq, rd_lA, wr_lA, rd_lR, wr_lR, ite_iI, max_iI, min_iI, rem_iI, div_iI, ite_true, ite_false, if_true, if_false, ite_self, and_self, and_true, true_and, and_false, false_and, or_self, or_true, true_or, or_false, false_or, not_true_eq_false, not_false_eq_true]
    exact this
  · rintro n j ⟨⟨a, x, y, t, f, s⟩, k, tm, fm, sm⟩ hj ⟨j0, hq⟩ ih
    obtain ⟨x1, x2, y1, y2, w1, w2, z1, z2⟩ := hI.2 j j0 hj
    obtain ⟨a', x', y', t', f', s', k1, tm1, fm1, sm1, k', tm', fm', sm', e1, e2, e3, e4, e5⟩ := ch_both hs hr hi hd h2 h3 ⟨j0, hj⟩ hnf ⟨x1, x2⟩ ⟨y1, y2⟩ ⟨w1, w2⟩ ⟨z1, z2⟩ hq
    have ih := ih ((a', x', y', t', f', s'), k', tm', fm', sm') ⟨by omega, e5⟩
    have hb := hbig j j0 hj
    have ecode : f_X7_codeOf (lA K) (iI p) (iI j) = some (iI (cd (FX j) (FY j) (FW j) (FH j))) := by
      unfold f_X7_codeOf
      simp (disch := omega) only [↓bd_e, ↓jn_e, ↓opt_bind, ↓reduceIte, iLeT, iLeF, iLtT, iLtF, iEqT, iEqF, il_0, il_1, il_2, il_3, il_4, il_5, il_6, il_7, il_8, il_9, il_10, il_11, il_12, il_13, il_14, il_15, il_16, il_18, il_20, il_24, il_32, il_35, il_40, il_44, il_47, il_48, il_56, il_57, il_58, il_59, il_63, il_64, il_72, il_100, il_120, il_126, il_127, il_160, il_192, il_255, il_349, il_1748, il_6992, iI_add, iI_sub, iI_mul, iI_neg, iI_le, iI_lt, iI_eq, rd_lA, wr_lA, rd_lR, wr_lR, ite_iI, max_iI, min_iI, rem_iI, div_iI, ite_true, ite_false, if_true, if_false, ite_self, and_self, and_true, true_and, and_false, false_and, or_self, or_true, true_or, or_false, false_or, not_true_eq_false, not_false_eq_true, hK j j0 hj]
    have el : f_X3_chooseOn_L10 (lA K) (lA N) S (lA (d 2)) (lA (d 3)) (iI p) (iI i) Kc (n + 1) (iI j) (iI a) (iI x) (iI y) (iI t) (iI f) (iI s) = f_X3_chooseOn_L10 (lA K) (lA N) S (lA (d 2)) (lA (d 3)) (iI p) (iI i) Kc n (iI (j + 1)) (iI a') (iI x') (iI y') (iI t') (iI f') (iI s') := by
      rw [f_X3_chooseOn_L10, rd_lA N _ (by omega) (by omega) (by omega), hn]
      simp (disch := omega) only [↓bd_e, ↓jn_e, ↓opt_bind, ↓reduceIte, iLeT, iLeF, iLtT, iLtF, iEqT, iEqF, il_0, il_1, il_2, il_3, il_4, il_5, il_6, il_7, il_8, il_9, il_10, il_11, il_12, il_13, il_14, il_15, il_16, il_18, il_20, il_24, il_32, il_35, il_40, il_44, il_47, il_48, il_56, il_57, il_58, il_59, il_63, il_64, il_72, il_100, il_120, il_126, il_127, il_160, il_192, il_255, il_349, il_1748, il_6992, iI_add, iI_sub, iI_mul, iI_neg, iI_le, iI_lt, iI_eq, rd_lA, wr_lA, rd_lR, wr_lR, ite_iI, max_iI, min_iI, rem_iI, div_iI, ite_true, ite_false, if_true, if_false, ite_self, and_self, and_true, true_and, and_false, false_and, or_self, or_true, true_or, or_false, false_or, not_true_eq_false, not_false_eq_true, ecode, e1]
    have er : f_X11_placesOn_L12 (lA V) (lA (c 2)) (lA (c 3)) (iI i) (mb, iI nf, bX, bY, bW, bH, lA FX, lA FY, lA FW, lA FH, bg, en) Km (n + 1) (iI j) (iI k) (iI tm) (iI fm) (iI sm) = f_X11_placesOn_L12 (lA V) (lA (c 2)) (lA (c 3)) (iI i) (mb, iI nf, bX, bY, bW, bH, lA FX, lA FY, lA FW, lA FH, bg, en) Km n (iI (j + 1)) (iI k') (iI tm') (iI fm') (iI sm') := by
      rw [f_X11_placesOn_L12]
      rcases h9 with h9 | h9
      · obtain ⟨q1, q2, q3, q4⟩ := e4 h9
        simp (disch := omega) only [↓bd_e, ↓jn_e, ↓opt_bind, ↓reduceIte, iLeT, iLeF, iLtT, iLtF, iEqT, iEqF, il_0, il_1, il_2, il_3, il_4, il_5, il_6, il_7, il_8, il_9, il_10, il_11, il_12, il_13, il_14, il_15, il_16, il_18, il_20, il_24, il_32, il_35, il_40, il_44, il_47, il_48, il_56, il_57, il_58, il_59, il_63, il_64, il_72, il_100, il_120, il_126, il_127, il_160, il_192, il_255, il_349, il_1748, il_6992, iI_add, iI_sub, iI_mul, iI_neg, iI_le, iI_lt, iI_eq, rd_lA, wr_lA, rd_lR, wr_lR, ite_iI, max_iI, min_iI, rem_iI, div_iI, ite_true, ite_false, if_true, if_false, ite_self, and_self, and_true, true_and, and_false, false_and, or_self, or_true, true_or, or_false, false_or, not_true_eq_false, not_false_eq_true, e2, h9, q1, q2, q3, q4]
      · simp (disch := omega) only [↓bd_e, ↓jn_e, ↓opt_bind, ↓reduceIte, iLeT, iLeF, iLtT, iLtF, iEqT, iEqF, il_0, il_1, il_2, il_3, il_4, il_5, il_6, il_7, il_8, il_9, il_10, il_11, il_12, il_13, il_14, il_15, il_16, il_18, il_20, il_24, il_32, il_35, il_40, il_44, il_47, il_48, il_56, il_57, il_58, il_59, il_63, il_64, il_72, il_100, il_120, il_126, il_127, il_160, il_192, il_255, il_349, il_1748, il_6992, iI_add, iI_sub, iI_mul, iI_neg, iI_le, iI_lt, iI_eq, rd_lA, wr_lA, rd_lR, wr_lR, ite_iI, max_iI, min_iI, rem_iI, div_iI, ite_true, ite_false, if_true, if_false, ite_self, and_self, and_true, true_and, and_false, false_and, or_self, or_true, true_or, or_false, false_or, not_true_eq_false, not_false_eq_true, e2, h9, e3 h9]
    show P (_, _)
    rw [el, er]
    exact ih
