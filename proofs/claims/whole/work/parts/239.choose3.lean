abbrev tC8 : Type := Int32 × Int32 × Int32 × Int32 × Int32 × Int32 × Int32 × Int32
abbrev tM18 : Type := Int32 × Int32 × Int32 × Int32 × Int32 × Int32 × Int32 × (Nat → Int32) × (Nat → Int32) × (Nat → Int32) × (Nat → Int32) × (Nat → Int32) × (Nat → Int32) × (Nat → Int32) × (Nat → Int32) × (Nat → Int32) × (Nat → Int32) × (Nat → Int32)
def vPl (V : Int → Int) (i p g x y t : Int) : Int → Int := uI (vPut V i p g x y t) 13 (max (V 13) (p + 1))
theorem vPut_13 {V : Int → Int} {i p g x y t : Int} (hi : 0 ≤ i) (hp : 0 ≤ p) : vPut V i p g x y t 13 = V 13 := by
  unfold vPut
  rw [uI_ne (by omega), uI_ne (by omega), uI_ne (by omega), uI_ne (by omega), uI_ne (by omega)]
theorem vPl_old {V : Int → Int} {i p g x y t : Int} (hi : 0 ≤ i) (hp : 0 ≤ p) (h : p < V 13) : vPl V i p g x y t = vPut V i p g x y t := by
  funext z
  unfold vPl uI
  split
  · next e => rw [e, vPut_13 hi hp]; omega
  · rfl
def plP (V : Int → Int) (c : Nat → Int → Int) (i : Int) (o1 : Option tC8) (o2 : Option tM18) : Prop :=
  ∃ (a p x y t g : Int) (F Pg X Y T f s b1 b2 b3 b4 b5 b6 : Int32) (A1 A2 A3 A4 A5 A6 A7 A8 A9 A10 : Nat → Int32), o1 = some (iI a, F, Pg, X, Y, T, f, s) ∧ o2 = some (iI a, b1, b2, b3, b4, b5, b6, lA (if a = 1 then vPl V i p g x y t else V), A1, A2, A3, A4, A5, A6, A7, A8, A9, A10) ∧
    (a = 0 ∨ (a = 1 ∧ (Pg = iI p ∧ X = iI x ∧ Y = iI y ∧ T = iI t) ∧ (0 ≤ p ∧ p ≤ V 13 ∧ p < V 3) ∧ vFit V c i p x y t ∧ grOf V i p g))
def spI (V : Int → Int) (c : Nat → Int → Int) (K N : Int → Int) : Prop := ∀ p, 0 ≤ p → p < V 13 → En (N p) (fun k => K (p * 349 + k)) (rS (mxR (fldW V) (fldH V) (blk V c p)))
theorem x_pages {V : Int → Int} {S : Nat → Nat → Int32} {c d : Nat → Int → Int} (hs : vSet V) (hi : vImg V) (hp : vPlc V) (hb : ∀ j, 0 ≤ j → j < V 0 → vBl V c j) (hg : vGeo V c) (hr : sR V S) (hd : ∀ j, 0 ≤ j → j < V 0 → d 2 j = c 2 j ∧ d 3 j = c 3 j) {i : Int} (hi0 : 0 ≤ i ∧ i < V 0) (hc2 : 0 < c 2 i)
    {K N : Int → Int} (hK : spI V c K N) {Kc : Int32 → Int32 → Int32 → Int32 → Int32 → Int32 → Int32 → Option tC8} {Km : Int32 → Int32 → Int32 → Int32 → Int32 → Int32 → Int32 → (Nat → Int32) → (Nat → Int32) → (Nat → Int32) → (Nat → Int32) → (Nat → Int32) → (Nat → Int32) → (Nat → Int32) → (Nat → Int32) → (Nat → Int32) → (Nat → Int32) → (Nat → Int32) → Option tM18}
    (h0 : ∀ F Pg X Y T f s b1 b2 b3 b4 b5 b6 A1 A2 A3 A4 A5 A6 A7 A8 A9 A10, plP V c i (Kc F Pg X Y T f s) (Km (iI 0) b1 b2 b3 b4 b5 b6 (lA V) A1 A2 A3 A4 A5 A6 A7 A8 A9 A10)) (h1 : ∀ b1 b2 b3 b4 b5 b6 A0 A1 A2 A3 A4 A5 A6 A7 A8 A9 A10, Km (iI 1) b1 b2 b3 b4 b5 b6 A0 A1 A2 A3 A4 A5 A6 A7 A8 A9 A10 = some (iI 1, b1, b2, b3, b4, b5, b6, A0, A1, A2, A3, A4, A5, A6, A7, A8, A9, A10))
    {n : Nat} (hn : 20000 ≤ n) (F Pg X Y T f s b1 b2 b3 b4 b5 b6 : Int32) (A1 A2 A3 A4 A5 A6 A7 A8 A9 A10 : Nat → Int32) :
    plP V c i (f_X3_choose_L2 (lA K) (lA N) S (lA (d 2)) (lA (d 3)) (iI i) Kc n (iI 0) F Pg X Y T f s) (f_X11_places_L4 (lA (c 2)) (lA (c 3)) (iI i) Km n (iI 0) (iI 0) b1 b2 b3 b4 b5 b6 (lA V) A1 A2 A3 A4 A5 A6 A7 A8 A9 A10) := by
  have h3 : V 3 ≤ 4 := by unfold vSet at hs; omega
  have h13 := hp.1
  have e13 : S 6 0 = iI (V 13) := hr.1.2
  refine lppn (fun n x (u : (Int32 × Int32 × Int32 × Int32 × Int32 × Int32 × Int32) × (Int32 × Int32 × Int32 × Int32 × Int32 × Int32) × ((Nat → Int32) × (Nat → Int32) × (Nat → Int32) × (Nat → Int32) × (Nat → Int32) × (Nat → Int32) × (Nat → Int32) × (Nat → Int32) × (Nat → Int32) × (Nat → Int32))) =>
    (f_X3_choose_L2 (lA K) (lA N) S (lA (d 2)) (lA (d 3)) (iI i) Kc n (iI x) u.1.1 u.1.2.1 u.1.2.2.1 u.1.2.2.2.1 u.1.2.2.2.2.1 u.1.2.2.2.2.2.1 u.1.2.2.2.2.2.2, f_X11_places_L4 (lA (c 2)) (lA (c 3)) (iI i) Km n (iI 0) (iI x) u.2.1.1 u.2.1.2.1 u.2.1.2.2.1 u.2.1.2.2.2.1 u.2.1.2.2.2.2.1 u.2.1.2.2.2.2.2 (lA V) u.2.2.1 u.2.2.2.1 u.2.2.2.2.1 u.2.2.2.2.2.1 u.2.2.2.2.2.2.1 u.2.2.2.2.2.2.2.1 u.2.2.2.2.2.2.2.2.1 u.2.2.2.2.2.2.2.2.2.1 u.2.2.2.2.2.2.2.2.2.2.1 u.2.2.2.2.2.2.2.2.2.2.2)) (fun o => plP V c i o.1 o.2) (V 13) (fun x _ => 0 ≤ x) ?_ ?_ n 0 ((F, Pg, X, Y, T, f, s), (b1, b2, b3, b4, b5, b6), A1, A2, A3, A4, A5, A6, A7, A8, A9, A10) (by omega) (by omega) (by omega)
  · rintro n ⟨⟨F, Pg, X, Y, T, f, s⟩, ⟨b1, b2, b3, b4, b5, b6⟩, A1, A2, A3, A4, A5, A6, A7, A8, A9, A10⟩ -
    have := h0 F Pg X Y T f s b1 b2 b3 b4 b5 b6 A1 A2 A3 A4 A5 A6 A7 A8 A9 A10
    show plP V c i (f_X3_choose_L2 _ _ _ _ _ _ _ (n + 1) _ _ _ _ _ _ _ _) (f_X11_places_L4 _ _ _ _ (n + 1) _ _ _ _ _ _ _ _ _ _ _ _ _ _ _ _ _ _ _)
    rw [f_X3_choose_L2, f_X11_places_L4, e13]
    simp (disch := omega) only [↓bd_e, ↓jn_e, ↓opt_bind, ↓reduceIte, iLeT, iLeF, iLtT, iLtF, iEqT, iEqF, il_0, il_1, il_2, il_3, il_4, il_5, il_6, il_7, il_8, il_9, il_10, il_11, il_12, il_13, il_14, il_15, il_16, il_18, il_20, il_24, il_32, il_35, il_40, il_44, il_47, il_48, il_56, il_57, il_58, il_59, il_63, il_64, il_72, il_100, il_120, il_126, il_127, il_160, il_192, il_255, il_349, il_1748, il_6992, iI_add, iI_sub, iI_mul, iI_neg, iI_le, iI_lt, iI_eq, rd_lA, wr_lA, rd_lR, wr_lR, ite_iI, max_iI, min_iI, rem_iI, div_iI, ite_true, ite_false, if_true, if_false, ite_self, and_self, and_true, true_and, and_false, false_and, or_self, or_true, true_or, or_false, false_or, not_true_eq_false, not_false_eq_true]
    exact this
  · rintro n x ⟨⟨F, Pg, X, Y, T, f, s⟩, ⟨b1, b2, b3, b4, b5, b6⟩, A1, A2, A3, A4, A5, A6, A7, A8, A9, A10⟩ hx hn x0 ih
    have x0 : 0 ≤ x := x0
    obtain ⟨o, m, B1, B2, B3, B4, oe1, oe2, ho⟩ := x_open hs hi hp hb hg hr hi0 (p := x) (by omega) A1 A2 A3 A4
    show plP V c i (f_X3_choose_L2 _ _ _ _ _ _ _ (n + 1) _ _ _ _ _ _ _ _) (f_X11_places_L4 _ _ _ _ (n + 1) _ _ _ _ _ _ _ _ _ _ _ _ _ _ _ _ _ _ _)
    rw [f_X3_choose_L2, f_X11_places_L4, e13]
    rw [oe1, oe2]
    rcases ho with ho | ho
    · have ih := ih ((F, Pg, X, Y, T, f, s), (m, b2, b3, b4, b5, b6), B1, B2, B3, B4, A5, A6, A7, A8, A9, A10) (by omega)
      simp (disch := omega) only [↓bd_e, ↓jn_e, ↓opt_bind, ↓reduceIte, iLeT, iLeF, iLtT, iLtF, iEqT, iEqF, il_0, il_1, il_2, il_3, il_4, il_5, il_6, il_7, il_8, il_9, il_10, il_11, il_12, il_13, il_14, il_15, il_16, il_18, il_20, il_24, il_32, il_35, il_40, il_44, il_47, il_48, il_56, il_57, il_58, il_59, il_63, il_64, il_72, il_100, il_120, il_126, il_127, il_160, il_192, il_255, il_349, il_1748, il_6992, iI_add, iI_sub, iI_mul, iI_neg, iI_le, iI_lt, iI_eq, rd_lA, wr_lA, rd_lR, wr_lR, ite_iI, max_iI, min_iI, rem_iI, div_iI, ite_true, ite_false, if_true, if_false, ite_self, and_self, and_true, true_and, and_false, false_and, or_self, or_true, true_or, or_false, false_or, not_true_eq_false, not_false_eq_true, ho]
      exact ih
    · obtain ⟨a, x', y', t', g', f', s', c1, c2', c3, c4, c5, c6, C1, C2, C3, C4, C5, C6, C7, C8, C9, C10, on1, on2, hon⟩ := x_on hs hi hp hb hg hr hd hi0 hc2 (p := x) (by omega) (hK x x0 hx) X Y T f s b4 b5 b6 B1 B2 B3 B4 A5 A6 A7 A8 A9 A10
      rcases hon with ha | ⟨ha, hon⟩
      · have ih := ih ((iI a, iI x, iI x', iI y', iI t', f', s'), (c1, c2', c3, c4, c5, c6), C1, C2, C3, C4, C5, C6, C7, C8, C9, C10) (by omega)
        rw [ha] at on1 on2 ih
        rw [if_neg (by omega)] at on2
        simp (disch := omega) only [↓bd_e, ↓jn_e, ↓opt_bind, ↓reduceIte, iLeT, iLeF, iLtT, iLtF, iEqT, iEqF, il_0, il_1, il_2, il_3, il_4, il_5, il_6, il_7, il_8, il_9, il_10, il_11, il_12, il_13, il_14, il_15, il_16, il_18, il_20, il_24, il_32, il_35, il_40, il_44, il_47, il_48, il_56, il_57, il_58, il_59, il_63, il_64, il_72, il_100, il_120, il_126, il_127, il_160, il_192, il_255, il_349, il_1748, il_6992, iI_add, iI_sub, iI_mul, iI_neg, iI_le, iI_lt, iI_eq, rd_lA, wr_lA, rd_lR, wr_lR, ite_iI, max_iI, min_iI, rem_iI, div_iI, ite_true, ite_false, if_true, if_false, ite_self, and_self, and_true, true_and, and_false, false_and, or_self, or_true, true_or, or_false, false_or, not_true_eq_false, not_false_eq_true, ho, on1, on2]
        exact ih
      · rw [ha] at on1 on2
        rw [if_pos rfl] at on2
        have hpl := vPl_old (V := V) (i := i) (p := x) (g := g') (x := x') (y := y') (t := t') hi0.1 x0 hx
        rw [← hpl] at on2
        have e13' : vPl V i x g' x' y' t' 13 = V 13 := by rw [hpl, vPut_13 hi0.1 x0]
        obtain ⟨n', rfl⟩ : ∃ n', n = n' + 1 := ⟨n - 1, by omega⟩
        simp (disch := omega) only [↓bd_e, ↓jn_e, ↓opt_bind, ↓reduceIte, iLeT, iLeF, iLtT, iLtF, iEqT, iEqF, il_0, il_1, il_2, il_3, il_4, il_5, il_6, il_7, il_8, il_9, il_10, il_11, il_12, il_13, il_14, il_15, il_16, il_18, il_20, il_24, il_32, il_35, il_40, il_44, il_47, il_48, il_56, il_57, il_58, il_59, il_63, il_64, il_72, il_100, il_120, il_126, il_127, il_160, il_192, il_255, il_349, il_1748, il_6992, iI_add, iI_sub, iI_mul, iI_neg, iI_le, iI_lt, iI_eq, rd_lA, wr_lA, rd_lR, wr_lR, ite_iI, max_iI, min_iI, rem_iI, div_iI, ite_true, ite_false, if_true, if_false, ite_self, and_self, and_true, true_and, and_false, false_and, or_self, or_true, true_or, or_false, false_or, not_true_eq_false, not_false_eq_true, ho, on1, on2]
        rw [f_X11_places_L4]
        rw [il_13, rd_lA _ _ (by omega) (by omega) (by omega), e13', h1]
        simp (disch := omega) only [↓bd_e, ↓jn_e, ↓opt_bind, ↓reduceIte, iLeT, iLeF, iLtT, iLtF, iEqT, iEqF, il_0, il_1, il_2, il_3, il_4, il_5, il_6, il_7, il_8, il_9, il_10, il_11, il_12, il_13, il_14, il_15, il_16, il_18, il_20, il_24, il_32, il_35, il_40, il_44, il_47, il_48, il_56, il_57, il_58, il_59, il_63, il_64, il_72, il_100, il_120, il_126, il_127, il_160, il_192, il_255, il_349, il_1748, il_6992, iI_add, iI_sub, iI_mul, iI_neg, iI_le, iI_lt, iI_eq, rd_lA, wr_lA, rd_lR, wr_lR, ite_iI, max_iI, min_iI, rem_iI, div_iI, ite_true, ite_false, if_true, if_false, ite_self, and_self, and_true, true_and, and_false, false_and, or_self, or_true, true_or, or_false, false_or, not_true_eq_false, not_false_eq_true]
        refine ⟨1, x, x', y', t', g', _, _, _, _, _, _, _, c1, c2', c3, c4, c5, c6, C1, C2, C3, C4, C5, C6, C7, C8, C9, C10, rfl, ?_, Or.inr ⟨rfl, ⟨rfl, rfl, rfl, rfl⟩, ⟨x0, by omega, by omega⟩, hon⟩⟩
        rw [if_pos rfl]
theorem x_choose {V : Int → Int} {S : Nat → Nat → Int32} {c d : Nat → Int → Int} (hs : vSet V) (hi : vImg V) (hp : vPlc V) (hb : ∀ j, 0 ≤ j → j < V 0 → vBl V c j) (hg : vGeo V c) (hr : sR V S) (hd : ∀ j, 0 ≤ j → j < V 0 → d 2 j = c 2 j ∧ d 3 j = c 3 j) {i : Int} (hi0 : 0 ≤ i ∧ i < V 0) (hc2 : 0 < c 2 i)
    {K N : Int → Int} (hK : spI V c K N) (F Pg X Y T f s b1 b2 b3 b4 b5 b6 : Int32) (A1 A2 A3 A4 A5 A6 A7 A8 A9 A10 : Nat → Int32) :
    plP V c i (f_X3_choose (lA K) (lA N) F Pg X Y T f s S (lA (d 2)) (lA (d 3)) (iI i)) (f_X11_places b1 b2 b3 b4 b5 b6 (lA V) (lA (c 2)) (lA (c 3)) A1 A2 A3 A4 A5 A6 A7 A8 A9 A10 (iI i)) := by
  have h3 : 1 ≤ V 3 ∧ V 3 ≤ 4 := by unfold vSet at hs; omega
  have h13 := hp.1
  have e13 : S 6 0 = iI (V 13) := hr.1.2
  have e3 : S 5 2 = iI (V 3) := hr.2.1 2 (by omega)
  unfold f_X3_choose f_X11_places
  obtain ⟨fu, hfu, hfu2⟩ := fuel_ex; rw [hfu]
  rw [e13, e3]
  simp only [jn_e]
  rw [il_0]
  refine x_pages hs hi hp hb hg hr hd hi0 hc2 hK ?_ ?_ hfu2 F Pg X Y T f s b1 b2 b3 b4 b5 b6 A1 A2 A3 A4 A5 A6 A7 A8 A9 A10
  · intro F Pg X Y T f s b1 b2 b3 b4 b5 b6 A1 A2 A3 A4 A5 A6 A7 A8 A9 A10
    rw [if_pos rfl, il_13, rd_lA _ _ (by omega) (by omega) (by omega)]
    by_cases hfull : V 3 ≤ V 13
    · refine ⟨0, 0, 0, 0, 0, 0, F, Pg, X, Y, T, f, s, b1, b2, b3, b4, b5, b6, A1, A2, A3, A4, A5, A6, A7, A8, A9, A10, ?_, ?_, Or.inl rfl⟩
      · simp (disch := omega) only [↓bd_e, ↓jn_e, ↓opt_bind, ↓reduceIte, iLeT, iLeF, iLtT, iLtF, iEqT, iEqF, il_0, il_1, il_2, il_3, il_4, il_5, il_6, il_7, il_8, il_9, il_10, il_11, il_12, il_13, il_14, il_15, il_16, il_18, il_20, il_24, il_32, il_35, il_40, il_44, il_47, il_48, il_56, il_57, il_58, il_59, il_63, il_64, il_72, il_100, il_120, il_126, il_127, il_160, il_192, il_255, il_349, il_1748, il_6992, iI_add, iI_sub, iI_mul, iI_neg, iI_le, iI_lt, iI_eq, rd_lA, wr_lA, rd_lR, wr_lR, ite_iI, max_iI, min_iI, rem_iI, div_iI, ite_true, ite_false, if_true, if_false, ite_self, and_self, and_true, true_and, and_false, false_and, or_self, or_true, true_or, or_false, false_or, not_true_eq_false, not_false_eq_true]
      · simp (disch := omega) only [↓bd_e, ↓jn_e, ↓opt_bind, ↓reduceIte, iLeT, iLeF, iLtT, iLtF, iEqT, iEqF, il_0, il_1, il_2, il_3, il_4, il_5, il_6, il_7, il_8, il_9, il_10, il_11, il_12, il_13, il_14, il_15, il_16, il_18, il_20, il_24, il_32, il_35, il_40, il_44, il_47, il_48, il_56, il_57, il_58, il_59, il_63, il_64, il_72, il_100, il_120, il_126, il_127, il_160, il_192, il_255, il_349, il_1748, il_6992, iI_add, iI_sub, iI_mul, iI_neg, iI_le, iI_lt, iI_eq, rd_lA, wr_lA, rd_lR, wr_lR, ite_iI, max_iI, min_iI, rem_iI, div_iI, ite_true, ite_false, if_true, if_false, ite_self, and_self, and_true, true_and, and_false, false_and, or_self, or_true, true_or, or_false, false_or, not_true_eq_false, not_false_eq_true]
        rw [z_iI _ (Or.inl rfl)]
    · have hno : ∀ s, ¬ onPg V (V 13) s := fun s ⟨s0, s1, s2⟩ => by have := hp.2.1 s s0 s1; omega
      obtain ⟨a, x', y', t', g', f', s', c1, c2', c3, c4, c5, c6, C1, C2, C3, C4, C5, C6, C7, C8, C9, C10, on1, on2, hon⟩ := x_on hs hi hp hb hg hr hd hi0 hc2 (p := V 13) (by omega) (K := fun _ => cd 0 0 (fldW V) (fldH V)) (N := fun _ => if 0 < fldW V ∧ 0 < fldH V then 1 else 0) (new_En hno) X Y T f s b4 b5 b6 A1 A2 A3 A4 A5 A6 A7 A8 A9 A10
      rw [← c_newPage hs hr (by omega)] at on1
      rcases hon with ha | ⟨ha, hon⟩
      · rw [ha] at on1 on2
        rw [if_neg (by omega)] at on2
        refine ⟨0, 0, 0, 0, 0, 0, iI 0, iI (V 13), iI x', iI y', iI t', f', s', c1, c2', c3, c4, c5, c6, C1, C2, C3, C4, C5, C6, C7, C8, C9, C10, ?_, ?_, Or.inl rfl⟩
        · simp (disch := omega) only [↓bd_e, ↓jn_e, ↓opt_bind, ↓reduceIte, iLeT, iLeF, iLtT, iLtF, iEqT, iEqF, il_0, il_1, il_2, il_3, il_4, il_5, il_6, il_7, il_8, il_9, il_10, il_11, il_12, il_13, il_14, il_15, il_16, il_18, il_20, il_24, il_32, il_35, il_40, il_44, il_47, il_48, il_56, il_57, il_58, il_59, il_63, il_64, il_72, il_100, il_120, il_126, il_127, il_160, il_192, il_255, il_349, il_1748, il_6992, iI_add, iI_sub, iI_mul, iI_neg, iI_le, iI_lt, iI_eq, rd_lA, wr_lA, rd_lR, wr_lR, ite_iI, max_iI, min_iI, rem_iI, div_iI, ite_true, ite_false, if_true, if_false, ite_self, and_self, and_true, true_and, and_false, false_and, or_self, or_true, true_or, or_false, false_or, not_true_eq_false, not_false_eq_true, on1]
        · simp (disch := omega) only [↓bd_e, ↓jn_e, ↓opt_bind, ↓reduceIte, iLeT, iLeF, iLtT, iLtF, iEqT, iEqF, il_0, il_1, il_2, il_3, il_4, il_5, il_6, il_7, il_8, il_9, il_10, il_11, il_12, il_13, il_14, il_15, il_16, il_18, il_20, il_24, il_32, il_35, il_40, il_44, il_47, il_48, il_56, il_57, il_58, il_59, il_63, il_64, il_72, il_100, il_120, il_126, il_127, il_160, il_192, il_255, il_349, il_1748, il_6992, iI_add, iI_sub, iI_mul, iI_neg, iI_le, iI_lt, iI_eq, rd_lA, wr_lA, rd_lR, wr_lR, ite_iI, max_iI, min_iI, rem_iI, div_iI, ite_true, ite_false, if_true, if_false, ite_self, and_self, and_true, true_and, and_false, false_and, or_self, or_true, true_or, or_false, false_or, not_true_eq_false, not_false_eq_true, on2]
          rw [z_iI _ (Or.inl rfl), show uI V 13 (V 13 + 0) = V from funext fun z => by unfold uI; split; (next e => rw [e]; omega); rfl]
      · rw [ha] at on1 on2
        rw [if_pos rfl] at on2
        have e13' : vPut V i (V 13) g' x' y' t' 13 = V 13 := vPut_13 hi0.1 h13.1
        refine ⟨1, V 13, x', y', t', g', iI 1, iI (V 13), iI x', iI y', iI t', f', s', c1, c2', c3, c4, c5, c6, C1, C2, C3, C4, C5, C6, C7, C8, C9, C10, ?_, ?_, Or.inr ⟨rfl, ⟨rfl, rfl, rfl, rfl⟩, ⟨h13.1, by omega, by omega⟩, hon⟩⟩
        · simp (disch := omega) only [↓bd_e, ↓jn_e, ↓opt_bind, ↓reduceIte, iLeT, iLeF, iLtT, iLtF, iEqT, iEqF, il_0, il_1, il_2, il_3, il_4, il_5, il_6, il_7, il_8, il_9, il_10, il_11, il_12, il_13, il_14, il_15, il_16, il_18, il_20, il_24, il_32, il_35, il_40, il_44, il_47, il_48, il_56, il_57, il_58, il_59, il_63, il_64, il_72, il_100, il_120, il_126, il_127, il_160, il_192, il_255, il_349, il_1748, il_6992, iI_add, iI_sub, iI_mul, iI_neg, iI_le, iI_lt, iI_eq, rd_lA, wr_lA, rd_lR, wr_lR, ite_iI, max_iI, min_iI, rem_iI, div_iI, ite_true, ite_false, if_true, if_false, ite_self, and_self, and_true, true_and, and_false, false_and, or_self, or_true, true_or, or_false, false_or, not_true_eq_false, not_false_eq_true, on1]
        · simp (disch := omega) only [↓bd_e, ↓jn_e, ↓opt_bind, ↓reduceIte, iLeT, iLeF, iLtT, iLtF, iEqT, iEqF, il_0, il_1, il_2, il_3, il_4, il_5, il_6, il_7, il_8, il_9, il_10, il_11, il_12, il_13, il_14, il_15, il_16, il_18, il_20, il_24, il_32, il_35, il_40, il_44, il_47, il_48, il_56, il_57, il_58, il_59, il_63, il_64, il_72, il_100, il_120, il_126, il_127, il_160, il_192, il_255, il_349, il_1748, il_6992, iI_add, iI_sub, iI_mul, iI_neg, iI_le, iI_lt, iI_eq, rd_lA, wr_lA, rd_lR, wr_lR, ite_iI, max_iI, min_iI, rem_iI, div_iI, ite_true, ite_false, if_true, if_false, ite_self, and_self, and_true, true_and, and_false, false_and, or_self, or_true, true_or, or_false, false_or, not_true_eq_false, not_false_eq_true, on2, e13']
          rw [z_iI _ (Or.inr rfl)]
          unfold vPl
          rw [show max (V 13) (V 13 + 1) = V 13 + 1 by omega]
  · intro b1 b2 b3 b4 b5 b6 A0 A1 A2 A3 A4 A5 A6 A7 A8 A9 A10
    rw [if_neg (by decide +kernel : ¬ iI 1 = iI 0), z_iI _ (Or.inr rfl)]
