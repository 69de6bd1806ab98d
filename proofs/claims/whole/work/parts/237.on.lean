/-! a place on one page -/
def vPut (V : Int → Int) (i p g x y t : Int) : Int → Int := uI (uI (uI (uI (uI V (14 + p) g) (20 + 72 * i + 3) p) (20 + 72 * i + 4) x) (20 + 72 * i + 5) y) (20 + 72 * i + 6) t
def vFit (V : Int → Int) (c : Nat → Int → Int) (i p x y t : Int) : Prop := (t = 0 ∨ t = 1) ∧ (0 ≤ x ∧ x + bxW V c i t ≤ fldW V) ∧ (0 ≤ y ∧ y + bxH V c i t ≤ fldH V) ∧ ∀ u v, x ≤ u → u < x + bxW V c i t → y ≤ v → v < y + bxH V c i t → ¬ blk V c p u v
def grOf (V : Int → Int) (i p g : Int) : Prop := ((∃ s, onPg V p s) → g = V (14 + p)) ∧ ((∀ s, ¬ onPg V p s) → g = V (20 + 72 * i + 2))
def onP (V : Int → Int) (c : Nat → Int → Int) (i p : Int) (o1 : Option (Int32 × Int32 × Int32 × Int32 × Int32 × Int32 × Int32 × Int32)) (o2 : Option (Int32 × Int32 × Int32 × Int32 × Int32 × Int32 × Int32 × (Nat → Int32) × (Nat → Int32) × (Nat → Int32) × (Nat → Int32) × (Nat → Int32) × (Nat → Int32) × (Nat → Int32) × (Nat → Int32) × (Nat → Int32) × (Nat → Int32) × (Nat → Int32))) : Prop :=
  ∃ (a x y t g : Int) (f s b1 b2 b3 b4 b5 b6 : Int32) (A1 A2 A3 A4 A5 A6 A7 A8 A9 A10 : Nat → Int32), o1 = some (iI a, iI a, iI p, iI x, iI y, iI t, f, s) ∧ o2 = some (iI a, b1, b2, b3, b4, b5, b6, lA (if a = 1 then vPut V i p g x y t else V), A1, A2, A3, A4, A5, A6, A7, A8, A9, A10) ∧ (a = 0 ∨ (a = 1 ∧ vFit V c i p x y t ∧ grOf V i p g))
theorem x_on {V : Int → Int} {S : Nat → Nat → Int32} {c d : Nat → Int → Int} (hs : vSet V) (hi : vImg V) (hp : vPlc V) (hb : ∀ j, 0 ≤ j → j < V 0 → vBl V c j) (hg : vGeo V c) (hr : sR V S) (hd : ∀ j, 0 ≤ j → j < V 0 → d 2 j = c 2 j ∧ d 3 j = c 3 j) {i p : Int} (hi0 : 0 ≤ i ∧ i < V 0) (hc2 : 0 < c 2 i) (hp0 : 0 ≤ p ∧ p < 4)
    {K N : Int → Int} (hK : En (N p) (fun k => K (p * 349 + k)) (rS (mxR (fldW V) (fldH V) (blk V c p)))) (x0 y0 t0 f0 s0 bt bf bs : Int32) (A1 A2 A3 A4 A5 A6 A7 A8 A9 A10 : Nat → Int32) :
    onP V c i p (f_X3_chooseOn (lA K) (lA N) x0 y0 t0 f0 s0 S (lA (d 2)) (lA (d 3)) (iI p) (iI i)) (f_X11_placesOn bt bf bs (lA V) (lA (c 2)) (lA (c 3)) A1 A2 A3 A4 A5 A6 A7 A8 A9 A10 (iI p) (iI i)) := by
  obtain ⟨m, X, Y, W, H, nf, FX, FY, FW, FH, bg, en, e1, hbx, hfr⟩ := m_freesOf hs hi hp hb hg (p := p) (by omega) (fun z => (A1 z.toNat).toInt) (fun z => (A2 z.toNat).toInt) (fun z => (A3 z.toNat).toInt) (fun z => (A4 z.toNat).toInt) (fun z => (A5 z.toNat).toInt) (fun z => (A6 z.toNat).toInt) (fun z => (A7 z.toNat).toInt) (fun z => (A8 z.toNat).toInt) (fun z => (A9 z.toNat).toInt) (fun z => (A10 z.toNat).toInt)
  rw [← lA_of, ← lA_of, ← lA_of, ← lA_of, ← lA_of, ← lA_of, ← lA_of, ← lA_of, ← lA_of, ← lA_of] at e1
  obtain ⟨hn, hKe⟩ := En_uniq hK hfr.1
  have h349 := mx_count hs hi hb hg hp0.1 hfr.1 (fun z hz => hz)
  have hn24 : V 0 ≤ 24 := hi.1.2
  obtain ⟨-, ⟨k1, k2, k3, k4, k5, k6⟩, -⟩ := (hb i hi0.1 hi0.2).resolve_left (by omega)
  have hw : 1 ≤ c 2 i ∧ c 2 i ≤ 8 := by have := hi.2.1 i hi0.1 hi0.2; omega
  have hh : 1 ≤ c 3 i ∧ c 3 i ≤ 8 := by have := hi.2.1 i hi0.1 hi0.2; omega
  have hWH : fldW V ≤ 35 ∧ fldH V ≤ 35 := by
    unfold vSet at hs
    unfold fldW fldH
    omega
  have hm0 := hbx.1
  have hgr := (hi.2.1 i hi0.1 hi0.2).2.2
  have hpg := hp.2.2 p hp0.1 hp0.2
  have hempty : (m = 0 ∧ ∀ s, ¬ onPg V p s) ∨ (0 < m ∧ ∃ s, onPg V p s) := by
    by_cases e : m = 0
    · refine Or.inl ⟨e, fun s h => ?_⟩
      obtain ⟨k, k0, k1, -⟩ := hbx.2.2.1 s h h.2.1
      omega
    · refine Or.inr ⟨by omega, ?_⟩
      obtain ⟨s, h, -⟩ := hbx.2.1 0 (by omega) (by omega)
      exact ⟨s, h⟩
  unfold f_X3_chooseOn f_X11_placesOn f_X1_startOn
  rw [e1, opt_bind]
  obtain ⟨fu, hfu, hfu2⟩ := fuel_ex; rw [hfu]
  simp only [bd_e, jn_e]
  rw [il_0, show (-1 : Int32) = iI (-1) by decide +kernel, iI_of x0, iI_of y0, iI_of t0, iI_of f0, iI_of s0, iI_of bt, iI_of bf, iI_of bs]
  have hrg : ∀ z : Int32, -2147483648 ≤ z.toInt ∧ z.toInt < 2147483648 := fun z => ⟨Int32.le_toInt z, Int32.toInt_lt z⟩
  refine ch_loop (P := fun o => onP V c i p o.1 o.2) hs hr.2.1 ⟨hi0.1, by omega⟩ (hd i hi0.1 hi0.2) hw hh (by omega) hfr hp0 hn (fun j j0 j1 => hKe j j0 (by omega)) h349 ?_ hfu2 ⟨⟨hrg _, hrg _, hrg _, hrg _⟩, Or.inl ⟨rfl, rfl⟩⟩
  intro a x y t f s k tm fm sm hch
  show onP V c i p _ _
  obtain ⟨-, hch⟩ := hch
  rcases hch with ⟨rfl, rfl⟩ | ⟨rfl, ⟨q1, q2⟩, rfl, rfl, rfl, rfl, rfl, ht, hbw, hbh⟩
  · refine ⟨0, x, y, t, 0, iI f, iI s, iI m, iI nf, iI (-1), iI tm, iI fm, iI sm, lA X, lA Y, lA W, lA H, lA FX, lA FY, lA FW, lA FH, lA bg, lA en, z_iI _ (Or.inl rfl), ?_, Or.inl rfl⟩
    simp only [il_0]
    rw [if_neg (by decide +kernel : ¬ iI 0 ≤ iI (-1)), if_neg (by omega : ¬ (0 : Int) = 1)]
  · obtain ⟨r1, r2, r3, r4, r5, r6, r7, r8⟩ := hfr.2 k q1 q2
    have hmx := rS_cd hWH.1 hWH.2 ⟨r1, r2⟩ (by omega) (by omega) (hfr.1.2.2.1 k q1 q2)
    obtain ⟨hb2, hh2⟩ := bx_r hs hw hh t
    obtain ⟨m1, m2, -⟩ := hmx
    refine ⟨1, FX k, FY k, t, if m = 0 then V (20 + 72 * i + 2) else V (14 + p), iI f, iI s, iI m, iI nf, iI k, iI t, iI f, iI s, lA X, lA Y, lA W, lA H, lA FX, lA FY, lA FW, lA FH, lA bg, lA en, z_iI _ (Or.inr rfl), ?_, Or.inr ⟨rfl, ⟨ht, ⟨by omega, by omega⟩, ⟨by omega, by omega⟩, fun u v u1 u2 v1 v2 => m2 u v u1 (by omega) v1 (by omega)⟩, fun h => ?_, fun h => ?_⟩⟩
    · unfold f_X11_at vPut
      rcases hempty with ⟨hm, hno⟩ | ⟨hm, hex⟩
      · simp (disch := omega) only [↓bd_e, ↓jn_e, ↓opt_bind, ↓reduceIte, iLeT, iLeF, iLtT, iLtF, iEqT, iEqF, il_0, il_1, il_2, il_3, il_4, il_5, il_6, il_7, il_8, il_9, il_10, il_11, il_12, il_13, il_14, il_15, il_16, il_18, il_20, il_24, il_32, il_35, il_40, il_44, il_47, il_48, il_56, il_57, il_58, il_59, il_63, il_64, il_72, il_100, il_120, il_126, il_127, il_160, il_192, il_255, il_349, il_1748, il_6992, iI_add, iI_sub, iI_mul, iI_neg, iI_le, iI_lt, iI_eq, rd_lA, wr_lA, rd_lR, wr_lR, ite_iI, max_iI, min_iI, rem_iI, div_iI, ite_true, ite_false, if_true, if_false, ite_self, and_self, and_true, true_and, and_false, false_and, or_self, or_true, true_or, or_false, false_or, not_true_eq_false, not_false_eq_true, hm]
      · simp (disch := omega) only [↓bd_e, ↓jn_e, ↓opt_bind, ↓reduceIte, iLeT, iLeF, iLtT, iLtF, iEqT, iEqF, il_0, il_1, il_2, il_3, il_4, il_5, il_6, il_7, il_8, il_9, il_10, il_11, il_12, il_13, il_14, il_15, il_16, il_18, il_20, il_24, il_32, il_35, il_40, il_44, il_47, il_48, il_56, il_57, il_58, il_59, il_63, il_64, il_72, il_100, il_120, il_126, il_127, il_160, il_192, il_255, il_349, il_1748, il_6992, iI_add, iI_sub, iI_mul, iI_neg, iI_le, iI_lt, iI_eq, rd_lA, wr_lA, rd_lR, wr_lR, ite_iI, max_iI, min_iI, rem_iI, div_iI, ite_true, ite_false, if_true, if_false, ite_self, and_self, and_true, true_and, and_false, false_and, or_self, or_true, true_or, or_false, false_or, not_true_eq_false, not_false_eq_true]
        rw [show uI V (14 + p) (V (14 + p)) = V from funext fun z => by unfold uI; split; (next e => rw [e]); rfl]
    · rw [if_neg]
      rcases hempty with ⟨hm, hno⟩ | ⟨hm, hex⟩
      · obtain ⟨s, hs⟩ := h
        exact absurd hs (hno s)
      · omega
    · rw [if_pos]
      rcases hempty with ⟨hm, hno⟩ | ⟨hm, ⟨s, hs⟩⟩
      · exact hm
      · exact absurd hs (h s)
