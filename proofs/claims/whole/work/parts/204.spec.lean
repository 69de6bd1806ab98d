/-! what a state is, in words of the reference's vector V; c: what follows of its images (left, top, width, height, original, orientation) -/
def vSet (V : Int → Int) : Prop := (4 ≤ V 1 ∧ V 1 ≤ 32 ∧ 4 ≤ V 2 ∧ V 2 ≤ 32 ∧ 1 ≤ V 3 ∧ V 3 ≤ 4 ∧ 0 ≤ V 4 ∧ V 4 ≤ 3 ∧ 0 ≤ V 5 ∧ V 5 ≤ 3 ∧ 0 ≤ V 6 ∧ V 6 ≤ 2) ∧ (0 ≤ V 7 ∧ V 7 ≤ 1 ∧ 0 ≤ V 8 ∧ V 8 ≤ 3 ∧ 0 ≤ V 9 ∧ V 9 ≤ 1 ∧ 0 ≤ V 10 ∧ V 10 ≤ 1 ∧ 0 ≤ V 11 ∧ V 11 ≤ 3 ∧ 0 ≤ V 12 ∧ V 12 ≤ 3)
def vImg (V : Int → Int) : Prop := (0 ≤ V 0 ∧ V 0 ≤ 24) ∧ (∀ s, 0 ≤ s → s < V 0 → 1 ≤ V (20 + 72 * s + 0) ∧ V (20 + 72 * s + 0) ≤ 8 ∧ 1 ≤ V (20 + 72 * s + 1) ∧ V (20 + 72 * s + 1) ≤ 8 ∧ 0 ≤ V (20 + 72 * s + 2) ∧ V (20 + 72 * s + 2) ≤ 3) ∧ (∀ s x y, 0 ≤ s → s < V 0 → 0 ≤ x → x < 8 → 0 ≤ y → y < 8 → 0 ≤ V (20 + 72 * s + 8 + 8 * y + x) ∧ V (20 + 72 * s + 8 + 8 * y + x) ≤ 9)
def vPlc (V : Int → Int) : Prop := (0 ≤ V 13 ∧ V 13 ≤ V 3) ∧ (∀ s, 0 ≤ s → s < V 0 → -1 ≤ V (20 + 72 * s + 3) ∧ V (20 + 72 * s + 3) < V 13) ∧ (∀ p, 0 ≤ p → p < 4 → 0 ≤ V (14 + p) ∧ V (14 + p) ≤ 3)
def nzp (V : Int → Int) (s x y : Int) : Prop := V (20 + 72 * s + 8 + 8 * y + x) ≠ 0 ∨ V 7 = 0
def vTrim (V : Int → Int) (s l t w h : Int) : Prop :=
  (w = 0 ∧ h = 0 ∧ ∀ x y, 0 ≤ x → x < V (20 + 72 * s + 0) → 0 ≤ y → y < V (20 + 72 * s + 1) → ¬ nzp V s x y) ∨
  ((0 ≤ l ∧ l + w ≤ V (20 + 72 * s + 0) ∧ 0 ≤ t ∧ t + h ≤ V (20 + 72 * s + 1) ∧ 0 < w ∧ 0 < h) ∧ (∀ x y, 0 ≤ x → x < V (20 + 72 * s + 0) → 0 ≤ y → y < V (20 + 72 * s + 1) → nzp V s x y → l ≤ x ∧ x < l + w ∧ t ≤ y ∧ y < t + h) ∧
    (∃ y, 0 ≤ y ∧ y < V (20 + 72 * s + 1) ∧ nzp V s l y) ∧ (∃ y, 0 ≤ y ∧ y < V (20 + 72 * s + 1) ∧ nzp V s (l + w - 1) y) ∧ (∃ x, 0 ≤ x ∧ x < V (20 + 72 * s + 0) ∧ nzp V s x t) ∧ (∃ x, 0 ≤ x ∧ x < V (20 + 72 * s + 0) ∧ nzp V s x (t + h - 1)))
theorem vTrim_uniq {V : Int → Int} {s l t w h l' t' w' h' : Int} (a : vTrim V s l t w h) (b : vTrim V s l' t' w' h') : w = w' ∧ h = h' ∧ (0 < w → l = l' ∧ t = t') := by
  rcases a with ⟨rfl, rfl, a⟩ | ⟨⟨a1, a2, a3, a4, a5, a6⟩, a7, ⟨ya, ya1, ya2, ya3⟩, ⟨yb, yb1, yb2, yb3⟩, ⟨xa, xa1, xa2, xa3⟩, ⟨xb, xb1, xb2, xb3⟩⟩
  · rcases b with ⟨rfl, rfl, b⟩ | ⟨⟨b1, b2, b3, b4, b5, b6⟩, b7, ⟨y, y1, y2, y3⟩, -⟩
    · exact ⟨rfl, rfl, fun h => by omega⟩
    · exact absurd y3 (a l' y b1 (by omega) y1 y2)
  · rcases b with ⟨rfl, rfl, b⟩ | ⟨⟨b1, b2, b3, b4, b5, b6⟩, b7, ⟨yc, yc1, yc2, yc3⟩, ⟨yd, yd1, yd2, yd3⟩, ⟨xc, xc1, xc2, xc3⟩, ⟨xd, xd1, xd2, xd3⟩⟩
    · exact absurd ya3 (b l ya a1 (by omega) ya1 ya2)
    · have e1 := b7 l ya (by omega) (by omega) ya1 ya2 ya3
      have e2 := b7 (l + w - 1) yb (by omega) (by omega) yb1 yb2 yb3
      have e3 := b7 xa t xa1 xa2 (by omega) (by omega) xa3
      have e4 := b7 xb (t + h - 1) xb1 xb2 (by omega) (by omega) xb3
      have f1 := a7 l' yc (by omega) (by omega) yc1 yc2 yc3
      have f2 := a7 (l' + w' - 1) yd (by omega) (by omega) yd1 yd2 yd3
      have f3 := a7 xc t' xc1 xc2 (by omega) (by omega) xc3
      have f4 := a7 xd (t' + h' - 1) xd1 xd2 (by omega) (by omega) xd3
      exact ⟨by omega, by omega, fun _ => ⟨by omega, by omega⟩⟩
/-- where a pixel of orientation q of an image of w times h comes from -/
def bCol (q w h x y : Int) : Int := if q % 4 = 1 then y else if q % 4 = 2 then w - 1 - x else if q % 4 = 3 then w - 1 - y else x
def bX (q w h x y : Int) : Int := if q < 4 then bCol q w h x y else w - 1 - bCol q w h x y
def bY (q w h x y : Int) : Int := if q % 4 = 1 then h - 1 - x else if q % 4 = 2 then h - 1 - y else if q % 4 = 3 then x else y
def vLike (V : Int → Int) (c : Nat → Int → Int) (s o q : Int) : Prop :=
  c 2 s = (if q % 2 = 1 then c 3 o else c 2 o) ∧ c 3 s = (if q % 2 = 1 then c 2 o else c 3 o) ∧
  ∀ x y, 0 ≤ x → x < c 2 s → 0 ≤ y → y < c 3 s → V (20 + 72 * s + 8 + 8 * (c 1 s + y) + (c 0 s + x)) = V (20 + 72 * o + 8 + 8 * (c 1 o + bY q (c 2 o) (c 3 o) x y) + (c 0 o + bX q (c 2 o) (c 3 o) x y))
def vLim (V : Int → Int) : Int := if V 8 = 3 then 8 else if V 8 = 2 then 4 else V 8
def vCp (V : Int → Int) (c : Nat → Int → Int) (s o q : Int) : Prop := 0 ≤ o ∧ o < s ∧ 0 ≤ q ∧ q < vLim V ∧ 0 < c 2 o ∧ c 4 o = -1 ∧ vLike V c s o q
def vOrig (V : Int → Int) (c : Nat → Int → Int) (s : Int) : Prop :=
  (0 < c 2 s ∧ vCp V c s (c 4 s) (c 5 s) ∧ ∀ o q, vCp V c s o q → c 4 s < o ∨ (o = c 4 s ∧ c 5 s ≤ q)) ∨ (c 4 s = -1 ∧ (0 < c 2 s → ∀ o q, ¬ vCp V c s o q))
def vCat (V : Int → Int) (c : Nat → Int → Int) : Prop := ∀ s, 0 ≤ s → s < V 0 → vTrim V s (c 0 s) (c 1 s) (c 2 s) (c 3 s) ∧ vOrig V c s
/-- what of two such tables is alike for the sprites below n -/
def cEq (n : Int) (c c' : Nat → Int → Int) : Prop := ∀ s, 0 ≤ s → s < n → c 2 s = c' 2 s ∧ c 3 s = c' 3 s ∧ (0 < c 2 s → c 0 s = c' 0 s ∧ c 1 s = c' 1 s) ∧ c 4 s = c' 4 s ∧ (c 4 s ≠ -1 → c 5 s = c' 5 s)
def bxW (V : Int → Int) (c : Nat → Int → Int) (s t : Int) : Int := (if t = 1 then c 3 s else c 2 s) + 2 * V 6 + V 4
def bxH (V : Int → Int) (c : Nat → Int → Int) (s t : Int) : Int := (if t = 1 then c 2 s else c 3 s) + 2 * V 6 + V 4
def fldW (V : Int → Int) : Int := V 1 - 2 * V 5 + V 4
def fldH (V : Int → Int) : Int := V 2 - 2 * V 5 + V 4
def vGeo (V : Int → Int) (c : Nat → Int → Int) : Prop :=
  (∀ s, 0 ≤ s → s < V 0 → 0 ≤ V (20 + 72 * s + 3) → (c 4 s = -1 ∧ 0 < c 2 s) ∧ (V (20 + 72 * s + 6) = 0 ∨ V (20 + 72 * s + 6) = 1) ∧ 0 ≤ V (20 + 72 * s + 4) ∧ V (20 + 72 * s + 4) + bxW V c s (V (20 + 72 * s + 6)) ≤ fldW V ∧ 0 ≤ V (20 + 72 * s + 5) ∧ V (20 + 72 * s + 5) + bxH V c s (V (20 + 72 * s + 6)) ≤ fldH V) ∧
  (∀ s s', 0 ≤ s → s < s' → s' < V 0 → 0 ≤ V (20 + 72 * s + 3) → V (20 + 72 * s + 3) = V (20 + 72 * s' + 3) → V (20 + 72 * s + 4) + bxW V c s (V (20 + 72 * s + 6)) ≤ V (20 + 72 * s' + 4) ∨ V (20 + 72 * s' + 4) + bxW V c s' (V (20 + 72 * s' + 6)) ≤ V (20 + 72 * s + 4) ∨ V (20 + 72 * s + 5) + bxH V c s (V (20 + 72 * s + 6)) ≤ V (20 + 72 * s' + 5) ∨ V (20 + 72 * s' + 5) + bxH V c s' (V (20 + 72 * s' + 6)) ≤ V (20 + 72 * s + 5))
theorem vLike_congr {V : Int → Int} {c c' : Nat → Int → Int} {n s o q : Int} (h : cEq n c c') (hs : 0 ≤ s) (hsn : s < n) (ho : 0 ≤ o) (hon : o < n) (hp : 0 < c 2 s) (hpo : 0 < c 2 o) : vLike V c s o q ↔ vLike V c' s o q := by
  obtain ⟨s1, s2, s3, -, -⟩ := h s hs hsn
  obtain ⟨o1, o2, o3, -, -⟩ := h o ho hon
  obtain ⟨s3, s4⟩ := s3 hp
  obtain ⟨o3, o4⟩ := o3 hpo
  unfold vLike
  rw [s1, s2, s3, s4, o1, o2, o3, o4]
theorem vCp_congr {V : Int → Int} {c c' : Nat → Int → Int} {n s o q : Int} (h : cEq n c c') (hs : 0 ≤ s) (hsn : s < n) (hp : 0 < c 2 s) : vCp V c s o q ↔ vCp V c' s o q := by
  unfold vCp
  constructor
  · rintro ⟨h1, h2, h3, h4, h5, h6, h7⟩
    have e := h o h1 (by omega)
    exact ⟨h1, h2, h3, h4, by omega, by omega, (vLike_congr h hs hsn h1 (by omega) hp h5).mp h7⟩
  · rintro ⟨h1, h2, h3, h4, h5, h6, h7⟩
    have e := h o h1 (by omega)
    exact ⟨h1, h2, h3, h4, by omega, by omega, (vLike_congr h hs hsn h1 (by omega) hp (by omega)).mpr h7⟩
theorem vCat_uniq {V : Int → Int} {c c' : Nat → Int → Int} (a : vCat V c) (b : vCat V c') : cEq (V 0) c c' := by
  have key : ∀ n : Nat, (n : Int) ≤ V 0 → cEq n c c' := by
    intro n
    induction n with
    | zero => exact fun _ s h1 h2 => by omega
    | succ n ih =>
      intro hn s h1 h2
      have ih := ih (by omega)
      by_cases hs : s < n
      · exact ih s h1 hs
      · obtain rfl : s = n := by omega
        obtain ⟨a1, a2⟩ := a n h1 (by omega)
        obtain ⟨b1, b2⟩ := b n h1 (by omega)
        obtain ⟨e1, e2, e3⟩ := vTrim_uniq a1 b1
        by_cases hw : 0 < c 2 n
        · have hq : ∀ o q, vCp V c n o q ↔ vCp V c' n o q := by
            intro o q
            have h' : cEq (n + 1) c (fun k j => if j = n then (if k < 4 then c' k j else c k j) else c' k j) := by
              intro s h1 h2
              by_cases hs : s = n
              · subst hs
                simp only [if_true]
                exact ⟨e1, e2, e3, rfl, fun _ => rfl⟩
              · simp only [if_neg hs]
                exact ih s h1 (by omega)
            have h3 := vCp_congr (V := V) (s := n) (o := o) (q := q) h' h1 (by omega) hw
            rw [h3]
            unfold vCp vLike
            constructor
            · rintro ⟨g1, g2, g3, g4, g5, g6, g7⟩
              simp only [if_neg (show ¬ o = (n : Int) by omega)] at g5 g6
              simp only [if_neg (show ¬ o = (n : Int) by omega), if_true] at g7
              exact ⟨g1, g2, g3, g4, g5, g6, g7⟩
            · rintro ⟨g1, g2, g3, g4, g5, g6, g7⟩
              refine ⟨g1, g2, g3, g4, ?_, ?_, ?_⟩
              · simp only [if_neg (show ¬ o = (n : Int) by omega)]; exact g5
              · simp only [if_neg (show ¬ o = (n : Int) by omega)]; exact g6
              · simp only [if_neg (show ¬ o = (n : Int) by omega), if_true]
                exact g7
          refine ⟨e1, e2, e3, ?_⟩
          rcases a2 with ⟨p1, p2, p3⟩ | ⟨p1, p2⟩
          · rcases b2 with ⟨r1, r2, r3⟩ | ⟨r1, r2⟩
            · have t1 := p3 _ _ ((hq _ _).mpr r2)
              have t2 := r3 _ _ ((hq _ _).mp p2)
              exact ⟨by omega, fun _ => by omega⟩
            · exact absurd ((hq _ _).mp p2) (r2 (by omega) _ _)
          · rcases b2 with ⟨r1, r2, r3⟩ | ⟨r1, r2⟩
            · exact absurd ((hq _ _).mpr r2) (p2 hw _ _)
            · exact ⟨by omega, fun h => absurd p1 h⟩
        · refine ⟨e1, e2, e3, ?_⟩
          rcases a2 with ⟨p1, -⟩ | ⟨p1, -⟩
          · omega
          · rcases b2 with ⟨r1, -⟩ | ⟨r1, -⟩
            · omega
            · exact ⟨by omega, fun h => absurd p1 h⟩
  intro s h1 h2
  exact key (s + 1).toNat (by omega) s h1 (by omega)
/-! began as kit/laws/BITS, the family bt -/
def bt (x : Int32) (i : Nat) : Bool := x.toBitVec.getLsbD i
theorem bt_ext {x y : Int32} (h : ∀ i, i < 32 → bt x i = bt y i) : x = y := Int32.toBitVec_inj.mp (BitVec.eq_of_getLsbD_eq (fun i hi => h i hi))
theorem bt_or (x y : Int32) (i : Nat) : bt (x ||| y) i = (bt x i || bt y i) := by unfold bt; rw [Int32.toBitVec_or, BitVec.getLsbD_or]
theorem bt_and (x y : Int32) (i : Nat) : bt (x &&& y) i = (bt x i && bt y i) := by unfold bt; rw [Int32.toBitVec_and, BitVec.getLsbD_and]
theorem bt_xor (x y : Int32) (i : Nat) : bt (x ^^^ y) i = (bt x i ^^ bt y i) := by unfold bt; rw [Int32.toBitVec_xor, BitVec.getLsbD_xor]
theorem bt_big {x : Int32} {i : Nat} (h : 32 ≤ i) : bt x i = false := BitVec.getLsbD_of_ge _ _ h
theorem bt_255 (i : Nat) : bt 255 i = decide (i < 8) := by
  rcases Nat.lt_or_ge i 32 with h | h
  · exact (by decide +kernel : ∀ i, i < 32 → bt 255 i = decide (i < 8)) i h
  · rw [bt_big h, decide_eq_false (by omega)]
theorem bt_65535 (i : Nat) : bt 65535 i = decide (i < 16) := by
  rcases Nat.lt_or_ge i 32 with h | h
  · exact (by decide +kernel : ∀ i, i < 32 → bt 65535 i = decide (i < 16)) i h
  · rw [bt_big h, decide_eq_false (by omega)]
theorem bt_m1 : ∀ i, i < 32 → bt (-1) i = true := by decide +kernel
theorem bt_0 (i : Nat) : bt 0 i = false := BitVec.getLsbD_zero
theorem bt_sl : ∀ n, n < 32 → ((nI n &&& 31).toBitVec.smod 32).toNat = n := by decide +kernel
theorem bt_su : ∀ n, n < 32 → (((nI n).toUInt32 &&& Int32.toUInt32 31).toBitVec % 32).toNat = n := by decide +kernel
theorem bt_shl (n : Nat) (hn : n < 32) (x : Int32) {i : Nat} (hi : i < 32) : bt (x <<< (nI n &&& 31)) i = (decide (n ≤ i) && bt x (i - n)) := by
  unfold bt
  rw [Int32.toBitVec_shiftLeft]
  show (x.toBitVec <<< ((nI n &&& 31).toBitVec.smod 32).toNat).getLsbD i = _
  rw [bt_sl n hn, BitVec.getLsbD_shiftLeft]
  rcases Nat.lt_or_ge i n with h | h
  · simp [h, Nat.not_le.mpr h]
  · simp [hi, h, Nat.not_lt.mpr h]
theorem bt_ushr (n : Nat) (hn : n < 32) (x : Int32) (i : Nat) : bt ((x.toUInt32 >>> ((nI n).toUInt32 &&& Int32.toUInt32 31)).toInt32) i = bt x (n + i) := by
  show (x.toUInt32 >>> ((nI n).toUInt32 &&& Int32.toUInt32 31)).toBitVec.getLsbD i = x.toUInt32.toBitVec.getLsbD (n + i)
  rw [UInt32.toBitVec_shiftRight]
  show (x.toUInt32.toBitVec >>> (((nI n).toUInt32 &&& Int32.toUInt32 31).toBitVec % 32).toNat).getLsbD i = _
  rw [bt_su n hn, BitVec.getLsbD_ushiftRight]
theorem bt_sshr (n : Nat) (hn : n < 32) (x : Int32) {i : Nat} (hi : i < 32) : bt (x >>> (nI n &&& 31)) i = if n + i < 32 then bt x (n + i) else bt x 31 := by
  unfold bt
  rw [Int32.toBitVec_shiftRight]
  show (x.toBitVec.sshiftRight ((nI n &&& 31).toBitVec.smod 32).toNat).getLsbD i = _
  rw [bt_sl n hn, BitVec.getLsbD_sshiftRight, BitVec.msb_eq_getLsbD_last]
  simp [hi]
theorem bt_shl8 (x : Int32) {i : Nat} (hi : i < 32) : bt (x <<< ((8 : Int32) &&& 31)) i = (decide (8 ≤ i) && bt x (i - 8)) := bt_shl 8 (by omega) x hi
theorem bt_shl16 (x : Int32) {i : Nat} (hi : i < 32) : bt (x <<< ((16 : Int32) &&& 31)) i = (decide (16 ≤ i) && bt x (i - 16)) := bt_shl 16 (by omega) x hi
theorem bt_shl24 (x : Int32) {i : Nat} (hi : i < 32) : bt (x <<< ((24 : Int32) &&& 31)) i = (decide (24 ≤ i) && bt x (i - 24)) := bt_shl 24 (by omega) x hi
theorem bt_sshr8 (x : Int32) {i : Nat} (hi : i < 32) : bt (x >>> ((8 : Int32) &&& 31)) i = if 8 + i < 32 then bt x (8 + i) else bt x 31 := bt_sshr 8 (by omega) x hi
/-! a row of an image: four bits a pixel -/
def nib (r : Int32) (x : Int) : Int32 := g_ushr r (iI (4 * x)) &&& 15
theorem bt_15 (i : Nat) : bt 15 i = decide (i < 4) := by
  rcases Nat.lt_or_ge i 32 with h | h
  · exact (by decide +kernel : ∀ i, i < 32 → bt 15 i = decide (i < 4)) i h
  · rw [bt_big h, decide_eq_false (by omega)]
theorem iI_nI (n : Nat) : iI (n : Int) = nI n := Int32.ofInt_eq_ofNat
theorem nib_bt (r : Int32) {k : Nat} (hk : k < 8) (i : Nat) : bt (nib r k) i = (decide (i < 4) && bt r (4 * k + i)) := by
  unfold nib g_ushr
  rw [bt_and, bt_15, show 4 * (k : Int) = ((4 * k : Nat) : Int) by omega, iI_nI, bt_ushr (4 * k) (by omega), Bool.and_comm]
theorem nib_zk (r : Int32) {k : Nat} (hk : k < 8) : nib r k = 0 ↔ ∀ i, i < 4 → bt r (4 * k + i) = false := by
  constructor
  · intro h i hi
    have h3 := nib_bt r hk i
    rw [h, bt_0, decide_eq_true hi, Bool.true_and] at h3
    exact h3.symm
  · intro h
    apply bt_ext
    intro i hi
    rw [nib_bt r hk, bt_0]
    by_cases h4 : i < 4
    · rw [h i h4, Bool.and_false]
    · rw [decide_eq_false h4, Bool.false_and]
theorem nib_zero (r : Int32) : r = 0 ↔ ∀ x : Int, 0 ≤ x → x < 8 → nib r x = 0 := by
  constructor
  · rintro rfl x h1 h2
    obtain ⟨k, rfl⟩ : ∃ k : Nat, x = k := ⟨x.toNat, by omega⟩
    rw [nib_zk _ (by omega)]
    exact fun i _ => bt_0 _
  · intro h
    apply bt_ext
    intro i hi
    have h3 := (nib_zk r (k := i / 4) (by omega)).mp (h ((i / 4 : Nat) : Int) (by omega) (by omega)) (i % 4) (by omega)
    rw [show 4 * (i / 4) + i % 4 = i by omega] at h3
    rw [h3, bt_0]
theorem nib_or (a b : Int32) {x : Int} (h1 : 0 ≤ x) (h2 : x < 8) : nib (a ||| b) x = 0 ↔ nib a x = 0 ∧ nib b x = 0 := by
  obtain ⟨k, rfl⟩ : ∃ k : Nat, x = k := ⟨x.toNat, by omega⟩
  rw [nib_zk _ (by omega), nib_zk _ (by omega), nib_zk _ (by omega)]
  constructor
  · intro h
    refine ⟨fun i hi => ?_, fun i hi => ?_⟩
    · have := h i hi
      rw [bt_or, Bool.or_eq_false_iff] at this
      exact this.1
    · have := h i hi
      rw [bt_or, Bool.or_eq_false_iff] at this
      exact this.2
  · intro h i hi
    rw [bt_or, h.1 i hi, h.2 i hi]
    rfl
/-- a pixel's color set in a row -/
theorem nib_set (r : Int32) {x x' c : Int} (h1 : 0 ≤ x) (h2 : x < 8) (h3 : 0 ≤ x') (h4 : x' < 8) (h5 : 0 ≤ c) (h6 : c < 16) :
    nib ((r &&& (g_shl 15 (iI (4 * x)) ^^^ (-1))) ||| g_shl (iI c) (iI (4 * x))) x' = if x' = x then iI c else nib r x' := by
  obtain ⟨k, rfl⟩ : ∃ k : Nat, x = k := ⟨x.toNat, by omega⟩
  obtain ⟨k', rfl⟩ : ∃ k : Nat, x' = k := ⟨x'.toNat, by omega⟩
  obtain ⟨d, rfl⟩ : ∃ k : Nat, c = k := ⟨c.toNat, by omega⟩
  have hd : ∀ d : Nat, d < 16 → ∀ i : Nat, i < 32 → bt (nI d) i = (decide (i < 4) && bt (nI d) i) := by decide +kernel
  apply bt_ext
  intro i hi
  rw [nib_bt _ (by omega)]
  have e4 : 4 * (k : Int) = ((4 * k : Nat) : Int) := by omega
  have e5 : iI (d : Int) = nI d := iI_nI d
  by_cases h7 : i < 4
  · have hj : 4 * k' + i < 32 := by omega
    unfold g_shl
    rw [bt_or, bt_and, bt_xor, bt_m1 _ hj, e4, iI_nI, bt_shl (4 * k) (by omega) _ hj, bt_shl (4 * k) (by omega) _ hj, bt_15, e5, decide_eq_true h7, Bool.true_and]
    by_cases h8 : k' = k
    · subst h8
      rw [if_pos rfl, show 4 * k' + i - 4 * k' = i by omega, decide_eq_true (show 4 * k' ≤ 4 * k' + i by omega), decide_eq_true h7]
      simp
    · rw [if_neg (by omega), nib_bt _ (by omega), decide_eq_true h7, Bool.true_and]
      rw [hd d (by omega) (4 * k' + i - 4 * k) (by omega)]
      by_cases h9 : 4 * k ≤ 4 * k' + i
      · rw [decide_eq_true h9, decide_eq_false (show ¬ 4 * k' + i - 4 * k < 4 by omega)]
        simp
      · rw [decide_eq_false h9]
        simp
  · rw [decide_eq_false h7, Bool.false_and]
    by_cases h8 : k' = k
    · rw [if_pos (by omega), e5, hd d (by omega) i hi, decide_eq_false h7, Bool.false_and]
    · rw [if_neg (by omega), nib_bt _ (by omega), decide_eq_false h7, Bool.false_and]
