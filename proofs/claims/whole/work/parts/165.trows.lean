/-! StringBuilder's calls from a world of blocks, whose last block the StringBuilder is -/
theorem r_nd : ∀ l : List Nat, l.Nodup → va_nd l = true
  | [], _ => rfl
  | a :: l, h => by
    have h2 := List.nodup_cons.mp h
    show (decide (a ∉ l) && va_nd l) = true
    rw [r_nd l h2.2]
    simp [h2.1]
theorem r_mapR (wr wc : va_W) : (List.range wr.length).map (fun i => (wr ++ wc)[i]?) = wr.map some := by
  apply List.ext_getElem?
  intro k
  rw [List.getElem?_map, List.getElem?_map]
  by_cases h : k < wr.length
  · rw [List.getElem?_eq_getElem (by simpa using h), List.getElem_range, List.getElem?_eq_getElem h]
    simp [List.getElem?_append_left h, List.getElem?_eq_getElem h]
  · rw [List.getElem?_eq_none (by simpa using Nat.le_of_not_lt h), List.getElem?_eq_none (Nat.le_of_not_lt h)]
    rfl
theorem r_mapC (wr wc : va_W) : ((List.range wc.length).map (fun i => wr.length + i)).map (fun i => (wr ++ wc)[i]?) = wc.map some := by
  rw [List.map_map]
  apply List.ext_getElem?
  intro k
  rw [List.getElem?_map, List.getElem?_map]
  by_cases h : k < wc.length
  · rw [List.getElem?_eq_getElem (by simpa using h), List.getElem_range, List.getElem?_eq_getElem h]
    simp only [Function.comp_def, Option.map_some]
    rw [List.getElem?_append_right (by omega), show wr.length + k - wr.length = k by omega, List.getElem?_eq_getElem h]
  · rw [List.getElem?_eq_none (by simpa using Nat.le_of_not_lt h), List.getElem?_eq_none (Nat.le_of_not_lt h)]
    rfl
theorem r_ndC (n k : Nat) : va_nd ((List.range n).map (fun i => k + i)) = true := r_nd _ (List.Pairwise.map _ (fun _ _ h => by simpa using h) List.nodup_range)
theorem b2g {D : va_G} {A : Nat → Prop} {H0 H : Heap} {locs : List Loc} {wb : List va_W} (h : b_Wd D A H0 H locs wb) : g_Wd D A H0 H locs wb.flatten := ⟨b_P_flat h.1, b_D_flat h.2.1, h.2.2⟩
theorem g2b {D : va_G} {A : Nat → Prop} {H0 H : Heap} {locs : List Loc} {wb : List va_W} (h : g_Wd D A H0 H locs wb.flatten) : b_Wd D A H0 H locs wb := ⟨b_P_of h.1, b_D_of h.2.1, h.2.2⟩
theorem t_flat (wr : List va_W) (B0 : va_W) : (wr ++ [B0]).flatten = wr.flatten ++ B0 := by simp
def k_SB (g : Nat → ClassId) (o v : Nat) (ml n : Int32) (m : Nat) (f : Nat → Int32) : va_W := [(o, .inr (0, [.ref v, .int 0, .int ml, .int n])), (v, .inl (g 4, m, .inl f))]
section RowsT2
variable {p : Program} {l : Launch} {e : Env} {R : Room} {s : State} {m : MethodId} {args : Array Value} {below : List Frame} {meth : Method} {c : Code} {H : Heap} {locs : List Loc} {cells slots : Nat} {Q : State → Prop}
variable {cc : ByteArray} {pc : Nat} {ls : Array Slot} {rest st : List Value} {D : va_G} {g : Nat → ClassId} {A : Nat → Prop} {wb wr : List va_W} {B0 : va_W} {a : Nat} {E : (Nat → Prop) → State → Heap → Prop} {mc ms : Nat} {post : Option Value → va_W → Prop}
theorem t_callV {own : String} {idx : Nat} {y : MethodName} {b : ByteArray} {mL nL : Nat} {rt : Option FieldType} {fr lo n : Nat} {As : List Value} {fs : List Value} (hx : p.tables.exec = Jvm.exec) (hb : c.code = cc) (hml : c.maxLocals = nL) (hown : s.vm.findClass own = some m.cls) (hT : ∀ w ∈ g_ws, w.before args s = true) (hK : va_K D g_cl (g_tys g) s) (hA : ∀ q, s.heap.size ≤ q → A q) (hE : s_ok E) (hE0 : E A s s.heap) (hw : b_Wd D A s.heap H locs (wr ++ [B0]))
    (hM : g_MK own idx y b mL rt n) (hin : Cond.instanceMethod y ∈ g_ws) (hsel : Cond.selects RJ4 y y ∈ g_ws) (hC : s_Ct l y b mL rt fr mc ms lo E D g (.ref a :: As) B0 post) (q0 : Nat) (he : B0[q0]? = some (a, .inr (0, fs))) (hn : As.length = n) (hls : ls.size = nL) (rest : List Value) (hst : st = As.reverse ++ .ref a :: rest) (hrm : (rest.map fun v => v.category).sum ≤ 8) (hR : fr + 1 ≤ R.frames ∧ 8 + (mL + 11) + lo ≤ R.locals) (hRc : cells + mc ≤ R.cells ∧ slots + ms ≤ R.slots) (hdg : decode cc pc = .ok (.invokevirtual idx, 3))
    (kk : ∀ (rv : Option Value) (w1 : va_W) (H1 : Heap) (locs1 : List Loc), post rv w1 → b_Wd D A s.heap H1 locs1 (wr ++ [w1]) → W p l e R s m args below meth c H1 locs1 (cells + mc) (slots + ms) Q (F0 m (pc + 3) ls (rv.toList ++ rest))) : W p l e R s m args below meth c H locs cells slots Q (F0 m pc ls st) := by
  have hg : g_Wd D A s.heap H locs (wr.flatten ++ B0) := by
    have h := b2g hw
    rwa [t_flat] at h
  have h0 := s_drop hg ((List.range B0.length).map (fun i => wr.flatten.length + i)) (r_mapC _ _) (r_ndC _ _)
  exact s_callV (C := RJ4) hx hb hml hown hT hK hA hE hE0 hg hM hin (hT _ hsel) hC ((List.range B0.length).map (fun i => wr.flatten.length + i)) (List.range wr.flatten.length) (r_mapC _ _) (r_ndC _ _) (r_mapR _ _) (r_nd _ List.nodup_range) (fun i hi hj => by
    obtain ⟨j, -, e⟩ := List.mem_map.mp hj
    have := List.mem_range.mp hi
    omega) (va_recv hK h0.1 (q := (RJ4, TJ4, 4)) rfl he) hn hls rest hst hrm hR hRc hdg (fun rv w1 H1 locs1 hp h1 => kk rv w1 H1 locs1 hp (g2b (by rw [t_flat]; exact h1)))
/-- a call of a method of ours on this very world -/
theorem t_callW {own : String} {idx : Nat} {y : MethodName} {b : ByteArray} {mL nL : Nat} {rt : Option FieldType} {fr lo n : Nat} {As : List Value} {fs : List Value} {ci : Nat} {T : u_T} {N : Nat} {B : va_W} (hx : p.tables.exec = Jvm.exec) (hb : c.code = cc) (hml : c.maxLocals = nL) (hown : s.vm.findClass own = some m.cls) (hT : ∀ w ∈ g_ws, w.before args s = true) (hK : va_K D g_cl (g_tys g) s) (hA : ∀ q, s.heap.size ≤ q → A q) (hE : s_ok E) (hE0 : E A s s.heap) (hw : b_Wd D A s.heap H locs wb)
    (hM : g_MV own idx y b mL rt n) (hC : s_Ct l y b mL rt fr mc ms lo E D g (.ref a :: As) wb.flatten post) (b0 j0 : Nat) (hB : wb[b0]? = some B) (he : B[j0]? = some (a, .inr (ci, fs))) (hc : g_cl[ci]? = some (y.cls, T, N)) (hn : As.length = n) (hls : ls.size = nL) (rest : List Value) (hst : st = As.reverse ++ .ref a :: rest) (hrm : (rest.map fun v => v.category).sum ≤ 8) (hR : fr + 1 ≤ R.frames ∧ 8 + (mL + 11) + lo ≤ R.locals) (hRc : cells + mc ≤ R.cells ∧ slots + ms ≤ R.slots) (hdg : decode cc pc = .ok (.invokevirtual idx, 3))
    (kk : ∀ (rv : Option Value) (w1 : va_W) (H1 : Heap) (locs1 : List Loc), post rv w1 → g_Wd D A s.heap H1 locs1 w1 → W p l e R s m args below meth c H1 locs1 (cells + mc) (slots + ms) Q (F0 m (pc + 3) ls (rv.toList ++ rest))) : W p l e R s m args below meth c H locs cells slots Q (F0 m pc ls st) := by
  have hg : g_Wd D A s.heap H locs ([] ++ wb.flatten) := b2g hw
  exact s_callV (C := y.cls) hx hb hml hown hT hK hA hE hE0 hg hM.1 hM.2.1 (hT _ hM.2.2) hC ((List.range wb.flatten.length).map (fun i => ([] : va_W).length + i)) (List.range ([] : va_W).length) (r_mapC _ _) (r_ndC _ _) (r_mapR _ _) (r_nd _ List.nodup_range) (fun i hi hj => by
    have := List.mem_range.mp hi
    exact absurd this (Nat.not_lt_zero _)) (va_recv hK (b_P_flat hw.1) hc (b_pos_get wb b0 j0 B _ hB he)) hn hls rest hst hrm hR hRc hdg (fun rv w1 H1 locs1 hp h1 => kk rv w1 H1 locs1 hp h1)
theorem t_ldcS (hx : p.tables.exec = Jvm.exec) (hb : c.code = cc) {own tx : String} {index q : Nat} (hown : s.vm.findClass own = some m.cls) (hZ : vk_R own index tx q s) (hdg : decode cc pc = .ok (.ldc_w index, 3))
    (kk : W p l e R s m args below meth c H locs cells slots Q (F0 m (pc + 3) ls (.ref q :: rest))) : W p l e R s m args below meth c H locs cells slots Q (F0 m pc ls rest) := by
  obtain ⟨k1, cf, i, q', h1, h2, h3, -, h4, h5⟩ := Cond.stringRef_spec hown hZ.1
  have hq : q = q' := by
    have e := hZ.2.symm.trans h5
    cases e
    rfl
  subst hq
  intro T hT X
  obtain ⟨t, a1, b1⟩ := kk T hT X
  refine ⟨t, ?_, b1⟩
  obtain ⟨k2, h6, h7⟩ := X.warmed.alike.2.2 _ _ h1
  have h8 : k2.resolved[index]? = some (some (.string q)) := by
    rcases X.warmed.entry h1 h6 index with h | ⟨h, -⟩
    · rw [h]; exact h4
    · rw [h4] at h; cases h
  jvm_step X.here [hx, hb, hdg, ldc_w.wp_string (e := e) (s := T) (f := F0 m pc ls rest) X.here.top h6 (by rw [h7]; exact h2) h3 h8]
  exact a1
end RowsT2
