/-! calls that make cells, on some of the blocks of a world -/
theorem b_perm {D : va_G} {A : Nat → Prop} {H0 H : Heap} {locs : List Loc} {wb wb2 : List va_W} (hw : b_Wd D A H0 H locs wb) (is : List Nat) (hnd : va_nd is = true) (hs : is.map (fun i => wb[i]?) = wb2.map some) : b_Wd D A H0 H locs wb2 := by
  have key : ∀ (k : Nat) (B : va_W), wb2[k]? = some B → ∃ i, is[k]? = some i ∧ wb[i]? = some B := by
    intro k B hk
    have h1 : (is.map (fun i => wb[i]?))[k]? = some (some B) := by rw [hs, List.getElem?_map, hk]; rfl
    rw [List.getElem?_map] at h1
    cases hi : is[k]? with
    | none => rw [hi] at h1; cases h1
    | some i => rw [hi] at h1; exact ⟨i, rfl, Option.some.inj h1⟩
  refine ⟨fun b j B q h1 h2 => ?_, ⟨fun b j b' j' B B' q q' h1 h2 h3 h4 e => ?_, fun b j B q h1 h2 => ?_⟩, hw.2.2⟩
  · obtain ⟨i, -, hi⟩ := key b B h1
    exact hw.1 i j B q hi h2
  · obtain ⟨i, k1, hi⟩ := key b B h1
    obtain ⟨i', k2, hi'⟩ := key b' B' h3
    obtain ⟨e1, e2⟩ := hw.2.1.1 i j i' j' B B' q q' hi h2 hi' h4 e
    subst e1
    exact ⟨va_nd_inj is hnd b b' i k1 k2, e2⟩
  · obtain ⟨i, -, hi⟩ := key b B h1
    exact hw.2.1.2 i j B q hi h2
theorem t_flat2 (wr cb : List va_W) : (wr ++ [cb.flatten]).flatten = (wr ++ cb).flatten := by simp
section RowsX
variable {p : Program} {l : Launch} {e : Env} {R : Room} {s : State} {m : MethodId} {args : Array Value} {below : List Frame} {meth : Method} {c : Code} {H : Heap} {locs : List Loc} {cells slots : Nat} {Q : State → Prop}
variable {cc : ByteArray} {pc : Nat} {ls : Array Slot} {rest st : List Value} {D : va_G} {g : Nat → ClassId} {A : Nat → Prop} {wb wr cb : List va_W} {a : Nat} {E : (Nat → Prop) → State → Heap → Prop} {mc ms : Nat} {post : Option Value → va_W → Prop}
theorem t_callX {own : String} {idx : Nat} {y : MethodName} {b : ByteArray} {mL nL : Nat} {rt : Option FieldType} {fr lo n : Nat} {As : List Value} {fs : List Value} {ci : Nat} {T : u_T} {N : Nat} {B : va_W} (hx : p.tables.exec = Jvm.exec) (hb : c.code = cc) (hml : c.maxLocals = nL) (hown : s.vm.findClass own = some m.cls) (hT : ∀ w ∈ g_ws, w.before args s = true) (hK : va_K D g_cl (g_tys g) s) (hA : ∀ q, s.heap.size ≤ q → A q) (hE : s_ok E) (hE0 : E A s s.heap) (hw : b_Wd D A s.heap H locs wb)
    (isp : List Nat) (hnd : va_nd isp = true) (hsp : isp.map (fun i => wb[i]?) = (wr ++ cb).map some)
    (hM : g_MV own idx y b mL rt n) (hC : s_Ct l y b mL rt fr mc ms lo E D g (.ref a :: As) cb.flatten post) (b0 j0 : Nat) (hB : wb[b0]? = some B) (he : B[j0]? = some (a, .inr (ci, fs))) (hc : g_cl[ci]? = some (y.cls, T, N)) (hn : As.length = n) (hls : ls.size = nL) (rest : List Value) (hst : st = As.reverse ++ .ref a :: rest) (hrm : (rest.map fun v => v.category).sum ≤ 8) (hR : fr + 1 ≤ R.frames ∧ 8 + (mL + 11) + lo ≤ R.locals) (hRc : cells + mc ≤ R.cells ∧ slots + ms ≤ R.slots) (hdg : decode cc pc = .ok (.invokevirtual idx, 3))
    (kk : ∀ (rv : Option Value) (w1 : va_W) (H1 : Heap) (locs1 : List Loc), post rv w1 → b_Wd D A s.heap H1 locs1 (wr ++ [w1]) → W p l e R s m args below meth c H1 locs1 (cells + mc) (slots + ms) Q (F0 m (pc + 3) ls (rv.toList ++ rest))) : W p l e R s m args below meth c H locs cells slots Q (F0 m pc ls st) := by
  have h1 := b2g (b_perm hw isp hnd hsp)
  have hg : g_Wd D A s.heap H locs (wr.flatten ++ cb.flatten) := by
    rwa [List.flatten_append] at h1
  exact s_callV (C := y.cls) hx hb hml hown hT hK hA hE hE0 hg hM.1 hM.2.1 (hT _ hM.2.2) hC ((List.range cb.flatten.length).map (fun i => wr.flatten.length + i)) (List.range wr.flatten.length) (r_mapC _ _) (r_ndC _ _) (r_mapR _ _) (r_nd _ List.nodup_range) (fun i hi hj => by
    obtain ⟨j, -, e⟩ := List.mem_map.mp hj
    have := List.mem_range.mp hi
    omega) (va_recv hK (b_P_flat hw.1) hc (b_pos_get wb b0 j0 B _ hB he)) hn hls rest hst hrm hR hRc hdg (fun rv w1 H1 locs1 hp h1 => kk rv w1 H1 locs1 hp (g2b (by rw [t_flat]; exact h1)))
end RowsX
theorem t_back {D : va_G} {A : Nat → Prop} {H0 H : Heap} {locs : List Loc} {wr cb wb' : List va_W} (h : b_Wd D A H0 H locs (wr ++ [cb.flatten])) (isp : List Nat) (hnd : va_nd isp = true) (hsp : isp.map (fun i => (wr ++ cb)[i]?) = wb'.map some) : b_Wd D A H0 H locs wb' :=
  b_perm (g2b (by rw [← t_flat2]; exact b2g h)) isp hnd hsp
