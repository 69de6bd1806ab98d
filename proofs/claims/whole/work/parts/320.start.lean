theorem zwL_X10 : g_NW RL 7 11 RX10 TX10 12 := ⟨rfl, g_tb (i := 26) (by decide +kernel) (by decide), g_tb (i := 27) (by decide +kernel) (by decide), zLi_X10⟩
theorem znL_X10 : Cond.instanceMethod yX10_init ∈ g_ws := g_tb (i := 29) (by decide +kernel) (by decide)
theorem zkL_X10 : g_MK RL 9 yX10_init cX10_init 4 none 0 := ⟨g_tb (i := 28) (by decide +kernel) (by decide), zLi_X10, g_tb (i := 30) (by decide +kernel) (by decide), ⟨by decide, by decide⟩, by decide +kernel⟩
theorem zwL_X11 : g_NW RL 10 12 RX11 TX11 38 := ⟨rfl, g_tb (i := 1274) (by decide +kernel) (by decide), g_tb (i := 1275) (by decide +kernel) (by decide), zLi_X11⟩
theorem znL_X11 : Cond.instanceMethod yX11_init ∈ g_ws := g_tb (i := 1277) (by decide +kernel) (by decide)
theorem zkL_X11 : g_MK RL 12 yX11_init cX11_init 1 none 0 := ⟨g_tb (i := 1276) (by decide +kernel) (by decide), zLi_X11, g_tb (i := 1278) (by decide +kernel) (by decide), ⟨by decide, by decide⟩, by decide +kernel⟩
theorem n_callI2 {p : Program} {l : Launch} {e : Env} {R : Room} {s : State} {m : MethodId} {args : Array Value} {below : List Frame} {meth : Method} {c : Code} {H : Heap} {locs : List Loc} {cells slots : Nat} {Q : State → Prop} {cc : ByteArray} {pc : Nat} {ls : Array Slot} {st : List Value} {D : va_G} {g : Nat → ClassId} {A : Nat → Prop} {wc wr : va_W} {a : Nat} {E : (Nat → Prop) → State → Heap → Prop} {mc ms : Nat} {post : Option Value → va_W → Prop} {own : String} {idx : Nat} {y : MethodName} {b : ByteArray} {mL nL : Nat} {fr lo n : Nat} {As : List Value} (hx : p.tables.exec = Jvm.exec) (hb : c.code = cc) (hml : c.maxLocals = nL) (hown : s.vm.findClass own = some m.cls) (hT : ∀ w ∈ g_ws, w.before args s = true) (hK : va_K D g_cl (g_tys g) s) (hA : ∀ q, s.heap.size ≤ q → A q) (hE : s_ok E) (hE0 : E A s s.heap) (hw : g_Wd D A s.heap H locs (wr ++ wc))
    (hM : g_MK own idx y b mL none n) (hnm : y.name = "<init>") (hin : Cond.instanceMethod y ∈ g_ws) (hC : s_Ct l y b mL none fr mc ms lo E D g (.ref a :: As) wc post)
    (hn : As.length = n) (hls : ls.size = nL) (rest : List Value) (hst : st = As.reverse ++ .ref a :: rest) (hrm : (rest.map fun v => v.category).sum ≤ 8) (hR : fr + 1 ≤ R.frames ∧ 8 + (mL + 11) + lo ≤ R.locals) (hRc : cells + mc ≤ R.cells ∧ slots + ms ≤ R.slots) (hdg : decode cc pc = .ok (.invokespecial idx, 3))
    (kk : ∀ (rv : Option Value) (w1 : va_W) (H1 : Heap) (locs1 : List Loc), post rv w1 → g_Wd D A s.heap H1 locs1 (wr ++ w1) → W p l e R s m args below meth c H1 locs1 (cells + mc) (slots + ms) Q (F0 m (pc + 3) ls (rv.toList ++ rest))) : W p l e R s m args below meth c H locs cells slots Q (F0 m pc ls st) :=
  n_callI hx hb hml hown hT hK hA hE hE0 hw hM hnm hin hC ((List.range wc.length).map (fun i => wr.length + i)) (List.range wr.length) (r_mapC _ _) (r_ndC _ _) (r_mapR _ _) (r_nd _ List.nodup_range) (fun i hi hj => by
    obtain ⟨j, -, e⟩ := List.mem_map.mp hj
    have := List.mem_range.mp hi
    omega) hn hls rest hst hrm hR hRc hdg kk
/-! THE CLAIM OUT OF ONE WALK OF THE LAW'S BODY. Your part is whole_start (and what it stands on); all else here is the same for every law, but numbers. -/
def R_law : String := "SpriteAtlasLaw"
def lw_P (b : Addr) (xs : List Int32) (args : Array Value) (s : State) : Prop := args = #[.ref b] ∧ s.IntsAt b xs ∧ xs.length ≤ 2560 ∧ (Jvm.Cond.and given_1 narrow_1).before args s = true
def lw_Q (_ : Array Value) (s : State) (o : Outcome) (t : State) : Prop := o = .returned (some (.int 1)) ∧ Framed s o t [] 600000 7302250
def lw_Z (below : List Frame) (a : Array Value) (s : State) : State → Prop := fun t => ∃ o, t.status = .running ∧ Ended t below o ∧ lw_Q a s o t
/-- the law's own end, with 1 on the stack, nothing written that was there before, its room as the claim has it -/
theorem lw_ret {p : Program} {l : Launch} {e : Env} {s : State} {m : MethodId} {below : List Frame} {meth : Method} {c : Code} {b : Nat} (hx : p.tables.exec = Jvm.exec) (hb : c.code = code) (hr : meth.sig.returnType = ret) (hlocks : meth.locks = false) {pc : Nat} {H : Heap} {ls : Array Slot} (hdg : decode code pc = .ok (.ireturn, 1)) : W p l e room_1 s m #[Value.ref b] below meth c H [] 600000 7302250 (lw_Z below #[Value.ref b] s) (F0 m pc ls [.int 1]) := by
  intro T hT X
  obtain ⟨fs, hret, hrun, hended, hW, hframe⟩ := X.leave (v := some (.int 1)) (hlocks := hlocks) (fun h => by rw [hr] at h; cases h)
  have hmeth' : T.vm.method? m = some meth := X.method'
  refine ⟨T.setFrames fs, ?_, .returned (some (.int 1)), hrun, hended, rfl, ⟨_, rfl⟩, hW, hframe⟩
  jvm_step X.here [X.here.top, hx, hb, hdg, hmeth', hr, ret, narrow_b1]
  (try refine ⟨rfl, ?_⟩); (try refine ⟨rfl, ?_⟩)
  first | (intro acts; rw [hret _ acts rfl rfl rfl]) | rw [hret _ _ rfl rfl rfl]
  exact Steps.refl _
/-- what holds at the law's entry: the machine, the code, the tables' words (any of lw_tbl by 'hts w (by decide +kernel)'), the script of L ints xs at the cell b, what the Statement gives of the start (any of its parts by flat_of_before) -/
def lw_At (p : Program) (s : State) (m : MethodId) (meth : Method) (c : Code) (b L : Nat) (xs : Nat → Int32) : Prop :=
  p.tables.exec = Jvm.exec ∧ c.code = code ∧ meth.sig.returnType = ret ∧ c.maxLocals = 4 ∧ s.vm.findClass R_law = some m.cls ∧ (∀ w ∈ lw_tbl, w.before #[Value.ref b] s = true) ∧ va_X b L xs s s.heap ∧ b < s.heap.size ∧ meth.locks = false ∧ (Jvm.Cond.and given_1 narrow_1).before #[Value.ref b] s = true
set_option maxRecDepth 100000 in
set_option maxHeartbeats 8000000 in
theorem whole_start {p : Program} {e : Env} {s : State} {m : MethodId} {below : List Frame} {meth : Method} {c : Code} (l : Launch) (hflags : l.flags = flags0) {b L : Nat} {xs : Nat → Int32} (hL : L ≤ 2560) (C0 : lw_At p s m meth c b L xs) : W p l e room_1 s m #[Value.ref b] below meth c s.heap [] 0 0 (lw_Z below #[Value.ref b] s) (entryFrame m ([Value.ref b] : List Value).toArray 4) := by
  obtain ⟨hx, hb, hr, hml, hown, hts, hX, hbl, hlocks, hgv⟩ := id C0
  have hT : ∀ w ∈ g_ws, w.before #[Value.ref b] s = true := fun w hw => hts w (List.mem_filter.mp hw).1
  have hA : ∀ q : Nat, s.heap.size ≤ q → (fun q : Nat => s.heap.size ≤ q) q := fun _ h => h
  have hbA : ¬ (fun q : Nat => s.heap.size ≤ q) b := Nat.not_le.mpr hbl
  have hown : s.vm.findClass RL = some m.cls := hown
  obtain ⟨t1, t2, adK, adV, hE, hI⟩ := st_E hts hgv
  obtain ⟨D, g, hK⟩ := st_K hts hT
  obtain ⟨pg, hpg, -⟩ := c_fill (A := fun _ => 0) (x := -4)
  have hpg : f_J7_fill_53178 24 (fun _ => 0) (-4) = some pg := by
    rw [show (-4 : Int32) = iI (-4) by decide]
    exact hpg
  have hw : g_Wd D (fun q : Nat => s.heap.size ≤ q) s.heap s.heap [] [] := ⟨fun k q h => by simp at h, ⟨fun i j p q h => by simp at h, fun k q h => by simp at h⟩, va_S.rf⟩
  have hl := lv_entry ([.ref b]) (n := 4) (Nat.le_of_ble_eq_true rfl)
  rw [lg_entry_eq]
  generalize (lg_sl ([.ref b]) ++ List.replicate (4 - (lg_sl ([.ref b])).length) Slot.unset).toArray = ls at hl ⊢
  have hl : lv_has ls 4 [(0, .ref b)] := hl
  refine n_new hx hb hT hown zwL_X10 in_X10 ft_X10 hK hA hw (fs := [.null, .null, .null, .null, .null, .null, .null, .null, .null, .null, .null, .long 0]) (by decide +kernel) ⟨Nat.le_of_ble_eq_true rfl, Nat.le_of_ble_eq_true rfl⟩ dL_law_0 (fun o H hw => ?_)
  refine lv_dup hx hb dL_law_3 rfl ?_
  refine n_callI2 (wr := []) hx hb hml hown hT hK hA n_ok hI hw zkL_X10 rfl znL_X10 (n_X10_init l D g pg hpg o) rfl hl.1 [.ref o] rfl (Nat.le_of_ble_eq_true rfl) ⟨Nat.le_of_ble_eq_true rfl, Nat.le_of_ble_eq_true rfl⟩ ⟨Nat.le_of_ble_eq_true rfl, Nat.le_of_ble_eq_true rfl⟩ dL_law_4 (fun rv w1 H locs hp hw => ?_)
  obtain ⟨q, rfl, rfl⟩ := hp
  have hw : g_Wd D (fun q : Nat => s.heap.size ≤ q) s.heap _ _ (c_X10 g pg o q (va_up (va_up (va_up (va_up (va_up (fun _ => none) 0 (some (q 53))) 1 (some (q 66))) 2 (some (q 79))) 3 (some (q 92))) 4 (some (q 105)))) := hw
  refine lv_astore_n (lv' := [(1, .ref o), (0, .ref b)]) hx hb dL_law_7 rfl hl (by decide) rfl (fun ls hl => ?_)
  refine n_new hx hb hT hown zwL_X11 in_X11 ft_X11 hK hA hw (fs := [.null, .null, .null, .int 0, .null, .null, .null, .int 0, .null, .int 0, .int 0, .long 0, .null, .null, .null, .null, .null, .null, .int 0, .int 0, .int 0, .null, .null, .null, .null, .int 0, .null, .null, .null, .null, .null, .null, .int 0, .int 0, .int 0, .int 0, .null, .null]) (by decide +kernel) ⟨Nat.le_of_ble_eq_true rfl, Nat.le_of_ble_eq_true rfl⟩ dL_law_8 (fun om H hw => ?_)
  refine lv_dup hx hb dL_law_11 rfl ?_
  refine n_callI2 hx hb hml hown hT hK hA n_ok hI hw zkL_X11 rfl znL_X11 (n_X11_init l D g pg hpg om) rfl hl.1 [.ref om] rfl (Nat.le_of_ble_eq_true rfl) ⟨Nat.le_of_ble_eq_true rfl, Nat.le_of_ble_eq_true rfl⟩ ⟨Nat.le_of_ble_eq_true rfl, Nat.le_of_ble_eq_true rfl⟩ dL_law_12 (fun rv w1 H locs hp hw => ?_)
  obtain ⟨qm, rfl, rfl⟩ := hp
  have hw : g_Wd D (fun q : Nat => s.heap.size ≤ q) s.heap _ _ (c_X10 g pg o q (va_up (va_up (va_up (va_up (va_up (fun _ => none) 0 (some (q 53))) 1 (some (q 66))) 2 (some (q 79))) 3 (some (q 92))) 4 (some (q 105))) ++ c_X11 g om qm) := hw
  have hLS := w_start hpg hw
  refine lv_astore_n (lv' := [(2, .ref om), (1, .ref o), (0, .ref b)]) hx hb dL_law_15 rfl hl (by decide) rfl (fun ls hl => ?_)
  refine lv_iconst (v := nI 0) hx hb dL_law_16 (by decide) ?_
  refine lv_istore_n (lv' := [(3, .int (nI 0)), (2, .ref om), (1, .ref o), (0, .ref b)]) hx hb dL_law_17 rfl hl (by decide) rfl (fun ls hl => ?_)
  have hl : lv_has ls 4 [(0, .ref b), (1, .ref (adF o om q qm 0)), (2, .ref (adF o om q qm 200)), (3, .int (nI 0))] := lv_sub hl [3, 2, 1, 0] rfl
  refine W.widen (k := 600) (n := 40000) (Nat.le_of_ble_eq_true rfl) (Nat.le_of_ble_eq_true rfl) ?_
  refine lw_loop hx hb hml hown hT hK hA hE hX hbl hbA hL (Nat.le_of_ble_eq_true rfl) (Nat.le_of_ble_eq_true rfl) (fun H locs ls cells slots hc hs hS => ?_) 512 0 600 40000 _ _ ls (by decide) (by omega) (Nat.le_of_ble_eq_true rfl) (Nat.le_of_ble_eq_true rfl) hLS hl
  refine lv_iconst (v := 1) hx hb dL_law_1728 (by decide) ?_
  refine va_forget (fun z hz => hS.2.2 z hz) ?_
  refine W.widen hc hs ?_
  exact lw_ret hx hb hr hlocks dL_law_1729
