section LAWC
variable {p : Program} {la : Launch} {e : Env} {R : Room} {s : State} {mi : MethodId} {args : Array Value} {below : List Frame} {meth : Method} {cd : Code} {H : Heap} {locs : List Loc} {cells slots : Nat} {Q0 : State → Prop} {ls : Array Slot} {D : va_G} {g : Nat → ClassId} {ad : Nat → Nat} {A : Nat → Prop} {t1 t2 : Nat} {adK adV : Nat → Nat} {b L i : Nat} {xs : Nat → Int32}
theorem w_LS_S (h : w_LS D g ad A s.heap H locs) : va_S A s.heap H locs := by
  obtain ⟨V, c, d, vl, vp, P, K, N, Fl, Fm, Q, T, len, pr, Pa, cm, rnd, S, ST, spW, spH, fr, ch1, ch2, ch3, ch4, ch5, ch6, ch7, line, tspW, tspH, tfr, tcodes, tcounts, tch1, tch2, tch3, tch4, tch5, tch6, tch7, tline, H0, H1, H2, H3, H4, SA, SB, m_told, m_state, m_backX, m_backY, m_boxes, m_frees, m_bestFree, m_bestTurned, m_bestFirst, m_bestSecond, m_spare, m_boxX, m_boxY, m_boxW, m_boxH, m_freeAtX, m_freeAtY, m_freeW, m_freeH, m_begins, m_ends, m_tried, m_aside, v, ml, m0, f, tn, hw, -⟩ := h
  exact hw.2.2
theorem and63 (x : Int32) : ∃ n : Nat, n < 64 ∧ x &&& 63 = nI n := by
  have e : x = nI x.toBitVec.toNat := by
    apply bt_ext
    intro i hi
    rw [bt_nI _ hi]
    rfl
  refine ⟨x.toBitVec.toNat % 64, Nat.mod_lt _ (by decide), ?_⟩
  rw [show (63 : Int32) = nI 63 by decide +kernel]
  exact (congrArg (fun z => z &&& nI 63) e).trans (and63_nI _)
theorem lw_head (hx : p.tables.exec = Jvm.exec) (hb : cd.code = cL_law) (hX : va_X b L xs s s.heap) (hbl : b < s.heap.size) (hbA : ¬ A b) (hS : va_S A s.heap H locs) (hi : i ≤ 2600) (hL : L ≤ 2560) (hl : lv_has ls 4 [(0, .ref b), (1, .ref (ad 0)), (2, .ref (ad 200)), (3, .int (nI i))]) (kt : L ≤ i + 4 → W p la e R s mi args below meth cd H locs cells slots Q0 (F0 mi 1728 ls [])) (kf : i + 4 < L → W p la e R s mi args below meth cd H locs cells slots Q0 (F0 mi 26 ls [])) : W p la e R s mi args below meth cd H locs cells slots Q0 (F0 mi 18 ls []) := by
  refine lv_iload_n hx hb dL_law_18 rfl (lv_at hl 3 rfl) ?_
  refine lv_aload_n hx hb dL_law_19 rfl (lv_at hl 0 rfl) ?_
  refine va_slen hx hb hX hbl hbA hS dL_law_20 ?_
  refine lv_iconst (v := 5) hx hb dL_law_21 (by decide) ?_
  refine lv_isub hx hb dL_law_22 ?_
  have e : Int32.ofNat L - 5 = iI ((L : Int) - 5) := by
    rw [show Int32.ofNat L = iI (L : Int) from (iI_nI L).symm, il_5, iI_sub]
  rw [e, ← iI_nI i]
  refine lv_icmp_gt (tgt := 1728) hx hb dL_law_23 (by decide) (fun h => kt ?_) (fun h => kf ?_)
  · rw [iI_lt (by omega) (by omega) (by omega) (by omega)] at h
    omega
  · rw [iI_lt (by omega) (by omega) (by omega) (by omega)] at h
    omega
set_option maxRecDepth 100000 in
set_option maxHeartbeats 4000000 in
theorem lw_loop (hx : p.tables.exec = Jvm.exec) (hb : cd.code = cL_law) (hml : cd.maxLocals = 4) (hown : s.vm.findClass RL = some mi.cls) (hT : ∀ w ∈ g_ws, w.before args s = true) (hK : va_K D g_cl (g_tys g) s) (hA : ∀ q, s.heap.size ≤ q → A q) (hE : e_St t1 t2 adK adV A s s.heap) (hX : va_X b L xs s s.heap) (hbl : b < s.heap.size) (hbA : ¬ A b) (hL : L ≤ 2560) (hRf : 14 ≤ R.frames) (hRl : 530 ≤ R.locals) (hend : ∀ (H : Heap) (locs : List Loc) (ls : Array Slot) (cells slots : Nat), cells ≤ R.cells → slots ≤ R.slots → va_S A s.heap H locs → W p la e R s mi args below meth cd H locs cells slots Q0 (F0 mi 1728 ls [])) : ∀ (n i cells slots : Nat) (H : Heap) (locs : List Loc) (ls : Array Slot), i ≤ 2600 → L ≤ i + 5 * n + 4 → cells + 20 * n ≤ R.cells → slots + 2600 * n ≤ R.slots → w_LS D g ad A s.heap H locs → lv_has ls 4 [(0, .ref b), (1, .ref (ad 0)), (2, .ref (ad 200)), (3, .int (nI i))] → W p la e R s mi args below meth cd H locs cells slots Q0 (F0 mi 18 ls [])
  | 0, i, cells, slots, H, locs, ls, hi, hn, hc, hs, hw, hl => lw_head hx hb hX hbl hbA (w_LS_S hw) hi hL hl (fun _ => hend H locs ls cells slots (by omega) (by omega) (w_LS_S hw)) (fun h => absurd h (by omega))
  | n + 1, i, cells, slots, H, locs, ls, hi, hn, hc, hs, hw, hl => by
    refine lw_head hx hb hX hbl hbA (w_LS_S hw) hi hL hl (fun _ => hend H locs ls cells slots (by omega) (by omega) (w_LS_S hw)) (fun hiL => ?_)
    refine lv_aload_n hx hb dL_law_26 rfl (lv_at hl 0 rfl) ?_
    refine lv_iload_n hx hb dL_law_27 rfl (lv_at hl 3 rfl) ?_
    refine va_sld hx hb hX hbl hbA (w_LS_S hw) (vp_in_nI (by omega) (by omega)) dL_law_28 ?_
    rw [nI_clamp (by omega)]
    refine lv_bipush (v := 63) hx hb dL_law_29 (by decide) ?_
    refine lv_iand hx hb dL_law_31 ?_
    obtain ⟨k, hk, ek⟩ := and63 (xs i)
    rw [ek]
    refine lw_switch hx hb hml hown hT hK hA hE hX hbl hbA hiL hL hRf hRl (by omega) (by omega) hl hk hw (fun H1 locs1 hw1 => ?_)
    refine lv_iinc (v := nI (i + 5)) (lv' := [(3, .int (nI (i + 5))), (0, .ref b), (1, .ref (ad 0)), (2, .ref (ad 200))]) hx hb dL_law_1722 hl (k := 3) rfl (nI_add i 5) (by decide) rfl (fun ls hl => ?_)
    refine lv_goto (tgt := 18) hx hb dL_law_1725 (by decide) ?_
    exact lw_loop hx hb hml hown hT hK hA hE hX hbl hbA hL hRf hRl hend n (i + 5) (cells + 20) (slots + 2600) H1 locs1 ls (by omega) (by omega) (by omega) (by omega) hw1 (lv_sub hl [1, 2, 3, 0] rfl)
end LAWC
