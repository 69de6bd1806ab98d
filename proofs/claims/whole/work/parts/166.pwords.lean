theorem zi_RJ4 : Cond.initialized RJ4 ∈ g_ws := g_tb (i := 4) (by decide +kernel) (by decide)
theorem zc_J4_append_15ec4 : Cond.code yJ4_append_15ec4 cJ4_append_15ec4 2 (some (.object "java/lang/StringBuilder")) ∈ g_ws := g_tb (i := 1159) (by decide +kernel) (by decide)
theorem zn_J4_append_15ec4 : Cond.instanceMethod yJ4_append_15ec4 ∈ g_ws := g_tb (i := 1157) (by decide +kernel) (by decide)
theorem zk_X10_345 : g_MK RX10 345 yJ4_append_15ec4 cJ4_append_15ec4 2 (some (.object "java/lang/StringBuilder")) 1 := ⟨g_tb (i := 1156) (by decide +kernel) (by decide), zi_RJ4, zc_J4_append_15ec4, ⟨by decide, by decide⟩, by decide +kernel⟩
theorem zl_J4_append_15ec4 : Cond.selects RJ4 yJ4_append_15ec4 yJ4_append_15ec4 ∈ g_ws := g_tb (i := 1158) (by decide +kernel) (by decide)
theorem zc_J4_append_bf812 : Cond.code yJ4_append_bf812 cJ4_append_bf812 2 (some (.object "java/lang/StringBuilder")) ∈ g_ws := g_tb (i := 1068) (by decide +kernel) (by decide)
theorem zn_J4_append_bf812 : Cond.instanceMethod yJ4_append_bf812 ∈ g_ws := g_tb (i := 1066) (by decide +kernel) (by decide)
theorem zk_X10_333 : g_MK RX10 333 yJ4_append_bf812 cJ4_append_bf812 2 (some (.object "java/lang/StringBuilder")) 1 := ⟨g_tb (i := 1065) (by decide +kernel) (by decide), zi_RJ4, zc_J4_append_bf812, ⟨by decide, by decide⟩, by decide +kernel⟩
theorem zl_J4_append_bf812 : Cond.selects RJ4 yJ4_append_bf812 yJ4_append_bf812 ∈ g_ws := g_tb (i := 1067) (by decide +kernel) (by decide)
theorem zc_J4_append_cf468 : Cond.code yJ4_append_cf468 cJ4_append_cf468 2 (some (.object "java/lang/StringBuilder")) ∈ g_ws := g_tb (i := 1116) (by decide +kernel) (by decide)
theorem zn_J4_append_cf468 : Cond.instanceMethod yJ4_append_cf468 ∈ g_ws := g_tb (i := 1114) (by decide +kernel) (by decide)
theorem zk_X10_337 : g_MK RX10 337 yJ4_append_cf468 cJ4_append_cf468 2 (some (.object "java/lang/StringBuilder")) 1 := ⟨g_tb (i := 1113) (by decide +kernel) (by decide), zi_RJ4, zc_J4_append_cf468, ⟨by decide, by decide⟩, by decide +kernel⟩
theorem zl_J4_append_cf468 : Cond.selects RJ4 yJ4_append_cf468 yJ4_append_cf468 ∈ g_ws := g_tb (i := 1115) (by decide +kernel) (by decide)
theorem zc_J4_setLength_d00df : Cond.code yJ4_setLength_d00df cJ4_setLength_d00df 2 none ∈ g_ws := g_tb (i := 1017) (by decide +kernel) (by decide)
theorem zn_J4_setLength_d00df : Cond.instanceMethod yJ4_setLength_d00df ∈ g_ws := g_tb (i := 1015) (by decide +kernel) (by decide)
theorem zk_X10_330 : g_MK RX10 330 yJ4_setLength_d00df cJ4_setLength_d00df 2 none 1 := ⟨g_tb (i := 1014) (by decide +kernel) (by decide), zi_RJ4, zc_J4_setLength_d00df, ⟨by decide, by decide⟩, by decide +kernel⟩
theorem zl_J4_setLength_d00df : Cond.selects RJ4 yJ4_setLength_d00df yJ4_setLength_d00df ∈ g_ws := g_tb (i := 1016) (by decide +kernel) (by decide)
theorem zc_J4_length_8abf5 : Cond.code yJ4_length_8abf5 cJ4_length_8abf5 1 (some .int) ∈ g_ws := g_tb (i := 1211) (by decide +kernel) (by decide)
theorem zn_J4_length_8abf5 : Cond.instanceMethod yJ4_length_8abf5 ∈ g_ws := g_tb (i := 1209) (by decide +kernel) (by decide)
theorem zk_X10_355 : g_MK RX10 355 yJ4_length_8abf5 cJ4_length_8abf5 1 (some .int) 0 := ⟨g_tb (i := 1208) (by decide +kernel) (by decide), zi_RJ4, zc_J4_length_8abf5, ⟨by decide, by decide⟩, by decide +kernel⟩
theorem zl_J4_length_8abf5 : Cond.selects RJ4 yJ4_length_8abf5 yJ4_length_8abf5 ∈ g_ws := g_tb (i := 1210) (by decide +kernel) (by decide)
theorem zc_J4_charAt_5068e : Cond.code yJ4_charAt_5068e cJ4_charAt_5068e 2 (some .char) ∈ g_ws := g_tb (i := 1222) (by decide +kernel) (by decide)
theorem zn_J4_charAt_5068e : Cond.instanceMethod yJ4_charAt_5068e ∈ g_ws := g_tb (i := 1220) (by decide +kernel) (by decide)
theorem zk_X10_357 : g_MK RX10 357 yJ4_charAt_5068e cJ4_charAt_5068e 2 (some .char) 1 := ⟨g_tb (i := 1219) (by decide +kernel) (by decide), zi_RJ4, zc_J4_charAt_5068e, ⟨by decide, by decide⟩, by decide +kernel⟩
theorem zl_J4_charAt_5068e : Cond.selects RJ4 yJ4_charAt_5068e yJ4_charAt_5068e ∈ g_ws := g_tb (i := 1221) (by decide +kernel) (by decide)
theorem j_n4 {c : Nat} (h : c < 100) : ¬ nI c = -4 := fun e => by
  have h1 := nI_toInt (n := c) (by omega)
  rw [e] at h1
  have : (-4 : Int32).toInt = -4 := by decide
  omega
theorem j_nge {t : List Nat} {m j : Nat} {f : Nat → Int32} (h : j < t.length) (ht : sbT t m f) : ¬ nI j ≥ nI t.length := nI_ge h (by have := ht.1; have := ht.2.1; omega)
theorem j_ge {t : List Nat} {j : Nat} (h : t.length ≤ j) (h2 : j < 2 ^ 31) : nI j ≥ nI t.length := nI_le h h2
theorem numN_le (k : Nat) : (numN k).length ≤ 2 := by
  unfold numN
  split <;> simp
