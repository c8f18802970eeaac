/-! rules over plain ints of the machine (Integer.bitCount, texts) -/
section Raw
variable {y : MethodName} {cc : ByteArray} {nL : Nat} {ret : Option FieldType} {R : Room} {F : FT} {b n0 kc ks pc : Nat} {ls : List (Option Value)} {st : List Value} {sh : Shp} {M : Mem}
theorem Q_iload_n {i : Fin 4} {x : Int32} (hd : decode cc pc = .ok (.iload_n i, 1)) (hg : lget ls i = some (.int x)) (k : MW y cc nL ret R F b n0 kc ks (pc + 1) ls (.int x :: st) sh M) : MW y cc nL ret R F b n0 kc ks pc ls st sh M := by
  intro p l e s m args below meth c D H locs lsA C hR hS hk hl
  exact lv_iload_n C.1 C.2.1 hd rfl (lget_at hl hg) (k p l e s m args below meth c D H locs lsA C hR hS hk hl)
theorem Q_iconst {n : Int} {v : Int32} (hd : decode cc pc = .ok (.iconst n, 1)) (hv : Int32.ofInt n = v) (k : MW y cc nL ret R F b n0 kc ks (pc + 1) ls (.int v :: st) sh M) : MW y cc nL ret R F b n0 kc ks pc ls st sh M := by
  intro p l e s m args below meth c D H locs lsA C hR hS hk hl
  exact lv_iconst C.1 C.2.1 hd hv (k p l e s m args below meth c D H locs lsA C hR hS hk hl)
theorem Q_bipush {n : Int} {v : Int32} (hd : decode cc pc = .ok (.bipush n, 2)) (hv : (Int8.ofInt n).toInt32 = v) (k : MW y cc nL ret R F b n0 kc ks (pc + 2) ls (.int v :: st) sh M) : MW y cc nL ret R F b n0 kc ks pc ls st sh M := by
  intro p l e s m args below meth c D H locs lsA C hR hS hk hl
  exact lv_bipush C.1 C.2.1 hd hv (k p l e s m args below meth c D H locs lsA C hR hS hk hl)
theorem Q_ldcw {idx : Nat} {v : Int32} (hd : decode cc pc = .ok (.ldc_w idx, 3)) (hw : Cond.constant y.cls idx v ∈ tblG) (k : MW y cc nL ret R F b n0 kc ks (pc + 3) ls (.int v :: st) sh M) : MW y cc nL ret R F b n0 kc ks pc ls st sh M := by
  intro p l e s m args below meth c D H locs lsA C hR hS hk hl
  exact lv_ldcw C.1 C.2.1 C.2.2.2.1 (C.2.2.2.2.2.2.2.1 _ hw) hd (k p l e s m args below meth c D H locs lsA C hR hS hk hl)
theorem Q_istore_n {i : Fin 4} {x : Int32} {ls' : List (Option Value)} (hd : decode cc pc = .ok (.istore_n i, 1)) (hn : (i : Nat) < nL) (ho : okst ls i = true) (hs : lset ls i (some (.int x)) = ls') (k : MW y cc nL ret R F b n0 kc ks (pc + 1) ls' st sh M) : MW y cc nL ret R F b n0 kc ks pc ls (.int x :: st) sh M := by
  intro p l e s m args below meth c D H locs lsA C hR hS hk hl
  subst hs
  exact lv_istore_n C.1 C.2.1 hd rfl hl hn rfl (fun lsB hB => k p l e s m args below meth c D H locs lsB C hR hS hk (lset_has hB ho))
theorem Q_iadd {u v : Int32} (hd : decode cc pc = .ok (.iadd, 1)) (k : MW y cc nL ret R F b n0 kc ks (pc + 1) ls (.int (u + v) :: st) sh M) : MW y cc nL ret R F b n0 kc ks pc ls (.int v :: .int u :: st) sh M := by
  intro p l e s m args below meth c D H locs lsA C hR hS hk hl
  exact lv_iadd C.1 C.2.1 hd (k p l e s m args below meth c D H locs lsA C hR hS hk hl)
theorem Q_isub {u v : Int32} (hd : decode cc pc = .ok (.isub, 1)) (k : MW y cc nL ret R F b n0 kc ks (pc + 1) ls (.int (u - v) :: st) sh M) : MW y cc nL ret R F b n0 kc ks pc ls (.int v :: .int u :: st) sh M := by
  intro p l e s m args below meth c D H locs lsA C hR hS hk hl
  exact lv_isub C.1 C.2.1 hd (k p l e s m args below meth c D H locs lsA C hR hS hk hl)
theorem Q_iand {u v : Int32} (hd : decode cc pc = .ok (.iand, 1)) (k : MW y cc nL ret R F b n0 kc ks (pc + 1) ls (.int (u &&& v) :: st) sh M) : MW y cc nL ret R F b n0 kc ks pc ls (.int v :: .int u :: st) sh M := by
  intro p l e s m args below meth c D H locs lsA C hR hS hk hl
  exact lv_iand C.1 C.2.1 hd (k p l e s m args below meth c D H locs lsA C hR hS hk hl)
theorem Q_iushr {u v w : Int32} (hd : decode cc pc = .ok (.iushr, 1)) (hw : (u.toUInt32 >>> (v.toUInt32 &&& Int32.toUInt32 31)).toInt32 = w) (k : MW y cc nL ret R F b n0 kc ks (pc + 1) ls (.int w :: st) sh M) : MW y cc nL ret R F b n0 kc ks pc ls (.int v :: .int u :: st) sh M := by
  intro p l e s m args below meth c D H locs lsA C hR hS hk hl
  subst hw
  exact lv_iushr C.1 C.2.1 hd rfl (k p l e s m args below meth c D H locs lsA C hR hS hk hl)
theorem Q_iret {d mc ms : Nat} {Q : Option Value → Mem → Prop} {x : Int32} (hd : decode cc pc = .ok (.ireturn, 1)) (hq : Q (some (.int x)) M) : MW y cc nL (some .int) (rmD d mc ms) (FM Q b sh mc ms) b n0 mc ms pc ls [.int x] sh M := by
  intro p l e s m args below meth c D H locs lsA C hR hS hk hl
  obtain ⟨hx, hb, -, -, -, hr, hlk, -⟩ := C
  exact W.iret (v := x) hx hb hr (fun t ht hW => ⟨⟨some (.int x), M, rfl, hq, by rw [ht]; exact hR⟩, hS.F ht⟩) hS.2.2 hd hlk
end Raw
def bcF (x : Int32) : Int32 :=
  let sr (u : Int32) (v : Int32) : Int32 := (u.toUInt32 >>> (v.toUInt32 &&& Int32.toUInt32 31)).toInt32
  let a := x - (sr x 1 &&& 1431655765)
  let c := (a &&& 858993459) + (sr a 2 &&& 858993459)
  let d := (c + sr c 4) &&& 252645135
  let e := d + sr d 8
  let f := e + sr e 16
  f &&& 63
/-- how many of the six bits stand -/
def cnt (x : Int) : Int := x / 1 % 2 + x / 2 % 2 + x / 4 % 2 + x / 8 % 2 + x / 16 % 2 + x / 32 % 2
theorem bcF_ok : ∀ k : Fin 64, bcF (Int32.ofInt (k.val : Int)) = Int32.ofInt (cnt (k.val : Int)) := by decide +kernel
theorem k_bitCount (b : Nat) (sh : Shp) (M : Mem) (x : Int) (hx : 0 ≤ x ∧ x < 64) : Ex 0 mJ6_bitCount_0f7a4 b sh M [vi x] (some (vi (cnt x))) M := by
  refine MC_of (by decide) rfl (Nat.le_of_ble_eq_true rfl) ?_
  have e : Int32.ofInt (cnt x) = bcF (Int32.ofInt x) := by
    have := bcF_ok ⟨x.toNat, by omega⟩
    simp only [Int.toNat_of_nonneg hx.1] at this
    exact this.symm
  show MW _ _ _ _ _ (FM (EQ (some (.int (Int32.ofInt (cnt x)))) M) b sh 0 0) _ _ _ _ _ [some (.int (Int32.ofInt x))] _ _ _
  rw [e]
  generalize Int32.ofInt x = z
  refine Q_iload_n dJ6_bitCount_0f7a4_0 rfl ?_
  refine Q_iload_n dJ6_bitCount_0f7a4_1 rfl ?_
  refine Q_iconst (v := 1) dJ6_bitCount_0f7a4_2 rfl ?_
  refine Q_iushr dJ6_bitCount_0f7a4_3 rfl ?_
  refine Q_ldcw dJ6_bitCount_0f7a4_4 kc_RJ6_265 ?_
  refine Q_iand dJ6_bitCount_0f7a4_7 ?_
  refine Q_isub dJ6_bitCount_0f7a4_8 ?_
  refine Q_istore_n dJ6_bitCount_0f7a4_9 (by decide) rfl rfl ?_
  refine Q_iload_n dJ6_bitCount_0f7a4_10 rfl ?_
  refine Q_ldcw dJ6_bitCount_0f7a4_11 kc_RJ6_266 ?_
  refine Q_iand dJ6_bitCount_0f7a4_14 ?_
  refine Q_iload_n dJ6_bitCount_0f7a4_15 rfl ?_
  refine Q_iconst (v := 2) dJ6_bitCount_0f7a4_16 rfl ?_
  refine Q_iushr dJ6_bitCount_0f7a4_17 rfl ?_
  refine Q_ldcw dJ6_bitCount_0f7a4_18 kc_RJ6_266 ?_
  refine Q_iand dJ6_bitCount_0f7a4_21 ?_
  refine Q_iadd dJ6_bitCount_0f7a4_22 ?_
  refine Q_istore_n dJ6_bitCount_0f7a4_23 (by decide) rfl rfl ?_
  refine Q_iload_n dJ6_bitCount_0f7a4_24 rfl ?_
  refine Q_iload_n dJ6_bitCount_0f7a4_25 rfl ?_
  refine Q_iconst (v := 4) dJ6_bitCount_0f7a4_26 rfl ?_
  refine Q_iushr dJ6_bitCount_0f7a4_27 rfl ?_
  refine Q_iadd dJ6_bitCount_0f7a4_28 ?_
  refine Q_ldcw dJ6_bitCount_0f7a4_29 kc_RJ6_267 ?_
  refine Q_iand dJ6_bitCount_0f7a4_32 ?_
  refine Q_istore_n dJ6_bitCount_0f7a4_33 (by decide) rfl rfl ?_
  refine Q_iload_n dJ6_bitCount_0f7a4_34 rfl ?_
  refine Q_iload_n dJ6_bitCount_0f7a4_35 rfl ?_
  refine Q_bipush (v := 8) dJ6_bitCount_0f7a4_36 rfl ?_
  refine Q_iushr dJ6_bitCount_0f7a4_38 rfl ?_
  refine Q_iadd dJ6_bitCount_0f7a4_39 ?_
  refine Q_istore_n dJ6_bitCount_0f7a4_40 (by decide) rfl rfl ?_
  refine Q_iload_n dJ6_bitCount_0f7a4_41 rfl ?_
  refine Q_iload_n dJ6_bitCount_0f7a4_42 rfl ?_
  refine Q_bipush (v := 16) dJ6_bitCount_0f7a4_43 rfl ?_
  refine Q_iushr dJ6_bitCount_0f7a4_45 rfl ?_
  refine Q_iadd dJ6_bitCount_0f7a4_46 ?_
  refine Q_istore_n dJ6_bitCount_0f7a4_47 (by decide) rfl rfl ?_
  refine Q_iload_n dJ6_bitCount_0f7a4_48 rfl ?_
  refine Q_bipush (v := 63) dJ6_bitCount_0f7a4_49 rfl ?_
  refine Q_iand dJ6_bitCount_0f7a4_51 ?_
  exact Q_iret dJ6_bitCount_0f7a4_52 ⟨rfl, rfl⟩
