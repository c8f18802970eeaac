/-! CONSTRUCTORS. P: the cells ahead of the new one, which lies at c -/
section PL
variable {y : MethodName} {cc : ByteArray} {nL : Nat} {ret : Option FieldType} {R : Room} {F : FT} {b n0 kc ks pc : Nat} {ls : List (Option Value)} {st : List Value} {P l l' sh sh' : Shp} {M : Mem}
theorem R_shp (he : sh = sh') (h : MW y cc nL ret R F b n0 kc ks pc ls st sh' M) : MW y cc nL ret R F b n0 kc ks pc ls st sh M := by subst he; exact h
theorem R_kk {kc' ks' : Nat} (h1 : kc = kc') (h2 : ks = ks') (h : MW y cc nL ret R F b n0 kc' ks' pc ls st sh M) : MW y cc nL ret R F b n0 kc ks pc ls st sh M := by subst h1; subst h2; exact h
theorem N_newa {x : Int} {n k : Nat} (hd : decode cc pc = .ok (.newarray .int, 2)) (hx : x = (n : Int)) (hn : n ≤ 100000) (hc : kc + 1 ≤ R.cells) (hsl : ks + n ≤ R.slots) (hk : P.length + l.length = k) (hl : l ++ [(9, n, [])] = l') (h : MW y cc nL ret R F b n0 (kc + 1) (ks + n) (pc + 2) ls (vr b k :: st) (P ++ l') (fr M k 0)) : MW y cc nL ret R F b n0 kc ks pc ls (vi x :: st) (P ++ l) M := by
  subst hk; subst hl
  refine R_newa hd ac_int hx hn hc hsl ?_
  rw [List.length_append, List.append_assoc]
  exact h
theorem N_anew {idx : Nat} {x : Int} {n k : Nat} (hd : decode cc pc = .ok (.anewarray idx, 3)) (hw : Cond.classLink y.cls idx RX4 ∈ tblG) (hx : x = (n : Int)) (hn : n ≤ 100000) (hc : kc + 1 ≤ R.cells) (hsl : ks + n ≤ R.slots) (hk : P.length + l.length = k) (hl : l ++ [(10, n, [])] = l') (h : MW y cc nL ret R F b n0 (kc + 1) (ks + n) (pc + 3) ls (vr b k :: st) (P ++ l') (fr M k (-1))) : MW y cc nL ret R F b n0 kc ks pc ls (vi x :: st) (P ++ l) M := by
  subst hk; subst hl
  refine R_anew hd hw hx hn hc hsl ?_
  rw [List.length_append, List.append_assoc]
  exact h
theorem N_putR {c ci nn idx j t i : Nat} {rs rs' : List (Option Nat)} (hd : decode cc pc = .ok (.putfield idx, 3)) (hf : FL y.cls idx ci j) (ht : rfT (tyA ci j) = true) (hft : ∀ v : Nat, fits (tyA ci j) (.ref v) = true) (hfin : fin y.cls idx ci j) (hy : y.name = "<init>") (hc : P.length + i = c) (hs : l[i]? = some (ci, nn, rs)) (hset : rs.set j (some t) = rs') (hl : j < rs.length) (hsh : l.set i (ci, nn, rs') = l') (k : MW y cc nL ret R F b n0 kc ks (pc + 3) ls st (P ++ l') M) : MW y cc nL ret R F b n0 kc ks pc ls (vr b t :: vr b c :: st) (P ++ l) M := by
  subst hc; subst hsh
  refine R_putR (nn := nn) hd hf ht hft hfin hy ?_ hset hl ?_ k
  · rw [List.getElem?_append_right (by omega), Nat.add_sub_cancel_left]
    exact hs
  · rw [List.set_append_right _ _ (by omega), Nat.add_sub_cancel_left]
theorem N_new {ci idx n : Nat} (hd : decode cc pc = .ok (.new idx, 3)) (hn : NL y.cls idx ci) (hl : sh.length = n) (hc : kc + 1 ≤ R.cells) (hsl : ks + nF ci ≤ R.slots) (k : MW y cc nL ret R F b n0 (kc + 1) (ks + nF ci) (pc + 3) ls (vr b n :: st) (sh ++ [(ci, 0, List.replicate (nF ci) none)]) (fr M n 0)) : MW y cc nL ret R F b n0 kc ks pc ls st sh M := by
  subst hl
  exact R_new hd hn hc hsl k
end PL
theorem len_cl {P l : Shp} {x : Sh1} {n : Nat} (h : l.length = n + 1) : (P ++ l).length = (P ++ [x]).length + n := by
  rw [List.length_append, List.length_append, h]
  show P.length + (n + 1) = P.length + 1 + n
  omega
/-- the cells from c up to e are new and hold nothing -/
def Zc (c e : Nat) (M M' : Mem) : Prop := (∀ k j, k < c → M' k j = M k j) ∧ ∀ k j, c ≤ k → k < e → M' k j = 0
theorem Zc_0 {c : Nat} {M : Mem} (hz : ∀ j, M c j = 0) : Zc c (c + 1) M M := ⟨fun _ _ _ => rfl, fun k j h1 h2 => by
  have : k = c := by omega
  subst this
  exact hz j⟩
theorem Zc_fr {c e : Nat} {M N : Mem} (h : Zc c e M N) (he : c ≤ e) : Zc c (e + 1) M (fr N e 0) := ⟨fun k j hk => by rw [fr_ne (by omega)]; exact h.1 k j hk, fun k j h1 h2 => by
  by_cases hk : k = e
  · subst hk; exact fr_e
  · rw [fr_ne hk]; exact h.2 k j h1 (by omega)⟩
def QZ (c e : Nat) (M : Mem) : Option Value → Mem → Prop := fun v M' => v = none ∧ Zc c e M M'

theorem i_X0 (b : Nat) (P : Shp) (M : Mem) (c : Nat) (hP : P.length = c) (hz : ∀ j, M c j = 0) : MC 1 (yX0_init, cX0_init, 1, none) 3 18 b (P ++ [(0, 0, List.replicate (nF 0) none)]) M [vr b c] (P ++ [(0, 0, [some (c + 1), some (c + 2), some (c + 3), none]), (9, 6, []), (9, 6, []), (9, 6, [])]) (QZ c (c + 4) M) := by
  refine MC_of (ls := [some (vr b c)]) (by decide) rfl (Nat.le_of_ble_eq_true rfl) ?_
  refine R_aload_n (pc := 0) dX0_init_0 rfl ?_
  refine R_objInit (pc := 1) dX0_init_1 ol_RX0_3 im_obj cw_obj (Nat.le_of_ble_eq_true rfl) ⟨Nat.le_of_ble_eq_true rfl, Nat.le_of_ble_eq_true rfl⟩ ?_
  refine R_aload_n (pc := 4) dX0_init_4 rfl ?_
  refine R_bipush (pc := 5) dX0_init_5 rfl ?_
  refine N_newa (pc := 7) (n := 6) (k := c + 1) (l' := [(0, 0, List.replicate (nF 0) none), (9, 6, [])]) dX0_init_7 rfl (by omega) (Nat.le_of_ble_eq_true rfl) (Nat.le_of_ble_eq_true rfl) (by rw [hP]; rfl) rfl ?_
  refine N_putR (pc := 9) (i := 0) (rs' := [some (c + 1), none, none, none]) (l' := [(0, 0, [some (c + 1), none, none, none]), (9, 6, [])]) dX0_init_9 fl_RX0_9 rfl (fun _ => rfl) fn_RX0_9 rfl hP rfl rfl (Nat.le_of_ble_eq_true rfl) rfl ?_
  refine R_aload_n (pc := 12) dX0_init_12 rfl ?_
  refine R_bipush (pc := 13) dX0_init_13 rfl ?_
  refine N_newa (pc := 15) (n := 6) (k := c + 2) (l' := [(0, 0, [some (c + 1), none, none, none]), (9, 6, []), (9, 6, [])]) dX0_init_15 rfl (by omega) (Nat.le_of_ble_eq_true rfl) (Nat.le_of_ble_eq_true rfl) (by rw [hP]; rfl) rfl ?_
  refine N_putR (pc := 17) (i := 0) (rs' := [some (c + 1), some (c + 2), none, none]) (l' := [(0, 0, [some (c + 1), some (c + 2), none, none]), (9, 6, []), (9, 6, [])]) dX0_init_17 fl_RX0_15 rfl (fun _ => rfl) fn_RX0_15 rfl hP rfl rfl (Nat.le_of_ble_eq_true rfl) rfl ?_
  refine R_aload_n (pc := 20) dX0_init_20 rfl ?_
  refine R_bipush (pc := 21) dX0_init_21 rfl ?_
  refine N_newa (pc := 23) (n := 6) (k := c + 3) (l' := [(0, 0, [some (c + 1), some (c + 2), none, none]), (9, 6, []), (9, 6, []), (9, 6, [])]) dX0_init_23 rfl (by omega) (Nat.le_of_ble_eq_true rfl) (Nat.le_of_ble_eq_true rfl) (by rw [hP]; rfl) rfl ?_
  refine N_putR (pc := 25) (i := 0) (rs' := [some (c + 1), some (c + 2), some (c + 3), none]) (l' := [(0, 0, [some (c + 1), some (c + 2), some (c + 3), none]), (9, 6, []), (9, 6, []), (9, 6, [])]) dX0_init_25 fl_RX0_18 rfl (fun _ => rfl) fn_RX0_18 rfl hP rfl rfl (Nat.le_of_ble_eq_true rfl) rfl ?_
  refine R_vret (pc := 28) dX0_init_28 ?_
  exact ⟨rfl, Zc_fr (Zc_fr (Zc_fr (Zc_0 hz) (by omega)) (by omega)) (by omega)⟩
theorem i_X1 (b : Nat) (P : Shp) (M : Mem) (c : Nat) (hP : P.length = c) (hz : ∀ j, M c j = 0) : MC 1 (yX1_init, cX1_init, 1, none) 1 200 b (P ++ [(1, 0, List.replicate (nF 1) none)]) M [vr b c] (P ++ [(1, 0, [some (c + 1), none]), (9, 200, [])]) (QZ c (c + 2) M) := by
  refine MC_of (ls := [some (vr b c)]) (by decide) rfl (Nat.le_of_ble_eq_true rfl) ?_
  refine R_aload_n (pc := 0) dX1_init_0 rfl ?_
  refine R_objInit (pc := 1) dX1_init_1 ol_RX1_3 im_obj cw_obj (Nat.le_of_ble_eq_true rfl) ⟨Nat.le_of_ble_eq_true rfl, Nat.le_of_ble_eq_true rfl⟩ ?_
  refine R_aload_n (pc := 4) dX1_init_4 rfl ?_
  refine R_sipush (pc := 5) dX1_init_5 rfl ?_
  refine N_newa (pc := 8) (n := 200) (k := c + 1) (l' := [(1, 0, List.replicate (nF 1) none), (9, 200, [])]) dX1_init_8 rfl (by omega) (Nat.le_of_ble_eq_true rfl) (Nat.le_of_ble_eq_true rfl) (by rw [hP]; rfl) rfl ?_
  refine N_putR (pc := 10) (i := 0) (rs' := [some (c + 1), none]) (l' := [(1, 0, [some (c + 1), none]), (9, 200, [])]) dX1_init_10 fl_RX1_9 rfl (fun _ => rfl) fn_RX1_9 rfl hP rfl rfl (Nat.le_of_ble_eq_true rfl) rfl ?_
  refine R_vret (pc := 13) dX1_init_13 ?_
  exact ⟨rfl, Zc_fr (Zc_0 hz) (by omega)⟩
theorem i_X2 (b : Nat) (P : Shp) (M : Mem) (c : Nat) (hP : P.length = c) (hz : ∀ j, M c j = 0) : MC 1 (yX2_init, cX2_init, 1, none) 8 60 b (P ++ [(2, 0, List.replicate (nF 2) none)]) M [vr b c] (P ++ [(2, 0, [none, some (c + 1), none, some (c + 2), some (c + 3), none, some (c + 4), some (c + 5), none, some (c + 6), some (c + 7), some (c + 8), none, none, none]), (9, 16, []), (9, 4, []), (9, 4, []), (9, 6, []), (9, 6, []), (9, 8, []), (9, 8, []), (9, 8, [])]) (QZ c (c + 9) M) := by
  refine MC_of (ls := [some (vr b c)]) (by decide) rfl (Nat.le_of_ble_eq_true rfl) ?_
  refine R_aload_n (pc := 0) dX2_init_0 rfl ?_
  refine R_objInit (pc := 1) dX2_init_1 ol_RX2_3 im_obj cw_obj (Nat.le_of_ble_eq_true rfl) ⟨Nat.le_of_ble_eq_true rfl, Nat.le_of_ble_eq_true rfl⟩ ?_
  refine R_aload_n (pc := 4) dX2_init_4 rfl ?_
  refine R_bipush (pc := 5) dX2_init_5 rfl ?_
  refine N_newa (pc := 7) (n := 16) (k := c + 1) (l' := [(2, 0, List.replicate (nF 2) none), (9, 16, [])]) dX2_init_7 rfl (by omega) (Nat.le_of_ble_eq_true rfl) (Nat.le_of_ble_eq_true rfl) (by rw [hP]; rfl) rfl ?_
  refine N_putR (pc := 9) (i := 0) (rs' := [none, some (c + 1), none, none, none, none, none, none, none, none, none, none, none, none, none]) (l' := [(2, 0, [none, some (c + 1), none, none, none, none, none, none, none, none, none, none, none, none, none]), (9, 16, [])]) dX2_init_9 fl_RX2_9 rfl (fun _ => rfl) fn_RX2_9 rfl hP rfl rfl (Nat.le_of_ble_eq_true rfl) rfl ?_
  refine R_aload_n (pc := 12) dX2_init_12 rfl ?_
  refine R_iconst (pc := 13) dX2_init_13 ?_
  refine N_newa (pc := 14) (n := 4) (k := c + 2) (l' := [(2, 0, [none, some (c + 1), none, none, none, none, none, none, none, none, none, none, none, none, none]), (9, 16, []), (9, 4, [])]) dX2_init_14 rfl (by omega) (Nat.le_of_ble_eq_true rfl) (Nat.le_of_ble_eq_true rfl) (by rw [hP]; rfl) rfl ?_
  refine N_putR (pc := 16) (i := 0) (rs' := [none, some (c + 1), none, some (c + 2), none, none, none, none, none, none, none, none, none, none, none]) (l' := [(2, 0, [none, some (c + 1), none, some (c + 2), none, none, none, none, none, none, none, none, none, none, none]), (9, 16, []), (9, 4, [])]) dX2_init_16 fl_RX2_15 rfl (fun _ => rfl) fn_RX2_15 rfl hP rfl rfl (Nat.le_of_ble_eq_true rfl) rfl ?_
  refine R_aload_n (pc := 19) dX2_init_19 rfl ?_
  refine R_iconst (pc := 20) dX2_init_20 ?_
  refine N_newa (pc := 21) (n := 4) (k := c + 3) (l' := [(2, 0, [none, some (c + 1), none, some (c + 2), none, none, none, none, none, none, none, none, none, none, none]), (9, 16, []), (9, 4, []), (9, 4, [])]) dX2_init_21 rfl (by omega) (Nat.le_of_ble_eq_true rfl) (Nat.le_of_ble_eq_true rfl) (by rw [hP]; rfl) rfl ?_
  refine N_putR (pc := 23) (i := 0) (rs' := [none, some (c + 1), none, some (c + 2), some (c + 3), none, none, none, none, none, none, none, none, none, none]) (l' := [(2, 0, [none, some (c + 1), none, some (c + 2), some (c + 3), none, none, none, none, none, none, none, none, none, none]), (9, 16, []), (9, 4, []), (9, 4, [])]) dX2_init_23 fl_RX2_18 rfl (fun _ => rfl) fn_RX2_18 rfl hP rfl rfl (Nat.le_of_ble_eq_true rfl) rfl ?_
  refine R_aload_n (pc := 26) dX2_init_26 rfl ?_
  refine R_bipush (pc := 27) dX2_init_27 rfl ?_
  refine N_newa (pc := 29) (n := 6) (k := c + 4) (l' := [(2, 0, [none, some (c + 1), none, some (c + 2), some (c + 3), none, none, none, none, none, none, none, none, none, none]), (9, 16, []), (9, 4, []), (9, 4, []), (9, 6, [])]) dX2_init_29 rfl (by omega) (Nat.le_of_ble_eq_true rfl) (Nat.le_of_ble_eq_true rfl) (by rw [hP]; rfl) rfl ?_
  refine N_putR (pc := 31) (i := 0) (rs' := [none, some (c + 1), none, some (c + 2), some (c + 3), none, some (c + 4), none, none, none, none, none, none, none, none]) (l' := [(2, 0, [none, some (c + 1), none, some (c + 2), some (c + 3), none, some (c + 4), none, none, none, none, none, none, none, none]), (9, 16, []), (9, 4, []), (9, 4, []), (9, 6, [])]) dX2_init_31 fl_RX2_21 rfl (fun _ => rfl) fn_RX2_21 rfl hP rfl rfl (Nat.le_of_ble_eq_true rfl) rfl ?_
  refine R_aload_n (pc := 34) dX2_init_34 rfl ?_
  refine R_bipush (pc := 35) dX2_init_35 rfl ?_
  refine N_newa (pc := 37) (n := 6) (k := c + 5) (l' := [(2, 0, [none, some (c + 1), none, some (c + 2), some (c + 3), none, some (c + 4), none, none, none, none, none, none, none, none]), (9, 16, []), (9, 4, []), (9, 4, []), (9, 6, []), (9, 6, [])]) dX2_init_37 rfl (by omega) (Nat.le_of_ble_eq_true rfl) (Nat.le_of_ble_eq_true rfl) (by rw [hP]; rfl) rfl ?_
  refine N_putR (pc := 39) (i := 0) (rs' := [none, some (c + 1), none, some (c + 2), some (c + 3), none, some (c + 4), some (c + 5), none, none, none, none, none, none, none]) (l' := [(2, 0, [none, some (c + 1), none, some (c + 2), some (c + 3), none, some (c + 4), some (c + 5), none, none, none, none, none, none, none]), (9, 16, []), (9, 4, []), (9, 4, []), (9, 6, []), (9, 6, [])]) dX2_init_39 fl_RX2_24 rfl (fun _ => rfl) fn_RX2_24 rfl hP rfl rfl (Nat.le_of_ble_eq_true rfl) rfl ?_
  refine R_aload_n (pc := 42) dX2_init_42 rfl ?_
  refine R_bipush (pc := 43) dX2_init_43 rfl ?_
  refine N_newa (pc := 45) (n := 8) (k := c + 6) (l' := [(2, 0, [none, some (c + 1), none, some (c + 2), some (c + 3), none, some (c + 4), some (c + 5), none, none, none, none, none, none, none]), (9, 16, []), (9, 4, []), (9, 4, []), (9, 6, []), (9, 6, []), (9, 8, [])]) dX2_init_45 rfl (by omega) (Nat.le_of_ble_eq_true rfl) (Nat.le_of_ble_eq_true rfl) (by rw [hP]; rfl) rfl ?_
  refine N_putR (pc := 47) (i := 0) (rs' := [none, some (c + 1), none, some (c + 2), some (c + 3), none, some (c + 4), some (c + 5), none, some (c + 6), none, none, none, none, none]) (l' := [(2, 0, [none, some (c + 1), none, some (c + 2), some (c + 3), none, some (c + 4), some (c + 5), none, some (c + 6), none, none, none, none, none]), (9, 16, []), (9, 4, []), (9, 4, []), (9, 6, []), (9, 6, []), (9, 8, [])]) dX2_init_47 fl_RX2_27 rfl (fun _ => rfl) fn_RX2_27 rfl hP rfl rfl (Nat.le_of_ble_eq_true rfl) rfl ?_
  refine R_aload_n (pc := 50) dX2_init_50 rfl ?_
  refine R_bipush (pc := 51) dX2_init_51 rfl ?_
  refine N_newa (pc := 53) (n := 8) (k := c + 7) (l' := [(2, 0, [none, some (c + 1), none, some (c + 2), some (c + 3), none, some (c + 4), some (c + 5), none, some (c + 6), none, none, none, none, none]), (9, 16, []), (9, 4, []), (9, 4, []), (9, 6, []), (9, 6, []), (9, 8, []), (9, 8, [])]) dX2_init_53 rfl (by omega) (Nat.le_of_ble_eq_true rfl) (Nat.le_of_ble_eq_true rfl) (by rw [hP]; rfl) rfl ?_
  refine N_putR (pc := 55) (i := 0) (rs' := [none, some (c + 1), none, some (c + 2), some (c + 3), none, some (c + 4), some (c + 5), none, some (c + 6), some (c + 7), none, none, none, none]) (l' := [(2, 0, [none, some (c + 1), none, some (c + 2), some (c + 3), none, some (c + 4), some (c + 5), none, some (c + 6), some (c + 7), none, none, none, none]), (9, 16, []), (9, 4, []), (9, 4, []), (9, 6, []), (9, 6, []), (9, 8, []), (9, 8, [])]) dX2_init_55 fl_RX2_30 rfl (fun _ => rfl) fn_RX2_30 rfl hP rfl rfl (Nat.le_of_ble_eq_true rfl) rfl ?_
  refine R_aload_n (pc := 58) dX2_init_58 rfl ?_
  refine R_bipush (pc := 59) dX2_init_59 rfl ?_
  refine N_newa (pc := 61) (n := 8) (k := c + 8) (l' := [(2, 0, [none, some (c + 1), none, some (c + 2), some (c + 3), none, some (c + 4), some (c + 5), none, some (c + 6), some (c + 7), none, none, none, none]), (9, 16, []), (9, 4, []), (9, 4, []), (9, 6, []), (9, 6, []), (9, 8, []), (9, 8, []), (9, 8, [])]) dX2_init_61 rfl (by omega) (Nat.le_of_ble_eq_true rfl) (Nat.le_of_ble_eq_true rfl) (by rw [hP]; rfl) rfl ?_
  refine N_putR (pc := 63) (i := 0) (rs' := [none, some (c + 1), none, some (c + 2), some (c + 3), none, some (c + 4), some (c + 5), none, some (c + 6), some (c + 7), some (c + 8), none, none, none]) (l' := [(2, 0, [none, some (c + 1), none, some (c + 2), some (c + 3), none, some (c + 4), some (c + 5), none, some (c + 6), some (c + 7), some (c + 8), none, none, none]), (9, 16, []), (9, 4, []), (9, 4, []), (9, 6, []), (9, 6, []), (9, 8, []), (9, 8, []), (9, 8, [])]) dX2_init_63 fl_RX2_33 rfl (fun _ => rfl) fn_RX2_33 rfl hP rfl rfl (Nat.le_of_ble_eq_true rfl) rfl ?_
  refine R_vret (pc := 66) dX2_init_66 ?_
  exact ⟨rfl, Zc_fr (Zc_fr (Zc_fr (Zc_fr (Zc_fr (Zc_fr (Zc_fr (Zc_fr (Zc_0 hz) (by omega)) (by omega)) (by omega)) (by omega)) (by omega)) (by omega)) (by omega)) (by omega)⟩
theorem i_X3 (b : Nat) (P : Shp) (M : Mem) (c : Nat) (t : Nat) (hP : P.length = c) (hz : ∀ j, M c j = 0) : MC 1 (yX3_init, cX3_init, 2, none) 1 3 b (P ++ [(3, 0, List.replicate (nF 3) none)]) M [vr b c, vr b t] (P ++ [(3, 0, [some (t), some (c + 1)]), (9, 3, [])]) (QZ c (c + 2) M) := by
  refine MC_of (ls := [some (vr b c), some (vr b t)]) (by decide) rfl (Nat.le_of_ble_eq_true rfl) ?_
  refine R_aload_n (pc := 0) dX3_init_0 rfl ?_
  refine R_objInit (pc := 1) dX3_init_1 ol_RX3_3 im_obj cw_obj (Nat.le_of_ble_eq_true rfl) ⟨Nat.le_of_ble_eq_true rfl, Nat.le_of_ble_eq_true rfl⟩ ?_
  refine R_aload_n (pc := 4) dX3_init_4 rfl ?_
  refine R_iconst (pc := 5) dX3_init_5 ?_
  refine N_newa (pc := 6) (n := 3) (k := c + 1) (l' := [(3, 0, List.replicate (nF 3) none), (9, 3, [])]) dX3_init_6 rfl (by omega) (Nat.le_of_ble_eq_true rfl) (Nat.le_of_ble_eq_true rfl) (by rw [hP]; rfl) rfl ?_
  refine N_putR (pc := 8) (i := 0) (rs' := [none, some (c + 1)]) (l' := [(3, 0, [none, some (c + 1)]), (9, 3, [])]) dX3_init_8 fl_RX3_11 rfl (fun _ => rfl) fn_RX3_11 rfl hP rfl rfl (Nat.le_of_ble_eq_true rfl) rfl ?_
  refine R_aload_n (pc := 11) dX3_init_11 rfl ?_
  refine R_aload_n (pc := 12) dX3_init_12 rfl ?_
  refine N_putR (pc := 13) (i := 0) (rs' := [some (t), some (c + 1)]) (l' := [(3, 0, [some (t), some (c + 1)]), (9, 3, [])]) dX3_init_13 fl_RX3_15 rfl (fun _ => rfl) fn_RX3_15 rfl hP rfl rfl (Nat.le_of_ble_eq_true rfl) rfl ?_
  refine R_vret (pc := 16) dX3_init_16 ?_
  exact ⟨rfl, Zc_fr (Zc_0 hz) (by omega)⟩
theorem i_X4 (b : Nat) (P : Shp) (M : Mem) (c : Nat) (hP : P.length = c) (hz : ∀ j, M c j = 0) : MC 1 (yX4_init, cX4_init, 1, none) 1 16 b (P ++ [(4, 0, List.replicate (nF 4) none)]) M [vr b c] (P ++ [(4, 0, [none, some (c + 1), none, none, none]), (9, 16, [])]) (QZ c (c + 2) M) := by
  refine MC_of (ls := [some (vr b c)]) (by decide) rfl (Nat.le_of_ble_eq_true rfl) ?_
  refine R_aload_n (pc := 0) dX4_init_0 rfl ?_
  refine R_objInit (pc := 1) dX4_init_1 ol_RX4_3 im_obj cw_obj (Nat.le_of_ble_eq_true rfl) ⟨Nat.le_of_ble_eq_true rfl, Nat.le_of_ble_eq_true rfl⟩ ?_
  refine R_aload_n (pc := 4) dX4_init_4 rfl ?_
  refine R_bipush (pc := 5) dX4_init_5 rfl ?_
  refine N_newa (pc := 7) (n := 16) (k := c + 1) (l' := [(4, 0, List.replicate (nF 4) none), (9, 16, [])]) dX4_init_7 rfl (by omega) (Nat.le_of_ble_eq_true rfl) (Nat.le_of_ble_eq_true rfl) (by rw [hP]; rfl) rfl ?_
  refine N_putR (pc := 9) (i := 0) (rs' := [none, some (c + 1), none, none, none]) (l' := [(4, 0, [none, some (c + 1), none, none, none]), (9, 16, [])]) dX4_init_9 fl_RX4_9 rfl (fun _ => rfl) fn_RX4_9 rfl hP rfl rfl (Nat.le_of_ble_eq_true rfl) rfl ?_
  refine R_vret (pc := 12) dX4_init_12 ?_
  exact ⟨rfl, Zc_fr (Zc_0 hz) (by omega)⟩
/-- k roads from the cell q on -/
def rdL (q : Nat) : Nat → Shp
  | 0 => []
  | k + 1 => rdL q k ++ [(4, 0, [none, some (q + 2 * k + 1), none, none, none]), (9, 16, [])]
theorem rdL_len {q : Nat} : ∀ k, (rdL q k).length = 2 * k
  | 0 => rfl
  | k + 1 => by rw [rdL, List.length_append, rdL_len k]; show 2 * k + 2 = _; omega
/-- a row of roads at a, k of them made, from q on -/
def Zr (c a q k : Nat) (M N : Mem) : Prop := (∀ x j, x < c → N x j = M x j) ∧ (∀ x j, c ≤ x → x < q → x ≠ a → N x j = 0) ∧ (∀ j, N a j = if 0 ≤ j ∧ j < (k : Int) then (q : Int) + 2 * j else -1) ∧ ∀ x j, q ≤ x → x < q + 2 * k → N x j = 0
theorem Zr_s {c a q k : Nat} {M N N' : Mem} (h : Zr c a q k M N) (hca : c ≤ a) (haq : a < q) (h2 : Zc (q + 2 * k) (q + 2 * k + 2) (fr N (q + 2 * k) 0) N') {i : Int} (hi : i = k) {t : Int} (ht : t = (q : Int) + 2 * k) : Zr c a q (k + 1) M (up N' a i t) := by
  obtain ⟨g1, g2, g3, g4⟩ := h
  have e : ∀ x j, x < q + 2 * k → N' x j = N x j := fun x j hx => by rw [h2.1 x j hx, fr_ne (by omega)]
  refine ⟨fun x j hx => ?_, fun x j h0 h1 hne => ?_, fun j => ?_, fun x j h0 h1 => ?_⟩
  · rw [up_k (by omega), e x j (by omega)]; exact g1 x j hx
  · rw [up_k hne, e x j (by omega)]; exact g2 x j h0 h1 hne
  · by_cases hj : j = i
    · rw [hj, up_s, if_pos (by omega)]; omega
    · rw [up_j hj, e a j (by omega), g3]
      by_cases hk : 0 ≤ j ∧ j < (k : Int)
      · rw [if_pos hk, if_pos (by omega)]
      · rw [if_neg hk, if_neg (by omega)]
  · rw [up_k (by omega)]
    by_cases hx : x < q + 2 * k
    · rw [e x j hx]; exact g4 x j h0 hx
    · exact h2.2 x j (by omega) (by omega)
theorem rd_at {P pre : Shp} {c q k : Nat} (hP : P.length = c) (hq : c + pre.length = q) : (P ++ (pre ++ rdL q (k + 1)))[q + 2 * k]? = some (4, 0, [none, some (q + 2 * k + 1), none, none, none]) := by
  rw [List.getElem?_append_right (by omega), List.getElem?_append_right (by omega), rdL, List.getElem?_append_right (by rw [rdL_len]; omega), rdL_len, show q + 2 * k - P.length - pre.length - 2 * k = 0 by omega]
  rfl
theorem pre_at' {P pre x : Shp} {c i : Nat} {q : Sh1} (hP : P.length = c) (h : pre[i]? = some q) : (P ++ (pre ++ x))[c + i]? = some q := by
  have hi : i < pre.length := (List.getElem?_eq_some_iff.mp h).1
  rw [List.getElem?_append_right (by omega), List.getElem?_append_left (by omega), show c + i - P.length = i by omega]
  exact h

theorem i_X6 (b : Nat) (P : Shp) (M : Mem) (c : Nat) (n : Nat) (hn : n = 8 ∨ n = 2) (hP : P.length = c) (hc : c ≤ 1000) (hz : ∀ j, M c j = 0) : MC 2 (yX6_init, cX6_init, 3, none) (1 + 2 * n) (n + 21 * n) b (P ++ [(6, 0, List.replicate (nF 6) none)]) M [vr b c, vi n] (P ++ ([(6, 0, [some (c + 1), none]), (10, n, [])] ++ rdL (c + 2) n)) (fun v M' => v = none ∧ Zr c (c + 1) (c + 2) n M M') := by
  have L : ∀ (f k : Nat) (i : Int) (N : Mem), i = k → k ≤ n → n - k < f → Zr c (c + 1) (c + 2) k M N → MW yX6_init cX6_init 3 none (rmD 2 (1 + 2 * n) (n + 21 * n)) (FM (fun v M' => v = none ∧ Zr c (c + 1) (c + 2) n M M') b (P ++ ([(6, 0, [some (c + 1), none]), (10, n, [])] ++ rdL (c + 2) n)) (1 + 2 * n) (n + 21 * n)) b (P ++ [(6, 0, List.replicate (nF 6) none)]).length (1 + 2 * k) (n + 21 * k) 18 [some (vr b c), some (vi n), some (vi i)] [] (P ++ ([(6, 0, [some (c + 1), none]), (10, n, [])] ++ rdL (c + 2) k)) N := by
    intro f
    induction f with
    | zero => intro k i N h0 h1 h2; exact absurd h2 (by omega)
    | succ f ih =>
      intro k i N h0 h1 h2 hZ
      have s0 : (P ++ ([(6, 0, [some (c + 1), none]), (10, n, [])] ++ rdL (c + 2) k))[c]? = some (6, 0, [some (c + 1), none]) := pre_at' (i := 0) hP rfl
      have s1 : (P ++ ([(6, 0, [some (c + 1), none]), (10, n, [])] ++ rdL (c + 2) k))[c + 1]? = some (10, n, []) := pre_at' (i := 1) hP rfl
      refine R_iload_n (pc := 18) dX6_init_18 rfl ?_
      refine R_aload_n (pc := 19) dX6_init_19 rfl ?_
      refine R_getR (pc := 20) dX6_init_20 fl_RX6_15 rfl s0 rfl ?_
      refine R_alen (pc := 23) dX6_init_23 (Or.inr s1) ?_
      refine R_cmp_ge (pc := 24) (tgt := 46) dX6_init_24 (by decide) (by omega) (fun h3 => ?_) (fun h3 => ?_)
      · have ek : k = n := by omega
        subst ek
        refine R_vret (pc := 46) dX6_init_46 ?_
        exact ⟨rfl, hZ⟩
      · refine R_aload_n (pc := 27) dX6_init_27 rfl ?_
        refine R_getR (pc := 28) dX6_init_28 fl_RX6_15 rfl s0 rfl ?_
        refine R_iload_n (pc := 31) dX6_init_31 rfl ?_
        refine N_new (pc := 32) (ci := 4) (n := c + 2 + 2 * k) dX6_init_32 nl_RX6_13 (by rw [List.length_append, List.length_append, rdL_len, hP]; show c + (2 + 2 * k) = _; omega) (by show 1 + 2 * k + 1 ≤ 1 + 2 * n; omega) (by show n + 21 * k + 5 ≤ n + 21 * n; omega) ?_
        refine R_dup (pc := 35) dX6_init_35 rfl ?_
        refine R_callI (pc := 36) (rest := [vr b (c + 2 + 2 * k), vi i, vr b (c + 1)]) dX6_init_36 si_RX6_21 (i_X4 b _ _ (c + 2 + 2 * k) (by rw [List.length_append, List.length_append, rdL_len, hP]; show c + (2 + 2 * k) = _; omega) (fun j => fr_e)) rfl rfl (Nat.le_of_ble_eq_true rfl) ⟨Nat.le_of_ble_eq_true rfl, Nat.le_of_ble_eq_true rfl, by show 1 + 2 * k + 1 + 1 ≤ 1 + 2 * n; omega, by show n + 21 * k + 5 + 16 ≤ n + 21 * n; omega⟩ (len_cl rfl) ?_
        rintro v N' ⟨rfl, hZ4⟩
        refine R_shp (sh' := P ++ ([(6, 0, [some (c + 1), none]), (10, n, [])] ++ rdL (c + 2) (k + 1))) (by rw [List.append_assoc, List.append_assoc]; rfl) ?_
        refine R_aast (pc := 39) dX6_init_39 (pre_at' (i := 1) hP rfl) (by omega) (rd_at hP rfl) (by omega) ?_
        refine R_iinc (pc := 40) dX6_init_40 rfl (by decide) rfl rfl ?_
        refine R_goto (pc := 43) (tgt := 18) dX6_init_43 (by decide) ?_
        refine R_kk (kc' := 1 + 2 * (k + 1)) (ks' := n + 21 * (k + 1)) (by omega) (by show n + 21 * k + 5 + 16 = _; omega) ?_
        exact ih (k + 1) (i + 1) _ (by omega) (by omega) (by omega) (Zr_s hZ (by omega) (by omega) hZ4 h0 (by omega))
  refine MC_of (ls := [some (vr b c), some (vi n), none]) (by decide) rfl (Nat.le_of_ble_eq_true rfl) ?_
  refine R_aload_n (pc := 0) dX6_init_0 rfl ?_
  refine R_objInit (pc := 1) dX6_init_1 ol_RX6_1 im_obj cw_obj (Nat.le_of_ble_eq_true rfl) ⟨Nat.le_of_ble_eq_true rfl, Nat.le_of_ble_eq_true rfl⟩ ?_
  refine R_aload_n (pc := 4) dX6_init_4 rfl ?_
  refine R_iconst (pc := 5) dX6_init_5 ?_
  refine R_iload_n (pc := 6) dX6_init_6 rfl ?_
  refine R_mmax (pc := 7) dX6_init_7 ss_RX6_7 (by omega) (Nat.le_of_ble_eq_true rfl) ⟨Nat.le_of_ble_eq_true rfl, Nat.le_of_ble_eq_true rfl, Nat.zero_le _, Nat.zero_le _⟩ ?_
  refine N_anew (pc := 10) (n := n) (k := c + 1) (l' := [(6, 0, List.replicate (nF 6) none), (10, n, [])]) dX6_init_10 ck_RX6_13 (by omega) (by omega) (by show 0 + 1 ≤ 1 + 2 * n; omega) (by show 0 + n ≤ n + 21 * n; omega) (by rw [hP]; rfl) rfl ?_
  refine N_putR (pc := 13) (i := 0) (rs' := [some (c + 1), none]) (l' := [(6, 0, [some (c + 1), none]), (10, n, [])]) dX6_init_13 fl_RX6_15 rfl (fun _ => rfl) fn_RX6_15 rfl hP rfl rfl (Nat.le_of_ble_eq_true rfl) rfl ?_
  refine R_iconst (pc := 16) dX6_init_16 ?_
  refine R_istore_n (pc := 17) dX6_init_17 (by decide) rfl rfl ?_
  refine R_kk (kc' := 1 + 2 * 0) (ks' := n + 21 * 0) rfl (by omega) ?_
  refine L 100 0 0 _ rfl (by omega) (by omega) ⟨fun x j hx => by rw [fr_ne (by omega)], fun x j h1 h2 h3 => ?_, fun j => by rw [fr_e, if_neg (by omega)], fun x j h1 h2 => by omega⟩
  have hx : x = c := by omega
  rw [fr_ne (by omega), hx]
  exact hz j
theorem i_X5 (b : Nat) (P : Shp) (M : Mem) (c : Nat) (hP : P.length = c) (hc : c ≤ 1000) (hz : ∀ j, M c j = 0) : MC 2 (yX5_init, cX5_init, 2, none) (2 + 2 * 4) (7 + 21 * 4) b (P ++ [(5, 0, List.replicate (nF 5) none)]) M [vr b c] (P ++ ([(5, 0, [some (c + 1), some (c + 2), none, none]), (10, 4, []), (9, 3, [])] ++ rdL (c + 3) 4)) (fun v M' => v = none ∧ Zr c (c + 1) (c + 3) 4 M M') := by
  have L : ∀ (f k : Nat) (i : Int) (N : Mem), i = k → k ≤ 4 → 4 - k < f → Zr c (c + 1) (c + 3) k M N → MW yX5_init cX5_init 2 none (rmD 2 (2 + 2 * 4) (7 + 21 * 4)) (FM (fun v M' => v = none ∧ Zr c (c + 1) (c + 3) 4 M M') b (P ++ ([(5, 0, [some (c + 1), some (c + 2), none, none]), (10, 4, []), (9, 3, [])] ++ rdL (c + 3) 4)) (2 + 2 * 4) (7 + 21 * 4)) b (P ++ [(5, 0, List.replicate (nF 5) none)]).length (2 + 2 * k) (7 + 21 * k) 21 [some (vr b c), some (vi i)] [] (P ++ ([(5, 0, [some (c + 1), some (c + 2), none, none]), (10, 4, []), (9, 3, [])] ++ rdL (c + 3) k)) N := by
    intro f
    induction f with
    | zero => intro k i N h0 h1 h2; exact absurd h2 (by omega)
    | succ f ih =>
      intro k i N h0 h1 h2 hZ
      have s0 : (P ++ ([(5, 0, [some (c + 1), some (c + 2), none, none]), (10, 4, []), (9, 3, [])] ++ rdL (c + 3) k))[c]? = some (5, 0, [some (c + 1), some (c + 2), none, none]) := pre_at' (i := 0) hP rfl
      have s1 : (P ++ ([(5, 0, [some (c + 1), some (c + 2), none, none]), (10, 4, []), (9, 3, [])] ++ rdL (c + 3) k))[c + 1]? = some (10, 4, []) := pre_at' (i := 1) hP rfl
      refine R_iload_n (pc := 21) dX5_init_21 rfl ?_
      refine R_aload_n (pc := 22) dX5_init_22 rfl ?_
      refine R_getR (pc := 23) dX5_init_23 fl_RX5_11 rfl s0 rfl ?_
      refine R_alen (pc := 26) dX5_init_26 (Or.inr s1) ?_
      refine R_cmp_ge (pc := 27) (tgt := 49) dX5_init_27 (by decide) (by omega) (fun h3 => ?_) (fun h3 => ?_)
      · have ek : k = 4 := by omega
        subst ek
        refine R_vret (pc := 49) dX5_init_49 ?_
        exact ⟨rfl, hZ⟩
      · refine R_aload_n (pc := 30) dX5_init_30 rfl ?_
        refine R_getR (pc := 31) dX5_init_31 fl_RX5_11 rfl s0 rfl ?_
        refine R_iload_n (pc := 34) dX5_init_34 rfl ?_
        refine N_new (pc := 35) (ci := 4) (n := c + 3 + 2 * k) dX5_init_35 nl_RX5_9 (by rw [List.length_append, List.length_append, rdL_len, hP]; show c + (3 + 2 * k) = _; omega) (by show 2 + 2 * k + 1 ≤ 2 + 2 * 4; omega) (by show 7 + 21 * k + 5 ≤ 7 + 21 * 4; omega) ?_
        refine R_dup (pc := 38) dX5_init_38 rfl ?_
        refine R_callI (pc := 39) (rest := [vr b (c + 3 + 2 * k), vi i, vr b (c + 1)]) dX5_init_39 si_RX5_21 (i_X4 b _ _ (c + 3 + 2 * k) (by rw [List.length_append, List.length_append, rdL_len, hP]; show c + (3 + 2 * k) = _; omega) (fun j => fr_e)) rfl rfl (Nat.le_of_ble_eq_true rfl) ⟨Nat.le_of_ble_eq_true rfl, Nat.le_of_ble_eq_true rfl, by show 2 + 2 * k + 1 + 1 ≤ 2 + 2 * 4; omega, by show 7 + 21 * k + 5 + 16 ≤ 7 + 21 * 4; omega⟩ (len_cl rfl) ?_
        rintro v N' ⟨rfl, hZ4⟩
        refine R_shp (sh' := P ++ ([(5, 0, [some (c + 1), some (c + 2), none, none]), (10, 4, []), (9, 3, [])] ++ rdL (c + 3) (k + 1))) (by rw [List.append_assoc, List.append_assoc]; rfl) ?_
        refine R_aast (pc := 42) dX5_init_42 (pre_at' (i := 1) hP rfl) (by omega) (rd_at hP rfl) (by omega) ?_
        refine R_iinc (pc := 43) dX5_init_43 rfl (by decide) rfl rfl ?_
        refine R_goto (pc := 46) (tgt := 21) dX5_init_46 (by decide) ?_
        refine R_kk (kc' := 2 + 2 * (k + 1)) (ks' := 7 + 21 * (k + 1)) (by omega) (by show 7 + 21 * k + 5 + 16 = _; omega) ?_
        exact ih (k + 1) (i + 1) _ (by omega) (by omega) (by omega) (Zr_s hZ (by omega) (by omega) hZ4 h0 (by omega))
  refine MC_of (ls := [some (vr b c), none]) (by decide) rfl (Nat.le_of_ble_eq_true rfl) ?_
  refine R_aload_n (pc := 0) dX5_init_0 rfl ?_
  refine R_objInit (pc := 1) dX5_init_1 ol_RX5_3 im_obj cw_obj (Nat.le_of_ble_eq_true rfl) ⟨Nat.le_of_ble_eq_true rfl, Nat.le_of_ble_eq_true rfl⟩ ?_
  refine R_aload_n (pc := 4) dX5_init_4 rfl ?_
  refine R_iconst (pc := 5) dX5_init_5 ?_
  refine N_anew (pc := 6) (n := 4) (k := c + 1) (l' := [(5, 0, List.replicate (nF 5) none), (10, 4, [])]) dX5_init_6 ck_RX5_9 rfl (by omega) (Nat.le_of_ble_eq_true rfl) (Nat.le_of_ble_eq_true rfl) (by rw [hP]; rfl) rfl ?_
  refine N_putR (pc := 9) (i := 0) (rs' := [some (c + 1), none, none, none]) (l' := [(5, 0, [some (c + 1), none, none, none]), (10, 4, [])]) dX5_init_9 fl_RX5_11 rfl (fun _ => rfl) fn_RX5_11 rfl hP rfl rfl (Nat.le_of_ble_eq_true rfl) rfl ?_
  refine R_aload_n (pc := 12) dX5_init_12 rfl ?_
  refine R_iconst (pc := 13) dX5_init_13 ?_
  refine N_newa (pc := 14) (n := 3) (k := c + 2) (l' := [(5, 0, [some (c + 1), none, none, none]), (10, 4, []), (9, 3, [])]) dX5_init_14 rfl (by omega) (Nat.le_of_ble_eq_true rfl) (Nat.le_of_ble_eq_true rfl) (by rw [hP]; rfl) rfl ?_
  refine N_putR (pc := 16) (i := 0) (rs' := [some (c + 1), some (c + 2), none, none]) (l' := [(5, 0, [some (c + 1), some (c + 2), none, none]), (10, 4, []), (9, 3, [])]) dX5_init_16 fl_RX5_17 rfl (fun _ => rfl) fn_RX5_17 rfl hP rfl rfl (Nat.le_of_ble_eq_true rfl) rfl ?_
  refine R_iconst (pc := 19) dX5_init_19 ?_
  refine R_istore_n (pc := 20) dX5_init_20 (by decide) rfl rfl ?_
  refine L 100 0 0 _ rfl (by omega) (by omega) ⟨fun x j hx => by rw [fr_ne (by omega), fr_ne (by omega)], fun x j h1 h2 h3 => ?_, fun j => by rw [fr_ne (by omega), fr_e, if_neg (by omega)], fun x j h1 h2 => by omega⟩
  by_cases hx : x = c + 2
  · rw [hx, fr_e]
  · have hx2 : x = c := by omega
    rw [fr_ne hx, fr_ne h3, hx2]
    exact hz j
