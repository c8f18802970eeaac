/-! THE FIRST TEXT: String.length, String.charAt over the class's one constant -/
def MCd (l : Launch) (D : DD) (d : Nat) (md : MD) (b : Nat) (sh : Shp) (M : Mem) (as : List Value) (v : Option Value) : Prop := Met l md.1 (Cond.code md.1 md.2.1 md.2.2.1 md.2.2.2 :: tblG) (rmD d 0 0) (Pm D b sh M as) (Qm D b sh (EQ v M)) 0 0 (ours b)
theorem MCd_of {l : Launch} {D : DD} {d : Nat} {y : MethodName} {cc : ByteArray} {nL : Nat} {ret : Option FieldType} {b : Nat} {sh : Shp} {M : Mem} {as : List Value} {v : Option Value} (hy : plainName y.cls = true) (hn : (lg_sl as).length ≤ nL)
    (h : ∀ (p : Program) (e : Env) (s : State) (m : MethodId) (below : List Frame) (meth : Method) (c : Code) (lsA : Array Slot), Cx (y, cc, nL, ret) b sh.length p s m as.toArray meth c D → Rl D b sh M s.heap → lv_has lsA nL (lv_args 0 as) → W p l e (rmD d 0 0) s m as.toArray below meth c s.heap [] 0 0 (FM (EQ v M) b sh 0 0 below as.toArray s D) (F0 m 0 lsA [])) : MCd l D d (y, cc, nL, ret) b sh M as v := by
  refine Met.ofW (cc := cc) (maxL := nL) (ret := ret) hy rfl ?_
  intro p e s m args below meth c s₁ B hml hv
  obtain ⟨rfl, h1, h2, h3, h4⟩ := hv
  have hts := atoms_spec (ws := Cond.code y cc nL ret :: tblG) B.pre
  rw [lg_entry_eq]
  exact h p e s m below meth c _ ⟨B.exec, B.bytes, hml, findClass_of_methodNamed B.named, (name_of_methodNamed B.named B.method).1, B.returns, B.notSynchronized, fun w hw => hts w (List.mem_cons_of_mem _ hw), h1, h2, h4⟩ h3 (lv_entry as hn)
section CallD
variable {p : Program} {l : Launch} {e : Env} {s : State} {m : MethodId} {args : Array Value} {below : List Frame} {meth : Method} {c : Code} {D : DD} {H : Heap} {locs : List Loc} {lsA : Array Slot} {R : Room} {y : MethodName} {cc : ByteArray} {nL : Nat} {ret : Option FieldType} {b n0 kc ks pc : Nat} {st rest as : List Value} {sh : Shp} {M : Mem} {lv : List (Nat × Value)} {QQ : State → Prop}
theorem W_callS {d idx n : Nat} {md : MD} {v : Option Value} (C : Cx (y, cc, nL, ret) b n0 p s m args meth c D) (hR : Rl D b sh M H) (hS : va_S (ours b) s.heap H locs) (hk : n0 + kc = sh.length) (hl : lv_has lsA nL lv) (hd : decode cc pc = .ok (.invokestatic idx, 3)) (hsv : SS y.cls idx md n) (hM : MCd l D d md b sh M as v) (hn : as.length = n) (hst : st = as.reverse ++ rest) (hrest : (rest.map fun v => v.category).sum ≤ 8) (hrm : roomOK R kc ks d 0 0)
    (k : ∀ (H1 : Heap) (locs1 : List Loc), Rl D b sh M H1 → va_S (ours b) s.heap H1 locs1 → W p l e R s m args below meth c H1 locs1 kc ks QQ (F0 m (pc + 3) lsA (v.toList ++ rest))) : W p l e R s m args below meth c H locs kc ks QQ (F0 m pc lsA st) := by
  obtain ⟨hx, hb, hml, hown, hnm, hret, hlk, hts, hE, hK, hsz⟩ := C
  obtain ⟨⟨w1, w2, w3, w4, w5⟩, w6⟩ := hsv
  refine W_size fun hz => ?_
  have hpre : PreS s H (Pm D b sh M as) as := ⟨Pm_blind, pre_at hE hK hsz hR hS hk hz⟩
  have hroom : (rmD d 0 0).frames + 1 ≤ R.frames ∧ 8 + (md.2.2.1 + 11) + (rmD d 0 0).locals ≤ R.locals := ⟨hrm.1, by show 8 + (md.2.2.1 + 11) + 64 * d ≤ R.locals; omega⟩
  have k2 : ∀ (v' : Option Value) (M' : Mem) (H1 : Heap) (locs1 : List Loc), EQ v M v' M' → Rl D b sh M' H1 → va_S (ours b) s.heap H1 locs1 → W p l e R s m args below meth c H1 locs1 (kc + 0) (ks + 0) QQ (F0 m (pc + 3) lsA (v'.toList ++ rest)) := by
    rintro _ _ H1 locs1 ⟨rfl, rfl⟩ hR1 hS1
    exact k H1 locs1 hR1 hS1
  rcases w4 with w4 | ⟨host, w4⟩
  · refine call_go (va_runS (bytes := md.2.1) (maxL := md.2.2.1) (ret := md.2.2.2) (n := n) (rest := rest) (As := as) ⟨hx, hb, hml, hown, hts⟩ hM ⟨callB_of n hts (code_good w1) rfl rfl rfl (hts _ w2) (hts _ w4) w3 hroom, hts _ w6⟩ hpre rfl hn hl.1 hst (lv_room hrest) hd ⟨hrm.2.2.1, hrm.2.2.2⟩) hS k2
  · refine call_go (va_runSN (host := host) (bytes := md.2.1) (maxL := md.2.2.1) (ret := md.2.2.2) (n := n) (rest := rest) (As := as) ⟨hx, hb, hml, hown, hts⟩ hM ⟨va_cnB n hts (code_good w1) rfl rfl rfl (hE.1 _ w4) (hts _ w2) w3 hroom, hts _ w6, trivial⟩ hpre rfl hn hl.1 hst (lv_room hrest) hd ⟨hrm.2.2.1, hrm.2.2.2⟩) hS k2
theorem W_callV {d idx n a : Nat} {md : MD} {v : Option Value} (C : Cx (y, cc, nL, ret) b n0 p s m args meth c D) (hR : Rl D b sh M H) (hS : va_S (ours b) s.heap H locs) (hk : n0 + kc = sh.length) (hl : lv_has lsA nL lv) (hd : decode cc pc = .ok (.invokevirtual idx, 3)) (hsv : SB y.cls idx md n) (w6 : Cond.instanceMethod md.1 ∈ tblG) (w7 : Cond.selects md.1.cls md.1 md.1 ∈ tblG) (hrecv : ∃ cell : Cell, H[a]? = some cell ∧ cell.vm.isStatics = false ∧ s.vm.findClass md.1.cls = some cell.cls) (hM : MCd l D d md b sh M (.ref a :: as) v) (hn : as.length = n) (hst : st = as.reverse ++ .ref a :: rest) (hrest : (rest.map fun v => v.category).sum ≤ 8) (hrm : roomOK R kc ks d 0 0)
    (k : ∀ (H1 : Heap) (locs1 : List Loc), Rl D b sh M H1 → va_S (ours b) s.heap H1 locs1 → W p l e R s m args below meth c H1 locs1 kc ks QQ (F0 m (pc + 3) lsA (v.toList ++ rest))) : W p l e R s m args below meth c H locs kc ks QQ (F0 m pc lsA st) := by
  obtain ⟨hx, hb, hml, hown, hnm, hret, hlk, hts, hE, hK, hsz⟩ := C
  obtain ⟨w1, w2, w3, w4, w5⟩ := hsv
  refine W_size fun hz => ?_
  have hpre : PreV s H md.1.cls a (Pm D b sh M (.ref a :: as)) as := ⟨Pm_blind, hrecv, pre_at hE hK hsz hR hS hk hz⟩
  have hroom : (rmD d 0 0).frames + 1 ≤ R.frames ∧ 8 + (md.2.2.1 + 11) + (rmD d 0 0).locals ≤ R.locals := ⟨hrm.1, by show 8 + (md.2.2.1 + 11) + 64 * d ≤ R.locals; omega⟩
  have k2 : ∀ (v' : Option Value) (M' : Mem) (H1 : Heap) (locs1 : List Loc), EQ v M v' M' → Rl D b sh M' H1 → va_S (ours b) s.heap H1 locs1 → W p l e R s m args below meth c H1 locs1 (kc + 0) (ks + 0) QQ (F0 m (pc + 3) lsA (v'.toList ++ rest)) := by
    rintro _ _ H1 locs1 ⟨rfl, rfl⟩ hR1 hS1
    exact k H1 locs1 hR1 hS1
  rcases w4 with w4 | ⟨host, w4⟩
  · refine call_go (va_runV (C := md.1.cls) (bytes := md.2.1) (maxL := md.2.2.1) (ret := md.2.2.2) (n := n) (rest := rest) (As := as) (b := a) ⟨hx, hb, hml, hown, hts⟩ hM ⟨callB_of n hts (code_good w1) rfl rfl rfl (hts _ w2) (hts _ w4) w3 hroom, hts _ w6, hts _ w7⟩ hpre rfl hn hl.1 hst (lv_room hrest) hd ⟨hrm.2.2.1, hrm.2.2.2⟩) hS k2
  · refine call_go (va_runVN (C := md.1.cls) (host := host) (bytes := md.2.1) (maxL := md.2.2.1) (ret := md.2.2.2) (n := n) (rest := rest) (As := as) (b := a) ⟨hx, hb, hml, hown, hts⟩ hM ⟨va_cnB n hts (code_good w1) rfl rfl rfl (hE.1 _ w4) (hts _ w2) w3 hroom, hts _ w6, hts _ w7⟩ hpre rfl hn hl.1 hst (lv_room hrest) hd ⟨hrm.2.2.1, hrm.2.2.2⟩) hS k2
end CallD
section Txt
variable {l : Launch} {D : DD} {b : Nat} {sh : Shp} {M : Mem}
theorem t_coder : MCd l D 0 mJ0_coder_7d493 b sh M [.ref D.2.2.2.2.1] (some (.int 0)) := by
  refine MCd_of (by decide) (Nat.le_of_ble_eq_true rfl) ?_
  intro p e s m below meth c lsA C hR hl
  have hS : va_S (ours b) s.heap s.heap [] := va_S.rf
  obtain ⟨hx, hb, hml, hown, hnm, hret, hlk, hts, hE, hK, hsz⟩ := id C
  refine va_gets hx hb hE.2.2.2.2.1 hS hown (hts _ fw_RJ0_38) (fun _ h => h) dJ0_coder_7d493_0 ?_
  refine lv_if_eq (tgt := 13) hx hb dJ0_coder_7d493_3 (by decide) (fun h => absurd h (by decide)) (fun _ => ?_)
  refine lv_aload_n hx hb dJ0_coder_7d493_6 rfl (lv_at hl 0 rfl) ?_
  refine vk_getf hx hb (hE.2.2.1.1 0 (by decide)).2.1 hS hown (hts _ fw_RJ0_15) (fun _ h => h) dJ0_coder_7d493_7 ?_
  refine lv_goto (tgt := 14) hx hb dJ0_coder_7d493_10 (by decide) ?_
  exact W.zret (v := 0) (ty := .byte) hx hb hret rfl (fun t ht hW => ⟨⟨some (.int 0), M, rfl, ⟨rfl, rfl⟩, by rw [ht]; exact hR⟩, hS.F ht⟩) hS.2.2 dJ0_coder_7d493_14 hlk
theorem t_isLatin1 : MCd l D 0 mJ0_isLatin1_aae02 b sh M [.ref D.2.2.2.2.1] (some (.int 1)) := by
  refine MCd_of (by decide) (Nat.le_of_ble_eq_true rfl) ?_
  intro p e s m below meth c lsA C hR hl
  have hS : va_S (ours b) s.heap s.heap [] := va_S.rf
  obtain ⟨hx, hb, hml, hown, hnm, hret, hlk, hts, hE, hK, hsz⟩ := id C
  refine va_gets hx hb hE.2.2.2.2.1 hS hown (hts _ fw_RJ0_38) (fun _ h => h) dJ0_isLatin1_aae02_0 ?_
  refine lv_if_eq (tgt := 17) hx hb dJ0_isLatin1_aae02_3 (by decide) (fun h => absurd h (by decide)) (fun _ => ?_)
  refine lv_aload_n hx hb dJ0_isLatin1_aae02_6 rfl (lv_at hl 0 rfl) ?_
  refine vk_getf hx hb (hE.2.2.1.1 0 (by decide)).2.1 hS hown (hts _ fw_RJ0_15) (fun _ h => h) dJ0_isLatin1_aae02_7 ?_
  refine lv_if_ne (tgt := 17) hx hb dJ0_isLatin1_aae02_10 (by decide) (fun h => absurd rfl h) (fun _ => ?_)
  refine lv_iconst (v := 1) hx hb dJ0_isLatin1_aae02_13 (by decide) ?_
  refine lv_goto (tgt := 18) hx hb dJ0_isLatin1_aae02_14 (by decide) ?_
  exact W.zret (v := 1) (ty := .boolean) hx hb hret rfl (fun t ht hW => ⟨⟨some (.int 1), M, rfl, ⟨rfl, rfl⟩, by rw [ht]; exact hR⟩, hS.F ht⟩) hS.2.2 dJ0_isLatin1_aae02_18 hlk
theorem t_length : MCd l D 1 mJ0_length_8abf5 b sh M [.ref D.2.2.2.2.1] (some (vi 94)) := by
  refine MCd_of (by decide) (Nat.le_of_ble_eq_true rfl) ?_
  intro p e s m below meth c lsA C hR hl
  have hS : va_S (ours b) s.heap s.heap [] := va_S.rf
  obtain ⟨hx, hb, hml, hown, hnm, hret, hlk, hts, hE, hK, hsz⟩ := id C
  refine lv_aload_n hx hb dJ0_length_8abf5_0 rfl (lv_at hl 0 rfl) ?_
  refine vk_getf hx hb (hE.2.2.1.1 0 (by decide)).2.2.1 hS hown (hts _ fw_RJ0_9) (fun _ h => h) dJ0_length_8abf5_1 ?_
  refine va_tlen hx hb (hE.2.2.1.1 0 (by decide)).2.2.2 hS (v := 94) rfl dJ0_length_8abf5_4 ?_
  refine lv_aload_n hx hb dJ0_length_8abf5_5 rfl (lv_at hl 0 rfl) ?_
  refine W_callV (rest := [.int 94]) C hR hS rfl hl dJ0_length_8abf5_6 sb_RJ0_335 im_J0_coder_7d493 se_J0_coder_7d493 (vk_recv (i := 0) hE.2.2.1 (by decide) hS) t_coder rfl rfl (Nat.le_of_ble_eq_true rfl) (by decide) (fun H1 locs1 hR1 hS1 => ?_)
  refine lv_ishr (x := 94) (y := 0) hx hb dJ0_length_8abf5_9 ?_
  rw [show (94 : Int32) >>> ((0 : Int32) &&& 31) = 94 by decide]
  exact W.iret (v := 94) hx hb hret (fun t ht hW => ⟨⟨some (vi 94), M, rfl, ⟨rfl, rfl⟩, by rw [ht]; exact hR1⟩, hS1.F ht⟩) hS1.2.2 dJ0_length_8abf5_10 hlk
theorem t_checkP {i : Int} (hi : 0 ≤ i ∧ i < 94) {w : Value} (hw : w = .null ∨ ∃ t, w = .ref t) : MCd l D 0 mJ3_checkIndex_8e157 b sh M [vi i, vi 94, w] (some (vi i)) := by
  have hr : inR i := by omega
  have h0 : ¬ Int32.ofInt i < 0 := by rw [oi_0, oi_lt hr (by omega)]; omega
  have h1 : Int32.ofInt i < Int32.ofInt 94 := by rw [oi_lt hr (by omega)]; omega
  rcases hw with rfl | ⟨t, rfl⟩
  · refine MCd_of (by decide) (Nat.le_of_ble_eq_true rfl) ?_
    intro p e s m below meth c lsA C hR hl
    have hS : va_S (ours b) s.heap s.heap [] := va_S.rf
    obtain ⟨hx, hb, hml, hown, hnm, hret, hlk, hts, hE, hK, hsz⟩ := id C
    refine lv_iload_n (x := Int32.ofInt i) hx hb dJ3_checkIndex_8e157_0 rfl (lv_at hl 0 rfl) ?_
    refine lv_if_lt (tgt := 9) hx hb dJ3_checkIndex_8e157_1 (by decide) (fun h => absurd h h0) (fun _ => ?_)
    refine lv_iload_n (x := Int32.ofInt i) hx hb dJ3_checkIndex_8e157_4 rfl (lv_at hl 0 rfl) ?_
    refine lv_iload_n (x := Int32.ofInt 94) hx hb dJ3_checkIndex_8e157_5 rfl (lv_at hl 1 rfl) ?_
    refine lv_icmp_lt (tgt := 16) hx hb dJ3_checkIndex_8e157_6 (by decide) (fun _ => ?_) (fun h => absurd h1 h)
    refine lv_iload_n (x := Int32.ofInt i) hx hb dJ3_checkIndex_8e157_16 rfl (lv_at hl 0 rfl) ?_
    exact W.iret (v := Int32.ofInt i) hx hb hret (fun t ht hW => ⟨⟨some (vi i), M, rfl, ⟨rfl, rfl⟩, by rw [ht]; exact hR⟩, hS.F ht⟩) hS.2.2 dJ3_checkIndex_8e157_17 hlk
  · refine MCd_of (by decide) (Nat.le_of_ble_eq_true rfl) ?_
    intro p e s m below meth c lsA C hR hl
    have hS : va_S (ours b) s.heap s.heap [] := va_S.rf
    obtain ⟨hx, hb, hml, hown, hnm, hret, hlk, hts, hE, hK, hsz⟩ := id C
    refine lv_iload_n (x := Int32.ofInt i) hx hb dJ3_checkIndex_8e157_0 rfl (lv_at hl 0 rfl) ?_
    refine lv_if_lt (tgt := 9) hx hb dJ3_checkIndex_8e157_1 (by decide) (fun h => absurd h h0) (fun _ => ?_)
    refine lv_iload_n (x := Int32.ofInt i) hx hb dJ3_checkIndex_8e157_4 rfl (lv_at hl 0 rfl) ?_
    refine lv_iload_n (x := Int32.ofInt 94) hx hb dJ3_checkIndex_8e157_5 rfl (lv_at hl 1 rfl) ?_
    refine lv_icmp_lt (tgt := 16) hx hb dJ3_checkIndex_8e157_6 (by decide) (fun _ => ?_) (fun h => absurd h1 h)
    refine lv_iload_n (x := Int32.ofInt i) hx hb dJ3_checkIndex_8e157_16 rfl (lv_at hl 0 rfl) ?_
    exact W.iret (v := Int32.ofInt i) hx hb hret (fun t ht hW => ⟨⟨some (vi i), M, rfl, ⟨rfl, rfl⟩, by rw [ht]; exact hR⟩, hS.F ht⟩) hS.2.2 dJ3_checkIndex_8e157_17 hlk
theorem t_checkS {i : Int} (hi : 0 ≤ i ∧ i < 94) : MCd l D 1 mJ0_checkIndex_df160 b sh M [vi i, vi 94] none := by
  refine MCd_of (by decide) (Nat.le_of_ble_eq_true rfl) ?_
  intro p e s m below meth c lsA C hR hl
  have hS : va_S (ours b) s.heap s.heap [] := va_S.rf
  obtain ⟨hx, hb, hml, hown, hnm, hret, hlk, hts, hE, hK, hsz⟩ := id C
  refine lv_iload_n (x := Int32.ofInt i) hx hb dJ0_checkIndex_df160_0 rfl (lv_at hl 0 rfl) ?_
  refine lv_iload_n (x := Int32.ofInt 94) hx hb dJ0_checkIndex_df160_1 rfl (lv_at hl 1 rfl) ?_
  have go : ∀ w : Value, (w = .null ∨ ∃ t, w = .ref t) → va_Z "jdk/internal/util/Preconditions" "SIOOBE_FORMATTER" "Ljava/util/function/BiFunction;" w (ours b) s s.heap → W p l e (rmD 1 0 0) s m [vi i, vi 94].toArray below meth c s.heap [] 0 0 (FM (EQ none M) b sh 0 0 below [vi i, vi 94].toArray s D) (F0 m 2 lsA [vi 94, vi i]) := by
    intro w hw hZ
    refine va_gets hx hb hZ hS hown (hts _ fw_RJ0_1053) (fun _ h => h) dJ0_checkIndex_df160_2 ?_
    refine W_callS (rest := []) C hR hS rfl hl dJ0_checkIndex_df160_5 ss_RJ0_1059 (t_checkP hi hw) rfl rfl (Nat.le_of_ble_eq_true rfl) (by decide) (fun H1 locs1 hR1 hS1 => ?_)
    refine lv_pop (va := vi i) hx hb dJ0_checkIndex_df160_8 rfl ?_
    exact W.vret hx hb hret (fun t ht hW => ⟨⟨none, M, rfl, ⟨rfl, rfl⟩, by rw [ht]; exact hR1⟩, hS1.F ht⟩) hS1.2.2 dJ0_checkIndex_df160_9 hlk
  rcases hE.2.2.2.2.2 with h | ⟨t, h⟩
  · exact go .null (Or.inl rfl) h
  · exact go (.ref t) (Or.inr ⟨t, rfl⟩) h
/-- the letters of the first text -/
def tx0 : Rd := fun i => if 0 ≤ i ∧ i < 94 then (txB.getD i.toNat 0).toInt else 0
theorem tx0_b : ∀ k : Fin 94, ((((txB.getD k.val 0) &&& 255).toUInt32 % 65536).toInt32 = Int32.ofInt (txB.getD k.val 0).toInt ∧ narrow .char (.int (Int32.ofInt (txB.getD k.val 0).toInt)) = .int (Int32.ofInt (txB.getD k.val 0).toInt)) ∧ 32 ≤ (txB.getD k.val 0).toInt ∧ (txB.getD k.val 0).toInt ≤ 126 := by decide +kernel
theorem tx0_i {i : Int} (hi : 0 ≤ i ∧ i < 94) : ((((txB.getD i.toNat 0) &&& 255).toUInt32 % 65536).toInt32 = Int32.ofInt (tx0 i) ∧ narrow .char (.int (Int32.ofInt (tx0 i))) = .int (Int32.ofInt (tx0 i))) ∧ 32 ≤ tx0 i ∧ tx0 i ≤ 126 := by
  have := tx0_b ⟨i.toNat, by omega⟩
  unfold tx0
  rw [if_pos hi]
  exact this
theorem t_charAtL {i : Int} (hi : 0 ≤ i ∧ i < 94) : MCd l D 2 mJ1_charAt_3b067 b sh M [.ref D.2.2.2.2.2, vi i] (some (vi (tx0 i))) := by
  refine MCd_of (by decide) (Nat.le_of_ble_eq_true rfl) ?_
  intro p e s m below meth c lsA C hR hl
  have hS : va_S (ours b) s.heap s.heap [] := va_S.rf
  obtain ⟨hx, hb, hml, hown, hnm, hret, hlk, hts, hE, hK, hsz⟩ := id C
  have hq := tx0_i hi
  refine lv_iload_n (x := Int32.ofInt i) hx hb dJ1_charAt_3b067_0 rfl (lv_at hl 1 rfl) ?_
  refine lv_aload_n hx hb dJ1_charAt_3b067_1 rfl (lv_at hl 0 rfl) ?_
  refine va_tlen hx hb (hE.2.2.1.1 0 (by decide)).2.2.2 hS (v := Int32.ofInt 94) rfl dJ1_charAt_3b067_2 ?_
  refine W_callS (rest := []) C hR hS rfl hl dJ1_charAt_3b067_3 ss_RJ1_9 (t_checkS hi) rfl rfl (Nat.le_of_ble_eq_true rfl) (by decide) (fun H1 locs1 hR1 hS1 => ?_)
  refine lv_aload_n hx hb dJ1_charAt_3b067_6 rfl (lv_at hl 0 rfl) ?_
  refine lv_iload_n (x := Int32.ofInt i) hx hb dJ1_charAt_3b067_7 rfl (lv_at hl 1 rfl) ?_
  refine va_tb hx hb (hE.2.2.1.1 0 (by decide)).2.2.2 hS1 (oi_in (by show 0 ≤ i ∧ i < 94 ∧ i ≤ 100000; omega)) (v := .int (txB.getD i.toNat 0)) (by rw [oi_cl (by omega)]; rfl) dJ1_charAt_3b067_8 ?_
  refine lv_sipush (v := 255) hx hb dJ1_charAt_3b067_9 rfl ?_
  refine lv_iand hx hb dJ1_charAt_3b067_12 ?_
  refine lv_i2c hx hb dJ1_charAt_3b067_13 hq.1.1 ?_
  exact W.zret (v := Int32.ofInt (tx0 i)) (ty := .char) hx hb hret hq.1.2 (fun t ht hW => ⟨⟨some (vi (tx0 i)), M, rfl, ⟨rfl, rfl⟩, by rw [ht]; exact hR1⟩, hS1.F ht⟩) hS1.2.2 dJ1_charAt_3b067_14 hlk
theorem t_charAt {i : Int} (hi : 0 ≤ i ∧ i < 94) : MCd l D 3 mJ0_charAt_5068e b sh M [.ref D.2.2.2.2.1, vi i] (some (vi (tx0 i))) := by
  refine MCd_of (by decide) (Nat.le_of_ble_eq_true rfl) ?_
  intro p e s m below meth c lsA C hR hl
  have hS : va_S (ours b) s.heap s.heap [] := va_S.rf
  obtain ⟨hx, hb, hml, hown, hnm, hret, hlk, hts, hE, hK, hsz⟩ := id C
  have hq := tx0_i hi
  refine lv_aload_n hx hb dJ0_charAt_5068e_0 rfl (lv_at hl 0 rfl) ?_
  refine W_callV (rest := []) C hR hS rfl hl dJ0_charAt_5068e_1 sb_RJ0_492 im_J0_isLatin1_aae02 se_J0_isLatin1_aae02 (vk_recv (i := 0) hE.2.2.1 (by decide) hS) t_isLatin1 rfl rfl (Nat.le_of_ble_eq_true rfl) (by decide) (fun H1 locs1 hR1 hS1 => ?_)
  refine lv_if_eq (x := 1) (tgt := 16) hx hb dJ0_charAt_5068e_4 (by decide) (fun h => absurd h (by decide)) (fun _ => ?_)
  refine lv_aload_n hx hb dJ0_charAt_5068e_7 rfl (lv_at hl 0 rfl) ?_
  refine vk_getf hx hb (hE.2.2.1.1 0 (by decide)).2.2.1 hS1 hown (hts _ fw_RJ0_9) (fun _ h => h) dJ0_charAt_5068e_8 ?_
  refine lv_iload_n (x := Int32.ofInt i) hx hb dJ0_charAt_5068e_11 rfl (lv_at hl 1 rfl) ?_
  refine W_callS (as := [.ref D.2.2.2.2.2, vi i]) (rest := []) C hR1 hS1 rfl hl dJ0_charAt_5068e_12 ss_RJ0_495 (t_charAtL hi) rfl rfl (Nat.le_of_ble_eq_true rfl) (by decide) (fun H2 locs2 hR2 hS2 => ?_)
  exact W.zret (v := Int32.ofInt (tx0 i)) (ty := .char) hx hb hret hq.1.2 (fun t ht hW => ⟨⟨some (vi (tx0 i)), M, rfl, ⟨rfl, rfl⟩, by rw [ht]; exact hR2⟩, hS2.F ht⟩) hS2.2.2 dJ0_charAt_5068e_15 hlk
end Txt
/-! the two uses of the text in the class's constructor -/
section TxtR
variable {cc : ByteArray} {nL : Nat} {ret : Option FieldType} {R : Room} {F : FT} {b n0 kc ks pc : Nat} {ls : List (Option Value)} {st : List Value} {sh : Shp} {M : Mem}
theorem R_slen (hd1 : decode cc pc = .ok (.ldc 81, 2)) (hd2 : decode cc (pc + 2) = .ok (.invokevirtual 83, 3)) (hrest : (st.map fun v => v.category).sum ≤ 8) (hrm : roomOK R kc ks 1 0 0) (k : MW yX7_init cc nL ret R F b n0 kc ks (pc + 5) ls (vi 94 :: st) sh M) : MW yX7_init cc nL ret R F b n0 kc ks pc ls st sh M := by
  intro p l e s m args below meth c D H locs lsA C hR hS hk hl
  obtain ⟨hx, hb, hml, hown, hnm, hret, hlk, hts, hE, hK, hsz⟩ := id C
  refine va_ldcS hx hb hown hE.2.2.2.1 hd1 ?_
  refine W_callV (rest := st) C hR hS hk hl hd2 sb_RX7_83 im_J0_length_8abf5 se_J0_length_8abf5 (vk_recv (i := 0) hE.2.2.1 (by decide) hS) t_length rfl rfl hrest hrm (fun H1 locs1 hR1 hS1 => ?_)
  exact k p l e s m args below meth c D H1 locs1 lsA C hR1 hS1 hk hl
theorem R_sat {i : Int} {q : Fin 4} (hi : 0 ≤ i ∧ i < 94) (hd1 : decode cc pc = .ok (.ldc 81, 2)) (hd2 : decode cc (pc + 2) = .ok (.iload_n q, 1)) (hg : lget ls q = some (vi i)) (hd3 : decode cc (pc + 2 + 1) = .ok (.invokevirtual 89, 3)) (hrest : (st.map fun v => v.category).sum ≤ 8) (hrm : roomOK R kc ks 3 0 0) (k : MW yX7_init cc nL ret R F b n0 kc ks (pc + 6) ls (vi (tx0 i) :: st) sh M) : MW yX7_init cc nL ret R F b n0 kc ks pc ls st sh M := by
  intro p l e s m args below meth c D H locs lsA C hR hS hk hl
  obtain ⟨hx, hb, hml, hown, hnm, hret, hlk, hts, hE, hK, hsz⟩ := id C
  refine va_ldcS hx hb hown hE.2.2.2.1 hd1 ?_
  refine lv_iload_n (x := Int32.ofInt i) hx hb hd2 rfl (lget_at hl hg) ?_
  refine W_callV (as := [vi i]) (rest := st) C hR hS hk hl hd3 sb_RX7_89 im_J0_charAt_5068e se_J0_charAt_5068e (vk_recv (i := 0) hE.2.2.1 (by decide) hS) (t_charAt hi) rfl rfl hrest hrm (fun H1 locs1 hR1 hS1 => ?_)
  exact k p l e s m args below meth c D H1 locs1 lsA C hR1 hS1 hk hl
end TxtR
