/-! CALLS -/
abbrev roomOK (R : Room) (kc ks d mc ms : Nat) : Prop := d + 1 ≤ R.frames ∧ 64 * d + 60 ≤ R.locals ∧ kc + mc ≤ R.cells ∧ ks + ms ≤ R.slots
/-- the pool entry idx of class own names the method md, which has n parameters -/
def SB (own : String) (idx : Nat) (md : MD) (n : Nat) : Prop := Cond.code md.1 md.2.1 md.2.2.1 md.2.2.2 ∈ tblG ∧ Cond.initialized md.1.cls ∈ tblG ∧ (md.1.cls ≠ "java/lang/invoke/MethodHandle" ∧ md.1.cls ≠ "java/lang/invoke/VarHandle" ∧ (parseMethodDescriptor md.1.desc).map (fun d => d.parameters.length) = some n) ∧ (Cond.methodLink own idx md.1 ∈ tblG ∨ ∃ host, Cond.methodLinkNest own idx md.1 host ∈ tblN) ∧ md.2.2.1 ≤ 40
def SV (own : String) (idx : Nat) (md : MD) (ci n : Nat) : Prop := SB own idx md n ∧ (∃ r : vw_C, vwCl[ci]? = some r ∧ r.1 = md.1.cls) ∧ Cond.instanceMethod md.1 ∈ tblG ∧ Cond.selects md.1.cls md.1 md.1 ∈ tblG
def SS (own : String) (idx : Nat) (md : MD) (n : Nat) : Prop := SB own idx md n ∧ Cond.static md.1 ∈ tblG
def SI (own : String) (idx : Nat) (y : MethodName) (bc : ByteArray) (mL n : Nat) : Prop := SB own idx (y, bc, mL, none) n ∧ y.name = "<init>" ∧ Cond.instanceMethod y ∈ tblG
theorem code_good {md : MD} (h : Cond.code md.1 md.2.1 md.2.2.1 md.2.2.2 ∈ tblG) : GoodIn tblG (Cond.code md.1 md.2.1 md.2.2.1 md.2.2.2 :: tblG) := tblG_good (fun w hw => by
  rcases List.mem_cons.mp hw with rfl | hw
  · exact h
  · exact hw)
section Calls
variable {y : MethodName} {cc : ByteArray} {nL : Nat} {ret : Option FieldType} {R : Room} {F : FT} {b n0 kc ks pc : Nat} {ls : List (Option Value)} {st rest : List Value} {sh sh' : Shp} {M : Mem}
theorem call_go {p : Program} {l : Launch} {e : Env} {s : State} {m : MethodId} {args : Array Value} {below : List Frame} {meth : Method} {c : Code} {D : DD} {H : Heap} {locs : List Loc} {lsA : Array Slot} {mc ms : Nat} {a : Array Value} {QQ : State → Prop} {Q : Option Value → Mem → Prop}
    (hr : va_Run p l e R s m args below meth c H locs kc ks mc ms (F0 m pc lsA st) rest (Qm D b sh' Q a) (ours b)) (hS : va_S (ours b) s.heap H locs)
    (kk : ∀ (v : Option Value) (M' : Mem) (H1 : Heap) (locs1 : List Loc), Q v M' → Rl D b sh' M' H1 → va_S (ours b) s.heap H1 locs1 → W p l e R s m args below meth c H1 locs1 (kc + mc) (ks + ms) QQ (F0 m (pc + 3) lsA (v.toList ++ rest))) : W p l e R s m args below meth c H locs kc ks QQ (F0 m pc lsA st) := by
  intro T hT X
  obtain ⟨v, st₀, t, T', L, h0, X', hL, e1, e2, ⟨⟨v', M', hv, hq, hR⟩, hz, hk⟩, hst⟩ := hr T hT X
  cases hv
  rw [h0] at hz hk
  obtain ⟨t2, a1, b1⟩ := kk v M' T'.heap (locs ++ L) hq (by rw [e1]; exact hR)
    ⟨Nat.le_trans hS.1 (by rw [e1]; exact hz), fun q h1 h2 => by rw [e1, hk q (Nat.lt_of_lt_of_le h1 hS.1) h2]; exact hS.2.1 q h1 h2, fun q hq => by
      rcases List.mem_append.mp hq with h | h
      · exact hS.2.2 q h
      · exact hL q h⟩ T' rfl X'
  exact ⟨t2, hst t2 a1, b1⟩
theorem pre_at {D : DD} {s : State} {H : Heap} {locs : List Loc} {as : List Value} {n0 : Nat} (hE : EX D b s s.heap) (hK : KK D s) (hsz : s.heap.size = b + n0) (hR : Rl D b sh M H) (hS : va_S (ours b) s.heap H locs) (hk : n0 + kc = sh.length) (hz : H.size ≤ s.heap.size + kc) : ∀ U : State, U.heap = H → s.WarmedH U.vm → Pm D b sh M as as.toArray U := by
  intro U hU hW
  have hb : b ≤ H.size := Nat.le_trans (by omega) hS.1
  have h1 := Rl_size hR hb
  refine ⟨rfl, ?_, va_K.moved hW.alike hK, by rw [hU]; exact hR, by rw [hU]; omega⟩
  rw [hU]
  exact EX.warm hW (EX.kept hS.2.1 hE)
theorem R_callV {d mc ms idx ci n c nn : Nat} {md : MD} {rs : List (Option Nat)} {as : List Value} {Q : Option Value → Mem → Prop} (hd : decode cc pc = .ok (.invokevirtual idx, 3)) (hsv : SV y.cls idx md ci n) (hM : MC d md mc ms b sh M (vr b c :: as) sh' Q) (hs : sh[c]? = some (ci, nn, rs)) (hn : as.length = n) (hst : st = as.reverse ++ vr b c :: rest) (hrest : (rest.map fun v => v.category).sum ≤ 8) (hrm : roomOK R kc ks d mc ms) (hlen : sh'.length = sh.length + mc)
    (k : ∀ v M', Q v M' → MW y cc nL ret R F b n0 (kc + mc) (ks + ms) (pc + 3) ls (v.toList ++ rest) sh' M') : MW y cc nL ret R F b n0 kc ks pc ls st sh M := by
  intro p l e s m args below meth c' D H locs lsA C hR hS hk hl
  have k2 := fun v M' H1 locs1 hq hR1 hS1 => k v M' hq p l e s m args below meth c' D H1 locs1 lsA C hR1 hS1 (by omega) hl
  obtain ⟨hx, hb, hml, hown, hnm, hret, hlk, hts, hE, hK, hsz⟩ := C
  obtain ⟨⟨w1, w2, w3, w4, w5⟩, ⟨r, hr, hrc⟩, w6, w7⟩ := hsv
  refine W_size fun hz => ?_
  have hget : (wl D b sh M)[c]? = some (b + c, .inr (ci, fvs b (ci, nn, rs) (M c))) := by rw [wl_get hs, ce_O (vwCl_lt hr)]
  have hrecv := va_recv hK hR.1 hr hget
  rw [hrc] at hrecv
  have hpre : PreV s H md.1.cls (b + c) (Pm D b sh M (vr b c :: as)) as := ⟨Pm_blind, hrecv, pre_at hE hK hsz hR hS hk hz⟩
  have hroom : (rmD d mc ms).frames + 1 ≤ R.frames ∧ 8 + (md.2.2.1 + 11) + (rmD d mc ms).locals ≤ R.locals := ⟨hrm.1, by show 8 + (md.2.2.1 + 11) + 64 * d ≤ R.locals; omega⟩
  rcases w4 with w4 | ⟨host, w4⟩
  · refine call_go (va_runV (C := md.1.cls) (bytes := md.2.1) (maxL := md.2.2.1) (ret := md.2.2.2) (n := n) (rest := rest) (As := as) (b := b + c) ⟨hx, hb, hml, hown, hts⟩ (hM l D) ⟨callB_of n hts (code_good w1) rfl rfl rfl (hts _ w2) (hts _ w4) w3 hroom, hts _ w6, hts _ w7⟩ hpre rfl hn hl.1 hst (lv_room hrest) hd ⟨hrm.2.2.1, hrm.2.2.2⟩) hS k2
  · refine call_go (va_runVN (C := md.1.cls) (host := host) (bytes := md.2.1) (maxL := md.2.2.1) (ret := md.2.2.2) (n := n) (rest := rest) (As := as) (b := b + c) ⟨hx, hb, hml, hown, hts⟩ (hM l D) ⟨va_cnB n hts (code_good w1) rfl rfl rfl (hE.1 _ w4) (hts _ w2) w3 hroom, hts _ w6, hts _ w7⟩ hpre rfl hn hl.1 hst (lv_room hrest) hd ⟨hrm.2.2.1, hrm.2.2.2⟩) hS k2
theorem R_callS {d mc ms idx n : Nat} {md : MD} {as : List Value} {Q : Option Value → Mem → Prop} (hd : decode cc pc = .ok (.invokestatic idx, 3)) (hsv : SS y.cls idx md n) (hM : MC d md mc ms b sh M as sh' Q) (hn : as.length = n) (hst : st = as.reverse ++ rest) (hrest : (rest.map fun v => v.category).sum ≤ 8) (hrm : roomOK R kc ks d mc ms) (hlen : sh'.length = sh.length + mc)
    (k : ∀ v M', Q v M' → MW y cc nL ret R F b n0 (kc + mc) (ks + ms) (pc + 3) ls (v.toList ++ rest) sh' M') : MW y cc nL ret R F b n0 kc ks pc ls st sh M := by
  intro p l e s m args below meth c' D H locs lsA C hR hS hk hl
  have k2 := fun v M' H1 locs1 hq hR1 hS1 => k v M' hq p l e s m args below meth c' D H1 locs1 lsA C hR1 hS1 (by omega) hl
  obtain ⟨hx, hb, hml, hown, hnm, hret, hlk, hts, hE, hK, hsz⟩ := C
  obtain ⟨⟨w1, w2, w3, w4, w5⟩, w6⟩ := hsv
  refine W_size fun hz => ?_
  have hpre : PreS s H (Pm D b sh M as) as := ⟨Pm_blind, pre_at hE hK hsz hR hS hk hz⟩
  have hroom : (rmD d mc ms).frames + 1 ≤ R.frames ∧ 8 + (md.2.2.1 + 11) + (rmD d mc ms).locals ≤ R.locals := ⟨hrm.1, by show 8 + (md.2.2.1 + 11) + 64 * d ≤ R.locals; omega⟩
  rcases w4 with w4 | ⟨host, w4⟩
  · refine call_go (va_runS (bytes := md.2.1) (maxL := md.2.2.1) (ret := md.2.2.2) (n := n) (rest := rest) (As := as) ⟨hx, hb, hml, hown, hts⟩ (hM l D) ⟨callB_of n hts (code_good w1) rfl rfl rfl (hts _ w2) (hts _ w4) w3 hroom, hts _ w6⟩ hpre rfl hn hl.1 hst (lv_room hrest) hd ⟨hrm.2.2.1, hrm.2.2.2⟩) hS k2
  · refine call_go (va_runSN (host := host) (bytes := md.2.1) (maxL := md.2.2.1) (ret := md.2.2.2) (n := n) (rest := rest) (As := as) ⟨hx, hb, hml, hown, hts⟩ (hM l D) ⟨va_cnB n hts (code_good w1) rfl rfl rfl (hE.1 _ w4) (hts _ w2) w3 hroom, hts _ w6, trivial⟩ hpre rfl hn hl.1 hst (lv_room hrest) hd ⟨hrm.2.2.1, hrm.2.2.2⟩) hS k2
theorem R_callI {d mc ms idx n c mL : Nat} {z : MethodName} {bc : ByteArray} {as : List Value} {Q : Option Value → Mem → Prop} (hd : decode cc pc = .ok (.invokespecial idx, 3)) (hsv : SI y.cls idx z bc mL n) (hM : MC d (z, bc, mL, none) mc ms b sh M (vr b c :: as) sh' Q) (hn : as.length = n) (hst : st = as.reverse ++ vr b c :: rest) (hrest : (rest.map fun v => v.category).sum ≤ 8) (hrm : roomOK R kc ks d mc ms) (hlen : sh'.length = sh.length + mc)
    (k : ∀ v M', Q v M' → MW y cc nL ret R F b n0 (kc + mc) (ks + ms) (pc + 3) ls (v.toList ++ rest) sh' M') : MW y cc nL ret R F b n0 kc ks pc ls st sh M := by
  intro p l e s m args below meth c' D H locs lsA C hR hS hk hl
  have k2 := fun v M' H1 locs1 hq hR1 hS1 => k v M' hq p l e s m args below meth c' D H1 locs1 lsA C hR1 hS1 (by omega) hl
  obtain ⟨hx, hb, hml, hown, hnm, hret, hlk, hts, hE, hK, hsz⟩ := C
  obtain ⟨⟨w1, w2, w3, w4, w5⟩, w6, w7⟩ := hsv
  refine W_size fun hz => ?_
  have hpre : PreS s H (Pm D b sh M (vr b c :: as)) (.ref (b + c) :: as) := ⟨Pm_blind, pre_at hE hK hsz hR hS hk hz⟩
  have hroom : (rmD d mc ms).frames + 1 ≤ R.frames ∧ 8 + (mL + 11) + (rmD d mc ms).locals ≤ R.locals := ⟨hrm.1, by have : mL ≤ 40 := w5; show 8 + (mL + 11) + 64 * d ≤ R.locals; omega⟩
  rcases w4 with w4 | ⟨host, w4⟩
  · refine call_go (va_runI (bytes := bc) (maxL := mL) (n := n) (rest := rest) (As := as) (b := b + c) ⟨hx, hb, hml, hown, hts⟩ (hM l D) ⟨callB_of n hts (code_good w1) rfl rfl rfl (hts _ w2) (hts _ w4) w3 hroom, w6, hts _ w7⟩ hpre rfl hn hl.1 hst (lv_room hrest) hd ⟨hrm.2.2.1, hrm.2.2.2⟩) hS k2
  · refine call_go (va_runIN (host := host) (bytes := bc) (maxL := mL) (n := n) (rest := rest) (As := as) (b := b + c) ⟨hx, hb, hml, hown, hts⟩ (hM l D) ⟨va_cnB n hts (code_good w1) rfl rfl rfl (hE.1 _ w4) (hts _ w2) w3 hroom, w6, hts _ w7⟩ hpre rfl hn hl.1 hst (lv_room hrest) hd ⟨hrm.2.2.1, hrm.2.2.2⟩) hS k2
theorem R_objInit {idx c : Nat} (hd : decode cc pc = .ok (.invokespecial idx, 3)) (h1 : Cond.methodLink y.cls idx Lib.objectInit ∈ tblG) (h2 : Cond.instanceMethod Lib.objectInit ∈ tblG) (h3 : Cond.code Lib.objectInit ⟨#[0xb1]⟩ 1 none ∈ tblG) (hrest : (st.map fun v => v.category).sum ≤ 8) (hrm : 1 ≤ R.frames ∧ 20 ≤ R.locals) (k : MW y cc nL ret R F b n0 kc ks (pc + 3) ls st sh M) : MW y cc nL ret R F b n0 kc ks pc ls (vr b c :: st) sh M := by
  intro p l e s m args below meth c' D H locs lsA C hR hS hk hl
  have k2 := k p l e s m args below meth c' D H locs lsA C hR hS hk hl
  obtain ⟨hx, hb, hml, hown, hnm, hret, hlk, hts, hE, hK, hsz⟩ := C
  exact W.objInit (g := F0 m pc lsA (vr b c :: st)) hx hb hown (hts _ h1) (hts _ h2) (hts _ h3) rfl (by rw [hml]; exact hl.1) rfl hd hrm.1 (by show 2 * 0 + _ + 12 ≤ R.locals; omega) k2
/-- System.arraycopy of ints between two rows -/
theorem R_acopy {idx c1 c2 n1 n2 : Nat} {r1 r2 : List (Option Nat)} {sp dp n : Int} {M' : Mem} (hd : decode cc pc = .ok (.invokestatic idx, 3)) (h1 : Cond.methodLink y.cls idx arraycopyName ∈ tblG) (h2 : Cond.native arraycopyName ∈ tblG) (h3 : Cond.static arraycopyName ∈ tblG) (h4 : Cond.initialized "java/lang/System" ∈ tblG) (hs1 : sh[c1]? = some (9, n1, r1)) (hs2 : sh[c2]? = some (9, n2, r2)) (hx : 0 ≤ sp ∧ 0 ≤ dp ∧ 0 ≤ n ∧ sp + n ≤ n1 ∧ dp + n ≤ n2 ∧ sp + n ≤ 100000 ∧ dp + n ≤ 100000)
    (hrest : (st.map fun v => v.category).sum ≤ 8) (hrm : 1 ≤ R.frames ∧ 60 ≤ R.locals) (hM : M' = fun k j => if k = c2 ∧ dp ≤ j ∧ j < dp + n then M c1 (sp + (j - dp)) else M k j) (k : MW y cc nL ret R F b n0 kc ks (pc + 3) ls st sh M') : MW y cc nL ret R F b n0 kc ks pc ls (vi n :: vi dp :: vr b c2 :: vi sp :: vr b c1 :: st) sh M := by
  intro p l e s m args below meth c' D H locs lsA C hR hS hk hl
  have k2 := fun H1 locs1 hR1 hS1 => k p l e s m args below meth c' D H1 locs1 lsA C hR1 hS1 hk hl
  obtain ⟨hxx, hb, hml, hown, hnm, hret, hlk, hts, hE, hK, hsz⟩ := C
  have hg1 : (wl D b sh M)[c1]? = some (b + c1, .inl (D.2.2.1, n1, .inl (fun j => Int32.ofInt (M c1 j)))) := by rw [wl_get hs1, ce_I]
  have hg2 : (wl D b sh M)[c2]? = some (b + c2, .inl (D.2.2.1, n2, .inl (fun j => Int32.ofInt (M c2 j)))) := by rw [wl_get hs2, ce_I]
  have e1 : (Int32.ofInt sp).toNatClampNeg = sp.toNat := oi_cl (by omega)
  have e2 : (Int32.ofInt dp).toNatClampNeg = dp.toNat := oi_cl (by omega)
  have e3 : (Int32.ofInt n).toNatClampNeg = n.toNat := oi_cl (by omega)
  have f1 : ¬ Int32.ofInt sp < 0 := by rw [oi_0, oi_lt (by omega) (by omega)]; omega
  have f2 : ¬ Int32.ofInt dp < 0 := by rw [oi_0, oi_lt (by omega) (by omega)]; omega
  have f3 : ¬ Int32.ofInt n < 0 := by rw [oi_0, oi_lt (by omega) (by omega)]; omega
  have f4 : nativeFrameWords "java/lang/System" "arraycopy" 5 ≤ 40 := by decide +kernel
  have f5 : (st.map fun v => v.category).sum + (nativeFrameWords "java/lang/System" "arraycopy" 5 + 11) ≤ R.locals := by omega
  refine va_copyi (ty := .int) (sp := Int32.ofInt sp) (dp := Int32.ofInt dp) (n := Int32.ofInt n) (rest := st) hxx hb (by rw [hml]; exact hl.1.symm) hown (hts _ h1) (hts _ h2) (hts _ h3) (hts _ h4) hK hR.1 wl_D hS c1 c2 0 0 hg1 hg2 rfl rfl rfl f1 f2 f3 (by rw [e1, e3]; omega) (by rw [e2, e3]; omega) (fun i hi => rfl) hrm.1 f5 hd (fun H1 locs1 hP1 _ hS1 => ?_)
  have he : va_cpy (fun j : Nat => Int32.ofInt (M c1 j)) (fun j : Nat => Int32.ofInt (M c2 j)) sp.toNat dp.toNat n.toNat = (fun j : Nat => Int32.ofInt (M' c2 j)) := by
    funext j
    unfold va_cpy
    rw [hM]
    by_cases h : dp.toNat ≤ j ∧ j < dp.toNat + n.toNat
    · rw [if_pos h]
      show _ = Int32.ofInt (if c2 = c2 ∧ dp ≤ (j : Int) ∧ (j : Int) < dp + n then M c1 (sp + ((j : Int) - dp)) else M c2 j)
      rw [if_pos ⟨rfl, by omega, by omega⟩]
      show Int32.ofInt (M c1 ((sp.toNat + (j - dp.toNat) : Nat) : Int)) = _
      congr 2
      omega
    · rw [if_neg h]
      show _ = Int32.ofInt (if c2 = c2 ∧ dp ≤ (j : Int) ∧ (j : Int) < dp + n then M c1 (sp + ((j : Int) - dp)) else M c2 j)
      rw [if_neg (fun q => h (by omega))]
  rw [e1, e2, e3, he, wl_set (q' := (9, n2, r2)) (M' := M') hs2 (fun i hi => by rw [hM]; funext j; simp [hi]) (by rw [ce_I]), sh_same hs2] at hP1
  refine k2 H1 locs1 ⟨hP1, fun k j => ?_⟩ hS1
  rw [hM]
  simp only
  split
  · exact hR.2 _ _
  · exact hR.2 _ _
end Calls
section Arity
variable {y : MethodName} {cc : ByteArray} {nL : Nat} {ret : Option FieldType} {R : Room} {F : FT} {b n0 kc ks pc : Nat} {ls : List (Option Value)} {rest : List Value} {sh : Shp} {M : Mem}
/-- contracts of methods that make no cell -/
abbrev C0 (d : Nat) (md : MD) (b : Nat) (sh : Shp) (M : Mem) (as : List Value) (Q : Option Value → Mem → Prop) : Prop := MC d md 0 0 b sh M as sh Q
/-- .. whose answer and memory are known -/
def EQ (V : Option Value) (M1 : Mem) : Option Value → Mem → Prop := fun w N => w = V ∧ N = M1
abbrev Ex (d : Nat) (md : MD) (b : Nat) (sh : Shp) (M : Mem) (as : List Value) (V : Option Value) (M1 : Mem) : Prop := MC d md 0 0 b sh M as sh (EQ V M1)
theorem R_V0 {d idx ci c nn : Nat} {md : MD} {rs : List (Option Nat)} {Q : Option Value → Mem → Prop} (hd : decode cc pc = .ok (.invokevirtual idx, 3)) (hsv : SV y.cls idx md ci 0) (hM : C0 d md b sh M [vr b c] Q) (hs : sh[c]? = some (ci, nn, rs)) (hrest : (rest.map fun v => v.category).sum ≤ 8) (hrm : roomOK R kc ks d 0 0) (k : ∀ v M', Q v M' → MW y cc nL ret R F b n0 kc ks (pc + 3) ls (v.toList ++ rest) sh M') : MW y cc nL ret R F b n0 kc ks pc ls (vr b c :: rest) sh M :=
  R_callV hd hsv hM hs rfl rfl hrest hrm rfl k
theorem R_V0i {d idx ci c nn : Nat} {md : MD} {rs : List (Option Nat)} {w : Value} {M1 : Mem} (hd : decode cc pc = .ok (.invokevirtual idx, 3)) (hsv : SV y.cls idx md ci 0) (hs : sh[c]? = some (ci, nn, rs)) (hM : Ex d md b sh M [vr b c] (some w) M1) (hrest : (rest.map fun v => v.category).sum ≤ 8) (hrm : roomOK R kc ks d 0 0) (k : MW y cc nL ret R F b n0 kc ks (pc + 3) ls (w :: rest) sh M1) : MW y cc nL ret R F b n0 kc ks pc ls (vr b c :: rest) sh M :=
  R_callV hd hsv hM hs rfl rfl hrest hrm rfl (fun v M' h => by obtain ⟨rfl, rfl⟩ := h; exact k)
theorem R_V0v {d idx ci c nn : Nat} {md : MD} {rs : List (Option Nat)} {M1 : Mem} (hd : decode cc pc = .ok (.invokevirtual idx, 3)) (hsv : SV y.cls idx md ci 0) (hs : sh[c]? = some (ci, nn, rs)) (hM : Ex d md b sh M [vr b c] none M1) (hrest : (rest.map fun v => v.category).sum ≤ 8) (hrm : roomOK R kc ks d 0 0) (k : MW y cc nL ret R F b n0 kc ks (pc + 3) ls rest sh M1) : MW y cc nL ret R F b n0 kc ks pc ls (vr b c :: rest) sh M :=
  R_callV hd hsv hM hs rfl rfl hrest hrm rfl (fun v M' h => by obtain ⟨rfl, rfl⟩ := h; exact k)
theorem R_S0 {d idx : Nat} {md : MD} {Q : Option Value → Mem → Prop} (hd : decode cc pc = .ok (.invokestatic idx, 3)) (hsv : SS y.cls idx md 0) (hM : C0 d md b sh M [] Q) (hrest : (rest.map fun v => v.category).sum ≤ 8) (hrm : roomOK R kc ks d 0 0) (k : ∀ v M', Q v M' → MW y cc nL ret R F b n0 kc ks (pc + 3) ls (v.toList ++ rest) sh M') : MW y cc nL ret R F b n0 kc ks pc ls (rest) sh M :=
  R_callS hd hsv hM rfl rfl hrest hrm rfl k
theorem R_S0i {d idx : Nat} {md : MD} {w : Value} {M1 : Mem} (hd : decode cc pc = .ok (.invokestatic idx, 3)) (hsv : SS y.cls idx md 0) (hM : Ex d md b sh M [] (some w) M1) (hrest : (rest.map fun v => v.category).sum ≤ 8) (hrm : roomOK R kc ks d 0 0) (k : MW y cc nL ret R F b n0 kc ks (pc + 3) ls (w :: rest) sh M1) : MW y cc nL ret R F b n0 kc ks pc ls (rest) sh M :=
  R_callS hd hsv hM rfl rfl hrest hrm rfl (fun v M' h => by obtain ⟨rfl, rfl⟩ := h; exact k)
theorem R_V1 {d idx ci c nn : Nat} {md : MD} {rs : List (Option Nat)} {a1 : Value} {Q : Option Value → Mem → Prop} (hd : decode cc pc = .ok (.invokevirtual idx, 3)) (hsv : SV y.cls idx md ci 1) (hM : C0 d md b sh M [vr b c, a1] Q) (hs : sh[c]? = some (ci, nn, rs)) (hrest : (rest.map fun v => v.category).sum ≤ 8) (hrm : roomOK R kc ks d 0 0) (k : ∀ v M', Q v M' → MW y cc nL ret R F b n0 kc ks (pc + 3) ls (v.toList ++ rest) sh M') : MW y cc nL ret R F b n0 kc ks pc ls (a1 :: vr b c :: rest) sh M :=
  R_callV hd hsv hM hs rfl rfl hrest hrm rfl k
theorem R_V1i {d idx ci c nn : Nat} {md : MD} {rs : List (Option Nat)} {a1 : Value} {w : Value} {M1 : Mem} (hd : decode cc pc = .ok (.invokevirtual idx, 3)) (hsv : SV y.cls idx md ci 1) (hs : sh[c]? = some (ci, nn, rs)) (hM : Ex d md b sh M [vr b c, a1] (some w) M1) (hrest : (rest.map fun v => v.category).sum ≤ 8) (hrm : roomOK R kc ks d 0 0) (k : MW y cc nL ret R F b n0 kc ks (pc + 3) ls (w :: rest) sh M1) : MW y cc nL ret R F b n0 kc ks pc ls (a1 :: vr b c :: rest) sh M :=
  R_callV hd hsv hM hs rfl rfl hrest hrm rfl (fun v M' h => by obtain ⟨rfl, rfl⟩ := h; exact k)
theorem R_V1v {d idx ci c nn : Nat} {md : MD} {rs : List (Option Nat)} {a1 : Value} {M1 : Mem} (hd : decode cc pc = .ok (.invokevirtual idx, 3)) (hsv : SV y.cls idx md ci 1) (hs : sh[c]? = some (ci, nn, rs)) (hM : Ex d md b sh M [vr b c, a1] none M1) (hrest : (rest.map fun v => v.category).sum ≤ 8) (hrm : roomOK R kc ks d 0 0) (k : MW y cc nL ret R F b n0 kc ks (pc + 3) ls rest sh M1) : MW y cc nL ret R F b n0 kc ks pc ls (a1 :: vr b c :: rest) sh M :=
  R_callV hd hsv hM hs rfl rfl hrest hrm rfl (fun v M' h => by obtain ⟨rfl, rfl⟩ := h; exact k)
theorem R_S1 {d idx : Nat} {md : MD} {a1 : Value} {Q : Option Value → Mem → Prop} (hd : decode cc pc = .ok (.invokestatic idx, 3)) (hsv : SS y.cls idx md 1) (hM : C0 d md b sh M [a1] Q) (hrest : (rest.map fun v => v.category).sum ≤ 8) (hrm : roomOK R kc ks d 0 0) (k : ∀ v M', Q v M' → MW y cc nL ret R F b n0 kc ks (pc + 3) ls (v.toList ++ rest) sh M') : MW y cc nL ret R F b n0 kc ks pc ls (a1 :: rest) sh M :=
  R_callS hd hsv hM rfl rfl hrest hrm rfl k
theorem R_S1i {d idx : Nat} {md : MD} {a1 : Value} {w : Value} {M1 : Mem} (hd : decode cc pc = .ok (.invokestatic idx, 3)) (hsv : SS y.cls idx md 1) (hM : Ex d md b sh M [a1] (some w) M1) (hrest : (rest.map fun v => v.category).sum ≤ 8) (hrm : roomOK R kc ks d 0 0) (k : MW y cc nL ret R F b n0 kc ks (pc + 3) ls (w :: rest) sh M1) : MW y cc nL ret R F b n0 kc ks pc ls (a1 :: rest) sh M :=
  R_callS hd hsv hM rfl rfl hrest hrm rfl (fun v M' h => by obtain ⟨rfl, rfl⟩ := h; exact k)
theorem R_V2 {d idx ci c nn : Nat} {md : MD} {rs : List (Option Nat)} {a1 a2 : Value} {Q : Option Value → Mem → Prop} (hd : decode cc pc = .ok (.invokevirtual idx, 3)) (hsv : SV y.cls idx md ci 2) (hM : C0 d md b sh M [vr b c, a1, a2] Q) (hs : sh[c]? = some (ci, nn, rs)) (hrest : (rest.map fun v => v.category).sum ≤ 8) (hrm : roomOK R kc ks d 0 0) (k : ∀ v M', Q v M' → MW y cc nL ret R F b n0 kc ks (pc + 3) ls (v.toList ++ rest) sh M') : MW y cc nL ret R F b n0 kc ks pc ls (a2 :: a1 :: vr b c :: rest) sh M :=
  R_callV hd hsv hM hs rfl rfl hrest hrm rfl k
theorem R_V2i {d idx ci c nn : Nat} {md : MD} {rs : List (Option Nat)} {a1 a2 : Value} {w : Value} {M1 : Mem} (hd : decode cc pc = .ok (.invokevirtual idx, 3)) (hsv : SV y.cls idx md ci 2) (hs : sh[c]? = some (ci, nn, rs)) (hM : Ex d md b sh M [vr b c, a1, a2] (some w) M1) (hrest : (rest.map fun v => v.category).sum ≤ 8) (hrm : roomOK R kc ks d 0 0) (k : MW y cc nL ret R F b n0 kc ks (pc + 3) ls (w :: rest) sh M1) : MW y cc nL ret R F b n0 kc ks pc ls (a2 :: a1 :: vr b c :: rest) sh M :=
  R_callV hd hsv hM hs rfl rfl hrest hrm rfl (fun v M' h => by obtain ⟨rfl, rfl⟩ := h; exact k)
theorem R_V2v {d idx ci c nn : Nat} {md : MD} {rs : List (Option Nat)} {a1 a2 : Value} {M1 : Mem} (hd : decode cc pc = .ok (.invokevirtual idx, 3)) (hsv : SV y.cls idx md ci 2) (hs : sh[c]? = some (ci, nn, rs)) (hM : Ex d md b sh M [vr b c, a1, a2] none M1) (hrest : (rest.map fun v => v.category).sum ≤ 8) (hrm : roomOK R kc ks d 0 0) (k : MW y cc nL ret R F b n0 kc ks (pc + 3) ls rest sh M1) : MW y cc nL ret R F b n0 kc ks pc ls (a2 :: a1 :: vr b c :: rest) sh M :=
  R_callV hd hsv hM hs rfl rfl hrest hrm rfl (fun v M' h => by obtain ⟨rfl, rfl⟩ := h; exact k)
theorem R_S2 {d idx : Nat} {md : MD} {a1 a2 : Value} {Q : Option Value → Mem → Prop} (hd : decode cc pc = .ok (.invokestatic idx, 3)) (hsv : SS y.cls idx md 2) (hM : C0 d md b sh M [a1, a2] Q) (hrest : (rest.map fun v => v.category).sum ≤ 8) (hrm : roomOK R kc ks d 0 0) (k : ∀ v M', Q v M' → MW y cc nL ret R F b n0 kc ks (pc + 3) ls (v.toList ++ rest) sh M') : MW y cc nL ret R F b n0 kc ks pc ls (a2 :: a1 :: rest) sh M :=
  R_callS hd hsv hM rfl rfl hrest hrm rfl k
theorem R_S2i {d idx : Nat} {md : MD} {a1 a2 : Value} {w : Value} {M1 : Mem} (hd : decode cc pc = .ok (.invokestatic idx, 3)) (hsv : SS y.cls idx md 2) (hM : Ex d md b sh M [a1, a2] (some w) M1) (hrest : (rest.map fun v => v.category).sum ≤ 8) (hrm : roomOK R kc ks d 0 0) (k : MW y cc nL ret R F b n0 kc ks (pc + 3) ls (w :: rest) sh M1) : MW y cc nL ret R F b n0 kc ks pc ls (a2 :: a1 :: rest) sh M :=
  R_callS hd hsv hM rfl rfl hrest hrm rfl (fun v M' h => by obtain ⟨rfl, rfl⟩ := h; exact k)
theorem R_V3 {d idx ci c nn : Nat} {md : MD} {rs : List (Option Nat)} {a1 a2 a3 : Value} {Q : Option Value → Mem → Prop} (hd : decode cc pc = .ok (.invokevirtual idx, 3)) (hsv : SV y.cls idx md ci 3) (hM : C0 d md b sh M [vr b c, a1, a2, a3] Q) (hs : sh[c]? = some (ci, nn, rs)) (hrest : (rest.map fun v => v.category).sum ≤ 8) (hrm : roomOK R kc ks d 0 0) (k : ∀ v M', Q v M' → MW y cc nL ret R F b n0 kc ks (pc + 3) ls (v.toList ++ rest) sh M') : MW y cc nL ret R F b n0 kc ks pc ls (a3 :: a2 :: a1 :: vr b c :: rest) sh M :=
  R_callV hd hsv hM hs rfl rfl hrest hrm rfl k
theorem R_V3i {d idx ci c nn : Nat} {md : MD} {rs : List (Option Nat)} {a1 a2 a3 : Value} {w : Value} {M1 : Mem} (hd : decode cc pc = .ok (.invokevirtual idx, 3)) (hsv : SV y.cls idx md ci 3) (hs : sh[c]? = some (ci, nn, rs)) (hM : Ex d md b sh M [vr b c, a1, a2, a3] (some w) M1) (hrest : (rest.map fun v => v.category).sum ≤ 8) (hrm : roomOK R kc ks d 0 0) (k : MW y cc nL ret R F b n0 kc ks (pc + 3) ls (w :: rest) sh M1) : MW y cc nL ret R F b n0 kc ks pc ls (a3 :: a2 :: a1 :: vr b c :: rest) sh M :=
  R_callV hd hsv hM hs rfl rfl hrest hrm rfl (fun v M' h => by obtain ⟨rfl, rfl⟩ := h; exact k)
theorem R_V3v {d idx ci c nn : Nat} {md : MD} {rs : List (Option Nat)} {a1 a2 a3 : Value} {M1 : Mem} (hd : decode cc pc = .ok (.invokevirtual idx, 3)) (hsv : SV y.cls idx md ci 3) (hs : sh[c]? = some (ci, nn, rs)) (hM : Ex d md b sh M [vr b c, a1, a2, a3] none M1) (hrest : (rest.map fun v => v.category).sum ≤ 8) (hrm : roomOK R kc ks d 0 0) (k : MW y cc nL ret R F b n0 kc ks (pc + 3) ls rest sh M1) : MW y cc nL ret R F b n0 kc ks pc ls (a3 :: a2 :: a1 :: vr b c :: rest) sh M :=
  R_callV hd hsv hM hs rfl rfl hrest hrm rfl (fun v M' h => by obtain ⟨rfl, rfl⟩ := h; exact k)
theorem R_S3 {d idx : Nat} {md : MD} {a1 a2 a3 : Value} {Q : Option Value → Mem → Prop} (hd : decode cc pc = .ok (.invokestatic idx, 3)) (hsv : SS y.cls idx md 3) (hM : C0 d md b sh M [a1, a2, a3] Q) (hrest : (rest.map fun v => v.category).sum ≤ 8) (hrm : roomOK R kc ks d 0 0) (k : ∀ v M', Q v M' → MW y cc nL ret R F b n0 kc ks (pc + 3) ls (v.toList ++ rest) sh M') : MW y cc nL ret R F b n0 kc ks pc ls (a3 :: a2 :: a1 :: rest) sh M :=
  R_callS hd hsv hM rfl rfl hrest hrm rfl k
theorem R_S3i {d idx : Nat} {md : MD} {a1 a2 a3 : Value} {w : Value} {M1 : Mem} (hd : decode cc pc = .ok (.invokestatic idx, 3)) (hsv : SS y.cls idx md 3) (hM : Ex d md b sh M [a1, a2, a3] (some w) M1) (hrest : (rest.map fun v => v.category).sum ≤ 8) (hrm : roomOK R kc ks d 0 0) (k : MW y cc nL ret R F b n0 kc ks (pc + 3) ls (w :: rest) sh M1) : MW y cc nL ret R F b n0 kc ks pc ls (a3 :: a2 :: a1 :: rest) sh M :=
  R_callS hd hsv hM rfl rfl hrest hrm rfl (fun v M' h => by obtain ⟨rfl, rfl⟩ := h; exact k)
theorem R_V4 {d idx ci c nn : Nat} {md : MD} {rs : List (Option Nat)} {a1 a2 a3 a4 : Value} {Q : Option Value → Mem → Prop} (hd : decode cc pc = .ok (.invokevirtual idx, 3)) (hsv : SV y.cls idx md ci 4) (hM : C0 d md b sh M [vr b c, a1, a2, a3, a4] Q) (hs : sh[c]? = some (ci, nn, rs)) (hrest : (rest.map fun v => v.category).sum ≤ 8) (hrm : roomOK R kc ks d 0 0) (k : ∀ v M', Q v M' → MW y cc nL ret R F b n0 kc ks (pc + 3) ls (v.toList ++ rest) sh M') : MW y cc nL ret R F b n0 kc ks pc ls (a4 :: a3 :: a2 :: a1 :: vr b c :: rest) sh M :=
  R_callV hd hsv hM hs rfl rfl hrest hrm rfl k
theorem R_V4i {d idx ci c nn : Nat} {md : MD} {rs : List (Option Nat)} {a1 a2 a3 a4 : Value} {w : Value} {M1 : Mem} (hd : decode cc pc = .ok (.invokevirtual idx, 3)) (hsv : SV y.cls idx md ci 4) (hs : sh[c]? = some (ci, nn, rs)) (hM : Ex d md b sh M [vr b c, a1, a2, a3, a4] (some w) M1) (hrest : (rest.map fun v => v.category).sum ≤ 8) (hrm : roomOK R kc ks d 0 0) (k : MW y cc nL ret R F b n0 kc ks (pc + 3) ls (w :: rest) sh M1) : MW y cc nL ret R F b n0 kc ks pc ls (a4 :: a3 :: a2 :: a1 :: vr b c :: rest) sh M :=
  R_callV hd hsv hM hs rfl rfl hrest hrm rfl (fun v M' h => by obtain ⟨rfl, rfl⟩ := h; exact k)
theorem R_V4v {d idx ci c nn : Nat} {md : MD} {rs : List (Option Nat)} {a1 a2 a3 a4 : Value} {M1 : Mem} (hd : decode cc pc = .ok (.invokevirtual idx, 3)) (hsv : SV y.cls idx md ci 4) (hs : sh[c]? = some (ci, nn, rs)) (hM : Ex d md b sh M [vr b c, a1, a2, a3, a4] none M1) (hrest : (rest.map fun v => v.category).sum ≤ 8) (hrm : roomOK R kc ks d 0 0) (k : MW y cc nL ret R F b n0 kc ks (pc + 3) ls rest sh M1) : MW y cc nL ret R F b n0 kc ks pc ls (a4 :: a3 :: a2 :: a1 :: vr b c :: rest) sh M :=
  R_callV hd hsv hM hs rfl rfl hrest hrm rfl (fun v M' h => by obtain ⟨rfl, rfl⟩ := h; exact k)
theorem R_S4 {d idx : Nat} {md : MD} {a1 a2 a3 a4 : Value} {Q : Option Value → Mem → Prop} (hd : decode cc pc = .ok (.invokestatic idx, 3)) (hsv : SS y.cls idx md 4) (hM : C0 d md b sh M [a1, a2, a3, a4] Q) (hrest : (rest.map fun v => v.category).sum ≤ 8) (hrm : roomOK R kc ks d 0 0) (k : ∀ v M', Q v M' → MW y cc nL ret R F b n0 kc ks (pc + 3) ls (v.toList ++ rest) sh M') : MW y cc nL ret R F b n0 kc ks pc ls (a4 :: a3 :: a2 :: a1 :: rest) sh M :=
  R_callS hd hsv hM rfl rfl hrest hrm rfl k
theorem R_S4i {d idx : Nat} {md : MD} {a1 a2 a3 a4 : Value} {w : Value} {M1 : Mem} (hd : decode cc pc = .ok (.invokestatic idx, 3)) (hsv : SS y.cls idx md 4) (hM : Ex d md b sh M [a1, a2, a3, a4] (some w) M1) (hrest : (rest.map fun v => v.category).sum ≤ 8) (hrm : roomOK R kc ks d 0 0) (k : MW y cc nL ret R F b n0 kc ks (pc + 3) ls (w :: rest) sh M1) : MW y cc nL ret R F b n0 kc ks pc ls (a4 :: a3 :: a2 :: a1 :: rest) sh M :=
  R_callS hd hsv hM rfl rfl hrest hrm rfl (fun v M' h => by obtain ⟨rfl, rfl⟩ := h; exact k)
theorem R_V5 {d idx ci c nn : Nat} {md : MD} {rs : List (Option Nat)} {a1 a2 a3 a4 a5 : Value} {Q : Option Value → Mem → Prop} (hd : decode cc pc = .ok (.invokevirtual idx, 3)) (hsv : SV y.cls idx md ci 5) (hM : C0 d md b sh M [vr b c, a1, a2, a3, a4, a5] Q) (hs : sh[c]? = some (ci, nn, rs)) (hrest : (rest.map fun v => v.category).sum ≤ 8) (hrm : roomOK R kc ks d 0 0) (k : ∀ v M', Q v M' → MW y cc nL ret R F b n0 kc ks (pc + 3) ls (v.toList ++ rest) sh M') : MW y cc nL ret R F b n0 kc ks pc ls (a5 :: a4 :: a3 :: a2 :: a1 :: vr b c :: rest) sh M :=
  R_callV hd hsv hM hs rfl rfl hrest hrm rfl k
theorem R_V5i {d idx ci c nn : Nat} {md : MD} {rs : List (Option Nat)} {a1 a2 a3 a4 a5 : Value} {w : Value} {M1 : Mem} (hd : decode cc pc = .ok (.invokevirtual idx, 3)) (hsv : SV y.cls idx md ci 5) (hs : sh[c]? = some (ci, nn, rs)) (hM : Ex d md b sh M [vr b c, a1, a2, a3, a4, a5] (some w) M1) (hrest : (rest.map fun v => v.category).sum ≤ 8) (hrm : roomOK R kc ks d 0 0) (k : MW y cc nL ret R F b n0 kc ks (pc + 3) ls (w :: rest) sh M1) : MW y cc nL ret R F b n0 kc ks pc ls (a5 :: a4 :: a3 :: a2 :: a1 :: vr b c :: rest) sh M :=
  R_callV hd hsv hM hs rfl rfl hrest hrm rfl (fun v M' h => by obtain ⟨rfl, rfl⟩ := h; exact k)
theorem R_V5v {d idx ci c nn : Nat} {md : MD} {rs : List (Option Nat)} {a1 a2 a3 a4 a5 : Value} {M1 : Mem} (hd : decode cc pc = .ok (.invokevirtual idx, 3)) (hsv : SV y.cls idx md ci 5) (hs : sh[c]? = some (ci, nn, rs)) (hM : Ex d md b sh M [vr b c, a1, a2, a3, a4, a5] none M1) (hrest : (rest.map fun v => v.category).sum ≤ 8) (hrm : roomOK R kc ks d 0 0) (k : MW y cc nL ret R F b n0 kc ks (pc + 3) ls rest sh M1) : MW y cc nL ret R F b n0 kc ks pc ls (a5 :: a4 :: a3 :: a2 :: a1 :: vr b c :: rest) sh M :=
  R_callV hd hsv hM hs rfl rfl hrest hrm rfl (fun v M' h => by obtain ⟨rfl, rfl⟩ := h; exact k)
theorem R_S5 {d idx : Nat} {md : MD} {a1 a2 a3 a4 a5 : Value} {Q : Option Value → Mem → Prop} (hd : decode cc pc = .ok (.invokestatic idx, 3)) (hsv : SS y.cls idx md 5) (hM : C0 d md b sh M [a1, a2, a3, a4, a5] Q) (hrest : (rest.map fun v => v.category).sum ≤ 8) (hrm : roomOK R kc ks d 0 0) (k : ∀ v M', Q v M' → MW y cc nL ret R F b n0 kc ks (pc + 3) ls (v.toList ++ rest) sh M') : MW y cc nL ret R F b n0 kc ks pc ls (a5 :: a4 :: a3 :: a2 :: a1 :: rest) sh M :=
  R_callS hd hsv hM rfl rfl hrest hrm rfl k
theorem R_S5i {d idx : Nat} {md : MD} {a1 a2 a3 a4 a5 : Value} {w : Value} {M1 : Mem} (hd : decode cc pc = .ok (.invokestatic idx, 3)) (hsv : SS y.cls idx md 5) (hM : Ex d md b sh M [a1, a2, a3, a4, a5] (some w) M1) (hrest : (rest.map fun v => v.category).sum ≤ 8) (hrm : roomOK R kc ks d 0 0) (k : MW y cc nL ret R F b n0 kc ks (pc + 3) ls (w :: rest) sh M1) : MW y cc nL ret R F b n0 kc ks pc ls (a5 :: a4 :: a3 :: a2 :: a1 :: rest) sh M :=
  R_callS hd hsv hM rfl rfl hrest hrm rfl (fun v M' h => by obtain ⟨rfl, rfl⟩ := h; exact k)
end Arity
