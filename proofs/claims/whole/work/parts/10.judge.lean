/-! THE JUDGEMENTS OVER OUR CELLS. MC: a method's contract; MW: from this place of a method's body it comes to its end. -/
abbrev MD : Type := MethodName × ByteArray × Nat × Option FieldType
abbrev FT : Type := List Frame → Array Value → State → DD → State → Prop
def rmD (d mc ms : Nat) : Room := { frames := d, cells := mc, slots := ms, locals := 64 * d }
def Pm (D : DD) (b : Nat) (sh : Shp) (M : Mem) (as : List Value) : Array Value → State → Prop := va_Pc as (fun U => EX D b U U.heap ∧ KK D U ∧ Rl D b sh M U.heap ∧ U.heap.size = b + sh.length)
def Qm (D : DD) (b : Nat) (sh' : Shp) (Q : Option Value → Mem → Prop) : Array Value → State → Outcome → State → Prop := fun _ st oc t => (∃ (v : Option Value) (M' : Mem), oc = .returned v ∧ Q v M' ∧ Rl D b sh' M' t.heap) ∧ va_F (ours b) st t
def MC (d : Nat) (md : MD) (mc ms b : Nat) (sh : Shp) (M : Mem) (as : List Value) (sh' : Shp) (Q : Option Value → Mem → Prop) : Prop :=
  ∀ (l : Launch) (D : DD), Met l md.1 (Cond.code md.1 md.2.1 md.2.2.1 md.2.2.2 :: tblG) (rmD d mc ms) (Pm D b sh M as) (Qm D b sh' Q) mc ms (ours b)
def Cx (md : MD) (b n0 : Nat) (p : Program) (s : State) (m : MethodId) (args : Array Value) (meth : Method) (c : Code) (D : DD) : Prop :=
  p.tables.exec = Jvm.exec ∧ c.code = md.2.1 ∧ c.maxLocals = md.2.2.1 ∧ s.vm.findClass md.1.cls = some m.cls ∧ meth.name = md.1.name ∧ meth.sig.returnType = md.2.2.2 ∧ meth.locks = false ∧ (∀ w ∈ tblG, w.before args s = true) ∧ EX D b s s.heap ∧ KK D s ∧ s.heap.size = b + n0
def MW (y : MethodName) (cc : ByteArray) (nL : Nat) (ret : Option FieldType) (R : Room) (F : FT) (b n0 kc ks pc : Nat) (ls : List (Option Value)) (st : List Value) (sh : Shp) (M : Mem) : Prop :=
  ∀ (p : Program) (l : Launch) (e : Env) (s : State) (m : MethodId) (args : Array Value) (below : List Frame) (meth : Method) (c : Code) (D : DD) (H : Heap) (locs : List Loc) (lsA : Array Slot),
    Cx (y, cc, nL, ret) b n0 p s m args meth c D → Rl D b sh M H → va_S (ours b) s.heap H locs → n0 + kc = sh.length → lv_has lsA nL (ents 0 ls) → W p l e R s m args below meth c H locs kc ks (F below args s D) (F0 m pc lsA st)
def FM (Q : Option Value → Mem → Prop) (b : Nat) (sh' : Shp) (mc ms : Nat) : FT := fun below args s D => MQ below (Qm D b sh' Q) args s mc ms (ours b)
theorem Pm_blind {D : DD} {b : Nat} {sh : Shp} {M : Mem} {as : List Value} : FrameBlind (Pm D b sh M as) := by
  intro a U g mk q
  obtain ⟨q0, q1, q2, q3, q4⟩ := q
  exact ⟨q0, EX.same (u := U) (U := U.calling g mk a) rfl q1, va_K.moved (u := U) (U := U.calling g mk a) (Vm.Alike.refl U.vm) q2, q3, q4⟩
theorem lent_sub : ∀ (as : List Value) (k i : Nat) (v : Value), lget (lent as) i = some v → (k + i, v) ∈ lv_args k as
  | [], _, _, _, h => by cases h
  | a :: as, k, i, v, h => by
    unfold lent at h
    unfold lv_args
    by_cases hc : a.category = 2
    · rw [if_pos hc] at h ⊢
      match i, h with
      | 0, h => cases h; exact List.mem_cons_self
      | 1, h => cases h
      | i + 2, h =>
        have := lent_sub as (k + 2) i v h
        rw [show k + 2 + i = k + (i + 2) by omega] at this
        exact List.mem_cons_of_mem _ this
    · rw [if_neg hc] at h ⊢
      match i, h with
      | 0, h => cases h; exact List.mem_cons_self
      | i + 1, h =>
        have := lent_sub as (k + 1) i v h
        rw [show k + 1 + i = k + (i + 1) by omega] at this
        exact List.mem_cons_of_mem _ this
theorem lent_has {as : List Value} {n : Nat} {ls : List (Option Value)} (h : (lg_sl as).length ≤ n) (hl : lpad n (lent as) = ls) : lv_has ((lg_sl as ++ List.replicate (n - (lg_sl as).length) Slot.unset).toArray) n (ents 0 ls) := by
  have h0 := lv_entry as h
  refine ⟨h0.1, h0.2.1, fun q hq => ?_⟩
  obtain ⟨-, h1⟩ := ents_of _ _ q hq
  rw [Nat.sub_zero] at h1
  subst hl
  have h2 := lent_sub as 0 q.1 q.2 (lget_pad _ _ _ _ h1)
  rw [Nat.zero_add] at h2
  exact h0.2.2 q h2
/-- a contract out of the body's walk -/
theorem MC_of {d : Nat} {y : MethodName} {cc : ByteArray} {nL : Nat} {ret : Option FieldType} {mc ms b : Nat} {sh sh' : Shp} {M : Mem} {as : List Value} {Q : Option Value → Mem → Prop} {ls : List (Option Value)} (hy : plainName y.cls = true) (hls : lpad nL (lent as) = ls) (hn : (lg_sl as).length ≤ nL)
    (h : MW y cc nL ret (rmD d mc ms) (FM Q b sh' mc ms) b sh.length 0 0 0 ls [] sh M) : MC d (y, cc, nL, ret) mc ms b sh M as sh' Q := by
  intro l D
  refine Met.ofW (cc := cc) (maxL := nL) (ret := ret) hy rfl ?_
  intro p e s m args below meth c s₁ B hml hv
  obtain ⟨rfl, h1, h2, h3, h4⟩ := hv
  have hts := atoms_spec (ws := Cond.code y cc nL ret :: tblG) B.pre
  rw [lg_entry_eq]
  exact h p l e s m _ below meth c D s.heap [] _ ⟨B.exec, B.bytes, hml, findClass_of_methodNamed B.named, (name_of_methodNamed B.named B.method).1, B.returns, B.notSynchronized, fun w hw => hts w (List.mem_cons_of_mem _ hw), h1, h2, h4⟩ h3 va_S.rf (Nat.add_zero _) (lent_has hn hls)
theorem MC_mono {d : Nat} {md : MD} {mc ms b : Nat} {sh : Shp} {M : Mem} {as : List Value} {sh' : Shp} {Q Q' : Option Value → Mem → Prop} (h : MC d md mc ms b sh M as sh' Q) (hq : ∀ v M', Q v M' → Q' v M') : MC d md mc ms b sh M as sh' Q' := by
  intro l D p e h1 h2 h3 s m args below h4 h5 h6 h7
  obtain ⟨k, o, g1, g2, g3, ⟨⟨⟨v, M', e1, e2, e3⟩, e4⟩, e5⟩⟩ := h l D p e h1 h2 h3 s m args below h4 h5 h6 h7
  exact ⟨k, o, g1, g2, g3, ⟨⟨v, M', e1, hq v M' e2, e3⟩, e4⟩, e5⟩
section Rules
variable {y : MethodName} {cc : ByteArray} {nL : Nat} {ret : Option FieldType} {R : Room} {F : FT} {b n0 kc ks pc : Nat} {ls : List (Option Value)} {st : List Value} {sh : Shp} {M : Mem}
/-- the heap has no cell beyond ours -/
theorem W_size {p : Program} {l : Launch} {e : Env} {s : State} {m : MethodId} {args : Array Value} {below : List Frame} {meth : Method} {c : Code} {H : Heap} {locs : List Loc} {Q : State → Prop} {g : JFrame} (h : H.size ≤ s.heap.size + kc → W p l e R s m args below meth c H locs kc ks Q g) : W p l e R s m args below meth c H locs kc ks Q g := by
  intro T hT X
  refine h ?_ T hT X
  have h1 := X.same.2.2.1
  rw [← hT]
  exact h1
theorem Rl_lt {D : DD} {H : Heap} {k : Nat} (h : Rl D b sh M H) (hk : k < sh.length) : b + k < H.size := by
  have h1 := h.1 k _ (wl_get (List.getElem?_eq_getElem hk))
  exact va_at.lt h1
theorem Rl_size {D : DD} {H : Heap} (h : Rl D b sh M H) (hb : b ≤ H.size) : b + sh.length ≤ H.size := by
  rcases Nat.eq_zero_or_pos sh.length with h0 | h0
  · omega
  · have := Rl_lt h (k := sh.length - 1) (by omega)
    omega
theorem R_rng (h : (∀ k j, inR (M k j)) → MW y cc nL ret R F b n0 kc ks pc ls st sh M) : MW y cc nL ret R F b n0 kc ks pc ls st sh M := by
  intro p l e s m args below meth c D H locs lsA C hR hS hk hl
  exact h hR.2 p l e s m args below meth c D H locs lsA C hR hS hk hl
theorem R_len (h : n0 + kc = sh.length → MW y cc nL ret R F b n0 kc ks pc ls st sh M) : MW y cc nL ret R F b n0 kc ks pc ls st sh M := by
  intro p l e s m args below meth c D H locs lsA C hR hS hk hl
  exact h hk p l e s m args below meth c D H locs lsA C hR hS hk hl
theorem R_sub {ls' : List (Option Value)} (hs : ∀ i v, lget ls' i = some v → lget ls i = some v) (h : MW y cc nL ret R F b n0 kc ks pc ls' st sh M) : MW y cc nL ret R F b n0 kc ks pc ls st sh M := by
  intro p l e s m args below meth c D H locs lsA C hR hS hk hl
  exact h p l e s m args below meth c D H locs lsA C hR hS hk (ents_sub hl hs)
/-- the local i is forgotten -/
theorem R_drop (i : Nat) {ls' : List (Option Value)} (he : lset ls i none = ls') (h : MW y cc nL ret R F b n0 kc ks pc ls' st sh M) : MW y cc nL ret R F b n0 kc ks pc ls st sh M := by
  subst he
  exact R_sub (fun j v hj => (lget_clr _ _ _ _ hj).2) h
theorem R_mem {M' : Mem} (he : M = M') (h : MW y cc nL ret R F b n0 kc ks pc ls st sh M') : MW y cc nL ret R F b n0 kc ks pc ls st sh M := by
  rw [he]; exact h
theorem R_iconst {n : Int} (hd : decode cc pc = .ok (.iconst n, 1)) (k : MW y cc nL ret R F b n0 kc ks (pc + 1) ls (vi n :: st) sh M) : MW y cc nL ret R F b n0 kc ks pc ls st sh M := by
  intro p l e s m args below meth c D H locs lsA C hR hS hk hl
  exact lv_iconst C.1 C.2.1 hd rfl (k p l e s m args below meth c D H locs lsA C hR hS hk hl)
theorem R_bipush {n : Int} (hd : decode cc pc = .ok (.bipush n, 2)) (hn : (Int8.ofInt n).toInt32 = Int32.ofInt n) (k : MW y cc nL ret R F b n0 kc ks (pc + 2) ls (vi n :: st) sh M) : MW y cc nL ret R F b n0 kc ks pc ls st sh M := by
  intro p l e s m args below meth c D H locs lsA C hR hS hk hl
  exact lv_bipush C.1 C.2.1 hd hn (k p l e s m args below meth c D H locs lsA C hR hS hk hl)
theorem R_sipush {n : Int} (hd : decode cc pc = .ok (.sipush n, 3)) (hn : (Int16.ofInt n).toInt32 = Int32.ofInt n) (k : MW y cc nL ret R F b n0 kc ks (pc + 3) ls (vi n :: st) sh M) : MW y cc nL ret R F b n0 kc ks pc ls st sh M := by
  intro p l e s m args below meth c D H locs lsA C hR hS hk hl
  exact lv_sipush C.1 C.2.1 hd hn (k p l e s m args below meth c D H locs lsA C hR hS hk hl)
theorem R_lconst {n : Fin 2} {x : Int} (hd : decode cc pc = .ok (.lconst n, 1)) (hn : Int64.ofNat (n : Nat) = Int64.ofInt x) (k : MW y cc nL ret R F b n0 kc ks (pc + 1) ls (vl x :: st) sh M) : MW y cc nL ret R F b n0 kc ks pc ls st sh M := by
  intro p l e s m args below meth c D H locs lsA C hR hS hk hl
  exact lv_lconst C.1 C.2.1 hd hn (k p l e s m args below meth c D H locs lsA C hR hS hk hl)
theorem R_ldc2 {idx : Nat} {v : Int64} {x : Int} (hd : decode cc pc = .ok (.ldc2_w idx, 3)) (hw : Cond.constantLong y.cls idx v ∈ tblG) (hv : v = Int64.ofInt x) (k : MW y cc nL ret R F b n0 kc ks (pc + 3) ls (vl x :: st) sh M) : MW y cc nL ret R F b n0 kc ks pc ls st sh M := by
  intro p l e s m args below meth c D H locs lsA C hR hS hk hl
  subst hv
  exact lv_ldc2 C.1 C.2.1 C.2.2.2.1 (C.2.2.2.2.2.2.2.1 _ hw) hd (k p l e s m args below meth c D H locs lsA C hR hS hk hl)
theorem R_iload_n {i : Fin 4} {x : Int} (hd : decode cc pc = .ok (.iload_n i, 1)) (hg : lget ls i = some (vi x)) (k : MW y cc nL ret R F b n0 kc ks (pc + 1) ls (vi x :: st) sh M) : MW y cc nL ret R F b n0 kc ks pc ls st sh M := by
  intro p l e s m args below meth c D H locs lsA C hR hS hk hl
  exact lv_iload_n C.1 C.2.1 hd rfl (lget_at hl hg) (k p l e s m args below meth c D H locs lsA C hR hS hk hl)
theorem R_iload {i : Nat} {x : Int} (hd : decode cc pc = .ok (.iload i, 2)) (hg : lget ls i = some (vi x)) (k : MW y cc nL ret R F b n0 kc ks (pc + 2) ls (vi x :: st) sh M) : MW y cc nL ret R F b n0 kc ks pc ls st sh M := by
  intro p l e s m args below meth c D H locs lsA C hR hS hk hl
  exact lv_iload C.1 C.2.1 hd (lget_at hl hg) (k p l e s m args below meth c D H locs lsA C hR hS hk hl)
theorem R_lload_n {i : Fin 4} {x : Int} (hd : decode cc pc = .ok (.lload_n i, 1)) (hg : lget ls i = some (vl x)) (k : MW y cc nL ret R F b n0 kc ks (pc + 1) ls (vl x :: st) sh M) : MW y cc nL ret R F b n0 kc ks pc ls st sh M := by
  intro p l e s m args below meth c D H locs lsA C hR hS hk hl
  exact lv_lload_n C.1 C.2.1 hd rfl (lget_at hl hg) (k p l e s m args below meth c D H locs lsA C hR hS hk hl)
theorem R_lload {i : Nat} {x : Int} (hd : decode cc pc = .ok (.lload i, 2)) (hg : lget ls i = some (vl x)) (k : MW y cc nL ret R F b n0 kc ks (pc + 2) ls (vl x :: st) sh M) : MW y cc nL ret R F b n0 kc ks pc ls st sh M := by
  intro p l e s m args below meth c D H locs lsA C hR hS hk hl
  exact lv_lload C.1 C.2.1 hd (lget_at hl hg) (k p l e s m args below meth c D H locs lsA C hR hS hk hl)
theorem R_aload_n {i : Fin 4} {x : Nat} (hd : decode cc pc = .ok (.aload_n i, 1)) (hg : lget ls i = some (vr b x)) (k : MW y cc nL ret R F b n0 kc ks (pc + 1) ls (vr b x :: st) sh M) : MW y cc nL ret R F b n0 kc ks pc ls st sh M := by
  intro p l e s m args below meth c D H locs lsA C hR hS hk hl
  exact lv_aload_n C.1 C.2.1 hd rfl (lget_at hl hg) (k p l e s m args below meth c D H locs lsA C hR hS hk hl)
theorem R_aload {i : Nat} {x : Nat} (hd : decode cc pc = .ok (.aload i, 2)) (hg : lget ls i = some (vr b x)) (k : MW y cc nL ret R F b n0 kc ks (pc + 2) ls (vr b x :: st) sh M) : MW y cc nL ret R F b n0 kc ks pc ls st sh M := by
  intro p l e s m args below meth c D H locs lsA C hR hS hk hl
  exact lv_aload C.1 C.2.1 hd (lget_at hl hg) (k p l e s m args below meth c D H locs lsA C hR hS hk hl)
theorem R_istore_n {i : Fin 4} {x : Int} {ls' : List (Option Value)} (hd : decode cc pc = .ok (.istore_n i, 1)) (hn : (i : Nat) < nL) (ho : okst ls i = true) (hs : lset ls i (some (vi x)) = ls') (k : MW y cc nL ret R F b n0 kc ks (pc + 1) ls' st sh M) : MW y cc nL ret R F b n0 kc ks pc ls (vi x :: st) sh M := by
  intro p l e s m args below meth c D H locs lsA C hR hS hk hl
  subst hs
  exact lv_istore_n C.1 C.2.1 hd rfl hl hn rfl (fun lsB hB => k p l e s m args below meth c D H locs lsB C hR hS hk (lset_has hB ho))
theorem R_istore {i : Nat} {x : Int} {ls' : List (Option Value)} (hd : decode cc pc = .ok (.istore i, 2)) (hn : i < nL) (ho : okst ls i = true) (hs : lset ls i (some (vi x)) = ls') (k : MW y cc nL ret R F b n0 kc ks (pc + 2) ls' st sh M) : MW y cc nL ret R F b n0 kc ks pc ls (vi x :: st) sh M := by
  intro p l e s m args below meth c D H locs lsA C hR hS hk hl
  subst hs
  exact lv_istore C.1 C.2.1 hd hl hn rfl (fun lsB hB => k p l e s m args below meth c D H locs lsB C hR hS hk (lset_has hB ho))
theorem R_astore_n {i : Fin 4} {x : Nat} {ls' : List (Option Value)} (hd : decode cc pc = .ok (.astore_n i, 1)) (hn : (i : Nat) < nL) (ho : okst ls i = true) (hs : lset ls i (some (vr b x)) = ls') (k : MW y cc nL ret R F b n0 kc ks (pc + 1) ls' st sh M) : MW y cc nL ret R F b n0 kc ks pc ls (vr b x :: st) sh M := by
  intro p l e s m args below meth c D H locs lsA C hR hS hk hl
  subst hs
  exact lv_astore_n C.1 C.2.1 hd rfl hl hn rfl (fun lsB hB => k p l e s m args below meth c D H locs lsB C hR hS hk (lset_has hB ho))
theorem R_astore {i : Nat} {x : Nat} {ls' : List (Option Value)} (hd : decode cc pc = .ok (.astore i, 2)) (hn : i < nL) (ho : okst ls i = true) (hs : lset ls i (some (vr b x)) = ls') (k : MW y cc nL ret R F b n0 kc ks (pc + 2) ls' st sh M) : MW y cc nL ret R F b n0 kc ks pc ls (vr b x :: st) sh M := by
  intro p l e s m args below meth c D H locs lsA C hR hS hk hl
  subst hs
  exact lv_astore C.1 C.2.1 hd hl hn rfl (fun lsB hB => k p l e s m args below meth c D H locs lsB C hR hS hk (lset_has hB ho))
theorem R_lstore_n {i : Fin 4} {x : Int} {ls' : List (Option Value)} (hd : decode cc pc = .ok (.lstore_n i, 1)) (hn : (i : Nat) + 1 < nL) (ho : okst ls i = true) (hs : lset (lset ls i (some (vl x))) (i + 1) none = ls') (k : MW y cc nL ret R F b n0 kc ks (pc + 1) ls' st sh M) : MW y cc nL ret R F b n0 kc ks pc ls (vl x :: st) sh M := by
  intro p l e s m args below meth c D H locs lsA C hR hS hk hl
  subst hs
  exact lv_lstore_n C.1 C.2.1 hd rfl hl hn rfl (fun lsB hB => k p l e s m args below meth c D H locs lsB C hR hS hk (lset_hasL hB ho))
theorem R_lstore {i : Nat} {x : Int} {ls' : List (Option Value)} (hd : decode cc pc = .ok (.lstore i, 2)) (hn : i + 1 < nL) (ho : okst ls i = true) (hs : lset (lset ls i (some (vl x))) (i + 1) none = ls') (k : MW y cc nL ret R F b n0 kc ks (pc + 2) ls' st sh M) : MW y cc nL ret R F b n0 kc ks pc ls (vl x :: st) sh M := by
  intro p l e s m args below meth c D H locs lsA C hR hS hk hl
  subst hs
  exact lv_lstore C.1 C.2.1 hd hl hn rfl (fun lsB hB => k p l e s m args below meth c D H locs lsB C hR hS hk (lset_hasL hB ho))
theorem R_iinc {i : Nat} {n x : Int} {ls' : List (Option Value)} (hd : decode cc pc = .ok (.iinc i n, 3)) (hg : lget ls i = some (vi x)) (hn : i < nL) (ho : okst ls i = true) (hs : lset ls i (some (vi (x + n))) = ls') (k : MW y cc nL ret R F b n0 kc ks (pc + 3) ls' st sh M) : MW y cc nL ret R F b n0 kc ks pc ls st sh M := by
  intro p l e s m args below meth c D H locs lsA C hR hS hk hl
  subst hs
  have hm := ents_in ls 0 i _ hg
  obtain ⟨j, hj⟩ := List.getElem?_of_mem hm
  rw [Nat.zero_add] at hj
  exact lv_iinc (x := Int32.ofInt x) (v := Int32.ofInt (x + n)) C.1 C.2.1 hd hl hj (by rw [Int32.ofInt_add]) hn rfl (fun lsB hB => k p l e s m args below meth c D H locs lsB C hR hS hk (lset_has hB ho))
theorem R_iadd {u v : Int} (hd : decode cc pc = .ok (.iadd, 1)) (k : MW y cc nL ret R F b n0 kc ks (pc + 1) ls (vi (u + v) :: st) sh M) : MW y cc nL ret R F b n0 kc ks pc ls (vi v :: vi u :: st) sh M := by
  intro p l e s m args below meth c D H locs lsA C hR hS hk hl
  have k2 := k p l e s m args below meth c D H locs lsA C hR hS hk hl
  unfold vi at k2 ⊢
  rw [Int32.ofInt_add] at k2
  exact lv_iadd C.1 C.2.1 hd k2
theorem R_isub {u v : Int} (hd : decode cc pc = .ok (.isub, 1)) (k : MW y cc nL ret R F b n0 kc ks (pc + 1) ls (vi (u - v) :: st) sh M) : MW y cc nL ret R F b n0 kc ks pc ls (vi v :: vi u :: st) sh M := by
  intro p l e s m args below meth c D H locs lsA C hR hS hk hl
  have k2 := k p l e s m args below meth c D H locs lsA C hR hS hk hl
  unfold vi at k2 ⊢
  rw [Int32.ofInt_sub] at k2
  exact lv_isub C.1 C.2.1 hd k2
theorem R_imul {u v : Int} (hd : decode cc pc = .ok (.imul, 1)) (k : MW y cc nL ret R F b n0 kc ks (pc + 1) ls (vi (u * v) :: st) sh M) : MW y cc nL ret R F b n0 kc ks pc ls (vi v :: vi u :: st) sh M := by
  intro p l e s m args below meth c D H locs lsA C hR hS hk hl
  have k2 := k p l e s m args below meth c D H locs lsA C hR hS hk hl
  unfold vi at k2 ⊢
  rw [Int32.ofInt_mul] at k2
  exact lv_imul C.1 C.2.1 hd k2
theorem R_ineg {u : Int} (hd : decode cc pc = .ok (.ineg, 1)) (k : MW y cc nL ret R F b n0 kc ks (pc + 1) ls (vi (-u) :: st) sh M) : MW y cc nL ret R F b n0 kc ks pc ls (vi u :: st) sh M := by
  intro p l e s m args below meth c D H locs lsA C hR hS hk hl
  have k2 := k p l e s m args below meth c D H locs lsA C hR hS hk hl
  unfold vi at k2 ⊢
  rw [Int32.ofInt_neg] at k2
  exact lv_ineg C.1 C.2.1 hd k2
theorem R_idiv {u v : Int} (hd : decode cc pc = .ok (.idiv, 1)) (hu : (0 ≤ u ∧ u ≤ 2147483647) ∧ 0 < v ∧ v ≤ 2147483647) (k : MW y cc nL ret R F b n0 kc ks (pc + 1) ls (vi (u / v) :: st) sh M) : MW y cc nL ret R F b n0 kc ks pc ls (vi v :: vi u :: st) sh M := by
  intro p l e s m args below meth c D H locs lsA C hR hS hk hl
  have k2 := k p l e s m args below meth c D H locs lsA C hR hS hk hl
  unfold vi at k2 ⊢
  rw [← oi_div hu.1 hu.2] at k2
  exact lv_idiv C.1 C.2.1 hd (oi_inj_ne hu.2) k2
theorem R_irem {u v : Int} (hd : decode cc pc = .ok (.irem, 1)) (hu : (0 ≤ u ∧ u ≤ 2147483647) ∧ 0 < v ∧ v ≤ 2147483647) (k : MW y cc nL ret R F b n0 kc ks (pc + 1) ls (vi (u % v) :: st) sh M) : MW y cc nL ret R F b n0 kc ks pc ls (vi v :: vi u :: st) sh M := by
  intro p l e s m args below meth c D H locs lsA C hR hS hk hl
  have k2 := k p l e s m args below meth c D H locs lsA C hR hS hk hl
  unfold vi at k2 ⊢
  rw [← oi_rem hu.1 hu.2] at k2
  exact lv_irem C.1 C.2.1 hd (oi_inj_ne hu.2) k2
theorem R_and1 {u : Int} (hd : decode cc pc = .ok (.iand, 1)) (k : MW y cc nL ret R F b n0 kc ks (pc + 1) ls (vi (u % 2) :: st) sh M) : MW y cc nL ret R F b n0 kc ks pc ls (vi 1 :: vi u :: st) sh M := by
  intro p l e s m args below meth c D H locs lsA C hR hS hk hl
  have k2 := k p l e s m args below meth c D H locs lsA C hR hS hk hl
  unfold vi at k2 ⊢
  have h := oi_and (x := u) (m := 1) 1 (by omega) (by decide)
  rw [show (2 : Int) ^ 1 = 2 from rfl] at h
  rw [← h] at k2
  exact lv_iand C.1 C.2.1 hd k2
theorem R_and31 {u : Int} (hd : decode cc pc = .ok (.iand, 1)) (k : MW y cc nL ret R F b n0 kc ks (pc + 1) ls (vi (u % 32) :: st) sh M) : MW y cc nL ret R F b n0 kc ks pc ls (vi 31 :: vi u :: st) sh M := by
  intro p l e s m args below meth c D H locs lsA C hR hS hk hl
  have k2 := k p l e s m args below meth c D H locs lsA C hR hS hk hl
  unfold vi at k2 ⊢
  have h := oi_and (x := u) (m := 31) 5 (by omega) (by decide)
  rw [show (2 : Int) ^ 5 = 32 from rfl] at h
  rw [← h] at k2
  exact lv_iand C.1 C.2.1 hd k2
theorem R_ishr {u v : Int} (hd : decode cc pc = .ok (.ishr, 1)) (hu : inR u ∧ 0 ≤ v ∧ v < 32) (k : MW y cc nL ret R F b n0 kc ks (pc + 1) ls (vi (u / 2 ^ v.toNat) :: st) sh M) : MW y cc nL ret R F b n0 kc ks pc ls (vi v :: vi u :: st) sh M := by
  intro p l e s m args below meth c D H locs lsA C hR hS hk hl
  have k2 := k p l e s m args below meth c D H locs lsA C hR hS hk hl
  unfold vi at k2 ⊢
  rw [← oi_shr hu.1 hu.2] at k2
  exact lv_ishr C.1 C.2.1 hd k2
theorem pow_le10 {v : Int} (hv : 0 ≤ v ∧ v ≤ 10) : (1 : Int) ≤ 2 ^ v.toNat ∧ (2 : Int) ^ v.toNat ≤ 1024 := by
  obtain ⟨k, rfl⟩ : ∃ k : Nat, v = (k : Int) := ⟨v.toNat, by omega⟩
  have hk : k ≤ 10 := by omega
  rw [Int.toNat_natCast]
  have h0 : ∀ k : Fin 11, (1 : Int) ≤ 2 ^ k.val ∧ (2 : Int) ^ k.val ≤ 1024 := by decide
  exact h0 ⟨k, by omega⟩
/-- 1 << v -/
theorem R_ishl {v : Int} (hd : decode cc pc = .ok (.ishl, 1)) (hv : 0 ≤ v ∧ v ≤ 10) (k : MW y cc nL ret R F b n0 kc ks (pc + 1) ls (vi (2 ^ v.toNat) :: st) sh M) : MW y cc nL ret R F b n0 kc ks pc ls (vi v :: vi 1 :: st) sh M := by
  intro p l e s m args below meth c D H locs lsA C hR hS hk hl
  have k2 := k p l e s m args below meth c D H locs lsA C hR hS hk hl
  unfold vi at k2 ⊢
  have h := oi_shl (x := 1) (y := v) (by omega) (by omega) (by have := pow_le10 hv; omega)
  rw [Int.one_mul] at h
  rw [← h] at k2
  exact lv_ishl C.1 C.2.1 hd k2
theorem R_ior {u v : Int} (hd : decode cc pc = .ok (.ior, 1)) (hu : 0 ≤ u ∧ u ≤ 2147483647 ∧ 0 ≤ v ∧ v ≤ 2147483647) (k : MW y cc nL ret R F b n0 kc ks (pc + 1) ls (vi ((u.toNat ||| v.toNat : Nat) : Int) :: st) sh M) : MW y cc nL ret R F b n0 kc ks pc ls (vi v :: vi u :: st) sh M := by
  intro p l e s m args below meth c D H locs lsA C hR hS hk hl
  have k2 := k p l e s m args below meth c D H locs lsA C hR hS hk hl
  unfold vi at k2 ⊢
  rw [← oi_orN _ _ (by omega) (by omega), Int.toNat_of_nonneg (by omega), Int.toNat_of_nonneg (by omega)] at k2
  exact lv_ior C.1 C.2.1 hd k2
theorem R_ixor {u v : Int} (hd : decode cc pc = .ok (.ixor, 1)) (hu : 0 ≤ u ∧ u ≤ 2147483647 ∧ 0 ≤ v ∧ v ≤ 2147483647) (k : MW y cc nL ret R F b n0 kc ks (pc + 1) ls (vi ((u.toNat ^^^ v.toNat : Nat) : Int) :: st) sh M) : MW y cc nL ret R F b n0 kc ks pc ls (vi v :: vi u :: st) sh M := by
  intro p l e s m args below meth c D H locs lsA C hR hS hk hl
  have k2 := k p l e s m args below meth c D H locs lsA C hR hS hk hl
  unfold vi at k2 ⊢
  rw [← oi_xorN _ _ (by omega) (by omega), Int.toNat_of_nonneg (by omega), Int.toNat_of_nonneg (by omega)] at k2
  exact lv_ixor C.1 C.2.1 hd k2
theorem R_i2l {u : Int} (hd : decode cc pc = .ok (.i2l, 1)) (hu : inR u) (k : MW y cc nL ret R F b n0 kc ks (pc + 1) ls (vl u :: st) sh M) : MW y cc nL ret R F b n0 kc ks pc ls (vi u :: st) sh M := by
  intro p l e s m args below meth c D H locs lsA C hR hS hk hl
  exact lv_i2l C.1 C.2.1 hd (ol_i hu) (k p l e s m args below meth c D H locs lsA C hR hS hk hl)
theorem R_l2i {u : Int} (hd : decode cc pc = .ok (.l2i, 1)) (k : MW y cc nL ret R F b n0 kc ks (pc + 1) ls (vi u :: st) sh M) : MW y cc nL ret R F b n0 kc ks pc ls (vl u :: st) sh M := by
  intro p l e s m args below meth c D H locs lsA C hR hS hk hl
  exact lv_l2i C.1 C.2.1 hd Int64.toInt32_ofInt (k p l e s m args below meth c D H locs lsA C hR hS hk hl)
theorem R_ladd {u v : Int} (hd : decode cc pc = .ok (.ladd, 1)) (k : MW y cc nL ret R F b n0 kc ks (pc + 1) ls (vl (u + v) :: st) sh M) : MW y cc nL ret R F b n0 kc ks pc ls (vl v :: vl u :: st) sh M := by
  intro p l e s m args below meth c D H locs lsA C hR hS hk hl
  have k2 := k p l e s m args below meth c D H locs lsA C hR hS hk hl
  unfold vl at k2 ⊢
  rw [Int64.ofInt_add] at k2
  exact lv_ladd C.1 C.2.1 hd k2
theorem R_lmul {u v : Int} (hd : decode cc pc = .ok (.lmul, 1)) (k : MW y cc nL ret R F b n0 kc ks (pc + 1) ls (vl (u * v) :: st) sh M) : MW y cc nL ret R F b n0 kc ks pc ls (vl v :: vl u :: st) sh M := by
  intro p l e s m args below meth c D H locs lsA C hR hS hk hl
  have k2 := k p l e s m args below meth c D H locs lsA C hR hS hk hl
  unfold vl at k2 ⊢
  rw [Int64.ofInt_mul] at k2
  exact lv_lmul C.1 C.2.1 hd k2
theorem R_ldiv {u v : Int} (hd : decode cc pc = .ok (.ldiv, 1)) (hu : (0 ≤ u ∧ u ≤ 9223372036854775807) ∧ 0 < v ∧ v ≤ 9223372036854775807) (k : MW y cc nL ret R F b n0 kc ks (pc + 1) ls (vl (u / v) :: st) sh M) : MW y cc nL ret R F b n0 kc ks pc ls (vl v :: vl u :: st) sh M := by
  intro p l e s m args below meth c D H locs lsA C hR hS hk hl
  have k2 := k p l e s m args below meth c D H locs lsA C hR hS hk hl
  unfold vl at k2 ⊢
  rw [← ol_div hu.1 hu.2] at k2
  exact lv_ldiv C.1 C.2.1 hd (ol_ne hu.2) k2
theorem R_lrem {u v : Int} (hd : decode cc pc = .ok (.lrem, 1)) (hu : (0 ≤ u ∧ u ≤ 9223372036854775807) ∧ 0 < v ∧ v ≤ 9223372036854775807) (k : MW y cc nL ret R F b n0 kc ks (pc + 1) ls (vl (u % v) :: st) sh M) : MW y cc nL ret R F b n0 kc ks pc ls (vl v :: vl u :: st) sh M := by
  intro p l e s m args below meth c D H locs lsA C hR hS hk hl
  have k2 := k p l e s m args below meth c D H locs lsA C hR hS hk hl
  unfold vl at k2 ⊢
  rw [← ol_rem hu.1 hu.2] at k2
  exact lv_lrem C.1 C.2.1 hd (ol_ne hu.2) k2
def icmp (u v : Int) : Int := if u < v then -1 else if u = v then 0 else 1
theorem R_lcmp {u v : Int} (hd : decode cc pc = .ok (.lcmp, 1)) (hu : inL u ∧ inL v) (k : MW y cc nL ret R F b n0 kc ks (pc + 1) ls (vi (icmp u v) :: st) sh M) : MW y cc nL ret R F b n0 kc ks pc ls (vl v :: vl u :: st) sh M := by
  intro p l e s m args below meth c D H locs lsA C hR hS hk hl
  have k2 := k p l e s m args below meth c D H locs lsA C hR hS hk hl
  have h : lg_cmp (Int64.ofInt u) (Int64.ofInt v) = Int32.ofInt (icmp u v) := by
    unfold lg_cmp icmp
    simp only [gt_iff_lt, ol_lt hu.2 hu.1, ol_eq hu.1 hu.2]
    by_cases h1 : u < v
    · rw [if_neg (by omega), if_neg (by omega), if_pos h1]; rfl
    · by_cases h2 : u = v
      · rw [if_neg (by omega), if_pos h2, if_neg h1, if_pos h2]; rfl
      · rw [if_pos (by omega), if_neg h1, if_neg h2]; rfl
  unfold vi at k2
  rw [← h] at k2
  exact W.lcmp C.1 C.2.1 hd k2
theorem R_dup {v : Value} (hd : decode cc pc = .ok (.dup, 1)) (hv : v.category = 1) (k : MW y cc nL ret R F b n0 kc ks (pc + 1) ls (v :: v :: st) sh M) : MW y cc nL ret R F b n0 kc ks pc ls (v :: st) sh M := by
  intro p l e s m args below meth c D H locs lsA C hR hS hk hl
  exact lv_dup C.1 C.2.1 hd hv (k p l e s m args below meth c D H locs lsA C hR hS hk hl)
theorem R_dup2 {u v : Value} (hd : decode cc pc = .ok (.dup2, 1)) (hv : v.category = 1) (hu : u.category = 1) (k : MW y cc nL ret R F b n0 kc ks (pc + 1) ls (v :: u :: v :: u :: st) sh M) : MW y cc nL ret R F b n0 kc ks pc ls (v :: u :: st) sh M := by
  intro p l e s m args below meth c D H locs lsA C hR hS hk hl
  exact lv_dup2_11 C.1 C.2.1 hd hv hu (k p l e s m args below meth c D H locs lsA C hR hS hk hl)
theorem R_pop {v : Value} (hd : decode cc pc = .ok (.pop, 1)) (hv : v.category = 1) (k : MW y cc nL ret R F b n0 kc ks (pc + 1) ls st sh M) : MW y cc nL ret R F b n0 kc ks pc ls (v :: st) sh M := by
  intro p l e s m args below meth c D H locs lsA C hR hS hk hl
  exact lv_pop C.1 C.2.1 hd hv (k p l e s m args below meth c D H locs lsA C hR hS hk hl)
theorem R_goto {off : Int} {tgt : Nat} (hd : decode cc pc = .ok (.goto off, 3)) (ht : (pc : Int) + off = (tgt : Int)) (k : MW y cc nL ret R F b n0 kc ks tgt ls st sh M) : MW y cc nL ret R F b n0 kc ks pc ls st sh M := by
  intro p l e s m args below meth c D H locs lsA C hR hS hk hl
  exact lv_goto C.1 C.2.1 hd ht (k p l e s m args below meth c D H locs lsA C hR hS hk hl)
theorem R_cmp_eq {off : Int} {tgt : Nat} {u v : Int} (hd : decode cc pc = .ok (.if_icmp .eq off, 3)) (ht : (pc : Int) + off = (tgt : Int)) (hu : inR u ∧ inR v) (kt : u = v → MW y cc nL ret R F b n0 kc ks tgt ls st sh M) (kf : ¬ u = v → MW y cc nL ret R F b n0 kc ks (pc + 3) ls st sh M) : MW y cc nL ret R F b n0 kc ks pc ls (vi v :: vi u :: st) sh M := by
  intro p l e s m args below meth c D H locs lsA C hR hS hk hl
  have h0 := oi_eq hu.1 hu.2
  exact lv_icmp_eq C.1 C.2.1 hd ht (fun h => kt (by rw [h0] at h; omega) p l e s m args below meth c D H locs lsA C hR hS hk hl) (fun h => kf (by rw [h0] at h; omega) p l e s m args below meth c D H locs lsA C hR hS hk hl)
theorem R_if_eq {off : Int} {tgt : Nat} {u : Int} (hd : decode cc pc = .ok (.ifCond .eq off, 3)) (ht : (pc : Int) + off = (tgt : Int)) (hu : inR u) (kt : u = 0 → MW y cc nL ret R F b n0 kc ks tgt ls st sh M) (kf : ¬ u = 0 → MW y cc nL ret R F b n0 kc ks (pc + 3) ls st sh M) : MW y cc nL ret R F b n0 kc ks pc ls (vi u :: st) sh M := by
  intro p l e s m args below meth c D H locs lsA C hR hS hk hl
  have h00 : inR 0 := by omega
  have h0 := oi_eq hu h00
  rw [← oi_0] at h0
  exact lv_if_eq C.1 C.2.1 hd ht (fun h => kt (by rw [h0] at h; omega) p l e s m args below meth c D H locs lsA C hR hS hk hl) (fun h => kf (by rw [h0] at h; omega) p l e s m args below meth c D H locs lsA C hR hS hk hl)
theorem R_cmp_ne {off : Int} {tgt : Nat} {u v : Int} (hd : decode cc pc = .ok (.if_icmp .ne off, 3)) (ht : (pc : Int) + off = (tgt : Int)) (hu : inR u ∧ inR v) (kt : ¬ u = v → MW y cc nL ret R F b n0 kc ks tgt ls st sh M) (kf : u = v → MW y cc nL ret R F b n0 kc ks (pc + 3) ls st sh M) : MW y cc nL ret R F b n0 kc ks pc ls (vi v :: vi u :: st) sh M := by
  intro p l e s m args below meth c D H locs lsA C hR hS hk hl
  have h0 := oi_eq hu.1 hu.2
  exact lv_icmp_ne C.1 C.2.1 hd ht (fun h => kt (by rw [h0] at h; omega) p l e s m args below meth c D H locs lsA C hR hS hk hl) (fun h => kf (by rw [h0] at h; omega) p l e s m args below meth c D H locs lsA C hR hS hk hl)
theorem R_if_ne {off : Int} {tgt : Nat} {u : Int} (hd : decode cc pc = .ok (.ifCond .ne off, 3)) (ht : (pc : Int) + off = (tgt : Int)) (hu : inR u) (kt : ¬ u = 0 → MW y cc nL ret R F b n0 kc ks tgt ls st sh M) (kf : u = 0 → MW y cc nL ret R F b n0 kc ks (pc + 3) ls st sh M) : MW y cc nL ret R F b n0 kc ks pc ls (vi u :: st) sh M := by
  intro p l e s m args below meth c D H locs lsA C hR hS hk hl
  have h00 : inR 0 := by omega
  have h0 := oi_eq hu h00
  rw [← oi_0] at h0
  exact lv_if_ne C.1 C.2.1 hd ht (fun h => kt (by rw [h0] at h; omega) p l e s m args below meth c D H locs lsA C hR hS hk hl) (fun h => kf (by rw [h0] at h; omega) p l e s m args below meth c D H locs lsA C hR hS hk hl)
theorem R_cmp_lt {off : Int} {tgt : Nat} {u v : Int} (hd : decode cc pc = .ok (.if_icmp .lt off, 3)) (ht : (pc : Int) + off = (tgt : Int)) (hu : inR u ∧ inR v) (kt : u < v → MW y cc nL ret R F b n0 kc ks tgt ls st sh M) (kf : v ≤ u → MW y cc nL ret R F b n0 kc ks (pc + 3) ls st sh M) : MW y cc nL ret R F b n0 kc ks pc ls (vi v :: vi u :: st) sh M := by
  intro p l e s m args below meth c D H locs lsA C hR hS hk hl
  have h0 := oi_lt hu.1 hu.2
  exact lv_icmp_lt C.1 C.2.1 hd ht (fun h => kt (by rw [h0] at h; omega) p l e s m args below meth c D H locs lsA C hR hS hk hl) (fun h => kf (by rw [h0] at h; omega) p l e s m args below meth c D H locs lsA C hR hS hk hl)
theorem R_if_lt {off : Int} {tgt : Nat} {u : Int} (hd : decode cc pc = .ok (.ifCond .lt off, 3)) (ht : (pc : Int) + off = (tgt : Int)) (hu : inR u) (kt : u < 0 → MW y cc nL ret R F b n0 kc ks tgt ls st sh M) (kf : 0 ≤ u → MW y cc nL ret R F b n0 kc ks (pc + 3) ls st sh M) : MW y cc nL ret R F b n0 kc ks pc ls (vi u :: st) sh M := by
  intro p l e s m args below meth c D H locs lsA C hR hS hk hl
  have h00 : inR 0 := by omega
  have h0 := oi_lt hu h00
  rw [← oi_0] at h0
  exact lv_if_lt C.1 C.2.1 hd ht (fun h => kt (by rw [h0] at h; omega) p l e s m args below meth c D H locs lsA C hR hS hk hl) (fun h => kf (by rw [h0] at h; omega) p l e s m args below meth c D H locs lsA C hR hS hk hl)
theorem R_cmp_ge {off : Int} {tgt : Nat} {u v : Int} (hd : decode cc pc = .ok (.if_icmp .ge off, 3)) (ht : (pc : Int) + off = (tgt : Int)) (hu : inR u ∧ inR v) (kt : v ≤ u → MW y cc nL ret R F b n0 kc ks tgt ls st sh M) (kf : u < v → MW y cc nL ret R F b n0 kc ks (pc + 3) ls st sh M) : MW y cc nL ret R F b n0 kc ks pc ls (vi v :: vi u :: st) sh M := by
  intro p l e s m args below meth c D H locs lsA C hR hS hk hl
  have h0 := oi_le hu.2 hu.1
  exact lv_icmp_ge C.1 C.2.1 hd ht (fun h => kt (by rw [h0] at h; omega) p l e s m args below meth c D H locs lsA C hR hS hk hl) (fun h => kf (by rw [h0] at h; omega) p l e s m args below meth c D H locs lsA C hR hS hk hl)
theorem R_if_ge {off : Int} {tgt : Nat} {u : Int} (hd : decode cc pc = .ok (.ifCond .ge off, 3)) (ht : (pc : Int) + off = (tgt : Int)) (hu : inR u) (kt : 0 ≤ u → MW y cc nL ret R F b n0 kc ks tgt ls st sh M) (kf : u < 0 → MW y cc nL ret R F b n0 kc ks (pc + 3) ls st sh M) : MW y cc nL ret R F b n0 kc ks pc ls (vi u :: st) sh M := by
  intro p l e s m args below meth c D H locs lsA C hR hS hk hl
  have h00 : inR 0 := by omega
  have h0 := oi_le h00 hu
  rw [← oi_0] at h0
  exact lv_if_ge C.1 C.2.1 hd ht (fun h => kt (by rw [h0] at h; omega) p l e s m args below meth c D H locs lsA C hR hS hk hl) (fun h => kf (by rw [h0] at h; omega) p l e s m args below meth c D H locs lsA C hR hS hk hl)
theorem R_cmp_gt {off : Int} {tgt : Nat} {u v : Int} (hd : decode cc pc = .ok (.if_icmp .gt off, 3)) (ht : (pc : Int) + off = (tgt : Int)) (hu : inR u ∧ inR v) (kt : v < u → MW y cc nL ret R F b n0 kc ks tgt ls st sh M) (kf : u ≤ v → MW y cc nL ret R F b n0 kc ks (pc + 3) ls st sh M) : MW y cc nL ret R F b n0 kc ks pc ls (vi v :: vi u :: st) sh M := by
  intro p l e s m args below meth c D H locs lsA C hR hS hk hl
  have h0 := oi_lt hu.2 hu.1
  exact lv_icmp_gt C.1 C.2.1 hd ht (fun h => kt (by rw [h0] at h; omega) p l e s m args below meth c D H locs lsA C hR hS hk hl) (fun h => kf (by rw [h0] at h; omega) p l e s m args below meth c D H locs lsA C hR hS hk hl)
theorem R_if_gt {off : Int} {tgt : Nat} {u : Int} (hd : decode cc pc = .ok (.ifCond .gt off, 3)) (ht : (pc : Int) + off = (tgt : Int)) (hu : inR u) (kt : 0 < u → MW y cc nL ret R F b n0 kc ks tgt ls st sh M) (kf : u ≤ 0 → MW y cc nL ret R F b n0 kc ks (pc + 3) ls st sh M) : MW y cc nL ret R F b n0 kc ks pc ls (vi u :: st) sh M := by
  intro p l e s m args below meth c D H locs lsA C hR hS hk hl
  have h00 : inR 0 := by omega
  have h0 := oi_lt h00 hu
  rw [← oi_0] at h0
  exact lv_if_gt C.1 C.2.1 hd ht (fun h => kt (by rw [h0] at h; omega) p l e s m args below meth c D H locs lsA C hR hS hk hl) (fun h => kf (by rw [h0] at h; omega) p l e s m args below meth c D H locs lsA C hR hS hk hl)
theorem R_cmp_le {off : Int} {tgt : Nat} {u v : Int} (hd : decode cc pc = .ok (.if_icmp .le off, 3)) (ht : (pc : Int) + off = (tgt : Int)) (hu : inR u ∧ inR v) (kt : u ≤ v → MW y cc nL ret R F b n0 kc ks tgt ls st sh M) (kf : v < u → MW y cc nL ret R F b n0 kc ks (pc + 3) ls st sh M) : MW y cc nL ret R F b n0 kc ks pc ls (vi v :: vi u :: st) sh M := by
  intro p l e s m args below meth c D H locs lsA C hR hS hk hl
  have h0 := oi_le hu.1 hu.2
  exact lv_icmp_le C.1 C.2.1 hd ht (fun h => kt (by rw [h0] at h; omega) p l e s m args below meth c D H locs lsA C hR hS hk hl) (fun h => kf (by rw [h0] at h; omega) p l e s m args below meth c D H locs lsA C hR hS hk hl)
theorem R_if_le {off : Int} {tgt : Nat} {u : Int} (hd : decode cc pc = .ok (.ifCond .le off, 3)) (ht : (pc : Int) + off = (tgt : Int)) (hu : inR u) (kt : u ≤ 0 → MW y cc nL ret R F b n0 kc ks tgt ls st sh M) (kf : 0 < u → MW y cc nL ret R F b n0 kc ks (pc + 3) ls st sh M) : MW y cc nL ret R F b n0 kc ks pc ls (vi u :: st) sh M := by
  intro p l e s m args below meth c D H locs lsA C hR hS hk hl
  have h00 : inR 0 := by omega
  have h0 := oi_le hu h00
  rw [← oi_0] at h0
  exact lv_if_le C.1 C.2.1 hd ht (fun h => kt (by rw [h0] at h; omega) p l e s m args below meth c D H locs lsA C hR hS hk hl) (fun h => kf (by rw [h0] at h; omega) p l e s m args below meth c D H locs lsA C hR hS hk hl)
theorem R_tabIn {dflt lo hi : Int} {offs : Array Int} {len : Nat} {u off : Int} {tgt : Nat} (hd : decode cc pc = .ok (.tableswitch dflt lo hi offs, len)) (hu : inR u) (h : lo ≤ u ∧ u ≤ hi) (ho : offs[(u - lo).toNat]? = some off) (ht : (pc : Int) + off = (tgt : Int)) (k : MW y cc nL ret R F b n0 kc ks tgt ls st sh M) : MW y cc nL ret R F b n0 kc ks pc ls (vi u :: st) sh M := by
  intro p l e s m args below meth c D H locs lsA C hR hS hk hl
  have h0 := oi_toInt hu
  exact lv_tableIn C.1 C.2.1 hd (by rw [h0]; omega) (by rw [h0]; omega) (by rw [h0]; exact ho) ht (k p l e s m args below meth c D H locs lsA C hR hS hk hl)
theorem R_tabOut {dflt lo hi : Int} {offs : Array Int} {len : Nat} {u : Int} {tgt : Nat} (hd : decode cc pc = .ok (.tableswitch dflt lo hi offs, len)) (hu : inR u) (h : u < lo ∨ hi < u) (ht : (pc : Int) + dflt = (tgt : Int)) (k : MW y cc nL ret R F b n0 kc ks tgt ls st sh M) : MW y cc nL ret R F b n0 kc ks pc ls (vi u :: st) sh M := by
  intro p l e s m args below meth c D H locs lsA C hR hS hk hl
  have h0 := oi_toInt hu
  exact lv_tableOut C.1 C.2.1 hd (by rw [h0]; exact h) ht (k p l e s m args below meth c D H locs lsA C hR hS hk hl)
theorem R_look {dflt : Int} {ps : Array (Int × Int)} {len : Nat} {u off : Int} {tgt : Nat} (hd : decode cc pc = .ok (.lookupswitch dflt ps, len)) (hp : (ps.toList.zip (ps.toList.drop 1)).all (fun (a, next) => a.1 < next.1) = true) (hu : inR u) (ho : Op.lookupswitch.offset ps.toList dflt u = off) (ht : (pc : Int) + off = (tgt : Int)) (k : MW y cc nL ret R F b n0 kc ks tgt ls st sh M) : MW y cc nL ret R F b n0 kc ks pc ls (vi u :: st) sh M := by
  intro p l e s m args below meth c D H locs lsA C hR hS hk hl
  have h0 := oi_toInt hu
  exact lv_lookup C.1 C.2.1 hd hp (by rw [h0]; exact ho) ht (k p l e s m args below meth c D H locs lsA C hR hS hk hl)
end Rules
