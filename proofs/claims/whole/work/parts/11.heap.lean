/-! RULES THAT TOUCH OUR CELLS, AND CALLS -/
/-- the pool entry idx of class own names field j of class ci -/
def FL (own : String) (idx ci j : Nat) : Prop := ∃ r : vw_C, vwCl[ci]? = some r ∧ j < r.2.2 ∧ ((Cond.fieldLink own idx r.1 (r.2.1 j).2.1 (r.2.1 j).2.2.1 ∈ tblG) ∨ ∃ host, Cond.fieldLinkNest own idx r.1 (r.2.1 j).2.1 (r.2.1 j).2.2.1 host ∈ tblN)
section HRules
variable {y : MethodName} {cc : ByteArray} {nL : Nat} {ret : Option FieldType} {R : Room} {F : FT} {b n0 kc ks pc : Nat} {ls : List (Option Value)} {st : List Value} {sh : Shp} {M : Mem}
theorem vwCl_lt {ci : Nat} {r : vw_C} (h : vwCl[ci]? = some r) : ci < 9 := (List.getElem?_eq_some_iff.mp h).1
theorem get_any {c ci nn idx j : Nat} {rs : List (Option Nat)} {v : Value} (hd : decode cc pc = .ok (.getfield idx, 3)) (hf : FL y.cls idx ci j) (hs : sh[c]? = some (ci, nn, rs)) (hv : fv b (ci, nn, rs) j (M c j) = v) (k : MW y cc nL ret R F b n0 kc ks (pc + 3) ls (v :: st) sh M) : MW y cc nL ret R F b n0 kc ks pc ls (vr b c :: st) sh M := by
  intro p l e s m args below meth c' D H locs lsA C hR hS hk hl
  have k2 := k p l e s m args below meth c' D H locs lsA C hR hS hk hl
  obtain ⟨hx, hb, -, hown, -, -, -, hts, hE, hK, -⟩ := C
  obtain ⟨r, hr, hj, hlk⟩ := hf
  obtain ⟨o1, o2, o3, o4, o5⟩ := clOK hr
  have hget : (wl D b sh M)[c]? = some (b + c, .inr (ci, fvs b (ci, nn, rs) (M c))) := by
    rw [wl_get hs, ce_O (vwCl_lt hr)]
  have hvv : (fvs b (ci, nn, rs) (M c))[j]? = some v := by
    rw [fvs_get (by show j < nF ci; rw [← o5]; exact hj), hv]
  have e4 := o4 j hj
  rcases hlk with hlk | ⟨host, hlk⟩
  · exact va_get (D := dG D) (C := r.1) (T := r.2.1) (N := r.2.2) (ref := r.1) hx hb hts o1 hown hK hR.1 c hget hr j hj (hts _ hlk) (fun x h => by rw [e4] at h; exact h) hvv hd k2
  · exact va_getN (D := dG D) (C := r.1) (T := r.2.1) (N := r.2.2) (ref := r.1) (host := host) hx hb hts o1 hown hK hR.1 c hget hr j hj (va_Nw.use (nest_tab (List.mem_filter.mp hlk).2) (hE.1 _ hlk)) (fun x h => by rw [e4] at h; exact h) hvv hd k2
theorem R_getI {c ci nn idx j : Nat} {rs : List (Option Nat)} (hd : decode cc pc = .ok (.getfield idx, 3)) (hf : FL y.cls idx ci j) {v J : Int} (hJ : (j : Int) = J) (ht : rfT (tyA ci j) = false) (hs : sh[c]? = some (ci, nn, rs)) (hv : M c J = v) (k : MW y cc nL ret R F b n0 kc ks (pc + 3) ls (vi v :: st) sh M) : MW y cc nL ret R F b n0 kc ks pc ls (vr b c :: st) sh M :=
  get_any hd hf hs (by rw [fv, if_neg (by show ¬ rfT (tyA ci j) = true; rw [ht]; decide), hJ, hv]) k
theorem R_getR {c ci nn idx j t : Nat} {rs : List (Option Nat)} (hd : decode cc pc = .ok (.getfield idx, 3)) (hf : FL y.cls idx ci j) (ht : rfT (tyA ci j) = true) (hs : sh[c]? = some (ci, nn, rs)) (hv : rs.getD j none = some t) (k : MW y cc nL ret R F b n0 kc ks (pc + 3) ls (vr b t :: st) sh M) : MW y cc nL ret R F b n0 kc ks pc ls (vr b c :: st) sh M :=
  get_any hd hf hs (by rw [fv, if_pos ht]; show va_rf ((rs.getD j none).map (fun k => b + k)) = _; rw [hv]; rfl) k
theorem put_any {c ci nn nn' idx j : Nat} {rs rs' : List (Option Nat)} {v : Value} {M' : Mem} (hd : decode cc pc = .ok (.putfield idx, 3)) (hf : FL y.cls idx ci j) (hs : sh[c]? = some (ci, nn, rs)) (hfin : ∀ r, vwCl[ci]? = some r → (r.2.1 j).2.2.2 = false ∨ ((r.2.1 j).2.2.2 = true ∧ y.name = "<init>" ∧ r.1 = y.cls ∧ Cond.fieldLink y.cls idx r.1 (r.2.1 j).2.1 (r.2.1 j).2.2.1 ∈ tblG)) (hn : narrow (tyA ci j) v = v) (hft : fits (tyA ci j) v = true)
    (ho : ∀ i, i ≠ c → M' i = M i) (hset : (fvs b (ci, nn, rs) (M c)).set j v = fvs b (ci, nn', rs') (M' c)) (hM' : (∀ k j, inR (M k j)) → ∀ k j, inR (M' k j)) (k : MW y cc nL ret R F b n0 kc ks (pc + 3) ls st (sh.set c (ci, nn', rs')) M') : MW y cc nL ret R F b n0 kc ks pc ls (v :: vr b c :: st) sh M := by
  intro p l e s m args below meth c' D H locs lsA C hR hS hk hl
  have k2 := fun H1 locs1 hR1 hS1 => k p l e s m args below meth c' D H1 locs1 lsA C hR1 hS1 (by rw [List.length_set]; exact hk) hl
  obtain ⟨hx, hb, -, hown, hnm, -, -, hts, hE, hK, -⟩ := C
  obtain ⟨r, hr, hj, hlk⟩ := hf
  obtain ⟨o1, o2, o3, o4, o5⟩ := clOK hr
  have hget : (wl D b sh M)[c]? = some (b + c, .inr (ci, fvs b (ci, nn, rs) (M c))) := by
    rw [wl_get hs, ce_O (vwCl_lt hr)]
  have hlen : j < (fvs b (ci, nn, rs) (M c)).length := by rw [fvs_len]; show j < nF ci; rw [← o5]; exact hj
  have hw : (wl D b sh M).set c (b + c, .inr (ci, (fvs b (ci, nn, rs) (M c)).set j v)) = wl D b (sh.set c (ci, nn', rs')) M' := wl_set hs ho (by rw [hset, ce_O (vwCl_lt hr)])
  have e4 := o4 j hj
  have kk : ∀ (H1 : Heap) (locs1 : List Loc), va_P (dG D) vwCl ((wl D b sh M).set c (b + c, .inr (ci, (fvs b (ci, nn, rs) (M c)).set j v))) H1 → va_D (ours b) ((wl D b sh M).set c (b + c, .inr (ci, (fvs b (ci, nn, rs) (M c)).set j v))) → va_S (ours b) s.heap H1 locs1 → W p l e R s m args below meth c' H1 locs1 kc ks (F below args s D) (F0 m (pc + 3) lsA st) := by
    intro H1 locs1 hP1 _ hS1
    rw [hw] at hP1
    exact k2 H1 locs1 ⟨hP1, hM' hR.2⟩ hS1
  rcases hfin r hr with hfin | ⟨hfin, hin, hdc, hlk⟩
  · rcases hlk with hlk | ⟨host, hlk⟩
    · exact va_put (D := dG D) (C := r.1) (T := r.2.1) (N := r.2.2) (ref := r.1) hx hb hts o1 (tyA ci) o2 o3 hown hK hR.1 wl_D hS c hget hr j hj (hts _ hlk) (fun x h => by rw [e4] at h; exact h) hfin (o2 j hj) hn hft hlen hd kk
    · exact va_putN (D := dG D) (C := r.1) (T := r.2.1) (N := r.2.2) (ref := r.1) (host := host) hx hb hts o1 (tyA ci) o2 o3 hown hK hR.1 wl_D hS c hget hr j hj (va_Nw.use (nest_tab (List.mem_filter.mp hlk).2) (hE.1 _ hlk)) (fun x h => by rw [e4] at h; exact h) hfin (o2 j hj) hn hft hlen hd kk
  · exact va_putF (D := dG D) (C := r.1) (T := r.2.1) (N := r.2.2) (ref := r.1) hx hb hts o1 (tyA ci) o2 o3 hown hK hR.1 wl_D hS c hget hr j hj (hts _ hlk) (fun x h => by rw [e4] at h; exact h) hfin (by rw [hnm]; exact hin) (by rw [e4]; exact hdc) (o2 j hj) hn hft hlen hd kk
theorem vi_set {c : Nat} {j : Nat} {x : Int} {q : Sh1} (ht : rfT (tyA q.1 j) = false) : (fvs b q (M c)).set j (vi x) = fvs b q (up M c j x c) := by
  refine fvs_setI ht (by simp [up]) (fun i hi => ?_)
  have : (i : Int) ≠ (j : Int) := by omega
  simp [up, this]
def nofin (ci j : Nat) : Prop := ∀ r : vw_C, vwCl[ci]? = some r → (r.2.1 j).2.2.2 = false
theorem R_putI {c ci nn idx j : Nat} {rs : List (Option Nat)} {x J : Int} (hJ : (j : Int) = J) (hd : decode cc pc = .ok (.putfield idx, 3)) (hf : FL y.cls idx ci j) (ht : tyA ci j = .int) (hfin : nofin ci j) (hs : sh[c]? = some (ci, nn, rs)) (hx : inR x) (k : MW y cc nL ret R F b n0 kc ks (pc + 3) ls st sh (up M c J x)) : MW y cc nL ret R F b n0 kc ks pc ls (vi x :: vr b c :: st) sh M := by
  subst hJ
  refine put_any (nn' := nn) (rs' := rs) (M' := up M c j x) hd hf hs (fun r hr => Or.inl (hfin r hr)) (by rw [ht]; rfl) (by rw [ht]; rfl) up_o (vi_set (by show rfT (tyA ci j) = false; rw [ht]; rfl)) (fun h => up_R h hx) ?_
  rw [sh_same hs]
  exact k
theorem R_putZ {c ci nn idx j : Nat} {rs : List (Option Nat)} {x J : Int} (hJ : (j : Int) = J) (hd : decode cc pc = .ok (.putfield idx, 3)) (hf : FL y.cls idx ci j) (ht : tyA ci j = .boolean) (hfin : nofin ci j) (hs : sh[c]? = some (ci, nn, rs)) (hx : x = 0 ∨ x = 1) (k : MW y cc nL ret R F b n0 kc ks (pc + 3) ls st sh (up M c J x)) : MW y cc nL ret R F b n0 kc ks pc ls (vi x :: vr b c :: st) sh M := by
  subst hJ
  refine put_any (nn' := nn) (rs' := rs) (M' := up M c j x) hd hf hs (fun r hr => Or.inl (hfin r hr)) (by rw [ht]; rcases hx with rfl | rfl <;> rfl) (by rw [ht]; rcases hx with rfl | rfl <;> rfl) up_o (vi_set (by show rfT (tyA ci j) = false; rw [ht]; rfl)) (fun h => up_R h (by omega)) ?_
  rw [sh_same hs]
  exact k
/-- a final field that is a reference, in the constructor -/
def fin (own : String) (idx ci j : Nat) : Prop := ∀ r : vw_C, vwCl[ci]? = some r → (r.2.1 j).2.2.2 = true ∧ r.1 = own ∧ Cond.fieldLink own idx r.1 (r.2.1 j).2.1 (r.2.1 j).2.2.1 ∈ tblG
theorem R_putR {c ci nn idx j t : Nat} {rs rs' : List (Option Nat)} {sh' : Shp} (hd : decode cc pc = .ok (.putfield idx, 3)) (hf : FL y.cls idx ci j) (ht : rfT (tyA ci j) = true) (hft : ∀ v : Nat, fits (tyA ci j) (.ref v) = true) (hfin : fin y.cls idx ci j) (hy : y.name = "<init>") (hs : sh[c]? = some (ci, nn, rs)) (hset : rs.set j (some t) = rs') (hl : j < rs.length) (hsh : sh.set c (ci, nn, rs') = sh') (k : MW y cc nL ret R F b n0 kc ks (pc + 3) ls st sh' M) : MW y cc nL ret R F b n0 kc ks pc ls (vr b t :: vr b c :: st) sh M := by
  subst hset
  subst hsh
  refine put_any (nn' := nn) (rs' := rs.set j (some t)) (M' := M) hd hf hs (fun r hr => Or.inr ⟨(hfin r hr).1, hy, (hfin r hr).2.1, (hfin r hr).2.2⟩) ?_ ?_ (fun _ _ => rfl) (fvs_setR rfl ht ?_ ?_) (fun h => h) k
  · unfold vr; cases tyA ci j <;> rfl
  · exact hft _
  · simp [hl]
  · intro i hi
    show (rs.set j (some t)).getD i none = rs.getD i none
    rw [List.getD_eq_getElem?_getD, List.getD_eq_getElem?_getD, List.getElem?_set_ne (fun z => hi z.symm)]
theorem R_iald {c n : Nat} {rs : List (Option Nat)} {x : Int} (hd : decode cc pc = .ok (.iaload, 1)) (hs : sh[c]? = some (9, n, rs)) (hx : 0 ≤ x ∧ x < (n : Int) ∧ x ≤ 100000) {v : Int} (hv : M c x = v) (k : MW y cc nL ret R F b n0 kc ks (pc + 1) ls (vi v :: st) sh M) : MW y cc nL ret R F b n0 kc ks pc ls (vi x :: vr b c :: st) sh M := by
  subst hv
  intro p l e s m args below meth c' D H locs lsA C hR hS hk hl
  have k2 := k p l e s m args below meth c' D H locs lsA C hR hS hk hl
  obtain ⟨hxx, hb, -, hown, -, -, -, hts, hE, hK, -⟩ := C
  have hget : (wl D b sh M)[c]? = some (b + c, .inl (D.2.2.1, n, .inl (fun j => Int32.ofInt (M c j)))) := by rw [wl_get hs, ce_I]
  refine va_iald hxx hb hK hR.1 c 0 hget rfl (oi_in hx) hd ?_
  rw [oi_cl (by omega), Int.toNat_of_nonneg hx.1]
  exact k2
theorem up_arr {c : Nat} {x v : Int} (hx : 0 ≤ x) : upd (fun j => Int32.ofInt (M c j)) x.toNat (Int32.ofInt v) = (fun j : Nat => Int32.ofInt (up M c x v c j)) := by
  funext j
  unfold upd up
  by_cases h : j = x.toNat
  · rw [if_pos h, if_pos ⟨rfl, by omega⟩]
  · rw [if_neg h, if_neg (fun q => h (by omega))]
theorem R_iast {c n : Nat} {rs : List (Option Nat)} {x v : Int} (hd : decode cc pc = .ok (.iastore, 1)) (hs : sh[c]? = some (9, n, rs)) (hx : 0 ≤ x ∧ x < (n : Int) ∧ x ≤ 100000) (hv : inR v) (k : MW y cc nL ret R F b n0 kc ks (pc + 1) ls st sh (up M c x v)) : MW y cc nL ret R F b n0 kc ks pc ls (vi v :: vi x :: vr b c :: st) sh M := by
  intro p l e s m args below meth c' D H locs lsA C hR hS hk hl
  have k2 := fun H1 locs1 hR1 hS1 => k p l e s m args below meth c' D H1 locs1 lsA C hR1 hS1 hk hl
  obtain ⟨hxx, hb, -, hown, -, -, -, hts, hE, hK, -⟩ := C
  have hget : (wl D b sh M)[c]? = some (b + c, .inl (D.2.2.1, n, .inl (fun j => Int32.ofInt (M c j)))) := by rw [wl_get hs, ce_I]
  refine va_iast hxx hb hK hR.1 wl_D hS c 0 hget rfl (oi_in hx) hd (fun H1 locs1 hP1 _ hS1 => ?_)
  rw [oi_cl (by omega), up_arr hx.1, wl_set (q' := (9, n, rs)) (M' := up M c x v) hs up_o (by rw [ce_I]), sh_same hs] at hP1
  exact k2 H1 locs1 ⟨hP1, up_R hR.2 hv⟩ hS1
theorem R_alen {c n : Nat} {rs : List (Option Nat)} (hd : decode cc pc = .ok (.arraylength, 1)) (hs : sh[c]? = some (9, n, rs) ∨ sh[c]? = some (10, n, rs)) (k : MW y cc nL ret R F b n0 kc ks (pc + 1) ls (vi n :: st) sh M) : MW y cc nL ret R F b n0 kc ks pc ls (vr b c :: st) sh M := by
  intro p l e s m args below meth c' D H locs lsA C hR hS hk hl
  have k2 := k p l e s m args below meth c' D H locs lsA C hR hS hk hl
  obtain ⟨hxx, hb, -, hown, -, -, -, hts, hE, hK, -⟩ := C
  rcases hs with hs | hs
  · have hget : (wl D b sh M)[c]? = some (b + c, .inl (D.2.2.1, n, .inl (fun j => Int32.ofInt (M c j)))) := by rw [wl_get hs, ce_I]
    exact va_alen hxx hb hK hR.1 c 0 hget rfl (oi_nat n) hd k2
  · have hget : (wl D b sh M)[c]? = some (b + c, .inl (D.2.2.2.1, n, .inr (.inr (.inr (.inr (fun j => rfo b (M c j))))))) := by rw [wl_get hs, ce_R]
    exact va_alen hxx hb hK hR.1 c 1 hget rfl (oi_nat n) hd k2
theorem R_aald {c n t : Nat} {rs : List (Option Nat)} {x : Int} (hd : decode cc pc = .ok (.aaload, 1)) (hs : sh[c]? = some (10, n, rs)) (hx : 0 ≤ x ∧ x < (n : Int) ∧ x ≤ 100000) (ht : M c x = (t : Int)) (k : MW y cc nL ret R F b n0 kc ks (pc + 1) ls (vr b t :: st) sh M) : MW y cc nL ret R F b n0 kc ks pc ls (vi x :: vr b c :: st) sh M := by
  intro p l e s m args below meth c' D H locs lsA C hR hS hk hl
  have k2 := k p l e s m args below meth c' D H locs lsA C hR hS hk hl
  obtain ⟨hxx, hb, -, hown, -, -, -, hts, hE, hK, -⟩ := C
  have hget : (wl D b sh M)[c]? = some (b + c, .inl (D.2.2.2.1, n, .inr (.inr (.inr (.inr (fun j => rfo b (M c j))))))) := by rw [wl_get hs, ce_R]
  refine va_aldq hxx hb hK hR.1 c 1 hget rfl (oi_in hx) hd ?_
  rw [oi_cl (by omega), Int.toNat_of_nonneg hx.1, ht, show rfo b (t : Int) = some (b + t) by unfold rfo; rw [if_neg (by omega), Int.toNat_natCast]]
  exact k2
theorem R_aast {c n t nn : Nat} {rs rs2 : List (Option Nat)} {x : Int} (hd : decode cc pc = .ok (.aastore, 1)) (hs : sh[c]? = some (10, n, rs)) (hx : 0 ≤ x ∧ x < (n : Int) ∧ x ≤ 100000) (ht : sh[t]? = some (4, nn, rs2)) (htn : t ≤ 100000) (k : MW y cc nL ret R F b n0 kc ks (pc + 1) ls st sh (up M c x t)) : MW y cc nL ret R F b n0 kc ks pc ls (vr b t :: vi x :: vr b c :: st) sh M := by
  intro p l e s m args below meth c' D H locs lsA C hR hS hk hl
  have k2 := fun H1 locs1 hR1 hS1 => k p l e s m args below meth c' D H1 locs1 lsA C hR1 hS1 hk hl
  obtain ⟨hxx, hb, -, hown, -, -, -, hts, hE, hK, -⟩ := C
  have hget : (wl D b sh M)[c]? = some (b + c, .inl (D.2.2.2.1, n, .inr (.inr (.inr (.inr (fun j => rfo b (M c j))))))) := by rw [wl_get hs, ce_R]
  have hgt : (wl D b sh M)[t]? = some (b + t, .inr (4, fvs b (4, nn, rs2) (M t))) := by rw [wl_get ht, ce_O (by show 4 < 9; omega)]
  refine va_astq (r := (RX4, TX4, 5)) hxx hb hK hR.1 wl_D hS c 1 t 4 hget rfl hgt rfl (oi_in hx) hd (fun H1 locs1 hP1 _ hS1 => ?_)
  have he : va_up (fun j : Nat => rfo b (M c j)) x.toNat (some (b + t)) = (fun j : Nat => rfo b (up M c x t c j)) := by
    funext j
    unfold va_up up
    by_cases h : j = x.toNat
    · rw [if_pos h, if_pos ⟨rfl, by omega⟩]
      unfold rfo
      rw [if_neg (by omega), Int.toNat_natCast]
    · rw [if_neg h, if_neg (fun q => h (by omega))]
  rw [oi_cl (by omega), he, wl_set (q' := (10, n, rs)) (M' := up M c x t) hs up_o (by rw [ce_R]), sh_same hs] at hP1
  exact k2 H1 locs1 ⟨hP1, up_R hR.2 (by omega)⟩ hS1
/-- what va_new and its like leave open: the new cell lies behind ours -/
theorem new_at {D : DD} {H1 : Heap} {q : Nat} {e : va_E} {s : State} (hP : va_P (dG D) vwCl (wl D b sh M ++ [(q, e)]) H1) (hD : va_D (ours b) (wl D b sh M ++ [(q, e)])) (hz : H1.size ≤ b + sh.length + 1) : q = b + sh.length := by
  have hlast : (wl D b sh M ++ [(q, e)])[sh.length]? = some (q, e) := by
    rw [List.getElem?_append_right (by rw [wl_len]; exact Nat.le_refl _), wl_len, Nat.sub_self]
    rfl
  have h1 : q < H1.size := (hP _ _ hlast).lt
  have h2 : b ≤ q := hD.2 _ _ hlast
  rcases Nat.lt_or_ge q (b + sh.length) with h3 | h3
  · exfalso
    obtain ⟨k, rfl⟩ : ∃ k, q = b + k := ⟨q - b, by omega⟩
    have hk : k < sh.length := by omega
    have h4 : (wl D b sh M ++ [(b + k, e)])[k]? = some (b + k, ce D b sh[k] (M k)) := by
      rw [List.getElem?_append_left (by rw [wl_len]; exact hk), wl_get (List.getElem?_eq_getElem hk)]
    have := hD.1 _ _ _ _ h4 hlast rfl
    omega
  · omega
/-- the memory with a fresh cell n, all v -/
def fr (M : Mem) (n : Nat) (v : Int) : Mem := fun k j => if k = n then v else M k j
theorem fr_R {n : Nat} {v : Int} (h : ∀ k j, inR (M k j)) (hv : inR v) : ∀ k j, inR (fr M n v k j) := by
  intro k j
  unfold fr
  split
  · exact hv
  · exact h k j
theorem fr_o {n : Nat} {v : Int} : ∀ i, i < n → fr M n v i = M i := fun i hi => by funext j; unfold fr; rw [if_neg (by omega)]
theorem fr_s {n : Nat} {v : Int} : fr M n v n = fun _ => v := by funext j; unfold fr; rw [if_pos rfl]
theorem fr_e {n : Nat} {v j : Int} : fr M n v n j = v := by unfold fr; rw [if_pos rfl]
theorem fr_ne {n k : Nat} {v j : Int} (h : k ≠ n) : fr M n v k j = M k j := by unfold fr; rw [if_neg h]
/-- the pool entry idx of own is class ci, which can be made -/
def NL (own : String) (idx ci : Nat) : Prop := ∃ r : vw_C, vwCl[ci]? = some r ∧ Cond.classLink own idx r.1 ∈ tblG ∧ Cond.instantiable r.1 r.2.2 ∈ tblG ∧ Cond.initialized r.1 ∈ tblG
theorem R_new {ci idx : Nat} (hd : decode cc pc = .ok (.new idx, 3)) (hn : NL y.cls idx ci) (hc : kc + 1 ≤ R.cells) (hsl : ks + nF ci ≤ R.slots) (k : MW y cc nL ret R F b n0 (kc + 1) (ks + nF ci) (pc + 3) ls (vr b sh.length :: st) (sh ++ [(ci, 0, List.replicate (nF ci) none)]) (fr M sh.length 0)) : MW y cc nL ret R F b n0 kc ks pc ls st sh M := by
  intro p l e s m args below meth c D H locs lsA C hR hS hk hl
  have k2 := fun H1 hR1 hS1 => k p l e s m args below meth c D H1 locs lsA C hR1 hS1 (by rw [List.length_append]; show n0 + (kc + 1) = sh.length + 1; omega) hl
  obtain ⟨hx, hb, -, hown, -, -, -, hts, hE, hK, hsz⟩ := C
  obtain ⟨r, hr, h1, h2, h3⟩ := hn
  obtain ⟨o1, o2, o3, o4, o5⟩ := clOK hr
  have hdef : ∀ j, j < r.2.2 → defaultValue (tyA ci j) = vp_V (fvs b (ci, 0, List.replicate (nF ci) none) (fun _ => 0)) j := by
    intro j hj
    unfold vp_V
    rw [List.getD_eq_getElem?_getD, fvs_get (by show j < nF ci; rw [← o5]; exact hj), Option.getD_some, fv]
    have hty : ∀ ci, ci < 9 → ∀ j, j < nF ci → (rfT (tyA ci j) = true → defaultValue (tyA ci j) = .null) ∧ (rfT (tyA ci j) = false → defaultValue (tyA ci j) = .int 0) := by decide
    obtain ⟨t1, t2⟩ := hty ci (vwCl_lt hr) j (by rw [← o5]; exact hj)
    by_cases hrf : rfT (tyA ci j) = true
    · rw [if_pos hrf, t1 hrf]
      show Value.null = va_rf (((List.replicate (nF ci) none).getD j none).map (fun k => b + k))
      rw [List.getD_eq_getElem?_getD, List.getElem?_replicate]
      split <;> rfl
    · rw [if_neg hrf, t2 (by simpa using hrf)]
      rfl
  refine va_new (D := dG D) (ci := ci) (C := r.1) (T := r.2.1) (N := r.2.2) (fs := fvs b (ci, 0, List.replicate (nF ci) none) (fun _ => 0)) hx hb hts o1 (tyA ci) o2 hown (hts _ h1) (hts _ h2) (hts _ h3) hK hR.1 wl_D hS (fun q hq => by show b ≤ q; omega) hr hdef hc (by rw [o5]; exact hsl) hd (fun q H1 hP1 hD1 hS1 => ?_)
  refine W_size fun hz => ?_
  have hq := new_at (s := s) hP1 hD1 (by rw [hsz] at hz; omega)
  subst hq
  rw [wl_push (q := (ci, 0, List.replicate (nF ci) none)) (M' := fr M sh.length 0) fr_o (by rw [ce_O (vwCl_lt hr), fr_s])] at hP1
  rw [o5]
  exact k2 H1 ⟨hP1, fr_R hR.2 (by omega)⟩ hS1
theorem R_newa {x : Int} {n : Nat} (hd : decode cc pc = .ok (.newarray .int, 2)) (hw : Cond.arrayClass .int ∈ tblG) (hx : x = (n : Int)) (hn : n ≤ 100000) (hc : kc + 1 ≤ R.cells) (hsl : ks + n ≤ R.slots) (k : MW y cc nL ret R F b n0 (kc + 1) (ks + n) (pc + 2) ls (vr b sh.length :: st) (sh ++ [(9, n, [])]) (fr M sh.length 0)) : MW y cc nL ret R F b n0 kc ks pc ls (vi x :: st) sh M := by
  intro p l e s m args below meth c D H locs lsA C hR hS hk hl
  have k2 := fun H1 hR1 hS1 => k p l e s m args below meth c D H1 locs lsA C hR1 hS1 (by rw [List.length_append]; show n0 + (kc + 1) = sh.length + 1; omega) hl
  obtain ⟨hxx, hb, -, hown, -, -, -, hts, hE, hK, hsz⟩ := C
  subst hx
  refine va_newa (D := dG D) (atype := .int) (ty := .int) (a0 := (n, .inl (fun _ => 0))) (N' := n) hxx hb (hts _ hw) rfl hK hR.1 wl_D hS (fun q hq => by show b ≤ q; omega) (fun cA => rfl) (by rw [oi_0, oi_lt (by omega) (by omega)]; omega) (by rw [oi_cl (by omega), Int.toNat_natCast]) (by show n * 4 ≤ _; omega) hc hsl hd (fun q cA H1 hK1 hP1 hD1 hS1 => ?_)
  refine W_size fun hz => ?_
  have hq := new_at (s := s) hP1 hD1 (by rw [hsz] at hz; omega)
  subst hq
  have hcA : cA = D.2.2.1 := by
    have a1 := (hK1.2 0 _ rfl).2
    have a2 := (hK1.2 2 _ rfl).2
    exact Option.some.inj (a2.symm.trans a1)
  subst hcA
  rw [wl_push (q := (9, n, [])) (M' := fr M sh.length 0) fr_o (by rw [ce_I, fr_s]; rfl)] at hP1
  exact k2 H1 ⟨hP1, fr_R hR.2 (by omega)⟩ hS1
theorem R_anew {idx : Nat} {x : Int} {n : Nat} (hd : decode cc pc = .ok (.anewarray idx, 3)) (hw : Cond.classLink y.cls idx RX4 ∈ tblG) (hx : x = (n : Int)) (hn : n ≤ 100000) (hc : kc + 1 ≤ R.cells) (hsl : ks + n ≤ R.slots) (k : MW y cc nL ret R F b n0 (kc + 1) (ks + n) (pc + 3) ls (vr b sh.length :: st) (sh ++ [(10, n, [])]) (fr M sh.length (-1))) : MW y cc nL ret R F b n0 kc ks pc ls (vi x :: st) sh M := by
  intro p l e s m args below meth c D H locs lsA C hR hS hk hl
  have k2 := fun H1 hR1 hS1 => k p l e s m args below meth c D H1 locs lsA C hR1 hS1 (by rw [List.length_append]; show n0 + (kc + 1) = sh.length + 1; omega) hl
  obtain ⟨hxx, hb, -, hown, -, -, -, hts, hE, hK, hsz⟩ := C
  subst hx
  refine va_newq (D := dG D) (C := RX4) (N' := n) hxx hb hown (hts _ hw) hE.2.1 hK hR.1 wl_D hS (fun q hq => by show b ≤ q; omega) (by rw [oi_0, oi_lt (by omega) (by omega)]; omega) (by rw [oi_cl (by omega), Int.toNat_natCast]) (by omega) hc hsl hd (fun q cA H1 hK1 hP1 hD1 hS1 => ?_)
  refine W_size fun hz => ?_
  have hq := new_at (s := s) hP1 hD1 (by rw [hsz] at hz; omega)
  subst hq
  have hcA : cA = D.2.2.2.1 := by
    obtain ⟨_, _, -, -, -, a1⟩ := (hK1.2 1 _ rfl).2
    obtain ⟨_, _, -, -, -, a2⟩ := (hK1.2 2 _ rfl).2
    exact Option.some.inj (a2.symm.trans a1)
  subst hcA
  rw [wl_push (q := (10, n, [])) (M' := fr M sh.length (-1)) fr_o (by rw [ce_R, fr_s]; rfl)] at hP1
  exact k2 H1 ⟨hP1, fr_R hR.2 (by omega)⟩ hS1
/-! returns -/
theorem R_iret {d mc ms : Nat} {Q : Option Value → Mem → Prop} {x : Int} (hd : decode cc pc = .ok (.ireturn, 1)) (hq : Q (some (vi x)) M) : MW y cc nL (some .int) (rmD d mc ms) (FM Q b sh mc ms) b n0 mc ms pc ls [vi x] sh M := by
  intro p l e s m args below meth c D H locs lsA C hR hS hk hl
  obtain ⟨hx, hb, -, -, -, hr, hlk, -⟩ := C
  exact W.iret (v := Int32.ofInt x) hx hb hr (fun t ht hW => ⟨⟨some (vi x), M, rfl, hq, by rw [ht]; exact hR⟩, hS.F ht⟩) hS.2.2 hd hlk
theorem R_zret {d mc ms : Nat} {Q : Option Value → Mem → Prop} {x : Int} (hd : decode cc pc = .ok (.ireturn, 1)) (hx01 : x = 0 ∨ x = 1) (hq : Q (some (vi x)) M) : MW y cc nL (some .boolean) (rmD d mc ms) (FM Q b sh mc ms) b n0 mc ms pc ls [vi x] sh M := by
  intro p l e s m args below meth c D H locs lsA C hR hS hk hl
  obtain ⟨hx, hb, -, -, -, hr, hlk, -⟩ := C
  exact W.zret (v := Int32.ofInt x) (ty := .boolean) hx hb hr (by rcases hx01 with rfl | rfl <;> rfl) (fun t ht hW => ⟨⟨some (vi x), M, rfl, hq, by rw [ht]; exact hR⟩, hS.F ht⟩) hS.2.2 hd hlk
theorem R_vret {d mc ms : Nat} {Q : Option Value → Mem → Prop} (hd : decode cc pc = .ok (.return_, 1)) (hq : Q none M) : MW y cc nL none (rmD d mc ms) (FM Q b sh mc ms) b n0 mc ms pc ls [] sh M := by
  intro p l e s m args below meth c D H locs lsA C hR hS hk hl
  obtain ⟨hx, hb, -, -, -, hr, hlk, -⟩ := C
  exact W.vret hx hb hr (fun t ht hW => ⟨⟨none, M, rfl, hq, by rw [ht]; exact hR⟩, hS.F ht⟩) hS.2.2 hd hlk
end HRules
