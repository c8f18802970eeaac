/-! Math.max, min, abs -/
section MathR
variable {y : MethodName} {cc : ByteArray} {nL : Nat} {ret : Option FieldType} {R : Room} {F : FT} {b n0 kc ks pc : Nat} {ls : List (Option Value)} {st : List Value} {sh : Shp} {M : Mem}
theorem R_mmax {idx : Nat} {u v : Int} (hd : decode cc pc = .ok (.invokestatic idx, 3)) (hs : SS y.cls idx mJ9_max_7cf53 2) (hu : inR u ∧ inR v) (hrest : (st.map fun v => v.category).sum ≤ 8) (hrm : 1 ≤ R.frames ∧ 30 ≤ R.locals ∧ kc ≤ R.cells ∧ ks ≤ R.slots) (k : MW y cc nL ret R F b n0 kc ks (pc + 3) ls (vi (if u < v then v else u) :: st) sh M) : MW y cc nL ret R F b n0 kc ks pc ls (vi v :: vi u :: st) sh M := by
  intro p l e s m args below meth c D H locs lsA C hR hS hk hl
  have k2 := k p l e s m args below meth c D H locs lsA C hR hS hk hl
  obtain ⟨hx, hb, hml, hown, -, -, -, hts, -⟩ := C
  obtain ⟨⟨w1, w2, w3, w4, w5⟩, w6⟩ := hs
  have w4 : Cond.methodLink y.cls idx Lib.Math.max.name ∈ tblG := by
    rcases w4 with w4 | ⟨host, w4⟩
    · exact w4
    · exfalso
      have hall : ∀ w ∈ tblN, (match w with | .methodLinkNest _ _ z _ => decide (z = yJ9_max_7cf53) | _ => false) = false := by decide +kernel
      have := hall _ w4
      simp at this
  refine va_mmax hx hb (by rw [hml]; exact hl.1.symm) hown (hts _ w4) (hts _ w6) (hts _ w2) (hts _ w1) hrm.1 (by omega) hrm.2.2.1 hrm.2.2.2 hd ?_
  have e : (if Int32.ofInt u < Int32.ofInt v then Int32.ofInt v else Int32.ofInt u) = Int32.ofInt (if u < v then v else u) := by
    by_cases h : u < v
    · rw [if_pos ((oi_lt hu.1 hu.2).mpr h), if_pos h]
    · rw [if_neg (fun q => h ((oi_lt hu.1 hu.2).mp q)), if_neg h]
  rw [e]
  exact k2
theorem R_mmin {idx : Nat} {u v : Int} (hd : decode cc pc = .ok (.invokestatic idx, 3)) (hs : SS y.cls idx mJ9_min_7cf53 2) (hu : inR u ∧ inR v) (hrest : (st.map fun v => v.category).sum ≤ 8) (hrm : 1 ≤ R.frames ∧ 30 ≤ R.locals ∧ kc ≤ R.cells ∧ ks ≤ R.slots) (k : MW y cc nL ret R F b n0 kc ks (pc + 3) ls (vi (if v < u then v else u) :: st) sh M) : MW y cc nL ret R F b n0 kc ks pc ls (vi v :: vi u :: st) sh M := by
  intro p l e s m args below meth c D H locs lsA C hR hS hk hl
  have k2 := k p l e s m args below meth c D H locs lsA C hR hS hk hl
  obtain ⟨hx, hb, hml, hown, -, -, -, hts, -⟩ := C
  obtain ⟨⟨w1, w2, w3, w4, w5⟩, w6⟩ := hs
  have w4 : Cond.methodLink y.cls idx Lib.Math.min.name ∈ tblG := by
    rcases w4 with w4 | ⟨host, w4⟩
    · exact w4
    · exfalso
      have hall : ∀ w ∈ tblN, (match w with | .methodLinkNest _ _ z _ => decide (z = yJ9_min_7cf53) | _ => false) = false := by decide +kernel
      have := hall _ w4
      simp at this
  refine va_mmin hx hb (by rw [hml]; exact hl.1.symm) hown (hts _ w4) (hts _ w6) (hts _ w2) (hts _ w1) hrm.1 (by omega) hrm.2.2.1 hrm.2.2.2 hd ?_
  have e : (if Int32.ofInt v < Int32.ofInt u then Int32.ofInt v else Int32.ofInt u) = Int32.ofInt (if v < u then v else u) := by
    by_cases h : v < u
    · rw [if_pos ((oi_lt hu.2 hu.1).mpr h), if_pos h]
    · rw [if_neg (fun q => h ((oi_lt hu.2 hu.1).mp q)), if_neg h]
  rw [e]
  exact k2
theorem R_mabs {idx : Nat} {u : Int} (hd : decode cc pc = .ok (.invokestatic idx, 3)) (hs : SS y.cls idx mJ9_abs_0f7a4 1) (hu : inR u) (hrest : (st.map fun v => v.category).sum ≤ 8) (hrm : 1 ≤ R.frames ∧ 30 ≤ R.locals ∧ kc ≤ R.cells ∧ ks ≤ R.slots) (k : MW y cc nL ret R F b n0 kc ks (pc + 3) ls (vi (if u < 0 then -u else u) :: st) sh M) : MW y cc nL ret R F b n0 kc ks pc ls (vi u :: st) sh M := by
  intro p l e s m args below meth c D H locs lsA C hR hS hk hl
  have k2 := k p l e s m args below meth c D H locs lsA C hR hS hk hl
  obtain ⟨hx, hb, hml, hown, -, -, -, hts, -⟩ := C
  obtain ⟨⟨w1, w2, w3, w4, w5⟩, w6⟩ := hs
  have w4 : Cond.methodLink y.cls idx Lib.Math.abs.name ∈ tblG := by
    rcases w4 with w4 | ⟨host, w4⟩
    · exact w4
    · exfalso
      have hall : ∀ w ∈ tblN, (match w with | .methodLinkNest _ _ z _ => decide (z = yJ9_abs_0f7a4) | _ => false) = false := by decide +kernel
      have := hall _ w4
      simp at this
  refine va_mabs hx hb (by rw [hml]; exact hl.1.symm) hown (hts _ w4) (hts _ w6) (hts _ w2) (hts _ w1) hrm.1 (by omega) hrm.2.2.1 hrm.2.2.2 hd ?_
  have e : (if 0 ≤ Int32.ofInt u then Int32.ofInt u else 0 - Int32.ofInt u) = Int32.ofInt (if u < 0 then -u else u) := by
    rw [oi_0]
    by_cases h : u < 0
    · rw [if_neg (fun q => by have := (oi_le (x := 0) (y := u) (by omega) hu).mp q; omega), if_pos h, ← Int32.ofInt_sub]
      congr 1
      omega
    · rw [if_pos ((oi_le (x := 0) (y := u) (by omega) hu).mpr (by omega)), if_neg h]
  rw [e]
  exact k2
end MathR
