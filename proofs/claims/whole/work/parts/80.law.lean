/-! THE LAW: its script, its end -/
def LX (bS L : Nat) (xs : Nat → Int32) (args : Array Value) (s : State) : Prop := args = #[Value.ref bS] ∧ va_X bS L xs s s.heap ∧ bS < s.heap.size
def FLw (bS L : Nat) (xs : Nat → Int32) : FT := fun below args s _ t => LX bS L xs args s → lw_Z below args s t
def scr (xs : Nat → Int32) (j : Int) : Int := (xs j.toNat).toInt
theorem scr_R {xs : Nat → Int32} {j : Int} : inR (scr xs j) := by
  have h1 := Int32.le_toInt (xs j.toNat)
  have h2 := Int32.toInt_lt (xs j.toNat)
  unfold scr
  omega
section LR
variable {y : MethodName} {cc : ByteArray} {nL : Nat} {ret : Option FieldType} {R : Room} {F : FT} {b n0 kc ks pc : Nat} {ls : List (Option Value)} {st : List Value} {sh : Shp} {M : Mem} {bS L : Nat} {xs : Nat → Int32}
theorem L_aload {q : Fin 4} {a : Nat} (hd : decode cc pc = .ok (.aload_n q, 1)) (hg : lget ls q = some (.ref a)) (k : MW y cc nL ret R F b n0 kc ks (pc + 1) ls (.ref a :: st) sh M) : MW y cc nL ret R F b n0 kc ks pc ls st sh M := by
  intro p l e s m args below meth c D H locs lsA C hR hS hk hl
  exact lv_aload_n C.1 C.2.1 hd rfl (lget_at hl hg) (k p l e s m args below meth c D H locs lsA C hR hS hk hl)
theorem R_same {off : Int} {tgt : Nat} {X : Int} (hd : decode cc pc = .ok (.if_icmp .eq off, 3)) (ht : (pc : Int) + off = (tgt : Int)) (k : MW y cc nL ret R F b n0 kc ks tgt ls st sh M) : MW y cc nL ret R F b n0 kc ks pc ls (vi X :: vi X :: st) sh M := by
  intro p l e s m args below meth c D H locs lsA C hR hS hk hl
  exact lv_icmp_eq C.1 C.2.1 hd ht (fun _ => k p l e s m args below meth c D H locs lsA C hR hS hk hl) (fun h => absurd rfl h)
theorem L_iald {x : Int} (hd : decode cc pc = .ok (.iaload, 1)) (hx : 0 ≤ x ∧ x < (L : Int) ∧ x ≤ 100000) (k : MW y cc nL ret R (FLw bS L xs) b 0 kc ks (pc + 1) ls (vi (scr xs x) :: st) sh M) : MW y cc nL ret R (FLw bS L xs) b 0 kc ks pc ls (vi x :: .ref bS :: st) sh M := by
  intro p l e s m args below meth c D H locs lsA C hR hS hk hl
  by_cases hX : LX bS L xs args s
  · have k2 := k p l e s m args below meth c D H locs lsA C hR hS hk hl
    obtain ⟨hxx, hb, hml, hown, hnm, hret, hlk, hts, hE, hK, hsz⟩ := C
    have hbA : ¬ ours b bS := by
      show ¬ b ≤ bS
      have := hX.2.2
      rw [hsz] at this
      omega
    refine va_sld hxx hb hX.2.1 hX.2.2 hbA hS (oi_in hx) hd ?_
    rw [oi_cl (by omega)]
    have e : vi (scr xs x) = .int (xs x.toNat) := by
      unfold vi scr
      rw [Int32.ofInt_toInt]
    rw [e] at k2
    exact k2
  · intro T hT X
    exact ⟨_, Steps.refl _, fun h => absurd h hX⟩
theorem L_alen (hd : decode cc pc = .ok (.arraylength, 1)) (k : MW y cc nL ret R (FLw bS L xs) b 0 kc ks (pc + 1) ls (vi (L : Int) :: st) sh M) : MW y cc nL ret R (FLw bS L xs) b 0 kc ks pc ls (.ref bS :: st) sh M := by
  intro p l e s m args below meth c D H locs lsA C hR hS hk hl
  by_cases hX : LX bS L xs args s
  · have k2 := k p l e s m args below meth c D H locs lsA C hR hS hk hl
    obtain ⟨hxx, hb, hml, hown, hnm, hret, hlk, hts, hE, hK, hsz⟩ := C
    have hbA : ¬ ours b bS := by
      show ¬ b ≤ bS
      have := hX.2.2
      rw [hsz] at this
      omega
    refine va_slen hxx hb hX.2.1 hX.2.2 hbA hS hd ?_
    rw [oi_nat]
    exact k2
  · intro T hT X
    exact ⟨_, Steps.refl _, fun h => absurd h hX⟩
theorem L_end (hk1 : kc ≤ 600000) (hk2 : ks ≤ 7302250) : MW yL_law cL_law 4 (some .boolean) room_1 (FLw bS L xs) b 0 kc ks 944 ls [vi 1] sh M := by
  intro p l e s m args below meth c D H locs lsA C hR hS hk hl
  by_cases hX : LX bS L xs args s
  · obtain ⟨rfl, -, -⟩ := hX
    obtain ⟨hxx, hb, hml, hown, hnm, hret, hlk, hts, hE, hK, hsz⟩ := C
    have hw : W p l e room_1 s m #[Value.ref bS] below meth c H locs kc ks (lw_Z below #[Value.ref bS] s) (F0 m 944 lsA [.int 1]) := va_forget (fun q hq => by rw [hsz]; exact hS.2.2 q hq) (W.widen hk1 hk2 (lw_ret hxx hb hret hlk dL_law_944))
    intro T hT X
    obtain ⟨t, a1, b1⟩ := hw T hT X
    exact ⟨t, a1, fun _ => b1⟩
  · intro T hT X
    exact ⟨_, Steps.refl _, fun h => absurd h hX⟩
end LR
theorem absM_hi {M M1 : Mem} (h : ∀ c, 72 ≤ c → M1 c = M c) : absM M1 = absM M := by
  have et : txM M1 = txM M := by unfold txM; rw [h 72 (by omega), h 75 (by omega)]
  have er : ∀ q, roM M1 q = roM M q := fun q => by unfold roM; rw [h 74 (by omega)]
  have er2 : (fun k : Int => roM M1 (57 + 19 * k)) = fun k => roM M (57 + 19 * k) := funext fun k => er _
  have er3 : (fun k : Int => roM M1 (19 + 19 * k)) = fun k => roM M (19 + 19 * k) := funext fun k => er _
  unfold absM unM keM beM foM moM
  rw [et, er, er2, er3, h 72 (by omega), h 73 (by omega), h 78 (by omega), h 79 (by omega), h 80 (by omega), h 81 (by omega), h 82 (by omega)]
theorem IC_lo {M M2 : Mem} {B : Int} (hI : IC M B) (hB : B ≤ 100000) (h : ∀ c, c < 72 → M2 c = M c) : IC M2 B ∧ absC M2 = absC M :=
  IC_gen hI (fun c hc => h c (by omega)) (sm_ro hI ⟨Int.le_refl _, hB⟩ (h 23 (by omega)) (h 24 (by omega))) (sm_sf ⟨Int.le_refl _, hB⟩ (Or.inl ⟨rfl, rfl⟩) hI.2.2.2.1 (fun c c1 c2 => h c (by omega))) (sm_sf ⟨Int.le_refl _, hB⟩ (Or.inr ⟨rfl, rfl⟩) hI.2.2.2.2.1 (fun c c1 c2 => h c (by omega))) (sm_be hI.2.2.2.2.2.1 (fun c c1 c2 => h c (by omega))) (sm_fo hI.2.2.2.2.2.2.1 (fun c c1 c2 => h c (by omega)))
abbrev LW (bS L : Nat) (xs : Nat → Int32) (b : Nat) (i : Int) (pc : Nat) (st : List Value) (M : Mem) : Prop := MW yL_law cL_law 4 (some .boolean) room_1 (FLw bS L xs) b 0 85 1616 pc [some (.ref bS), some (vr b 0), some (vr b 72), some (vi i)] st SH M
/-- the law's loop goes on from what a call leaves -/
def Go (bS L : Nat) (xs : Nat → Int32) (b : Nat) (i B : Int) : Prop := ∀ (M2 : Mem) (B2 : Int), IC M2 B2 → absC M2 = absM M2 → 0 ≤ B2 → B2 ≤ B + 20 → LW bS L xs b i 937 [] M2
theorem rmL {d : Nat} (h : d ≤ 20) : roomOK room_1 85 1616 d 0 0 := ⟨by show d + 1 ≤ 2048; omega, by show 64 * d + 60 ≤ 84000; omega, by show 85 + 0 ≤ 600000; omega, by show 1616 + 0 ≤ 7302250; omega⟩
