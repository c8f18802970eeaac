/-! OUR CELLS, in one row from the address b on: cell k lies at b + k. A shape: (class number, 0, where each field that is a reference leads), (9, length, []) a row of ints, (10, length, []) a row of roads (in the memory: the number of the cell, -1 for null). The memory: cell, slot -> number. -/
abbrev Mem : Type := Nat → Int → Int
abbrev Sh1 : Type := Nat × Nat × List (Option Nat)
abbrev Shp : Type := List Sh1
/-- class ids, slots of fields, the class ids of int[] and Road[], where the text and its bytes lie -/
abbrev DD : Type := (Nat → ClassId) × (Nat → Nat → Nat) × ClassId × ClassId × Nat × Nat
abbrev dG (D : DD) : va_G := (D.1, D.2.1)
def rfo (b : Nat) (z : Int) : Option Nat := if z < 0 then none else some (b + z.toNat)
def fv (b : Nat) (q : Sh1) (j : Nat) (x : Int) : Value := if rfT (tyA q.1 j) = true then va_rf ((q.2.2.getD j none).map (fun k => b + k)) else vi x
def fvs (b : Nat) (q : Sh1) (f : Int → Int) : List Value := (List.range (nF q.1)).map (fun j => fv b q j (f j))
def ce (D : DD) (b : Nat) (q : Sh1) (f : Int → Int) : va_E :=
  if q.1 = 9 then .inl (D.2.2.1, q.2.1, .inl (fun j => Int32.ofInt (f j)))
  else if q.1 = 10 then .inl (D.2.2.2.1, q.2.1, .inr (.inr (.inr (.inr (fun j => rfo b (f j))))))
  else .inr (q.1, fvs b q f)
def wl (D : DD) (b : Nat) (sh : Shp) (M : Mem) : va_W := sh.mapIdx (fun k q => (b + k, ce D b q (M k)))
theorem wl_get {D : DD} {b k : Nat} {sh : Shp} {M : Mem} {q : Sh1} (h : sh[k]? = some q) : (wl D b sh M)[k]? = some (b + k, ce D b q (M k)) := by
  simp [wl, List.getElem?_mapIdx, h]
theorem wl_inv {D : DD} {b k : Nat} {sh : Shp} {M : Mem} {z : Nat × va_E} (h : (wl D b sh M)[k]? = some z) : ∃ q, sh[k]? = some q ∧ z = (b + k, ce D b q (M k)) := by
  rw [wl, List.getElem?_mapIdx] at h
  cases hq : sh[k]? with
  | none => rw [hq] at h; cases h
  | some q => rw [hq] at h; cases h; exact ⟨q, rfl, rfl⟩
theorem wl_len {D : DD} {b : Nat} {sh : Shp} {M : Mem} : (wl D b sh M).length = sh.length := by simp [wl]
theorem wl_D {D : DD} {b : Nat} {sh : Shp} {M : Mem} : va_D (fun q => b ≤ q) (wl D b sh M) := by
  refine ⟨fun i j p q hi hj e => ?_, fun k q hk => ?_⟩
  · obtain ⟨_, -, rfl⟩ := wl_inv hi
    obtain ⟨_, -, rfl⟩ := wl_inv hj
    have : b + i = b + j := e
    omega
  · obtain ⟨_, -, rfl⟩ := wl_inv hk
    exact Nat.le_add_right b k
/-- a cell set anew, its shape too -/
theorem wl_set {D : DD} {b k : Nat} {sh : Shp} {M M' : Mem} {q q' : Sh1} {e : va_E} (h : sh[k]? = some q) (ho : ∀ i, i ≠ k → M' i = M i) (he : e = ce D b q' (M' k)) : (wl D b sh M).set k (b + k, e) = wl D b (sh.set k q') M' := by
  have hk : k < sh.length := (List.getElem?_eq_some_iff.mp h).1
  apply List.ext_getElem?
  intro i
  by_cases hi : i = k
  · subst hi
    rw [List.getElem?_set_self (by rw [wl_len]; exact hk), wl_get (q := q') (List.getElem?_set_self hk), he]
  · rw [List.getElem?_set_ne (fun z => hi z.symm)]
    rw [wl, wl, List.getElem?_mapIdx, List.getElem?_mapIdx, List.getElem?_set_ne (fun z => hi z.symm), ho i hi]
theorem sh_same {sh : Shp} {k : Nat} {q : Sh1} (h : sh[k]? = some q) : sh.set k q = sh := by
  apply List.ext_getElem?
  intro i
  by_cases hi : i = k
  · subst hi
    rw [List.getElem?_set_self (List.getElem?_eq_some_iff.mp h).1, h]
  · rw [List.getElem?_set_ne (fun z => hi z.symm)]
theorem wl_push {D : DD} {b : Nat} {sh : Shp} {M M' : Mem} {q : Sh1} {e : va_E} (ho : ∀ i, i < sh.length → M' i = M i) (he : e = ce D b q (M' sh.length)) : wl D b sh M ++ [(b + sh.length, e)] = wl D b (sh ++ [q]) M' := by
  apply List.ext_getElem?
  intro i
  by_cases hi : i < sh.length
  · rw [List.getElem?_append_left (by rw [wl_len]; exact hi), wl, wl, List.getElem?_mapIdx, List.getElem?_mapIdx, List.getElem?_append_left hi, ho i hi]
  · rw [List.getElem?_append_right (by rw [wl_len]; omega), wl_len, wl, List.getElem?_mapIdx, List.getElem?_append_right (by omega)]
    by_cases hz : i - sh.length = 0
    · have : i = sh.length := by omega
      subst this
      simp [he]
    · obtain ⟨j, hj⟩ : ∃ j, i - sh.length = j + 1 := ⟨i - sh.length - 1, by omega⟩
      rw [hj]
      simp
def up (M : Mem) (k : Nat) (j x : Int) : Mem := fun k' j' => if k' = k ∧ j' = j then x else M k' j'
theorem up_s {M : Mem} {k : Nat} {j x : Int} : up M k j x k j = x := by simp [up]
theorem up_k {M : Mem} {k k' : Nat} {j j' x : Int} (h : k' ≠ k) : up M k j x k' j' = M k' j' := by simp [up, h]
theorem up_j {M : Mem} {k k' : Nat} {j j' x : Int} (h : j' ≠ j) : up M k j x k' j' = M k' j' := by simp [up, h]
theorem up_o {M : Mem} {k : Nat} {j x : Int} : ∀ i, i ≠ k → up M k j x i = M i := fun i hi => by funext j'; simp [up, hi]
theorem up_R {M : Mem} {k : Nat} {j x : Int} (h : ∀ k j, inR (M k j)) (hx : inR x) : ∀ k' j', inR (up M k j x k' j') := by
  intro k' j'
  unfold up
  split
  · exact hx
  · exact h k' j'
theorem ce_I {D : DD} {b n : Nat} {r : List (Option Nat)} {f : Int → Int} : ce D b (9, n, r) f = .inl (D.2.2.1, n, .inl (fun j => Int32.ofInt (f j))) := by simp [ce]
theorem ce_R {D : DD} {b n : Nat} {r : List (Option Nat)} {f : Int → Int} : ce D b (10, n, r) f = .inl (D.2.2.2.1, n, .inr (.inr (.inr (.inr (fun j => rfo b (f j)))))) := by simp [ce]
theorem ce_O {D : DD} {b : Nat} {q : Sh1} {f : Int → Int} (h : q.1 < 9) : ce D b q f = .inr (q.1, fvs b q f) := by
  unfold ce
  rw [if_neg (by omega), if_neg (by omega)]
theorem fvs_get {b : Nat} {q : Sh1} {f : Int → Int} {j : Nat} (h : j < nF q.1) : (fvs b q f)[j]? = some (fv b q j (f j)) := by
  simp [fvs, h]
theorem fvs_len {b : Nat} {q : Sh1} {f : Int → Int} : (fvs b q f).length = nF q.1 := by simp [fvs]
theorem fvs_setI {b : Nat} {q : Sh1} {f f' : Int → Int} {j : Nat} {x : Int} (ht : rfT (tyA q.1 j) = false) (hj : f' j = x) (ho : ∀ i : Nat, i ≠ j → f' i = f i) : (fvs b q f).set j (vi x) = fvs b q f' := by
  apply List.ext_getElem?
  intro i
  by_cases hi : i = j
  · subst hi
    by_cases hl : i < nF q.1
    · rw [List.getElem?_set_self (by rw [fvs_len]; exact hl), fvs_get hl, fv, if_neg (by rw [ht]; decide), hj]
    · rw [List.getElem?_eq_none (by rw [List.length_set, fvs_len]; omega), List.getElem?_eq_none (by rw [fvs_len]; omega)]
  · rw [List.getElem?_set_ne (fun z => hi z.symm)]
    by_cases hl : i < nF q.1
    · rw [fvs_get hl, fvs_get hl, ho i hi]
    · rw [List.getElem?_eq_none (by rw [fvs_len]; omega), List.getElem?_eq_none (by rw [fvs_len]; omega)]
theorem fvs_setR {b : Nat} {q q' : Sh1} {f : Int → Int} {j t : Nat} (hq : q'.1 = q.1) (ht : rfT (tyA q.1 j) = true) (hj : q'.2.2.getD j none = some t) (ho : ∀ i : Nat, i ≠ j → q'.2.2.getD i none = q.2.2.getD i none) : (fvs b q f).set j (vr b t) = fvs b q' f := by
  apply List.ext_getElem?
  intro i
  by_cases hi : i = j
  · subst hi
    by_cases hl : i < nF q.1
    · rw [List.getElem?_set_self (by rw [fvs_len]; exact hl), fvs_get (by rw [hq]; exact hl), fv, hq, if_pos ht, hj]
      rfl
    · rw [List.getElem?_eq_none (by rw [List.length_set, fvs_len]; omega), List.getElem?_eq_none (by rw [fvs_len, hq]; omega)]
  · rw [List.getElem?_set_ne (fun z => hi z.symm)]
    by_cases hl : i < nF q.1
    · rw [fvs_get hl, fvs_get (by rw [hq]; exact hl), fv, fv, hq, ho i hi]
    · rw [List.getElem?_eq_none (by rw [fvs_len]; omega), List.getElem?_eq_none (by rw [fvs_len, hq]; omega)]
/-- the heap holds our cells -/
def Rl (D : DD) (b : Nat) (sh : Shp) (M : Mem) (H : Heap) : Prop := va_P (dG D) vwCl (wl D b sh M) H ∧ ∀ k j, inR (M k j)
abbrev ours (b : Nat) : Nat → Prop := fun q => b ≤ q
/-- what else stands: nest words, Road[], the text, COMPACT_STRINGS -/
def EX (D : DD) (b : Nat) (U : State) (H : Heap) : Prop :=
  (∀ w ∈ tblN, va_Nw w U) ∧ va_AO RX4 U ∧ vk_S 1 [94] [txB] (fun _ => D.2.2.2.2.1) (fun _ => D.2.2.2.2.2) (ours b) U H ∧ vk_R RX7 81 txS D.2.2.2.2.1 U ∧ va_Z "java/lang/String" "COMPACT_STRINGS" "Z" (.int 1) (ours b) U H ∧ va_Zq "jdk/internal/util/Preconditions" "SIOOBE_FORMATTER" "Ljava/util/function/BiFunction;" (ours b) U H
theorem EX.same {D : DD} {b : Nat} {u U : State} {H : Heap} (hv : U.vm = u.vm) (h : EX D b u H) : EX D b U H := by
  have ha : u.vm.Alike U.vm := by rw [hv]; exact Vm.Alike.refl _
  exact ⟨fun w hw => va_Nw.same (nest_tab (List.mem_filter.mp hw).2) hv.symm (h.1 w hw), h.2.1.moved ha, h.2.2.1.moved ha, h.2.2.2.1.same hv, h.2.2.2.2.1.moved ha, h.2.2.2.2.2.moved ha⟩
theorem EX.warm {D : DD} {b : Nat} {s U : State} {H : Heap} (hW : s.WarmedH U.vm) (h : EX D b s H) : EX D b U H :=
  ⟨fun w hw => nest_warm (List.mem_filter.mp hw).2 hW (h.1 w hw), h.2.1.moved hW.alike, h.2.2.1.moved hW.alike, h.2.2.2.1.warm hW, h.2.2.2.2.1.moved hW.alike, h.2.2.2.2.2.moved hW.alike⟩
theorem EX.kept {D : DD} {b : Nat} {U : State} {H H1 : Heap} (hq : ∀ a : Nat, a < H.size → ¬ ours b a → H1[a]? = H[a]?) (h : EX D b U H) : EX D b U H1 :=
  ⟨h.1, h.2.1, h.2.2.1.kept hq, h.2.2.2.1, h.2.2.2.2.1.kept hq, h.2.2.2.2.2.kept hq⟩
def KK (D : DD) (U : State) : Prop := va_K (dG D) vwCl [(D.2.2.1, .int), (D.2.2.2.1, .object RX4)] U
/-! locals by their places -/
def lget : List (Option Value) → Nat → Option Value
  | [], _ => none
  | a :: _, 0 => a
  | _ :: l, n + 1 => lget l n
def lset : List (Option Value) → Nat → Option Value → List (Option Value)
  | [], _, _ => []
  | _ :: l, 0, v => v :: l
  | a :: l, n + 1, v => a :: lset l n v
def ents : Nat → List (Option Value) → List (Nat × Value)
  | _, [] => []
  | n, none :: l => ents (n + 1) l
  | n, some v :: l => (n, v) :: ents (n + 1) l
theorem ents_in : ∀ (l : List (Option Value)) (n i : Nat) (v : Value), lget l i = some v → (n + i, v) ∈ ents n l
  | [], _, _, _, h => by cases h
  | none :: _, _, 0, _, h => by cases h
  | some w :: l, n, 0, v, h => by
    cases h
    exact List.mem_cons_self
  | none :: l, n, i + 1, v, h => by
    have := ents_in l (n + 1) i v h
    rw [show n + 1 + i = n + (i + 1) by omega] at this
    exact this
  | some w :: l, n, i + 1, v, h => by
    have := ents_in l (n + 1) i v h
    rw [show n + 1 + i = n + (i + 1) by omega] at this
    exact List.mem_cons_of_mem _ this
theorem ents_of : ∀ (l : List (Option Value)) (n : Nat) (q : Nat × Value), q ∈ ents n l → n ≤ q.1 ∧ lget l (q.1 - n) = some q.2
  | [], _, _, h => by cases h
  | none :: l, n, q, h => by
    obtain ⟨h1, h2⟩ := ents_of l (n + 1) q h
    refine ⟨by omega, ?_⟩
    rw [show q.1 - n = (q.1 - (n + 1)) + 1 by omega]
    exact h2
  | some w :: l, n, q, h => by
    rcases List.mem_cons.mp h with rfl | h
    · simp [lget]
    · obtain ⟨h1, h2⟩ := ents_of l (n + 1) q h
      refine ⟨by omega, ?_⟩
      rw [show q.1 - n = (q.1 - (n + 1)) + 1 by omega]
      exact h2
theorem lget_set : ∀ (l : List (Option Value)) (i j : Nat) (v w : Value), lget (lset l i (some v)) j = some w → (j = i ∧ w = v) ∨ (j ≠ i ∧ lget l j = some w)
  | [], _, _, _, _, h => by cases h
  | a :: l, 0, 0, v, w, h => by cases h; exact Or.inl ⟨rfl, rfl⟩
  | a :: l, 0, j + 1, v, w, h => Or.inr ⟨by omega, h⟩
  | a :: l, i + 1, 0, v, w, h => Or.inr ⟨by omega, h⟩
  | a :: l, i + 1, j + 1, v, w, h => by
    rcases lget_set l i j v w h with ⟨h1, h2⟩ | ⟨h1, h2⟩
    · exact Or.inl ⟨by omega, h2⟩
    · exact Or.inr ⟨by omega, h2⟩
theorem lget_clr : ∀ (l : List (Option Value)) (i j : Nat) (w : Value), lget (lset l i none) j = some w → j ≠ i ∧ lget l j = some w
  | [], _, _, _, h => by cases h
  | a :: l, 0, 0, w, h => by cases h
  | a :: l, 0, j + 1, w, h => ⟨by omega, h⟩
  | a :: l, i + 1, 0, w, h => ⟨by omega, h⟩
  | a :: l, i + 1, j + 1, w, h => by
    obtain ⟨h1, h2⟩ := lget_clr l i j w h
    exact ⟨by omega, h2⟩
/-- the slot ahead holds no long -/
def okst (ls : List (Option Value)) : Nat → Bool
  | 0 => true
  | j + 1 => match lget ls j with
    | some v => v.category == 1
    | none => true
theorem lset_has {lsA : Array Slot} {nL i : Nat} {ls : List (Option Value)} {v : Value} (h : lv_has lsA nL ((i, v) :: (ents 0 ls).filter (fun q => !(q.1 == i) && !(q.1 + 1 == i && q.2.category == 2)))) (ho : okst ls i = true) : lv_has lsA nL (ents 0 (lset ls i (some v))) := by
  refine ⟨h.1, h.2.1, fun q hq => ?_⟩
  obtain ⟨-, h1⟩ := ents_of _ _ q hq
  rw [Nat.sub_zero] at h1
  rcases lget_set ls i q.1 v q.2 h1 with ⟨h2, h3⟩ | ⟨h2, h3⟩
  · have : q = (i, v) := Prod.ext h2 h3
    rw [this]
    exact h.2.2 (i, v) List.mem_cons_self
  · refine h.2.2 q (List.mem_cons_of_mem _ (List.mem_filter.mpr ⟨?_, ?_⟩))
    · have := ents_in ls 0 q.1 q.2 h3
      rw [Nat.zero_add] at this
      exact this
    · simp only [Bool.and_eq_true, Bool.not_eq_true', beq_eq_false_iff_ne, ne_eq, Bool.and_eq_false_iff]
      refine ⟨h2, ?_⟩
      by_cases hi : q.1 + 1 = i
      · right
        subst hi
        simp only [okst, h3, beq_iff_eq] at ho
        omega
      · exact Or.inl hi
theorem lset_hasL {lsA : Array Slot} {nL i : Nat} {ls : List (Option Value)} {v : Value} (h : lv_has lsA nL ((i, v) :: (ents 0 ls).filter (fun q => !(q.1 == i) && (!(q.1 == i + 1) && !(q.1 + 1 == i && q.2.category == 2))))) (ho : okst ls i = true) : lv_has lsA nL (ents 0 (lset (lset ls i (some v)) (i + 1) none)) := by
  refine ⟨h.1, h.2.1, fun q hq => ?_⟩
  obtain ⟨-, h1⟩ := ents_of _ _ q hq
  rw [Nat.sub_zero] at h1
  obtain ⟨h0, h1⟩ := lget_clr _ _ _ _ h1
  rcases lget_set ls i q.1 v q.2 h1 with ⟨h2, h3⟩ | ⟨h2, h3⟩
  · have : q = (i, v) := Prod.ext h2 h3
    rw [this]
    exact h.2.2 (i, v) List.mem_cons_self
  · refine h.2.2 q (List.mem_cons_of_mem _ (List.mem_filter.mpr ⟨?_, ?_⟩))
    · have := ents_in ls 0 q.1 q.2 h3
      rw [Nat.zero_add] at this
      exact this
    · simp only [Bool.and_eq_true, Bool.not_eq_true', beq_eq_false_iff_ne, ne_eq, Bool.and_eq_false_iff]
      refine ⟨h2, h0, ?_⟩
      by_cases hi : q.1 + 1 = i
      · right
        subst hi
        simp only [okst, h3, beq_iff_eq] at ho
        omega
      · exact Or.inl hi
theorem lget_at {lsA : Array Slot} {nL i : Nat} {ls : List (Option Value)} {v : Value} (h : lv_has lsA nL (ents 0 ls)) (hg : lget ls i = some v) : lsA[i]? = some (.val v) := by
  have := h.2.2 (0 + i, v) (ents_in ls 0 i v hg)
  rw [Nat.zero_add] at this
  exact this
/-- fewer known locals -/
theorem ents_sub {lsA : Array Slot} {nL : Nat} {ls ls' : List (Option Value)} (h : lv_has lsA nL (ents 0 ls)) (hs : ∀ i v, lget ls' i = some v → lget ls i = some v) : lv_has lsA nL (ents 0 ls') := by
  refine ⟨h.1, h.2.1, fun q hq => ?_⟩
  obtain ⟨-, h1⟩ := ents_of _ _ q hq
  rw [Nat.sub_zero] at h1
  exact lget_at h (hs _ _ h1)
/-- a call's arguments as locals -/
def lent : List Value → List (Option Value)
  | [] => []
  | v :: l => if v.category = 2 then some v :: none :: lent l else some v :: lent l
def lpad (n : Nat) (l : List (Option Value)) : List (Option Value) := l ++ List.replicate (n - l.length) none
theorem lget_pad (n i : Nat) (l : List (Option Value)) (v : Value) (h : lget (lpad n l) i = some v) : lget l i = some v := by
  unfold lpad at h
  generalize n - l.length = k at h
  induction l generalizing i with
  | nil =>
    exfalso
    rw [List.nil_append] at h
    induction k generalizing i with
    | zero => cases h
    | succ k ih =>
      rw [List.replicate_succ] at h
      cases i with
      | zero => cases h
      | succ i => exact ih i h
  | cons a l ih =>
    cases i with
    | zero => exact h
    | succ i => exact ih i h
