/-! THE REFERENCE'S CELLS. 72 its fields, 73 w, 74 d, 75 text, 76 numbers, 77 row, 78 .. 82 clues, 83, 84 heights -/
def roM (M : Mem) (h : Int) : Rd := fun j => if 0 ≤ j ∧ j ≤ 18 then M 74 (h + j) else 0
def putM (M : Mem) (h : Int) (f : Rd) : Mem := fun k j => if k = 74 ∧ h ≤ j ∧ j ≤ h + 18 then f (j - h) else M k j
section PM
variable {M : Mem} {h : Int} {f g : Rd}
theorem pm_i {i : Int} (hi : 0 ≤ i ∧ i ≤ 18) : putM M h f 74 (h + i) = f i := by
  unfold putM
  rw [if_pos ⟨rfl, by omega, by omega⟩]
  congr 1; omega
theorem pm_j {i j : Int} (e : j = h + i) (hi : 0 ≤ i ∧ i ≤ 18) : putM M h f 74 j = f i := by subst e; exact pm_i hi
theorem pm_z {i : Int} (hi : 0 ≤ i ∧ i ≤ 18) : putM M 0 f 74 i = f i := pm_j (by omega) hi
theorem pm_o {j : Int} (hj : j < h ∨ h + 18 < j) : putM M h f 74 j = M 74 j := by
  unfold putM
  rw [if_neg (by omega)]
theorem pm_c {k : Nat} (hk : k ≠ 74) : putM M h f k = M k := by
  funext j
  unfold putM
  rw [if_neg (by omega)]
theorem pm_k {k : Nat} {j : Int} (hk : k ≠ 74) : putM M h f k j = M k j := by rw [pm_c hk]
theorem pm_self : putM M h (roM M h) = M := by
  funext k j
  unfold putM roM
  split
  · rename_i q; obtain ⟨rfl, q1, q2⟩ := q
    rw [if_pos (by omega)]
    congr 1; omega
  · rfl
theorem pm_pm : putM (putM M h f) h g = putM M h g := by
  funext k j
  unfold putM
  split <;> rfl
theorem ro_pm (hz : ∀ j, j < 0 ∨ 18 < j → f j = 0) : roM (putM M h f) h = f := by
  funext j
  unfold roM
  split
  · rename_i q; exact pm_i q
  · exact (hz j (by omega)).symm
theorem ro_pmo {h' : Int} (hh : h' + 18 < h ∨ h + 18 < h') : roM (putM M h f) h' = roM M h' := by
  funext j
  unfold roM
  split
  · exact pm_o (by omega)
  · rfl
theorem pmu {i j x : Int} (e : j = h + i) (hi : 0 ≤ i ∧ i ≤ 18) : up (putM M h f) 74 j x = putM M h (uF f i x) := by
  subst e
  funext k j
  unfold up putM uF
  by_cases h1 : k = 74 ∧ j = h + i
  · rw [if_pos h1, if_pos (by omega), if_pos (by omega)]
  · rw [if_neg h1]
    by_cases h2 : k = 74 ∧ h ≤ j ∧ j ≤ h + 18
    · rw [if_pos h2, if_pos h2]
      exact (if_neg (by omega)).symm
    · rw [if_neg h2, if_neg h2]
theorem roM_i {i : Int} (hi : 0 ≤ i ∧ i ≤ 18) : M 74 (h + i) = roM M h i := by unfold roM; rw [if_pos hi]
theorem roM_j {i j : Int} (e : j = h + i) (hi : 0 ≤ i ∧ i ≤ 18) : M 74 j = roM M h i := by subst e; exact roM_i hi
theorem roM_z : ∀ j, j < 0 ∨ 18 < j → roM M h j = 0 := fun j hj => by unfold roM; rw [if_neg (by omega)]
end PM
theorem roM_c {M N : Mem} {h : Int} (e : ∀ j, h ≤ j → j ≤ h + 18 → N 74 j = M 74 j) : roM N h = roM M h := by
  funext j
  unfold roM
  split
  · exact e _ (by omega) (by omega)
  · rfl
/-- a moor in a row of numbers, from o on -/
def moW (g : Rd) (o : Int) : Mo := fun a i =>
  if a = 0 then (if 0 ≤ i ∧ i ≤ 4 then g (o + i) else 0)
  else if a = 1 then (if 0 ≤ i ∧ i < 16 then g (o + 5 + i) else 0)
  else if a = 2 then (if 0 ≤ i ∧ i < g (o + 1) then g (o + 21 + i) else 0)
  else if a = 3 then (if 0 ≤ i ∧ i < g (o + 1) then g (o + 25 + i) else 0)
  else if a = 4 then (if 0 ≤ i ∧ i < g (o + 2) then g (o + 29 + i) else 0)
  else if a = 5 then (if 0 ≤ i ∧ i < g (o + 2) then g (o + 35 + i) else 0)
  else if a = 6 then (if 0 ≤ i ∧ i < g (o + 3) then g (o + 41 + i) else 0)
  else if a = 7 then (if 0 ≤ i ∧ i < g (o + 3) then g (o + 49 + i) else 0)
  else if a = 8 then (if 0 ≤ i ∧ i < g (o + 3) then g (o + 57 + i) else 0)
  else if a = 9 then (if (0 ≤ i ∧ i < 10) ∧ ((0 < g (o + 4) ∧ g (o + 65) ≤ i ∧ i ≤ g (o + 67)) ∨ (1 < g (o + 4) ∧ g (o + 66) ≤ i ∧ i ≤ g (o + 68))) then 1 else 0)
  else 0
abbrev moM (M : Mem) : Mo := moW (M 73) 0
section MoM
variable {M : Mem} {i : Int}
theorem mM_0 : M 73 0 = moM M 0 0 := rfl
theorem mM_1 : M 73 1 = moM M 0 1 := rfl
theorem mM_2 : M 73 2 = moM M 0 2 := rfl
theorem mM_3 : M 73 3 = moM M 0 3 := rfl
theorem mM_4 : M 73 4 = moM M 0 4 := rfl
theorem mM_f (h : 0 ≤ i ∧ i < 16) : M 73 (5 + i) = moM M 1 i := by simp [moW, h]
theorem mM_k (h : 0 ≤ i ∧ i < moM M 0 1) : M 73 (21 + i) = moM M 2 i := by
  have : 0 ≤ i ∧ i < M 73 1 := h
  simp [moW, this]
theorem mM_r (h : 0 ≤ i ∧ i < moM M 0 1) : M 73 (25 + i) = moM M 3 i := by
  have : 0 ≤ i ∧ i < M 73 1 := h
  simp [moW, this]
theorem mM_p (h : 0 ≤ i ∧ i < moM M 0 2) : M 73 (29 + i) = moM M 4 i := by
  have : 0 ≤ i ∧ i < M 73 2 := h
  simp [moW, this]
theorem mM_y (h : 0 ≤ i ∧ i < moM M 0 2) : M 73 (35 + i) = moM M 5 i := by
  have : 0 ≤ i ∧ i < M 73 2 := h
  simp [moW, this]
theorem mM_d (h : 0 ≤ i ∧ i < moM M 0 3) : M 73 (41 + i) = moM M 6 i := by
  have : 0 ≤ i ∧ i < M 73 3 := h
  simp [moW, this]
theorem mM_w (h : 0 ≤ i ∧ i < moM M 0 3) : M 73 (49 + i) = moM M 7 i := by
  have : 0 ≤ i ∧ i < M 73 3 := h
  simp [moW, this]
theorem mM_t (h : 0 ≤ i ∧ i < moM M 0 3) : M 73 (57 + i) = moM M 8 i := by
  have : 0 ≤ i ∧ i < M 73 3 := h
  simp [moW, this]
end MoM
def txM (M : Mem) : Rd := fun i => if 0 ≤ i ∧ i < M 72 5 then M 75 i else 0
abbrev unM (M : Mem) : Int × (Int → Rd) := (M 72 2, mskR (M 72 2) (fun k => roM M (57 + 19 * k)))
abbrev keM (M : Mem) : Int × (Int → Rd) := (M 72 3, mskR (M 72 3) (fun k => roM M (19 + 19 * k)))
abbrev beM (M : Mem) : Int × Rd × Rd := (M 72 10, msk (M 72 10) (M 78), msk (M 72 10) (M 79))
abbrev foM (M : Mem) : Int × Rd × Rd × Rd := (M 72 13, msk (M 72 13) (M 80), msk (M 72 13) (M 81), msk (M 72 13) (M 82))
def absM (M : Mem) : AS := (M 72 5, txM M, moM M, roM M 0, unM M, keM M, beM M, foM M)
/-- what is so of every state -/
def IS (S : AS) (B : Int) : Prop := WFm S.2.2.1 ∧ (0 ≤ S.1 ∧ S.1 ≤ 200) ∧ WFr S.2.2.2.1 B ∧ ((0 ≤ S.2.2.2.2.1.1 ∧ S.2.2.2.2.1.1 ≤ 8) ∧ ∀ k : Int, 0 ≤ k → k < S.2.2.2.2.1.1 → WFr (S.2.2.2.2.1.2 k) B) ∧ ((0 ≤ S.2.2.2.2.2.1.1 ∧ S.2.2.2.2.2.1.1 ≤ 2) ∧ ∀ k : Int, 0 ≤ k → k < S.2.2.2.2.2.1.1 → WFr (S.2.2.2.2.2.1.2 k) B) ∧ ((0 ≤ S.2.2.2.2.2.2.1.1 ∧ S.2.2.2.2.2.2.1.1 ≤ 6) ∧ ∀ k : Int, 0 ≤ k → k < S.2.2.2.2.2.2.1.1 → (0 ≤ S.2.2.2.2.2.2.1.2.1 k ∧ S.2.2.2.2.2.2.1.2.1 k ≤ 15)) ∧ ((0 ≤ S.2.2.2.2.2.2.2.1 ∧ S.2.2.2.2.2.2.2.1 ≤ 6) ∧ ∀ k : Int, 0 ≤ k → k < S.2.2.2.2.2.2.2.1 → (0 ≤ S.2.2.2.2.2.2.2.2.1 k ∧ S.2.2.2.2.2.2.2.2.1 k ≤ 15))
theorem IC_IS {M : Mem} {B : Int} (hI : IC M B) : IS (absC M) B := by
  obtain ⟨h1, h2, h3, h4, h5, h6, h7, h8⟩ := hI
  refine ⟨h1, h2, h3.1, ⟨h4.1.1, fun k a c => ?_⟩, ⟨h5.1.1, fun k a c => ?_⟩, ⟨h6.1.1, fun k a c => ?_⟩, ⟨h7.1, fun k a c => ?_⟩⟩
  · have c' : k < M 27 1 := c
    show WFr (mskR (M 27 1) (shR M 27) k) B
    rw [mskR_i ⟨a, c'⟩]; exact (h4.2 k a c').1
  · have c' : k < M 45 1 := c
    show WFr (mskR (M 45 1) (shR M 45) k) B
    rw [mskR_i ⟨a, c'⟩]; exact (h5.2 k a c').1
  · have c' : k < M 51 3 := c
    show 0 ≤ clC M 51 1 k ∧ clC M 51 1 k ≤ 15
    rw [clC_i ⟨a, c'⟩]; exact (h6.1.2 k a c').1
  · have c' : k < M 55 3 := c
    show 0 ≤ clC M 55 1 k ∧ clC M 55 1 k ≤ 15
    rw [clC_i ⟨a, c'⟩]; exact (h7.2 k a c').1
/-- the places that a call may use as it likes -/
def SM (c : Nat) (j : Int) : Prop := c = 76 ∨ c = 77 ∨ c = 83 ∨ c = 84 ∨ (c = 73 ∧ 69 ≤ j) ∨ (c = 74 ∧ 209 ≤ j) ∨ (c = 72 ∧ (j = 6 ∨ j = 7))
def FrM (M M' : Mem) : Prop := ∀ c j, ¬ SM c j → M' c j = M c j
theorem FrM_r {M : Mem} : FrM M M := fun _ _ _ => rfl
theorem FrM_t {M N P : Mem} (h1 : FrM M N) (h2 : FrM N P) : FrM M P := fun c j hc => (h2 c j hc).trans (h1 c j hc)
theorem FrM_up {M N : Mem} {k : Nat} {j x : Int} (h : FrM M N) (hk : SM k j) : FrM M (up N k j x) := fun c i hc => by
  unfold up
  rw [if_neg (fun q => hc (by rw [q.1, q.2]; exact hk))]
  exact h c i hc
theorem FrM_pm {M N : Mem} {h : Int} {f : Rd} (hF : FrM M N) (hh : 209 ≤ h) : FrM M (putM N h f) := fun c i hc => by
  unfold putM
  rw [if_neg (fun q => hc (by unfold SM; omega))]
  exact hF c i hc
theorem moW_c {g g' : Rd} {o : Int} (e : ∀ j, o ≤ j → j ≤ o + 68 → g' j = g j) (h1 : g (o + 1) ≤ 4) (h2 : g (o + 2) ≤ 6) (h3 : g (o + 3) ≤ 8) : moW g' o = moW g o := by
  funext a i
  unfold moW
  rw [e (o + 1) (by omega) (by omega), e (o + 2) (by omega) (by omega), e (o + 3) (by omega) (by omega), e (o + 4) (by omega) (by omega), e (o + 65) (by omega) (by omega), e (o + 66) (by omega) (by omega), e (o + 67) (by omega) (by omega), e (o + 68) (by omega) (by omega)]
  have E : ∀ (c : Prop) [Decidable c] (x : Int), (c → o ≤ x ∧ x ≤ o + 68) → (if c then g' x else 0) = (if c then g x else 0) := fun c _ x h => by
    split
    · rename_i hc; exact e x (h hc).1 (h hc).2
    · rfl
  rw [E (0 ≤ i ∧ i ≤ 4) (o + i) (by omega), E (0 ≤ i ∧ i < 16) (o + 5 + i) (by omega), E (0 ≤ i ∧ i < g (o + 1)) (o + 21 + i) (by omega), E (0 ≤ i ∧ i < g (o + 1)) (o + 25 + i) (by omega), E (0 ≤ i ∧ i < g (o + 2)) (o + 29 + i) (by omega), E (0 ≤ i ∧ i < g (o + 2)) (o + 35 + i) (by omega), E (0 ≤ i ∧ i < g (o + 3)) (o + 41 + i) (by omega), E (0 ≤ i ∧ i < g (o + 3)) (o + 49 + i) (by omega), E (0 ≤ i ∧ i < g (o + 3)) (o + 57 + i) (by omega)]
/-- the parts, each by its own cells -/
theorem absM_gen {M' : Mem} {S : AS} (h1 : M' 72 5 = S.1 ∧ txM M' = S.2.1) (h2 : moM M' = S.2.2.1) (h3 : roM M' 0 = S.2.2.2.1) (h4 : unM M' = S.2.2.2.2.1) (h5 : keM M' = S.2.2.2.2.2.1) (h6 : beM M' = S.2.2.2.2.2.2.1) (h7 : foM M' = S.2.2.2.2.2.2.2) : absM M' = S := by
  unfold absM
  rw [h1.1, h1.2, h2, h3, h4, h5, h6, h7]
theorem kM_tx {M M' : Mem} (e : M' 72 5 = M 72 5) (e2 : M' 75 = M 75) : M' 72 5 = M 72 5 ∧ txM M' = txM M := ⟨e, by unfold txM; rw [e, e2]⟩
theorem kM_mo {M M' : Mem} {B : Int} (hI : IS (absM M) B) (e : ∀ j, 0 ≤ j → j ≤ 68 → M' 73 j = M 73 j) : moM M' = moM M := by
  have h := hI.1
  exact moW_c (fun j a c => e j a (by omega)) h.2.1.2 h.2.2.1.2 h.2.2.2.1.2
theorem kM_un {M M' : Mem} {B : Int} (hI : IS (absM M) B) (e : M' 72 2 = M 72 2) (e2 : ∀ j, 57 ≤ j → j ≤ 208 → M' 74 j = M 74 j) : unM M' = unM M := by
  have h : 0 ≤ M 72 2 ∧ M 72 2 ≤ 8 := hI.2.2.2.1.1
  unfold unM
  rw [e, mskR_e (fun k a c => roM_c (fun j b d => e2 j (by omega) (by omega)))]
theorem kM_ke {M M' : Mem} {B : Int} (hI : IS (absM M) B) (e : M' 72 3 = M 72 3) (e2 : ∀ j, 19 ≤ j → j ≤ 56 → M' 74 j = M 74 j) : keM M' = keM M := by
  have h : 0 ≤ M 72 3 ∧ M 72 3 ≤ 2 := hI.2.2.2.2.1.1
  unfold keM
  rw [e, mskR_e (fun k a c => roM_c (fun j b d => e2 j (by omega) (by omega)))]
theorem kM_be {M M' : Mem} (e : M' 72 10 = M 72 10) (e2 : M' 78 = M 78) (e3 : M' 79 = M 79) : beM M' = beM M := by
  unfold beM; rw [e, e2, e3]
theorem kM_fo {M M' : Mem} (e : M' 72 13 = M 72 13) (e2 : M' 80 = M 80) (e3 : M' 81 = M 81) (e4 : M' 82 = M 82) : foM M' = foM M := by
  unfold foM; rw [e, e2, e3, e4]
theorem FrM_c {M M' : Mem} (h : FrM M M') {c : Nat} (hc : ∀ j, ¬ SM c j) : M' c = M c := funext fun j => h c j (hc j)
theorem absM_fr {M M' : Mem} {B : Int} (hI : IS (absM M) B) (h : FrM M M') : absM M' = absM M ∧ ∀ c, c < 72 → M' c = M c := by
  refine ⟨absM_gen (kM_tx (h _ _ (by unfold SM; omega)) (FrM_c h (fun j => by unfold SM; omega))) (kM_mo hI (fun j a c => h _ _ (by unfold SM; omega))) (roM_c (fun j a c => h _ _ (by unfold SM; omega))) (kM_un hI (h _ _ (by unfold SM; omega)) (fun j a c => h _ _ (by unfold SM; omega))) (kM_ke hI (h _ _ (by unfold SM; omega)) (fun j a c => h _ _ (by unfold SM; omega))) (kM_be (h _ _ (by unfold SM; omega)) (FrM_c h (fun j => by unfold SM; omega)) (FrM_c h (fun j => by unfold SM; omega))) (kM_fo (h _ _ (by unfold SM; omega)) (FrM_c h (fun j => by unfold SM; omega)) (FrM_c h (fun j => by unfold SM; omega)) (FrM_c h (fun j => by unfold SM; omega))), fun c hc => FrM_c h (fun j => by unfold SM; omega)⟩
/-- a call's end: the answer, the new state, the other side's cells untouched -/
def QM (M : Mem) (S : AS) (X : Int) : Option Value → Mem → Prop := fun v M' => v = some (vi X) ∧ absM M' = S ∧ ∀ c, c < 72 → M' c = M c
theorem QM_ro {M M' : Mem} {B X x : Int} (hI : IS (absM M) B) (h : FrM M M') (e : x = X) : QM M (absM M) X (some (vi x)) M' := by
  obtain ⟨a, c⟩ := absM_fr hI h
  exact ⟨by rw [e], a, c⟩
/-! leaves -/
theorem j_in (b : Nat) (sh : Shp) (M : Mem) (v lo hi : Int) (h1 : inR v) (h2 : inR lo) (h3 : inR hi) : Ex 0 mX8_in b sh M [vl v, vl lo, vl hi] (some (vi (if lo ≤ v ∧ v ≤ hi then 1 else 0))) M := by
  refine MC_of (ls := [some (vl v), none, some (vl lo), none, some (vl hi), none]) (by decide) rfl (Nat.le_of_ble_eq_true rfl) ?_
  refine R_lload_n (pc := 0) dX8_in_0 rfl ?_
  refine R_lload_n (pc := 1) dX8_in_1 rfl ?_
  refine R_lcmp (pc := 2) dX8_in_2 (by simp only [icmp, inL]; omega) ?_
  refine R_if_lt (pc := 3) (tgt := 17) dX8_in_3 (by decide) (by simp only [icmp, inL]; omega) (fun h_3 => ?_) (fun h_3 => ?_)
  · refine R_iconst (pc := 17) dX8_in_17 ?_
    refine R_zret (pc := 18) dX8_in_18 (by first | exact Or.inl rfl | exact Or.inr rfl | omega) ?_
    exact eqi (by simp only [icmp] at *; omega) rfl
  · refine R_lload_n (pc := 6) dX8_in_6 rfl ?_
    refine R_lload (pc := 7) dX8_in_7 rfl ?_
    refine R_lcmp (pc := 9) dX8_in_9 (by simp only [icmp, inL]; omega) ?_
    refine R_if_gt (pc := 10) (tgt := 17) dX8_in_10 (by decide) (by simp only [icmp, inL]; omega) (fun h_10 => ?_) (fun h_10 => ?_)
    · refine R_iconst (pc := 17) dX8_in_17 ?_
      refine R_zret (pc := 18) dX8_in_18 (by first | exact Or.inl rfl | exact Or.inr rfl | omega) ?_
      exact eqi (by simp only [icmp] at *; omega) rfl
    · refine R_iconst (pc := 13) dX8_in_13 ?_
      refine R_goto (pc := 14) (tgt := 18) dX8_in_14 (by decide) ?_
      refine R_zret (pc := 18) dX8_in_18 (by first | exact Or.inl rfl | exact Or.inr rfl | omega) ?_
      exact eqi (by simp only [icmp] at *; omega) rfl
theorem j_has (b : Nat) (sh : Shp) (M : Mem) (x t : Int) (hx : 0 ≤ x ∧ x < 64) (ht : 0 ≤ t ∧ t < 6) : Ex 0 mX8_has b sh M [vi x, vi t] (some (vi (sb x t))) M := by
  have h01 := sb01 x t
  refine MC_of (ls := [some (vi x), some (vi t)]) (by decide) rfl (Nat.le_of_ble_eq_true rfl) ?_
  refine R_iload_n (pc := 0) dX8_has_0 rfl ?_
  refine R_iload_n (pc := 1) dX8_has_1 rfl ?_
  refine R_ishr (pc := 2) dX8_has_2 (by omega) ?_
  refine R_iconst (pc := 3) dX8_has_3 ?_
  refine R_and1 (pc := 4) dX8_has_4 ?_
  refine R_iconst (pc := 5) dX8_has_5 ?_
  refine R_cmp_ne (pc := 6) (tgt := 13) dX8_has_6 (by decide) (by omega) (fun h_6 => ?_) (fun h_6 => ?_)
  · refine R_iconst (pc := 13) dX8_has_13 ?_
    refine R_zret (pc := 14) dX8_has_14 (by first | exact Or.inl rfl | exact Or.inr rfl | omega) ?_
    exact eqi (by simp only [sb] at h01 ⊢; omega) rfl
  · refine R_iconst (pc := 9) dX8_has_9 ?_
    refine R_goto (pc := 10) (tgt := 14) dX8_has_10 (by decide) ?_
    refine R_zret (pc := 14) dX8_has_14 (by first | exact Or.inl rfl | exact Or.inr rfl | omega) ?_
    exact eqi (by simp only [sb] at h01 ⊢; omega) rfl
theorem j_ones (b : Nat) (sh : Shp) (M : Mem) (x : Int) (hx : 0 ≤ x ∧ x < 64) : Ex 0 mX8_ones b sh M [vi x] (some (vi (cnt x))) M := by
  have L : ∀ (n k : Nat) (i s : Int), i = k → k ≤ 6 → 6 - k < n → s = (List.range k).foldl (fun (a : Int) (j : Nat) => a + x / 2 ^ j % 2) 0 → 0 ≤ s ∧ s ≤ k → MW yX8_ones cX8_ones 3 (some .int) (rmD 0 0 0) (FM (EQ (some (vi (cnt x))) M) b sh 0 0) b sh.length 0 0 4 [some (vi x), some (vi s), some (vi i)] [] sh M := by
    intro n
    induction n with
    | zero => intro k i s h0 h1 h2; exact absurd h2 (by omega)
    | succ n ih =>
      intro k i s h0 h1 h2 h3 h4
      by_cases hk : k < 6
      · have hk' := hk
        refine R_iload_n (pc := 4) dX8_ones_4 rfl ?_
        refine R_bipush (pc := 5) dX8_ones_5 rfl ?_
        refine R_cmp_ge (pc := 7) (tgt := 24) dX8_ones_7 (by decide) (by omega) (fun h_7 => ?_) (fun h_7 => ?_)
        · exact absurd h_7 (by omega)
        · refine R_iload_n (pc := 10) dX8_ones_10 rfl ?_
          refine R_iload_n (pc := 11) dX8_ones_11 rfl ?_
          refine R_iload_n (pc := 12) dX8_ones_12 rfl ?_
          refine R_ishr (pc := 13) dX8_ones_13 (by omega) ?_
          refine R_iconst (pc := 14) dX8_ones_14 ?_
          refine R_and1 (pc := 15) dX8_ones_15 ?_
          refine R_iadd (pc := 16) dX8_ones_16 ?_
          refine R_istore_n (pc := 17) dX8_ones_17 (by decide) rfl rfl ?_
          refine R_iinc (pc := 18) dX8_ones_18 rfl (by decide) rfl rfl ?_
          refine R_goto (pc := 21) (tgt := 4) dX8_ones_21 (by decide) ?_
          refine ih (k + 1) (i + 1) _ (by omega) (by omega) (by omega) ?_ (by omega)
          rw [List.range_succ, List.foldl_append, ← h3, show i.toNat = k by omega]
          rfl
      · have ek : k = 6 := by omega
        subst ek
        refine R_iload_n (pc := 4) dX8_ones_4 rfl ?_
        refine R_bipush (pc := 5) dX8_ones_5 rfl ?_
        refine R_cmp_ge (pc := 7) (tgt := 24) dX8_ones_7 (by decide) (by omega) (fun h_7 => ?_) (fun h_7 => ?_)
        · refine R_iload_n (pc := 24) dX8_ones_24 rfl ?_
          refine R_iret (pc := 25) dX8_ones_25 ?_
          refine eqi ?_ rfl
          rw [h3]
          show ((((((0 : Int) + x / 2 ^ 0 % 2) + x / 2 ^ 1 % 2) + x / 2 ^ 2 % 2) + x / 2 ^ 3 % 2) + x / 2 ^ 4 % 2) + x / 2 ^ 5 % 2 = _
          unfold cnt
          omega
        · exact absurd h_7 (by omega)
  refine MC_of (ls := [some (vi x), none, none]) (by decide) rfl (Nat.le_of_ble_eq_true rfl) ?_
  refine R_iconst (pc := 0) dX8_ones_0 ?_
  refine R_istore_n (pc := 1) dX8_ones_1 (by decide) rfl rfl ?_
  refine R_iconst (pc := 2) dX8_ones_2 ?_
  refine R_istore_n (pc := 3) dX8_ones_3 (by decide) rfl rfl ?_
  exact L 20 0 0 0 rfl (by omega) (by omega) rfl (by omega)
theorem j_apart (b : Nat) (sh : Shp) (M : Mem) (x z : Int) (hx : inR x) (hz : inR z) : Ex 0 mX8_apart b sh M [vi x, vi z] (some (vi (ab x z))) M := by
  refine MC_of (ls := [some (vi x), some (vi z)]) (by decide) rfl (Nat.le_of_ble_eq_true rfl) ?_
  refine R_iload_n (pc := 0) dX8_apart_0 rfl ?_
  refine R_iload_n (pc := 1) dX8_apart_1 rfl ?_
  refine R_cmp_ge (pc := 2) (tgt := 11) dX8_apart_2 (by decide) (by omega) (fun h_2 => ?_) (fun h_2 => ?_)
  · refine R_iload_n (pc := 11) dX8_apart_11 rfl ?_
    refine R_iload_n (pc := 12) dX8_apart_12 rfl ?_
    refine R_isub (pc := 13) dX8_apart_13 ?_
    refine R_iret (pc := 14) dX8_apart_14 ?_
    exact eqi (by simp only [ab]; omega) rfl
  · refine R_iload_n (pc := 5) dX8_apart_5 rfl ?_
    refine R_iload_n (pc := 6) dX8_apart_6 rfl ?_
    refine R_isub (pc := 7) dX8_apart_7 ?_
    refine R_goto (pc := 8) (tgt := 14) dX8_apart_8 (by decide) ?_
    refine R_iret (pc := 14) dX8_apart_14 ?_
    exact eqi (by simp only [ab]; omega) rfl
theorem j_toward (b : Nat) (sh : Shp) (M : Mem) (x z : Int) (hx : inR x) (hz : inR z) : Ex 0 mX8_toward b sh M [vi x, vi z] (some (vi (tw x z))) M := by
  refine MC_of (ls := [some (vi x), some (vi z)]) (by decide) rfl (Nat.le_of_ble_eq_true rfl) ?_
  refine R_iload_n (pc := 0) dX8_toward_0 rfl ?_
  refine R_iload_n (pc := 1) dX8_toward_1 rfl ?_
  refine R_cmp_ge (pc := 2) (tgt := 11) dX8_toward_2 (by decide) (by omega) (fun h_2 => ?_) (fun h_2 => ?_)
  · refine R_iload_n (pc := 11) dX8_toward_11 rfl ?_
    refine R_iload_n (pc := 12) dX8_toward_12 rfl ?_
    refine R_cmp_le (pc := 13) (tgt := 22) dX8_toward_13 (by decide) (by omega) (fun h_13 => ?_) (fun h_13 => ?_)
    · refine R_iload_n (pc := 22) dX8_toward_22 rfl ?_
      refine R_iret (pc := 23) dX8_toward_23 ?_
      exact eqi (by simp only [tw]; omega) rfl
    · refine R_iload_n (pc := 16) dX8_toward_16 rfl ?_
      refine R_iconst (pc := 17) dX8_toward_17 ?_
      refine R_isub (pc := 18) dX8_toward_18 ?_
      refine R_goto (pc := 19) (tgt := 23) dX8_toward_19 (by decide) ?_
      refine R_iret (pc := 23) dX8_toward_23 ?_
      exact eqi (by simp only [tw]; omega) rfl
  · refine R_iload_n (pc := 5) dX8_toward_5 rfl ?_
    refine R_iconst (pc := 6) dX8_toward_6 ?_
    refine R_iadd (pc := 7) dX8_toward_7 ?_
    refine R_goto (pc := 8) (tgt := 23) dX8_toward_8 (by decide) ?_
    refine R_iret (pc := 23) dX8_toward_23 ?_
    exact eqi (by simp only [tw]; omega) rfl
theorem j_isPost (b : Nat) (sh : Shp) (M : Mem) (hsh : Hm sh) (i : Int) (hi : inR i) (hm : 0 ≤ moM M 0 0 ∧ moM M 0 0 ≤ 100) : Ex 1 mX8_isPost b sh M [vr b 72, vi i] (some (vi (if 0 ≤ i ∧ i ≤ moM M 0 0 - 1 then 1 else 0))) M := by
  refine MC_of (ls := [some (vr b 72), some (vi i)]) (by decide) rfl (Nat.le_of_ble_eq_true rfl) ?_
  refine R_iload_n (pc := 0) dX8_isPost_0 rfl ?_
  refine R_i2l (pc := 1) dX8_isPost_1 (by omega) ?_
  refine R_lconst (pc := 2) dX8_isPost_2 (x := 0) rfl ?_
  refine R_aload_n (pc := 3) dX8_isPost_3 rfl ?_
  refine R_getR (pc := 4) dX8_isPost_4 fl_RX8_7 rfl (hsh _ _ rfl) rfl ?_
  refine R_iconst (pc := 7) dX8_isPost_7 ?_
  refine R_iald (pc := 8) dX8_isPost_8 (hsh _ _ rfl) (by omega) (mM_0) ?_
  refine R_iconst (pc := 9) dX8_isPost_9 ?_
  refine R_isub (pc := 10) dX8_isPost_10 ?_
  refine R_i2l (pc := 11) dX8_isPost_11 (by omega) ?_
  refine R_S3i (pc := 12) dX8_isPost_12 ss_RX8_69 (j_in b sh M _ _ _ hi (by omega) (by omega)) (Nat.le_of_ble_eq_true rfl) (by decide) ?_
  refine R_zret (pc := 15) dX8_isPost_15 (by first | exact Or.inl rfl | exact Or.inr rfl | omega) ?_
  exact eqi rfl rfl
theorem j_isWalker (b : Nat) (sh : Shp) (M : Mem) (hsh : Hm sh) (i : Int) (hi : inR i) (hm : 0 ≤ moM M 0 1 ∧ moM M 0 1 ≤ 100) : Ex 1 mX8_isWalker b sh M [vr b 72, vi i] (some (vi (if 0 ≤ i ∧ i ≤ moM M 0 1 - 1 then 1 else 0))) M := by
  refine MC_of (ls := [some (vr b 72), some (vi i)]) (by decide) rfl (Nat.le_of_ble_eq_true rfl) ?_
  refine R_iload_n (pc := 0) dX8_isWalker_0 rfl ?_
  refine R_i2l (pc := 1) dX8_isWalker_1 (by omega) ?_
  refine R_lconst (pc := 2) dX8_isWalker_2 (x := 0) rfl ?_
  refine R_aload_n (pc := 3) dX8_isWalker_3 rfl ?_
  refine R_getR (pc := 4) dX8_isWalker_4 fl_RX8_7 rfl (hsh _ _ rfl) rfl ?_
  refine R_iconst (pc := 7) dX8_isWalker_7 ?_
  refine R_iald (pc := 8) dX8_isWalker_8 (hsh _ _ rfl) (by omega) (mM_1) ?_
  refine R_iconst (pc := 9) dX8_isWalker_9 ?_
  refine R_isub (pc := 10) dX8_isWalker_10 ?_
  refine R_i2l (pc := 11) dX8_isWalker_11 (by omega) ?_
  refine R_S3i (pc := 12) dX8_isWalker_12 ss_RX8_69 (j_in b sh M _ _ _ hi (by omega) (by omega)) (Nat.le_of_ble_eq_true rfl) (by decide) ?_
  refine R_zret (pc := 15) dX8_isWalker_15 (by first | exact Or.inl rfl | exact Or.inr rfl | omega) ?_
  exact eqi rfl rfl
theorem j_isThing (b : Nat) (sh : Shp) (M : Mem) (hsh : Hm sh) (i : Int) (hi : inR i) (hm : 0 ≤ moM M 0 2 ∧ moM M 0 2 ≤ 100) : Ex 1 mX8_isThing b sh M [vr b 72, vi i] (some (vi (if 0 ≤ i ∧ i ≤ moM M 0 2 - 1 then 1 else 0))) M := by
  refine MC_of (ls := [some (vr b 72), some (vi i)]) (by decide) rfl (Nat.le_of_ble_eq_true rfl) ?_
  refine R_iload_n (pc := 0) dX8_isThing_0 rfl ?_
  refine R_i2l (pc := 1) dX8_isThing_1 (by omega) ?_
  refine R_lconst (pc := 2) dX8_isThing_2 (x := 0) rfl ?_
  refine R_aload_n (pc := 3) dX8_isThing_3 rfl ?_
  refine R_getR (pc := 4) dX8_isThing_4 fl_RX8_7 rfl (hsh _ _ rfl) rfl ?_
  refine R_iconst (pc := 7) dX8_isThing_7 ?_
  refine R_iald (pc := 8) dX8_isThing_8 (hsh _ _ rfl) (by omega) (mM_2) ?_
  refine R_iconst (pc := 9) dX8_isThing_9 ?_
  refine R_isub (pc := 10) dX8_isThing_10 ?_
  refine R_i2l (pc := 11) dX8_isThing_11 (by omega) ?_
  refine R_S3i (pc := 12) dX8_isThing_12 ss_RX8_69 (j_in b sh M _ _ _ hi (by omega) (by omega)) (Nat.le_of_ble_eq_true rfl) (by decide) ?_
  refine R_zret (pc := 15) dX8_isThing_15 (by first | exact Or.inl rfl | exact Or.inr rfl | omega) ?_
  exact eqi rfl rfl
theorem j_isYard (b : Nat) (sh : Shp) (M : Mem) (x : Int) (hx : inR x) : Ex 1 mX8_isYard b sh M [vi x] (some (vi (if 0 ≤ x ∧ x ≤ 60 then 1 else 0))) M := by
  refine MC_of (ls := [some (vi x)]) (by decide) rfl (Nat.le_of_ble_eq_true rfl) ?_
  refine R_iload_n (pc := 0) dX8_isYard_0 rfl ?_
  refine R_i2l (pc := 1) dX8_isYard_1 (by omega) ?_
  refine R_lconst (pc := 2) dX8_isYard_2 (x := 0) rfl ?_
  refine R_ldc2 (pc := 3) (x := 60) dX8_isYard_3 kl_RX8_127 rfl ?_
  refine R_S3i (pc := 6) dX8_isYard_6 ss_RX8_69 (j_in b sh M _ _ _ hx (by omega) (by omega)) (Nat.le_of_ble_eq_true rfl) (by decide) ?_
  refine R_zret (pc := 9) dX8_isYard_9 (by first | exact Or.inl rfl | exact Or.inr rfl | omega) ?_
  exact eqi rfl rfl
theorem j_copy (b : Nat) (sh : Shp) (M : Mem) (hsh : Hm sh) (p q : Int) (hp : 0 ≤ p ∧ p + 19 ≤ 304) (hq : 0 ≤ q ∧ q + 19 ≤ 304) (hpq : p + 18 < q ∨ q + 18 < p) : Ex 0 mX8_copy b sh M [vr b 72, vi p, vi q] none (putM M q (roM M p)) := by
  have L : ∀ (n : Nat) (i : Int), 0 ≤ i → i ≤ 19 → 19 - i < n → MW yX8_copy cX8_copy 4 none (rmD 0 0 0) (FM (EQ none (putM M q (roM M p))) b sh 0 0) b sh.length 0 0 2 [some (vr b 72), some (vi p), some (vi q), some (vi i)] [] sh (putM M q (fun j => if 0 ≤ j ∧ j < i then M 74 (p + j) else M 74 (q + j))) := by
    intro n
    induction n with
    | zero => intro i h1 h2 h3; exact absurd h3 (by omega)
    | succ n ih =>
      intro i h1 h2 h3
      refine R_rng fun hM => ?_
      refine R_iload_n (pc := 2) dX8_copy_2 rfl ?_
      refine R_bipush (pc := 3) dX8_copy_3 rfl ?_
      refine R_cmp_ge (pc := 5) (tgt := 30) dX8_copy_5 (by decide) (by omega) (fun h_5 => ?_) (fun h_5 => ?_)
      · refine R_vret (pc := 30) dX8_copy_30 ?_
        refine eqv ?_
        have e1 : i = 19 := by omega
        subst e1
        funext k j
        unfold putM
        by_cases h5 : k = 74 ∧ q ≤ j ∧ j ≤ q + 18
        · rw [if_pos h5, if_pos h5]
          dsimp only
          rw [if_pos (by omega)]
          exact roM_i (by omega)
        · rw [if_neg h5, if_neg h5]
      · have hv := hM 74 (p + i)
        rw [pm_o (by omega)] at hv
        refine R_aload_n (pc := 8) dX8_copy_8 rfl ?_
        refine R_getR (pc := 9) dX8_copy_9 fl_RX8_13 rfl (hsh _ _ rfl) rfl ?_
        refine R_iload_n (pc := 12) dX8_copy_12 rfl ?_
        refine R_iload_n (pc := 13) dX8_copy_13 rfl ?_
        refine R_iadd (pc := 14) dX8_copy_14 ?_
        refine R_aload_n (pc := 15) dX8_copy_15 rfl ?_
        refine R_getR (pc := 16) dX8_copy_16 fl_RX8_13 rfl (hsh _ _ rfl) rfl ?_
        refine R_iload_n (pc := 19) dX8_copy_19 rfl ?_
        refine R_iload_n (pc := 20) dX8_copy_20 rfl ?_
        refine R_iadd (pc := 21) dX8_copy_21 ?_
        refine R_iald (pc := 22) dX8_copy_22 (hsh _ _ rfl) (by omega) ((show putM M q (fun j => if 0 ≤ j ∧ j < i then M 74 (p + j) else M 74 (q + j)) 74 (p + i) = M 74 (p + i) from pm_o (by omega))) ?_
        refine R_iast (pc := 23) dX8_copy_23 (hsh _ _ rfl) (by omega) (by omega) ?_
        refine R_iinc (pc := 24) dX8_copy_24 rfl (by decide) rfl rfl ?_
        refine R_goto (pc := 27) (tgt := 2) dX8_copy_27 (by decide) ?_
        refine R_mem ?_ (ih (i + 1) (by omega) (by omega) (by omega))
        rw [pmu rfl (by omega)]
        congr 1
        funext j
        unfold uF
        by_cases hj : j = i
        · rw [if_pos hj, if_pos (by omega), hj]
        · rw [if_neg hj]
          dsimp only
          by_cases h5 : 0 ≤ j ∧ j < i
          · rw [if_pos h5, if_pos (by omega)]
          · rw [if_neg h5, if_neg (by omega)]
  refine MC_of (ls := [some (vr b 72), some (vi p), some (vi q), none]) (by decide) rfl (Nat.le_of_ble_eq_true rfl) ?_
  refine R_iconst (pc := 0) dX8_copy_0 ?_
  refine R_istore_n (pc := 1) dX8_copy_1 (by decide) rfl rfl ?_
  refine R_mem ?_ (L 30 0 (by omega) (by omega) (by omega))
  funext k j
  unfold putM
  by_cases h5 : k = 74 ∧ q ≤ j ∧ j ≤ q + 18
  · rw [if_pos h5]
    dsimp only
    rw [if_neg (by omega), h5.1]
    congr 1; omega
  · rw [if_neg h5]
