/-! THE REFERENCE'S READING -/
def mk (f0 f1 f2 f3 f4 f5 f6 f7 f8 f9 : Rd) : Mo := fun a => match a with
  | 0 => f0
  | 1 => f1
  | 2 => f2
  | 3 => f3
  | 4 => f4
  | 5 => f5
  | 6 => f6
  | 7 => f7
  | 8 => f8
  | 9 => f9
  | _ => zF
theorem up_mk0 {f0 f1 f2 f3 f4 f5 f6 f7 f8 f9 : Rd} {j x : Int} : up (mk f0 f1 f2 f3 f4 f5 f6 f7 f8 f9) 0 j x = mk (uF f0 j x) f1 f2 f3 f4 f5 f6 f7 f8 f9 := by
  funext a i
  match a with
  | 0 => exact congrFun up_row i
  | 1 => exact up_k (by omega)
  | 2 => exact up_k (by omega)
  | 3 => exact up_k (by omega)
  | 4 => exact up_k (by omega)
  | 5 => exact up_k (by omega)
  | 6 => exact up_k (by omega)
  | 7 => exact up_k (by omega)
  | 8 => exact up_k (by omega)
  | 9 => exact up_k (by omega)
  | a + 10 => exact up_k (by omega)
theorem up_mk1 {f0 f1 f2 f3 f4 f5 f6 f7 f8 f9 : Rd} {j x : Int} : up (mk f0 f1 f2 f3 f4 f5 f6 f7 f8 f9) 1 j x = mk f0 (uF f1 j x) f2 f3 f4 f5 f6 f7 f8 f9 := by
  funext a i
  match a with
  | 0 => exact up_k (by omega)
  | 1 => exact congrFun up_row i
  | 2 => exact up_k (by omega)
  | 3 => exact up_k (by omega)
  | 4 => exact up_k (by omega)
  | 5 => exact up_k (by omega)
  | 6 => exact up_k (by omega)
  | 7 => exact up_k (by omega)
  | 8 => exact up_k (by omega)
  | 9 => exact up_k (by omega)
  | a + 10 => exact up_k (by omega)
theorem up_mk2 {f0 f1 f2 f3 f4 f5 f6 f7 f8 f9 : Rd} {j x : Int} : up (mk f0 f1 f2 f3 f4 f5 f6 f7 f8 f9) 2 j x = mk f0 f1 (uF f2 j x) f3 f4 f5 f6 f7 f8 f9 := by
  funext a i
  match a with
  | 0 => exact up_k (by omega)
  | 1 => exact up_k (by omega)
  | 2 => exact congrFun up_row i
  | 3 => exact up_k (by omega)
  | 4 => exact up_k (by omega)
  | 5 => exact up_k (by omega)
  | 6 => exact up_k (by omega)
  | 7 => exact up_k (by omega)
  | 8 => exact up_k (by omega)
  | 9 => exact up_k (by omega)
  | a + 10 => exact up_k (by omega)
theorem up_mk3 {f0 f1 f2 f3 f4 f5 f6 f7 f8 f9 : Rd} {j x : Int} : up (mk f0 f1 f2 f3 f4 f5 f6 f7 f8 f9) 3 j x = mk f0 f1 f2 (uF f3 j x) f4 f5 f6 f7 f8 f9 := by
  funext a i
  match a with
  | 0 => exact up_k (by omega)
  | 1 => exact up_k (by omega)
  | 2 => exact up_k (by omega)
  | 3 => exact congrFun up_row i
  | 4 => exact up_k (by omega)
  | 5 => exact up_k (by omega)
  | 6 => exact up_k (by omega)
  | 7 => exact up_k (by omega)
  | 8 => exact up_k (by omega)
  | 9 => exact up_k (by omega)
  | a + 10 => exact up_k (by omega)
theorem up_mk4 {f0 f1 f2 f3 f4 f5 f6 f7 f8 f9 : Rd} {j x : Int} : up (mk f0 f1 f2 f3 f4 f5 f6 f7 f8 f9) 4 j x = mk f0 f1 f2 f3 (uF f4 j x) f5 f6 f7 f8 f9 := by
  funext a i
  match a with
  | 0 => exact up_k (by omega)
  | 1 => exact up_k (by omega)
  | 2 => exact up_k (by omega)
  | 3 => exact up_k (by omega)
  | 4 => exact congrFun up_row i
  | 5 => exact up_k (by omega)
  | 6 => exact up_k (by omega)
  | 7 => exact up_k (by omega)
  | 8 => exact up_k (by omega)
  | 9 => exact up_k (by omega)
  | a + 10 => exact up_k (by omega)
theorem up_mk5 {f0 f1 f2 f3 f4 f5 f6 f7 f8 f9 : Rd} {j x : Int} : up (mk f0 f1 f2 f3 f4 f5 f6 f7 f8 f9) 5 j x = mk f0 f1 f2 f3 f4 (uF f5 j x) f6 f7 f8 f9 := by
  funext a i
  match a with
  | 0 => exact up_k (by omega)
  | 1 => exact up_k (by omega)
  | 2 => exact up_k (by omega)
  | 3 => exact up_k (by omega)
  | 4 => exact up_k (by omega)
  | 5 => exact congrFun up_row i
  | 6 => exact up_k (by omega)
  | 7 => exact up_k (by omega)
  | 8 => exact up_k (by omega)
  | 9 => exact up_k (by omega)
  | a + 10 => exact up_k (by omega)
theorem up_mk6 {f0 f1 f2 f3 f4 f5 f6 f7 f8 f9 : Rd} {j x : Int} : up (mk f0 f1 f2 f3 f4 f5 f6 f7 f8 f9) 6 j x = mk f0 f1 f2 f3 f4 f5 (uF f6 j x) f7 f8 f9 := by
  funext a i
  match a with
  | 0 => exact up_k (by omega)
  | 1 => exact up_k (by omega)
  | 2 => exact up_k (by omega)
  | 3 => exact up_k (by omega)
  | 4 => exact up_k (by omega)
  | 5 => exact up_k (by omega)
  | 6 => exact congrFun up_row i
  | 7 => exact up_k (by omega)
  | 8 => exact up_k (by omega)
  | 9 => exact up_k (by omega)
  | a + 10 => exact up_k (by omega)
theorem up_mk7 {f0 f1 f2 f3 f4 f5 f6 f7 f8 f9 : Rd} {j x : Int} : up (mk f0 f1 f2 f3 f4 f5 f6 f7 f8 f9) 7 j x = mk f0 f1 f2 f3 f4 f5 f6 (uF f7 j x) f8 f9 := by
  funext a i
  match a with
  | 0 => exact up_k (by omega)
  | 1 => exact up_k (by omega)
  | 2 => exact up_k (by omega)
  | 3 => exact up_k (by omega)
  | 4 => exact up_k (by omega)
  | 5 => exact up_k (by omega)
  | 6 => exact up_k (by omega)
  | 7 => exact congrFun up_row i
  | 8 => exact up_k (by omega)
  | 9 => exact up_k (by omega)
  | a + 10 => exact up_k (by omega)
theorem up_mk8 {f0 f1 f2 f3 f4 f5 f6 f7 f8 f9 : Rd} {j x : Int} : up (mk f0 f1 f2 f3 f4 f5 f6 f7 f8 f9) 8 j x = mk f0 f1 f2 f3 f4 f5 f6 f7 (uF f8 j x) f9 := by
  funext a i
  match a with
  | 0 => exact up_k (by omega)
  | 1 => exact up_k (by omega)
  | 2 => exact up_k (by omega)
  | 3 => exact up_k (by omega)
  | 4 => exact up_k (by omega)
  | 5 => exact up_k (by omega)
  | 6 => exact up_k (by omega)
  | 7 => exact up_k (by omega)
  | 8 => exact congrFun up_row i
  | 9 => exact up_k (by omega)
  | a + 10 => exact up_k (by omega)
theorem fog_mk {f0 f1 f2 f3 f4 f5 f6 f7 f8 f9 : Rd} {a c : Int} : fogM (mk f0 f1 f2 f3 f4 f5 f6 f7 f8 f9) a c = mk (uF f0 4 (f0 4 + 1)) f1 f2 f3 f4 f5 f6 f7 f8 (fun i => if a ≤ i ∧ i ≤ c then 1 else f9 i) := by
  have e : (fun k i => if k = 9 ∧ a ≤ i ∧ i ≤ c then 1 else mk f0 f1 f2 f3 f4 f5 f6 f7 f8 f9 k i) = mk f0 f1 f2 f3 f4 f5 f6 f7 f8 (fun i => if a ≤ i ∧ i ≤ c then 1 else f9 i) := by
    funext k i
    by_cases hk : k = 9
    · subst hk
      show (if 9 = 9 ∧ a ≤ i ∧ i ≤ c then 1 else f9 i) = if a ≤ i ∧ i ≤ c then 1 else f9 i
      by_cases h : a ≤ i ∧ i ≤ c
      · rw [if_pos h, if_pos ⟨rfl, h⟩]
      · rw [if_neg h, if_neg (fun q => h q.2)]
    · rw [if_neg (fun q => hk q.1)]
      match k with

      | 0 => rfl
      | 1 => rfl
      | 2 => rfl
      | 3 => rfl
      | 4 => rfl
      | 5 => rfl
      | 6 => rfl
      | 7 => rfl
      | 8 => rfl
      | k + 10 => rfl
      | 9 => exact absurd rfl hk
  unfold fogM
  rw [e, up_mk0]
  rfl
def fl (g : Rd) (ci bi : Int) : Rd := fun i => if 0 ≤ i ∧ i < g ci then g (bi + i) else 0
def fg0 (g : Rd) : Rd := fun i => if 0 ≤ i ∧ i ≤ 4 then g (69 + i) else 0
def fg1 (g : Rd) : Rd := fun i => if 0 ≤ i ∧ i < 16 then g (74 + i) else 0
def fg9 (g : Rd) : Rd := fun i => if (0 ≤ i ∧ i < 10) ∧ ((0 < g 73 ∧ g 134 ≤ i ∧ i ≤ g 136) ∨ (1 < g 73 ∧ g 135 ≤ i ∧ i ≤ g 137)) then 1 else 0
theorem moW_mk {g : Rd} : moW g 69 = mk (fg0 g) (fg1 g) (fl g 70 90) (fl g 70 94) (fl g 71 98) (fl g 71 104) (fl g 72 110) (fl g 72 118) (fl g 72 126) (fg9 g) := by
  funext a i
  match a with
  | 0 => rfl
  | 1 => rfl
  | 2 => rfl
  | 3 => rfl
  | 4 => rfl
  | 5 => rfl
  | 6 => rfl
  | 7 => rfl
  | 8 => rfl
  | 9 => rfl
  | a + 10 =>
    show moW g 69 (a + 10) i = 0
    unfold moW
    rw [if_neg (by omega), if_neg (by omega), if_neg (by omega), if_neg (by omega), if_neg (by omega), if_neg (by omega), if_neg (by omega), if_neg (by omega), if_neg (by omega), if_neg (by omega)]
theorem fl_same {g g' : Rd} {ci bi : Int} (h : g' ci = g ci) (e : ∀ i, 0 ≤ i → i < g ci → g' (bi + i) = g (bi + i)) : fl g' ci bi = fl g ci bi := by
  funext i
  unfold fl
  rw [h]
  split
  · rename_i hi; exact e i hi.1 hi.2
  · rfl
theorem fl_add {g g' : Rd} {ci bi x : Int} (h0 : 0 ≤ g ci) (h : g' ci = g ci + 1) (e : ∀ i, 0 ≤ i → i < g ci → g' (bi + i) = g (bi + i)) (hx : g' (bi + g ci) = x) : fl g' ci bi = uF (fl g ci bi) (g ci) x := by
  funext i
  unfold fl uF
  rw [h]
  by_cases hi : i = g ci
  · rw [if_pos (by omega), if_pos hi, hi, hx]
  · rw [if_neg hi]
    dsimp only
    by_cases h2 : 0 ≤ i ∧ i < g ci
    · rw [if_pos (by omega), if_pos h2, e i h2.1 h2.2]
    · rw [if_neg (by omega), if_neg h2]
theorem fg0_u {g g' : Rd} {k x : Int} (hk : 0 ≤ k ∧ k ≤ 4) (e : ∀ i, 0 ≤ i → i ≤ 4 → i ≠ k → g' (69 + i) = g (69 + i)) (hx : g' (69 + k) = x) : fg0 g' = uF (fg0 g) k x := by
  funext i
  unfold fg0 uF
  by_cases hi : i = k
  · rw [if_pos (by omega), if_pos hi, hi, hx]
  · rw [if_neg hi]
    dsimp only
    by_cases h2 : 0 ≤ i ∧ i ≤ 4
    · rw [if_pos h2, if_pos h2, e i h2.1 h2.2 hi]
    · rw [if_neg h2, if_neg h2]
theorem fg0_same {g g' : Rd} (e : ∀ i, 0 ≤ i → i ≤ 4 → g' (69 + i) = g (69 + i)) : fg0 g' = fg0 g := by
  funext i
  unfold fg0
  split
  · rename_i hi; exact e i hi.1 hi.2
  · rfl
theorem fg1_same {g g' : Rd} (e : ∀ i, 0 ≤ i → i < 16 → g' (74 + i) = g (74 + i)) : fg1 g' = fg1 g := by
  funext i
  unfold fg1
  split
  · rename_i hi; exact e i hi.1 hi.2
  · rfl
theorem fg9_same {g g' : Rd} (e : g' 73 = g 73) (e1 : g' 134 = g 134) (e2 : g' 135 = g 135) (e3 : g' 136 = g 136) (e4 : g' 137 = g 137) : fg9 g' = fg9 g := by
  unfold fg9
  rw [e, e1, e2, e3, e4]
/-! the items -/
theorem iW_n {g : Rd} (h1 : 0 ≤ g 70 ∧ g 70 ≤ 4) (h2 : 0 ≤ g 71 ∧ g 71 ≤ 6) (h3 : 0 ≤ g 72 ∧ g 72 ≤ 8) (h4 : 0 ≤ g 73 ∧ g 73 ≤ 2) {x : Int} : moW (uF g 69 x) 69 = up (moW g 69) 0 0 x := by
  have e : ∀ j, j ≠ 69 → uF g 69 x j = g j := fun j h => uF_n h
  rw [moW_mk, moW_mk, up_mk0, fg0_u (g := g) (k := 0) (x := x) (by omega) (fun i _ _ _ => e _ (by omega)) (by rw [show (69 : Int) + 0 = 69 by omega, uF_s]), fg1_same (fun i _ _ => e _ (by omega)), fl_same (ci := 70) (bi := 90) (e _ (by omega)) (fun i _ _ => e _ (by omega)), fl_same (ci := 70) (bi := 94) (e _ (by omega)) (fun i _ _ => e _ (by omega)), fl_same (ci := 71) (bi := 98) (e _ (by omega)) (fun i _ _ => e _ (by omega)), fl_same (ci := 71) (bi := 104) (e _ (by omega)) (fun i _ _ => e _ (by omega)), fl_same (ci := 72) (bi := 110) (e _ (by omega)) (fun i _ _ => e _ (by omega)), fl_same (ci := 72) (bi := 118) (e _ (by omega)) (fun i _ _ => e _ (by omega)), fl_same (ci := 72) (bi := 126) (e _ (by omega)) (fun i _ _ => e _ (by omega)), fg9_same (e _ (by omega)) (e _ (by omega)) (e _ (by omega)) (e _ (by omega)) (e _ (by omega))]
theorem iW_p {g : Rd} (h1 : 0 ≤ g 70 ∧ g 70 ≤ 4) (h2 : 0 ≤ g 71 ∧ g 71 ≤ 6) (h3 : 0 ≤ g 72 ∧ g 72 ≤ 8) (h4 : 0 ≤ g 73 ∧ g 73 ≤ 2) {i x : Int} (hi : 0 ≤ i ∧ i < 16) : moW (uF g (74 + i) x) 69 = up (moW g 69) 1 i x := by
  have e : ∀ j, j ≠ 74 + i → uF g (74 + i) x j = g j := fun j h => uF_n h
  have e1 : fg1 (uF g (74 + i) x) = uF (fg1 g) i x := by
    funext k
    unfold fg1
    by_cases hk : k = i
    · rw [if_pos (by omega), hk, uF_s, uF_s]
    · rw [uF_n hk, uF_n (by omega)]
  rw [moW_mk, moW_mk, up_mk1, e1, fg0_same (fun k _ _ => e _ (by omega)), fl_same (ci := 70) (bi := 90) (e _ (by omega)) (fun k _ _ => e _ (by omega)), fl_same (ci := 70) (bi := 94) (e _ (by omega)) (fun k _ _ => e _ (by omega)), fl_same (ci := 71) (bi := 98) (e _ (by omega)) (fun k _ _ => e _ (by omega)), fl_same (ci := 71) (bi := 104) (e _ (by omega)) (fun k _ _ => e _ (by omega)), fl_same (ci := 72) (bi := 110) (e _ (by omega)) (fun k _ _ => e _ (by omega)), fl_same (ci := 72) (bi := 118) (e _ (by omega)) (fun k _ _ => e _ (by omega)), fl_same (ci := 72) (bi := 126) (e _ (by omega)) (fun k _ _ => e _ (by omega)), fg9_same (e _ (by omega)) (e _ (by omega)) (e _ (by omega)) (e _ (by omega)) (e _ (by omega))]
theorem iW_w {g : Rd} (h1 : 0 ≤ g 70 ∧ g 70 ≤ 4) (h2 : 0 ≤ g 71 ∧ g 71 ≤ 6) (h3 : 0 ≤ g 72 ∧ g 72 ≤ 8) (h4 : 0 ≤ g 73 ∧ g 73 ≤ 2) {x y : Int} (hk : g 70 < 4) : moW (uF (uF (uF g (90 + g 70) x) (94 + g 70) y) 70 (g 70 + 1)) 69 = up (up (up (moW g 69) 2 (g 70) x) 3 (g 70) y) 0 1 (g 70 + 1) := by
  generalize hG : uF (uF (uF g (90 + g 70) x) (94 + g 70) y) 70 (g 70 + 1) = G
  have e : ∀ j, j ≠ 90 + g 70 → j ≠ 94 + g 70 → j ≠ 70 → G j = g j := fun j a1 a2 a3 => by rw [← hG, uF_n a3, uF_n a2, uF_n a1]
  have e70 : G 70 = g 70 + 1 := by rw [← hG, uF_s]
  rw [moW_mk, moW_mk, up_mk2, up_mk3, up_mk0, fg0_u (g := g) (k := 1) (x := g 70 + 1) (by omega) (fun i _ _ _ => e _ (by omega) (by omega) (by omega)) e70, fg1_same (fun k _ _ => e _ (by omega) (by omega) (by omega)), fl_add (ci := 70) (bi := 90) h1.1 e70 (fun k _ _ => e _ (by omega) (by omega) (by omega)) (show G (90 + g 70) = x by rw [← hG, uF_n (by omega), uF_n (by omega), uF_s]), fl_add (ci := 70) (bi := 94) h1.1 e70 (fun k _ _ => e _ (by omega) (by omega) (by omega)) (show G (94 + g 70) = y by rw [← hG, uF_n (by omega), uF_s]), fl_same (ci := 71) (bi := 98) (e _ (by omega) (by omega) (by omega)) (fun k _ _ => e _ (by omega) (by omega) (by omega)), fl_same (ci := 71) (bi := 104) (e _ (by omega) (by omega) (by omega)) (fun k _ _ => e _ (by omega) (by omega) (by omega)), fl_same (ci := 72) (bi := 110) (e _ (by omega) (by omega) (by omega)) (fun k _ _ => e _ (by omega) (by omega) (by omega)), fl_same (ci := 72) (bi := 118) (e _ (by omega) (by omega) (by omega)) (fun k _ _ => e _ (by omega) (by omega) (by omega)), fl_same (ci := 72) (bi := 126) (e _ (by omega) (by omega) (by omega)) (fun k _ _ => e _ (by omega) (by omega) (by omega)), fg9_same (e _ (by omega) (by omega) (by omega)) (e _ (by omega) (by omega) (by omega)) (e _ (by omega) (by omega) (by omega)) (e _ (by omega) (by omega) (by omega)) (e _ (by omega) (by omega) (by omega))]
theorem iW_t {g : Rd} (h1 : 0 ≤ g 70 ∧ g 70 ≤ 4) (h2 : 0 ≤ g 71 ∧ g 71 ≤ 6) (h3 : 0 ≤ g 72 ∧ g 72 ≤ 8) (h4 : 0 ≤ g 73 ∧ g 73 ≤ 2) {x y : Int} (hk : g 71 < 6) : moW (uF (uF (uF g (98 + g 71) x) (104 + g 71) y) 71 (g 71 + 1)) 69 = up (up (up (moW g 69) 4 (g 71) x) 5 (g 71) y) 0 2 (g 71 + 1) := by
  generalize hG : uF (uF (uF g (98 + g 71) x) (104 + g 71) y) 71 (g 71 + 1) = G
  have e : ∀ j, j ≠ 98 + g 71 → j ≠ 104 + g 71 → j ≠ 71 → G j = g j := fun j a1 a2 a3 => by rw [← hG, uF_n a3, uF_n a2, uF_n a1]
  have e71 : G 71 = g 71 + 1 := by rw [← hG, uF_s]
  rw [moW_mk, moW_mk, up_mk4, up_mk5, up_mk0, fg0_u (g := g) (k := 2) (x := g 71 + 1) (by omega) (fun i _ _ _ => e _ (by omega) (by omega) (by omega)) e71, fg1_same (fun k _ _ => e _ (by omega) (by omega) (by omega)), fl_same (ci := 70) (bi := 90) (e _ (by omega) (by omega) (by omega)) (fun k _ _ => e _ (by omega) (by omega) (by omega)), fl_same (ci := 70) (bi := 94) (e _ (by omega) (by omega) (by omega)) (fun k _ _ => e _ (by omega) (by omega) (by omega)), fl_add (ci := 71) (bi := 98) h2.1 e71 (fun k _ _ => e _ (by omega) (by omega) (by omega)) (show G (98 + g 71) = x by rw [← hG, uF_n (by omega), uF_n (by omega), uF_s]), fl_add (ci := 71) (bi := 104) h2.1 e71 (fun k _ _ => e _ (by omega) (by omega) (by omega)) (show G (104 + g 71) = y by rw [← hG, uF_n (by omega), uF_s]), fl_same (ci := 72) (bi := 110) (e _ (by omega) (by omega) (by omega)) (fun k _ _ => e _ (by omega) (by omega) (by omega)), fl_same (ci := 72) (bi := 118) (e _ (by omega) (by omega) (by omega)) (fun k _ _ => e _ (by omega) (by omega) (by omega)), fl_same (ci := 72) (bi := 126) (e _ (by omega) (by omega) (by omega)) (fun k _ _ => e _ (by omega) (by omega) (by omega)), fg9_same (e _ (by omega) (by omega) (by omega)) (e _ (by omega) (by omega) (by omega)) (e _ (by omega) (by omega) (by omega)) (e _ (by omega) (by omega) (by omega)) (e _ (by omega) (by omega) (by omega))]
theorem iW_d {g : Rd} (h1 : 0 ≤ g 70 ∧ g 70 ≤ 4) (h2 : 0 ≤ g 71 ∧ g 71 ≤ 6) (h3 : 0 ≤ g 72 ∧ g 72 ≤ 8) (h4 : 0 ≤ g 73 ∧ g 73 ≤ 2) {x y w : Int} (hk : g 72 < 8) : moW (uF (uF (uF (uF g (110 + g 72) x) (118 + g 72) y) (126 + g 72) w) 72 (g 72 + 1)) 69 = up (up (up (up (moW g 69) 6 (g 72) x) 7 (g 72) y) 8 (g 72) w) 0 3 (g 72 + 1) := by
  generalize hG : uF (uF (uF (uF g (110 + g 72) x) (118 + g 72) y) (126 + g 72) w) 72 (g 72 + 1) = G
  have e : ∀ j, j ≠ 110 + g 72 → j ≠ 118 + g 72 → j ≠ 126 + g 72 → j ≠ 72 → G j = g j := fun j a1 a2 a3 a4 => by rw [← hG, uF_n a4, uF_n a3, uF_n a2, uF_n a1]
  have e72 : G 72 = g 72 + 1 := by rw [← hG, uF_s]
  rw [moW_mk, moW_mk, up_mk6, up_mk7, up_mk8, up_mk0, fg0_u (g := g) (k := 3) (x := g 72 + 1) (by omega) (fun i _ _ _ => e _ (by omega) (by omega) (by omega) (by omega)) e72, fg1_same (fun k _ _ => e _ (by omega) (by omega) (by omega) (by omega)), fl_same (ci := 70) (bi := 90) (e _ (by omega) (by omega) (by omega) (by omega)) (fun k _ _ => e _ (by omega) (by omega) (by omega) (by omega)), fl_same (ci := 70) (bi := 94) (e _ (by omega) (by omega) (by omega) (by omega)) (fun k _ _ => e _ (by omega) (by omega) (by omega) (by omega)), fl_same (ci := 71) (bi := 98) (e _ (by omega) (by omega) (by omega) (by omega)) (fun k _ _ => e _ (by omega) (by omega) (by omega) (by omega)), fl_same (ci := 71) (bi := 104) (e _ (by omega) (by omega) (by omega) (by omega)) (fun k _ _ => e _ (by omega) (by omega) (by omega) (by omega)), fl_add (ci := 72) (bi := 110) h3.1 e72 (fun k _ _ => e _ (by omega) (by omega) (by omega) (by omega)) (show G (110 + g 72) = x by rw [← hG, uF_n (by omega), uF_n (by omega), uF_n (by omega), uF_s]), fl_add (ci := 72) (bi := 118) h3.1 e72 (fun k _ _ => e _ (by omega) (by omega) (by omega) (by omega)) (show G (118 + g 72) = y by rw [← hG, uF_n (by omega), uF_n (by omega), uF_s]), fl_add (ci := 72) (bi := 126) h3.1 e72 (fun k _ _ => e _ (by omega) (by omega) (by omega) (by omega)) (show G (126 + g 72) = w by rw [← hG, uF_n (by omega), uF_s]), fg9_same (e _ (by omega) (by omega) (by omega) (by omega)) (e _ (by omega) (by omega) (by omega) (by omega)) (e _ (by omega) (by omega) (by omega) (by omega)) (e _ (by omega) (by omega) (by omega) (by omega)) (e _ (by omega) (by omega) (by omega) (by omega))]
theorem iW_f {g : Rd} (h1 : 0 ≤ g 70 ∧ g 70 ≤ 4) (h2 : 0 ≤ g 71 ∧ g 71 ≤ 6) (h3 : 0 ≤ g 72 ∧ g 72 ≤ 8) (h4 : 0 ≤ g 73 ∧ g 73 ≤ 2) {x y : Int} (hk : g 73 < 2) (hx : 0 ≤ x) (hy : y ≤ 9) : moW (uF (uF (uF g (134 + g 73) x) (136 + g 73) y) 73 (g 73 + 1)) 69 = fogM (moW g 69) x y := by
  generalize hG : uF (uF (uF g (134 + g 73) x) (136 + g 73) y) 73 (g 73 + 1) = G
  have e : ∀ j, j ≠ 134 + g 73 → j ≠ 136 + g 73 → j ≠ 73 → G j = g j := fun j a1 a2 a3 => by rw [← hG, uF_n a3, uF_n a2, uF_n a1]
  have e73 : G 73 = g 73 + 1 := by rw [← hG, uF_s]
  have ex : G (134 + g 73) = x := by rw [← hG, uF_n (by omega), uF_n (by omega), uF_s]
  have ey : G (136 + g 73) = y := by rw [← hG, uF_n (by omega), uF_s]
  have e9 : fg9 G = fun i => if x ≤ i ∧ i ≤ y then 1 else fg9 g i := by
    funext i
    unfold fg9
    rcases (show g 73 = 0 ∨ g 73 = 1 by omega) with h | h
    · rw [h] at e73 ex ey
      have ex' : G 134 = x := ex
      have ey' : G 136 = y := ey
      rw [e73, ex', ey', h]
      by_cases c1 : x ≤ i ∧ i ≤ y
      · rw [if_pos c1, if_pos ⟨by omega, Or.inl ⟨by omega, c1⟩⟩]
      · rw [if_neg c1, if_neg (by omega), if_neg (by omega)]
    · rw [h] at e73 ex ey
      have ex' : G 135 = x := ex
      have ey' : G 137 = y := ey
      rw [e73, ex', ey', h, e 134 (by omega) (by omega) (by omega), e 136 (by omega) (by omega) (by omega)]
      by_cases c1 : x ≤ i ∧ i ≤ y
      · rw [if_pos c1, if_pos ⟨by omega, Or.inr ⟨by omega, c1⟩⟩]
      · rw [if_neg c1]
        by_cases c2 : (0 ≤ i ∧ i < 10) ∧ g 134 ≤ i ∧ i ≤ g 136
        · rw [if_pos ⟨c2.1, Or.inl ⟨by omega, c2.2⟩⟩, if_pos ⟨c2.1, Or.inl ⟨by omega, c2.2⟩⟩]
        · rw [if_neg (by omega), if_neg (by omega)]
  have e04 : fg0 g 4 = g 73 := rfl
  rw [moW_mk, moW_mk, fog_mk, e9, e04, fg0_u (g := g) (k := 4) (x := g 73 + 1) (by omega) (fun i _ _ _ => e _ (by omega) (by omega) (by omega)) e73, fg1_same (fun k _ _ => e _ (by omega) (by omega) (by omega)), fl_same (ci := 70) (bi := 90) (e _ (by omega) (by omega) (by omega)) (fun k _ _ => e _ (by omega) (by omega) (by omega)), fl_same (ci := 70) (bi := 94) (e _ (by omega) (by omega) (by omega)) (fun k _ _ => e _ (by omega) (by omega) (by omega)), fl_same (ci := 71) (bi := 98) (e _ (by omega) (by omega) (by omega)) (fun k _ _ => e _ (by omega) (by omega) (by omega)), fl_same (ci := 71) (bi := 104) (e _ (by omega) (by omega) (by omega)) (fun k _ _ => e _ (by omega) (by omega) (by omega)), fl_same (ci := 72) (bi := 110) (e _ (by omega) (by omega) (by omega)) (fun k _ _ => e _ (by omega) (by omega) (by omega)), fl_same (ci := 72) (bi := 118) (e _ (by omega) (by omega) (by omega)) (fun k _ _ => e _ (by omega) (by omega) (by omega)), fl_same (ci := 72) (bi := 126) (e _ (by omega) (by omega) (by omega)) (fun k _ _ => e _ (by omega) (by omega) (by omega))]
/-- a moor copied to the front -/
theorem moW_sh {g g' : Rd} (e : ∀ j, 0 ≤ j → j < 69 → g' j = g (69 + j)) (h1 : g 70 ≤ 4) (h2 : g 71 ≤ 6) (h3 : g 72 ≤ 8) : moW g' 0 = moW g 69 := by
  have q : ∀ (x y : Int), y = 69 + x → 0 ≤ x → x < 69 → g' x = g y := fun x y hy h0 h1 => by rw [hy]; exact e x h0 h1
  funext a i
  unfold moW
  have E : ∀ (c : Prop) [Decidable c] (x y : Int), (c → y = 69 + x ∧ 0 ≤ x ∧ x < 69) → (if c then g' x else 0) = (if c then g y else 0) := fun c _ x y h => by
    split
    · rename_i hc; exact q x y (h hc).1 (h hc).2.1 (h hc).2.2
    · rfl
  rw [q (0 + 1) (69 + 1) (by omega) (by omega) (by omega), q (0 + 2) (69 + 2) (by omega) (by omega) (by omega), q (0 + 3) (69 + 3) (by omega) (by omega) (by omega), q (0 + 4) (69 + 4) (by omega) (by omega) (by omega), q (0 + 65) (69 + 65) (by omega) (by omega) (by omega), q (0 + 66) (69 + 66) (by omega) (by omega) (by omega), q (0 + 67) (69 + 67) (by omega) (by omega) (by omega), q (0 + 68) (69 + 68) (by omega) (by omega) (by omega)]
  have g1 : g (69 + 1) ≤ 4 := h1
  have g2 : g (69 + 2) ≤ 6 := h2
  have g3 : g (69 + 3) ≤ 8 := h3
  rw [E (0 ≤ i ∧ i ≤ 4) (0 + i) (69 + i) (by omega), E (0 ≤ i ∧ i < 16) (0 + 5 + i) (69 + 5 + i) (by omega), E (0 ≤ i ∧ i < g (69 + 1)) (0 + 21 + i) (69 + 21 + i) (by omega), E (0 ≤ i ∧ i < g (69 + 1)) (0 + 25 + i) (69 + 25 + i) (by omega), E (0 ≤ i ∧ i < g (69 + 2)) (0 + 29 + i) (69 + 29 + i) (by omega), E (0 ≤ i ∧ i < g (69 + 2)) (0 + 35 + i) (69 + 35 + i) (by omega), E (0 ≤ i ∧ i < g (69 + 3)) (0 + 41 + i) (69 + 41 + i) (by omega), E (0 ≤ i ∧ i < g (69 + 3)) (0 + 49 + i) (69 + 49 + i) (by omega), E (0 ≤ i ∧ i < g (69 + 3)) (0 + 57 + i) (69 + 57 + i) (by omega)]
