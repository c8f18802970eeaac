/-! THE FEWEST WALKS -/
/-- the least c below n with P c, else -1 -/
def lst (P : Int → Bool) : Nat → Int
  | 0 => -1
  | n + 1 => if 0 ≤ lst P n then lst P n else if P n = true then n else -1
theorem lst_in {P : Int → Bool} : ∀ n : Nat, (lst P n = -1 ∧ ∀ c : Int, 0 ≤ c → c < n → P c = false) ∨ (0 ≤ lst P n ∧ lst P n < n ∧ P (lst P n) = true ∧ ∀ c : Int, 0 ≤ c → c < lst P n → P c = false)
  | 0 => Or.inl ⟨rfl, fun c h0 h1 => by omega⟩
  | n + 1 => by
    unfold lst
    rcases lst_in (P := P) n with ⟨h1, h2⟩ | ⟨h1, h2, h3, h4⟩
    · rw [if_neg (by omega)]
      by_cases hp : P n = true
      · rw [if_pos hp]
        exact Or.inr ⟨by omega, by omega, hp, h2⟩
      · rw [if_neg hp]
        refine Or.inl ⟨rfl, fun c c0 c1 => ?_⟩
        by_cases hc : c = n
        · subst hc; simpa using hp
        · exact h2 c c0 (by omega)
    · rw [if_pos h1]
      exact Or.inr ⟨h1, by omega, h3, h4⟩
theorem lst_is {P : Int → Bool} {n : Nat} {c : Int} (h0 : 0 ≤ c) (h1 : c < n) (hp : P c = true) (hl : ∀ d : Int, 0 ≤ d → d < c → P d = false) : lst P n = c := by
  rcases lst_in (P := P) n with ⟨g1, g2⟩ | ⟨g1, g2, g3, g4⟩
  · rw [g2 c h0 h1] at hp; cases hp
  · rcases Int.lt_trichotomy (lst P n) c with h | h | h
    · rw [hl _ g1 h] at g3; cases g3
    · exact h
    · rw [g4 c h0 h] at hp; cases hp
theorem lst_no {P : Int → Bool} {n : Nat} (h : ∀ d : Int, 0 ≤ d → d < n → P d = false) : lst P n = -1 := by
  rcases lst_in (P := P) n with ⟨g1, -⟩ | ⟨g1, g2, g3, -⟩
  · exact g1
  · rw [h _ g1 g2] at g3; cases g3
/-- is the goal met: a yard for a post g, or (g < 0) a length -/
def gl (mo : Mo) (g v : Int) (ro : Rd) : Bool := decide (if g < 0 then v ≤ len (mo 0 0) ro else ro g = v)
abbrev nAll (mo : Mo) : Int := mo 0 1 * mo 0 2
/-- the road behind the walk of number c -/
def stp (mo : Mo) (ro : Rd) (c : Int) : Rd := (bend mo ro (c / mo 0 2) (c % mo 0 2)).1
/-- the first row of k walks that meets the goal, as a number; -1: none -/
def fw (mo : Mo) (g v : Int) : Nat → Rd → Int
  | 0, ro => if gl mo g v ro = true then 0 else -1
  | k + 1, ro => if 0 ≤ lst (fun c => decide (0 ≤ fw mo g v k (stp mo ro c))) (nAll mo).toNat then lst (fun c => decide (0 ≤ fw mo g v k (stp mo ro c))) (nAll mo).toNat * nAll mo ^ k + fw mo g v k (stp mo ro (lst (fun c => decide (0 ≤ fw mo g v k (stp mo ro c))) (nAll mo).toNat)) else -1
def fst1 (mo : Mo) (g v : Int) (k : Nat) (ro : Rd) : Int := lst (fun c => decide (0 ≤ fw mo g v k (stp mo ro c))) (nAll mo).toNat
theorem fw_s {mo : Mo} {g v : Int} {k : Nat} {ro : Rd} : fw mo g v (k + 1) ro = if 0 ≤ fst1 mo g v k ro then fst1 mo g v k ro * nAll mo ^ k + fw mo g v k (stp mo ro (fst1 mo g v k ro)) else -1 := rfl
theorem nAll_in {mo : Mo} (hm : WFm mo) : 0 ≤ nAll mo ∧ nAll mo ≤ 24 := by
  obtain ⟨-, h1, h2, -⟩ := hm
  have a1 := Int.mul_nonneg h1.1 h2.1
  have a2 : mo 0 1 * mo 0 2 ≤ 4 * mo 0 2 := Int.mul_le_mul_of_nonneg_right h1.2 h2.1
  exact ⟨a1, by show mo 0 1 * mo 0 2 ≤ 24; omega⟩
/-- all k walks of number c, the first digit first -/
def rnF (mo : Mo) : Nat → Rd → Int → Rd
  | 0, ro, _ => ro
  | k + 1, ro, c => rnF mo k (stp mo ro (c / nAll mo ^ k)) (c % nAll mo ^ k)
theorem pw_pos {a : Int} (h : 0 < a) (k : Nat) : 0 < a ^ k := Int.pow_pos h
theorem fw_l {mo : Mo} {g v : Int} (hA : 0 ≤ nAll mo) : ∀ (k : Nat) (ro : Rd), lst (fun c => gl mo g v (rnF mo k ro c)) (nAll mo ^ k).toNat = fw mo g v k ro
  | 0, ro => by
    have e : (nAll mo ^ 0).toNat = 1 := by rw [Int.pow_zero]; rfl
    rw [e]
    show (if (0 : Int) ≤ -1 then (-1 : Int) else if gl mo g v ro = true then ((0 : Nat) : Int) else -1) = if gl mo g v ro = true then 0 else -1
    rw [if_neg (by omega)]
    rfl
  | k + 1, ro => by
    have ih := fun r => fw_l (g := g) (v := v) hA k r
    rcases (show nAll mo = 0 ∨ 0 < nAll mo by omega) with h0 | hpos
    · rw [fw_s]
      have e1 : (nAll mo ^ (k + 1)).toNat = 0 := by rw [h0, Int.pow_succ]; simp
      have e2 : fst1 mo g v k ro = -1 := by
        unfold fst1
        rw [h0]; rfl
      rw [e1, e2, if_neg (by omega)]; rfl
    · have hp := pw_pos hpos k
      have hpe : nAll mo ^ (k + 1) = nAll mo ^ k * nAll mo := Int.pow_succ _ _
      have hcast : (((nAll mo ^ (k + 1)).toNat : Nat) : Int) = nAll mo ^ k * nAll mo := by
        rw [Int.toNat_of_nonneg (Int.le_of_lt (pw_pos hpos (k + 1))), hpe]
      have hck : (((nAll mo ^ k).toNat : Nat) : Int) = nAll mo ^ k := Int.toNat_of_nonneg (Int.le_of_lt hp)
      have hca : (((nAll mo).toNat : Nat) : Int) = nAll mo := Int.toNat_of_nonneg hA
      have key : ∀ c : Int, (fun c => gl mo g v (rnF mo (k + 1) ro c)) c = gl mo g v (rnF mo k (stp mo ro (c / nAll mo ^ k)) (c % nAll mo ^ k)) := fun c => rfl
      have none_ : ∀ q : Int, fw mo g v k (stp mo ro q) = -1 → ∀ e : Int, 0 ≤ e → e < nAll mo ^ k → gl mo g v (rnF mo k (stp mo ro q) e) = false := by
        intro q hq e e0 e1
        rcases lst_in (P := fun c => gl mo g v (rnF mo k (stp mo ro q) c)) (nAll mo ^ k).toNat with ⟨-, g2⟩ | ⟨g1, -⟩
        · exact g2 e e0 (by omega)
        · rw [ih, hq] at g1; omega
      rw [fw_s]
      rcases lst_in (P := fun c => decide (0 ≤ fw mo g v k (stp mo ro c))) (nAll mo).toNat with ⟨h1, h2⟩ | ⟨h1, h2, h3, h4⟩
      · have e1 : fst1 mo g v k ro = -1 := h1
        rw [e1, if_neg (by omega)]
        refine lst_no (fun d d0 d1 => ?_)
        rw [hcast] at d1
        have hq1 : d / nAll mo ^ k < nAll mo := Int.ediv_lt_of_lt_mul hp (by rw [Int.mul_comm]; exact d1)
        have hq0 : 0 ≤ d / nAll mo ^ k := Int.ediv_nonneg d0 (Int.le_of_lt hp)
        have hneg := h2 _ hq0 (by omega)
        simp only [decide_eq_false_iff_not] at hneg
        have hf : fw mo g v k (stp mo ro (d / nAll mo ^ k)) = -1 := by
          rcases lst_in (P := fun c => gl mo g v (rnF mo k (stp mo ro (d / nAll mo ^ k)) c)) (nAll mo ^ k).toNat with ⟨g1, -⟩ | ⟨g1, -⟩
          · rw [ih] at g1; exact g1
          · rw [ih] at g1; exact absurd g1 hneg
        exact none_ _ hf _ (Int.emod_nonneg _ (by omega)) (Int.emod_lt_of_pos _ hp)
      · have e1 : 0 ≤ fst1 mo g v k ro := h1
        rw [if_pos e1]
        have e2 : fst1 mo g v k ro = lst (fun c => decide (0 ≤ fw mo g v k (stp mo ro c))) (nAll mo).toNat := rfl
        rw [← e2] at h2 h3 h4
        simp only [decide_eq_true_eq] at h3
        generalize fst1 mo g v k ro = q at *
        obtain ⟨w0, w1, w2, w3⟩ : 0 ≤ fw mo g v k (stp mo ro q) ∧ fw mo g v k (stp mo ro q) < nAll mo ^ k ∧ gl mo g v (rnF mo k (stp mo ro q) (fw mo g v k (stp mo ro q))) = true ∧ ∀ c : Int, 0 ≤ c → c < fw mo g v k (stp mo ro q) → gl mo g v (rnF mo k (stp mo ro q) c) = false := by
          rcases lst_in (P := fun c => gl mo g v (rnF mo k (stp mo ro q) c)) (nAll mo ^ k).toNat with ⟨g1, -⟩ | ⟨g1, g2, g3, g4⟩
          · rw [ih] at g1; omega
          · rw [ih] at g1 g2 g3 g4
            exact ⟨g1, by omega, g3, g4⟩
        generalize fw mo g v k (stp mo ro q) = z at *
        have hdiv : (q * nAll mo ^ k + z) / nAll mo ^ k = q := by
          rw [Int.add_comm, Int.add_mul_ediv_right _ _ (by omega), Int.ediv_eq_zero_of_lt w0 w1]; omega
        have hmod : (q * nAll mo ^ k + z) % nAll mo ^ k = z := by
          rw [Int.add_comm, Int.add_mul_emod_self_right, Int.emod_eq_of_lt w0 w1]
        have hq0 : 0 ≤ q * nAll mo ^ k := Int.mul_nonneg e1 (Int.le_of_lt hp)
        refine lst_is (by omega) ?_ ?_ (fun d d0 d1 => ?_)
        · rw [hcast]
          have : (q + 1) * nAll mo ^ k ≤ nAll mo * nAll mo ^ k := Int.mul_le_mul_of_nonneg_right (by omega) (Int.le_of_lt hp)
          rw [Int.add_mul, Int.one_mul] at this
          rw [Int.mul_comm (nAll mo ^ k)]
          omega
        · show gl mo g v (rnF mo k (stp mo ro ((q * nAll mo ^ k + z) / nAll mo ^ k)) ((q * nAll mo ^ k + z) % nAll mo ^ k)) = true
          rw [hdiv, hmod]
          exact w2
        · show gl mo g v (rnF mo k (stp mo ro (d / nAll mo ^ k)) (d % nAll mo ^ k)) = false
          have hm0 : 0 ≤ d % nAll mo ^ k := Int.emod_nonneg _ (by omega)
          have hm1 : d % nAll mo ^ k < nAll mo ^ k := Int.emod_lt_of_pos _ hp
          have hde : nAll mo ^ k * (d / nAll mo ^ k) + d % nAll mo ^ k = d := Int.mul_ediv_add_emod d _
          have hdq : d / nAll mo ^ k ≤ q := by
            have : d / nAll mo ^ k < q + 1 := Int.ediv_lt_of_lt_mul hp (by rw [Int.add_mul, Int.one_mul]; omega)
            omega
          have hd00 : 0 ≤ d / nAll mo ^ k := Int.ediv_nonneg d0 (Int.le_of_lt hp)
          rcases (show d / nAll mo ^ k < q ∨ d / nAll mo ^ k = q by omega) with hl | he
          · have hneg := h4 _ hd00 hl
            simp only [decide_eq_false_iff_not] at hneg
            have hf : fw mo g v k (stp mo ro (d / nAll mo ^ k)) = -1 := by
              rcases lst_in (P := fun c => gl mo g v (rnF mo k (stp mo ro (d / nAll mo ^ k)) c)) (nAll mo ^ k).toNat with ⟨g1, -⟩ | ⟨g1, -⟩
              · rw [ih] at g1; exact g1
              · rw [ih] at g1; exact absurd g1 hneg
            exact none_ _ hf _ hm0 hm1
          · rw [he]
            refine w3 _ hm0 ?_
            rw [he, Int.mul_comm] at hde
            omega
