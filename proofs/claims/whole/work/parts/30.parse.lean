/-! THE TEXT'S READING. tx: the letters (0 beyond), n: how many -/
def nv (tx : Rd) (p : Int) : Int := if 48 ≤ tx (p + 1) ∧ tx (p + 1) ≤ 57 then 10 * (tx p - 48) + (tx (p + 1) - 48) else tx p - 48
def ne (tx : Rd) (p : Int) : Int := if 48 ≤ tx (p + 1) ∧ tx (p + 1) ≤ 57 then p + 2 else p + 1
def ps (tx : Rd) (p : Int) : Nat → Int
  | 0 => p
  | k + 1 => ne tx (ps tx p k) + 1
abbrev sep (many k : Int) : Int := if k = many - 1 then 59 else 44
def okn (tx : Rd) (p many : Int) : Nat → Bool
  | 0 => true
  | k + 1 => okn tx p many k && decide ((48 ≤ tx (ps tx p k) ∧ tx (ps tx p k) ≤ 57) ∧ tx (ne tx (ps tx p k)) = sep many k)
abbrev nb (c : Int) : Int := if c = 110 then 1 else if c = 112 ∨ c = 119 ∨ c = 116 ∨ c = 102 then 2 else if c = 100 then 3 else 0
def okI (mo : Mo) (bey c a b d : Int) : Bool := decide ((c = 110 ∧ bey = 0 ∧ 5 ≤ a ∧ a ≤ 16) ∨ (c = 112 ∧ 1 ≤ a ∧ a ≤ mo 0 0 - 2 ∧ b ≤ 60) ∨ (c = 119 ∧ mo 0 1 < 4 ∧ a ≤ 4 ∧ b ≤ 9) ∨ (c = 116 ∧ mo 0 2 < 6 ∧ a < mo 0 0 ∧ b ≤ 60) ∨ (c = 100 ∧ mo 0 3 < 8 ∧ a ≤ 9 ∧ b < mo 0 1 ∧ d < mo 0 2) ∨ (c = 102 ∧ mo 0 4 < 2 ∧ a ≤ b ∧ b ≤ 9))
def fogM (mo : Mo) (a b : Int) : Mo := up (fun k i => if k = 9 ∧ a ≤ i ∧ i ≤ b then 1 else mo k i) 0 4 (mo 0 4 + 1)
def moI (mo : Mo) (c a b d : Int) : Mo :=
  if c = 110 then up mo 0 0 a else if c = 112 then up mo 1 a b
  else if c = 119 then up (up (up mo 2 (mo 0 1) a) 3 (mo 0 1) b) 0 1 (mo 0 1 + 1)
  else if c = 116 then up (up (up mo 4 (mo 0 2) a) 5 (mo 0 2) b) 0 2 (mo 0 2 + 1)
  else if c = 100 then up (up (up (up mo 6 (mo 0 3) a) 7 (mo 0 3) b) 8 (mo 0 3) d) 0 3 (mo 0 3 + 1)
  else fogM mo a b
def prs (tx : Rd) (n : Int) : Nat → Int → Mo → Int → Int × Mo
  | 0, _, mo, _ => (-4, mo)
  | F + 1, p, mo, bey => if p < n then (if okn tx (p + 1) (nb (tx p)) (nb (tx p)).toNat = true ∧ okI mo bey (tx p) (nv tx (ps tx (p + 1) 0)) (nv tx (ps tx (p + 1) 1)) (nv tx (ps tx (p + 1) 2)) = true then prs tx n F (ps tx (p + 1) (nb (tx p)).toNat) (moI mo (tx p) (nv tx (ps tx (p + 1) 0)) (nv tx (ps tx (p + 1) 1)) (nv tx (ps tx (p + 1) 2))) (if tx p = 110 then bey else 1) else (p, mo)) else (-4, mo)
def mo0 : Mo := fun a i => if a = 0 then (if i = 0 then 9 else 0) else if a = 1 then (if 0 ≤ i ∧ i < 16 then 30 else 0) else 0
def rdg (tx : Rd) (n : Int) : Int × Mo := prs tx n 201 0 mo0 0
theorem okn_s {tx : Rd} {p many : Int} {k : Nat} (h : okn tx p many (k + 1) = true) : okn tx p many k = true ∧ (48 ≤ tx (ps tx p k) ∧ tx (ps tx p k) ≤ 57) ∧ tx (ne tx (ps tx p k)) = sep many k := by
  unfold okn at h
  simp only [Bool.and_eq_true, decide_eq_true_eq] at h
  exact h
theorem okn_le {tx : Rd} {p many : Int} : ∀ {k j : Nat}, j ≤ k → okn tx p many k = true → okn tx p many j = true
  | 0, j, h, hk => by
    have : j = 0 := by omega
    subst this; exact hk
  | k + 1, j, h, hk => by
    by_cases hj : j = k + 1
    · subst hj; exact hk
    · exact okn_le (by omega) (okn_s hk).1
theorem okn_v {tx : Rd} {p many : Int} {k j : Nat} (hj : j < k) (h : okn tx p many k = true) : 0 ≤ nv tx (ps tx p j) ∧ nv tx (ps tx p j) ≤ 99 := by
  have h1 := (okn_s (okn_le (show j + 1 ≤ k by omega) h)).2.1
  unfold nv
  split <;> omega
theorem ps_ge {tx : Rd} {p : Int} : ∀ k : Nat, p + 2 * k ≤ ps tx p k ∧ ps tx p k ≤ p + 3 * k
  | 0 => by simp [ps]
  | k + 1 => by
    have := ps_ge (tx := tx) (p := p) k
    unfold ps ne
    split <;> omega
theorem WFm_0 : WFm mo0 := by
  refine ⟨by decide, by decide, by decide, by decide, by decide, fun i => ?_, fun i => by simp [mo0], fun i => by simp [mo0], fun i => by simp [mo0], fun i => by simp [mo0], fun i => by simp [mo0], fun i h1 h2 => ?_, fun i => by simp [mo0]⟩
  · simp only [mo0]
    split
    · omega
    · split
      · split <;> omega
      · omega
  · have : mo0 0 3 = 0 := by decide
    omega
theorem up_le {M : Mem} {k : Nat} {j x lo hi : Int} {a : Nat} (h : ∀ i, lo ≤ M a i ∧ M a i ≤ hi) (hx : k = a → lo ≤ x ∧ x ≤ hi) : ∀ i, lo ≤ up M k j x a i ∧ up M k j x a i ≤ hi := by
  intro i
  unfold up
  split
  · rename_i h1; exact hx h1.1.symm
  · exact h i
theorem WFm_I {mo : Mo} {bey c a b d : Int} (hm : WFm mo) (ha : 0 ≤ a) (hb : c ≠ 110 → 0 ≤ b) (hd : c = 100 → 0 ≤ d) (ho : okI mo bey c a b d = true) : WFm (moI mo c a b d) := by
  obtain ⟨h0, h1, h2, h3, h4, k1, k2, k3, k4, k5, k6, k7, k9⟩ := hm
  simp only [okI, decide_eq_true_eq] at ho
  rcases ho with ⟨rfl, o1, o2⟩ | ⟨rfl, o1, o2, o3⟩ | ⟨rfl, o1, o2, o3⟩ | ⟨rfl, o1, o2, o3⟩ | ⟨rfl, o1, o2, o3, o4⟩ | ⟨rfl, o1, o2, o3⟩
  · have e : moI mo 110 a b d = up mo 0 0 a := rfl
    rw [e]
    have n1 : ∀ k i, ¬ (k = 0 ∧ i = 0) → up mo 0 0 a k i = mo k i := fun k i h => by unfold up; rw [if_neg h]
    refine ⟨by rw [up_s]; omega, by rw [n1 _ _ (by omega)]; exact h1, by rw [n1 _ _ (by omega)]; exact h2, by rw [n1 _ _ (by omega)]; exact h3, by rw [n1 _ _ (by omega)]; exact h4, fun i => by rw [n1 _ _ (by omega)]; exact k1 i, fun i => by rw [n1 _ _ (by omega)]; exact k2 i, fun i => by rw [n1 _ _ (by omega)]; exact k3 i, fun i => by rw [n1 _ _ (by omega)]; exact k4 i, fun i => by rw [n1 _ _ (by omega)]; exact k5 i, fun i => by rw [n1 _ _ (by omega)]; exact k6 i, fun i g1 g2 => ?_, fun i => by rw [n1 _ _ (by omega)]; exact k9 i⟩
    rw [n1 _ _ (by omega)] at g2
    rw [n1 _ _ (by omega), n1 _ _ (by omega), n1 _ _ (by omega), n1 _ _ (by omega)]
    exact k7 i g1 g2
  · have e : moI mo 112 a b d = up mo 1 a b := rfl
    rw [e]
    have hb := hb (by omega)
    have n1 : ∀ k i, k ≠ 1 → up mo 1 a b k i = mo k i := fun k i h => up_k h
    refine ⟨by rw [n1 _ _ (by omega)]; exact h0, by rw [n1 _ _ (by omega)]; exact h1, by rw [n1 _ _ (by omega)]; exact h2, by rw [n1 _ _ (by omega)]; exact h3, by rw [n1 _ _ (by omega)]; exact h4, up_le k1 (fun _ => by omega), fun i => by rw [n1 _ _ (by omega)]; exact k2 i, fun i => by rw [n1 _ _ (by omega)]; exact k3 i, fun i => by rw [n1 _ _ (by omega)]; exact k4 i, fun i => by rw [n1 _ _ (by omega)]; exact k5 i, fun i => by rw [n1 _ _ (by omega)]; exact k6 i, fun i g1 g2 => ?_, fun i => by rw [n1 _ _ (by omega)]; exact k9 i⟩
    rw [n1 _ _ (by omega)] at g2
    rw [n1 _ _ (by omega), n1 _ _ (by omega), n1 _ _ (by omega), n1 _ _ (by omega)]
    exact k7 i g1 g2
  · have e : moI mo 119 a b d = up (up (up mo 2 (mo 0 1) a) 3 (mo 0 1) b) 0 1 (mo 0 1 + 1) := rfl
    rw [e]
    have hb := hb (by omega)
    have n1 : ∀ k i, k ≠ 2 → k ≠ 3 → ¬ (k = 0 ∧ i = 1) → up (up (up mo 2 (mo 0 1) a) 3 (mo 0 1) b) 0 1 (mo 0 1 + 1) k i = mo k i := fun k i g1 g2 g3 => by
      rw [up, if_neg g3, up_k g2, up_k g1]
    refine ⟨by rw [n1 _ _ (by omega) (by omega) (by omega)]; exact h0, by rw [up_s]; omega, by rw [n1 _ _ (by omega) (by omega) (by omega)]; exact h2, by rw [n1 _ _ (by omega) (by omega) (by omega)]; exact h3, by rw [n1 _ _ (by omega) (by omega) (by omega)]; exact h4, fun i => by rw [n1 _ _ (by omega) (by omega) (by omega)]; exact k1 i, up_le (up_le (up_le k2 (fun _ => by omega)) (fun _ => by omega)) (fun _ => by omega), up_le (up_le (up_le k3 (fun _ => by omega)) (fun _ => by omega)) (fun _ => by omega), fun i => by rw [n1 _ _ (by omega) (by omega) (by omega)]; exact k4 i, fun i => by rw [n1 _ _ (by omega) (by omega) (by omega)]; exact k5 i, fun i => by rw [n1 _ _ (by omega) (by omega) (by omega)]; exact k6 i, fun i g1 g2 => ?_, fun i => by rw [n1 _ _ (by omega) (by omega) (by omega)]; exact k9 i⟩
    rw [n1 _ _ (by omega) (by omega) (by omega)] at g2
    rw [n1 7 i (by omega) (by omega) (by omega), n1 8 i (by omega) (by omega) (by omega), n1 0 2 (by omega) (by omega) (by omega), up_s]
    have := k7 i g1 g2
    omega
  · have e : moI mo 116 a b d = up (up (up mo 4 (mo 0 2) a) 5 (mo 0 2) b) 0 2 (mo 0 2 + 1) := rfl
    rw [e]
    have hb := hb (by omega)
    have n1 : ∀ k i, k ≠ 4 → k ≠ 5 → ¬ (k = 0 ∧ i = 2) → up (up (up mo 4 (mo 0 2) a) 5 (mo 0 2) b) 0 2 (mo 0 2 + 1) k i = mo k i := fun k i g1 g2 g3 => by
      rw [up, if_neg g3, up_k g2, up_k g1]
    refine ⟨by rw [n1 _ _ (by omega) (by omega) (by omega)]; exact h0, by rw [n1 _ _ (by omega) (by omega) (by omega)]; exact h1, by rw [up_s]; omega, by rw [n1 _ _ (by omega) (by omega) (by omega)]; exact h3, by rw [n1 _ _ (by omega) (by omega) (by omega)]; exact h4, fun i => by rw [n1 _ _ (by omega) (by omega) (by omega)]; exact k1 i, fun i => by rw [n1 _ _ (by omega) (by omega) (by omega)]; exact k2 i, fun i => by rw [n1 _ _ (by omega) (by omega) (by omega)]; exact k3 i, up_le (up_le (up_le k4 (fun _ => by omega)) (fun _ => by omega)) (fun _ => by omega), up_le (up_le (up_le k5 (fun _ => by omega)) (fun _ => by omega)) (fun _ => by omega), fun i => by rw [n1 _ _ (by omega) (by omega) (by omega)]; exact k6 i, fun i g1 g2 => ?_, fun i => by rw [n1 _ _ (by omega) (by omega) (by omega)]; exact k9 i⟩
    rw [n1 _ _ (by omega) (by omega) (by omega)] at g2
    rw [n1 _ _ (by omega) (by omega) (by omega), n1 _ _ (by omega) (by omega) (by omega), n1 _ _ (by omega) (by omega) (by omega), up_s]
    have := k7 i g1 g2
    omega
  · have e : moI mo 100 a b d = up (up (up (up mo 6 (mo 0 3) a) 7 (mo 0 3) b) 8 (mo 0 3) d) 0 3 (mo 0 3 + 1) := rfl
    rw [e]
    have hb := hb (by omega)
    have hd := hd rfl
    have n1 : ∀ k i, k ≠ 6 → k ≠ 7 → k ≠ 8 → ¬ (k = 0 ∧ i = 3) → up (up (up (up mo 6 (mo 0 3) a) 7 (mo 0 3) b) 8 (mo 0 3) d) 0 3 (mo 0 3 + 1) k i = mo k i := fun k i g1 g2 g3 g4 => by
      rw [up, if_neg g4, up_k g3, up_k g2, up_k g1]
    refine ⟨by rw [n1 _ _ (by omega) (by omega) (by omega) (by omega)]; exact h0, by rw [n1 _ _ (by omega) (by omega) (by omega) (by omega)]; exact h1, by rw [n1 _ _ (by omega) (by omega) (by omega) (by omega)]; exact h2, by rw [up_s]; omega, by rw [n1 _ _ (by omega) (by omega) (by omega) (by omega)]; exact h4, fun i => by rw [n1 _ _ (by omega) (by omega) (by omega) (by omega)]; exact k1 i, fun i => by rw [n1 _ _ (by omega) (by omega) (by omega) (by omega)]; exact k2 i, fun i => by rw [n1 _ _ (by omega) (by omega) (by omega) (by omega)]; exact k3 i, fun i => by rw [n1 _ _ (by omega) (by omega) (by omega) (by omega)]; exact k4 i, fun i => by rw [n1 _ _ (by omega) (by omega) (by omega) (by omega)]; exact k5 i, up_le (up_le (up_le (up_le k6 (fun _ => by omega)) (fun _ => by omega)) (fun _ => by omega)) (fun _ => by omega), fun i g1 g2 => ?_, fun i => by rw [n1 _ _ (by omega) (by omega) (by omega) (by omega)]; exact k9 i⟩
    rw [up_s] at g2
    rw [n1 0 1 (by omega) (by omega) (by omega) (by omega), n1 0 2 (by omega) (by omega) (by omega) (by omega)]
    have e7 : up (up (up (up mo 6 (mo 0 3) a) 7 (mo 0 3) b) 8 (mo 0 3) d) 0 3 (mo 0 3 + 1) 7 i = if i = mo 0 3 then b else mo 7 i := by
      rw [up_k (by omega), up_k (by omega), up]
      by_cases hi : i = mo 0 3
      · rw [if_pos ⟨rfl, hi⟩, if_pos hi]
      · rw [if_neg (fun q => hi q.2), if_neg hi, up_k (by omega)]
    have e8 : up (up (up (up mo 6 (mo 0 3) a) 7 (mo 0 3) b) 8 (mo 0 3) d) 0 3 (mo 0 3 + 1) 8 i = if i = mo 0 3 then d else mo 8 i := by
      rw [up_k (by omega), up]
      by_cases hi : i = mo 0 3
      · rw [if_pos ⟨rfl, hi⟩, if_pos hi]
      · rw [if_neg (fun q => hi q.2), if_neg hi, up_k (by omega), up_k (by omega)]
    rw [e7, e8]
    by_cases hi : i = mo 0 3
    · rw [if_pos hi, if_pos hi]; omega
    · rw [if_neg hi, if_neg hi]
      exact k7 i g1 (by omega)
  · have e : moI mo 102 a b d = fogM mo a b := rfl
    rw [e]
    have n1 : ∀ k i, k ≠ 9 → ¬ (k = 0 ∧ i = 4) → fogM mo a b k i = mo k i := fun k i g1 g2 => by
      unfold fogM
      rw [up, if_neg g2, if_neg (fun q => g1 q.1)]
    refine ⟨by rw [n1 _ _ (by omega) (by omega)]; exact h0, by rw [n1 _ _ (by omega) (by omega)]; exact h1, by rw [n1 _ _ (by omega) (by omega)]; exact h2, by rw [n1 _ _ (by omega) (by omega)]; exact h3, by unfold fogM; rw [up_s]; omega, fun i => by rw [n1 _ _ (by omega) (by omega)]; exact k1 i, fun i => by rw [n1 _ _ (by omega) (by omega)]; exact k2 i, fun i => by rw [n1 _ _ (by omega) (by omega)]; exact k3 i, fun i => by rw [n1 _ _ (by omega) (by omega)]; exact k4 i, fun i => by rw [n1 _ _ (by omega) (by omega)]; exact k5 i, fun i => by rw [n1 _ _ (by omega) (by omega)]; exact k6 i, fun i g1 g2 => ?_, fun i => ?_⟩
    · rw [n1 _ _ (by omega) (by omega)] at g2
      rw [n1 _ _ (by omega) (by omega), n1 _ _ (by omega) (by omega), n1 _ _ (by omega) (by omega), n1 _ _ (by omega) (by omega)]
      exact k7 i g1 g2
    · unfold fogM
      rw [up_k (by omega)]
      split
      · right; rfl
      · exact k9 i
