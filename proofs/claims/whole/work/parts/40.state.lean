/-! THE STATE THAT BOTH SIDES HOLD: letters, moor, road, undone, kept, bent, found -/
abbrev AS : Type := Int × Rd × Mo × Rd × (Int × (Int → Rd)) × (Int × (Int → Rd)) × (Int × Rd × Rd) × (Int × Rd × Rd × Rd)
def zF : Rd := fun _ => 0
def zR : Int → Rd := fun _ => zF
def mskR (n : Int) (g : Int → Rd) : Int → Rd := fun k => if 0 ≤ k ∧ k < n then g k else zF
theorem mskR_i {n k : Int} {g : Int → Rd} (h : 0 ≤ k ∧ k < n) : mskR n g k = g k := by unfold mskR; rw [if_pos h]
theorem mskR_0 {g : Int → Rd} : mskR 0 g = zR := by funext k; unfold mskR; rw [if_neg (by omega)]; rfl
theorem msk_0 {g : Rd} : msk 0 g = zF := by funext k; unfold msk; rw [if_neg (by omega)]; rfl
theorem mskR_e {n : Int} {g h : Int → Rd} (e : ∀ k, 0 ≤ k → k < n → g k = h k) : mskR n g = mskR n h := by
  funext k
  unfold mskR
  split
  · rename_i hk; exact e k hk.1 hk.2
  · rfl
theorem msk_e {n : Int} {g h : Rd} (e : ∀ k, 0 ≤ k → k < n → g k = h k) : msk n g = msk n h := by
  funext k
  unfold msk
  split
  · rename_i hk; exact e k hk.1 hk.2
  · rfl
theorem mskR_m {n m : Int} {g : Int → Rd} (h : m ≤ n) : mskR m (mskR n g) = mskR m g := mskR_e (fun k h0 h1 => mskR_i ⟨h0, by omega⟩)
def absC (M : Mem) : AS := (M 1 1, txC M, moC M 5, roC M 23, (M 27 1, mskR (M 27 1) (shR M 27)), (M 45 1, mskR (M 45 1) (shR M 45)), (M 51 3, clC M 51 1, clC M 51 3), (M 55 3, clC M 55 1, clC M 55 2, clC M 55 3))
/-- what is so of the class's cells; no road is older than B days -/
def IC (M : Mem) (B : Int) : Prop := WFm (moC M 5) ∧ (0 ≤ M 1 1 ∧ M 1 1 ≤ 200) ∧ (WFr (roC M 23) B ∧ M 23 0 = M 5 0) ∧ (ShOK M 27 8 ∧ ∀ k : Int, 0 ≤ k → k < M 27 1 → WFr (shR M 27 k) B ∧ M (ix M 27 k) 0 = M 5 0) ∧ (ShOK M 45 2 ∧ ∀ k : Int, 0 ≤ k → k < M 45 1 → WFr (shR M 45 k) B ∧ M (ix M 45 k) 0 = M 5 0) ∧ (ClOK M 51 ∧ ∀ k : Int, 0 ≤ k → k < M 51 3 → M 53 k = 1) ∧ ClOK M 55 ∧ StOK M
/-- the cells that a call may use as it likes -/
def SC (c : Nat) : Prop := c = 4 ∨ (14 ≤ c ∧ c ≤ 22) ∨ c = 25 ∨ c = 26 ∨ c = 59 ∨ (61 ≤ c ∧ c ≤ 71)
def FrC (M M' : Mem) : Prop := ∀ c, ¬ SC c → M' c = M c
theorem FrC_r {M : Mem} : FrC M M := fun _ _ => rfl
theorem FrC_t {M N P : Mem} (h1 : FrC M N) (h2 : FrC N P) : FrC M P := fun c hc => (h2 c hc).trans (h1 c hc)
theorem FrC_up {M N : Mem} {k : Nat} {j x : Int} (h : FrC M N) (hk : SC k) : FrC M (up N k j x) := fun c hc => by
  rw [up_o c (fun q => hc (q ▸ hk))]; exact h c hc
theorem FrC_pc {M N : Mem} {f : Rd} (h : FrC M N) : FrC M (putC N 25 f) := fun c hc => by
  rw [pc_co (fun q => hc (by unfold SC; omega)) (fun q => hc (by unfold SC; omega))]; exact h c hc
theorem shR_e {M M' : Mem} {f n : Nat} (hS : ShOK M f n) (hf : (f = 27 ∧ n = 8) ∨ (f = 45 ∧ n = 2)) (h : ∀ c, f ≤ c → c ≤ f + 1 + 2 * n → M' c = M c) : ShOK M' f n ∧ M' f 1 = M f 1 ∧ (∀ k : Int, 0 ≤ k → k < n → shR M' f k = shR M f k ∧ M' (ix M' f k) 0 = M (ix M f k) 0) := by
  have e0 := h f (by omega) (by omega)
  have e1 := h (f + 1) (by omega) (by omega)
  have eix : ∀ k, ix M' f k = ix M f k := fun k => by unfold ix; rw [e1]
  refine ⟨⟨by rw [e0]; exact hS.1, fun k h0 h1 => by rw [e1]; exact hS.2.1 k h0 h1, fun j k a1 a2 a3 a4 a5 => by rw [e1] at a5; exact hS.2.2 j k a1 a2 a3 a4 a5⟩, by rw [e0], fun k h0 h1 => ?_⟩
  obtain ⟨-, -, g1, g2, -⟩ := ix_of hS h0 h1
  unfold shR
  rw [eix]
  exact ⟨roC_c (h _ (by omega) (by omega)) (h _ (by omega) (by omega)), by rw [h _ (by omega) (by omega)]⟩
theorem IC_fr {M M' : Mem} {B : Int} (hI : IC M B) (h : FrC M M') : IC M' B ∧ absC M' = absC M ∧ ∀ c, 72 ≤ c → M' c = M c := by
  obtain ⟨h1, h2, h3, h4, h5, h6, h7, h8⟩ := hI
  have e : ∀ c, c ≤ 13 → c ≠ 4 → M' c = M c := fun c c1 c2 => h c (by unfold SC; omega)
  have e2 : ∀ c, 27 ≤ c → c ≤ 58 → M' c = M c := fun c c1 c2 => h c (by unfold SC; omega)
  have em : moC M' 5 = moC M 5 := moC_c (fun c c1 c2 => e c (by omega) (by omega))
  have er : roC M' 23 = roC M 23 := roC_c (h 23 (by unfold SC; omega)) (h 24 (by unfold SC; omega))
  obtain ⟨s1, s2, s3⟩ := shR_e h4.1 (Or.inl ⟨rfl, rfl⟩) (fun c c1 c2 => e2 c (by omega) (by omega))
  obtain ⟨u1, u2, u3⟩ := shR_e h5.1 (Or.inr ⟨rfl, rfl⟩) (fun c c1 c2 => e2 c (by omega) (by omega))
  have e5 := e 5 (by omega) (by omega)
  have hs4 := h4.1.1
  have hs5 := h5.1.1
  refine ⟨⟨by rw [em]; exact h1, by rw [e 1 (by omega) (by omega)]; exact h2, ⟨by rw [er]; exact h3.1, by rw [h 23 (by unfold SC; omega), e5]; exact h3.2⟩, ⟨s1, fun k a1 a2 => ?_⟩, ⟨u1, fun k a1 a2 => ?_⟩, ⟨?_, ?_⟩, ?_, ?_⟩, ?_, fun c hc => h c (by unfold SC; omega)⟩
  · rw [s2] at a2
    obtain ⟨g1, g2⟩ := s3 k a1 (by omega)
    rw [g1, g2, e5]
    exact h4.2 k a1 a2
  · rw [u2] at a2
    obtain ⟨g1, g2⟩ := u3 k a1 (by omega)
    rw [g1, g2, e5]
    exact h5.2 k a1 a2
  · unfold ClOK
    rw [e2 51 (by omega) (by omega), e2 (51 + 1) (by omega) (by omega), e2 (51 + 2) (by omega) (by omega), e2 (51 + 3) (by omega) (by omega)]
    exact h6.1
  · rw [e2 51 (by omega) (by omega), e2 53 (by omega) (by omega)]
    exact h6.2
  · unfold ClOK
    rw [e2 55 (by omega) (by omega), e2 (55 + 1) (by omega) (by omega), e2 (55 + 2) (by omega) (by omega), e2 (55 + 3) (by omega) (by omega)]
    exact h7
  · unfold StOK
    rw [h 60 (by unfold SC; omega)]
    exact h8
  · unfold absC
    rw [em, er, txC_o (e 1 (by omega) (by omega)) (e 2 (by omega) (by omega)), e 1 (by omega) (by omega), s2, u2, mskR_e (fun k a1 a2 => (s3 k a1 (by omega)).1), mskR_e (fun k a1 a2 => (u3 k a1 (by omega)).1)]
    unfold clC
    rw [e2 51 (by omega) (by omega), e2 (51 + 1) (by omega) (by omega), e2 (51 + 3) (by omega) (by omega), e2 55 (by omega) (by omega), e2 (55 + 1) (by omega) (by omega), e2 (55 + 2) (by omega) (by omega), e2 (55 + 3) (by omega) (by omega)]
/-- a call's end: the answer, the new state, the cells in order, the other side's cells untouched -/
def QS (M : Mem) (B : Int) (S : AS) (X : Int) : Option Value → Mem → Prop := fun v M' => v = some (vi X) ∧ absC M' = S ∧ IC M' B ∧ ∀ c, 72 ≤ c → M' c = M c
/-- .. of a call that only looks -/
theorem QS_ro {M M' : Mem} {B X x : Int} (hI : IC M B) (h : FrC M M') (e : x = X) : QS M B (absC M) X (some (vi x)) M' := by
  obtain ⟨a, c, d⟩ := IC_fr hI h
  exact ⟨by rw [e], c, a, d⟩
