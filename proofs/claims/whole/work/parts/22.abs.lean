/-! THE CLASS'S CELLS AS ROADS AND MOORS -/
def roC (M : Mem) (r : Nat) : Rd := fun j => if 0 ≤ j ∧ j < 16 then M (r + 1) j else if j = 16 then M r 2 else if j = 17 then M r 3 else if j = 18 then M r 4 else 0
def putC (M : Mem) (r : Nat) (f : Rd) : Mem := fun k j => if k = r + 1 ∧ 0 ≤ j ∧ j < 16 then f j else if k = r ∧ j = 2 then f 16 else if k = r ∧ j = 3 then f 17 else if k = r ∧ j = 4 then f 18 else M k j
section PC
variable {M : Mem} {r : Nat} {f g : Rd}
theorem pc_y {i : Int} (h : 0 ≤ i ∧ i < 16) : putC M r f (r + 1) i = f i := by simp [putC, h]
theorem pc_d : putC M r f r 2 = f 16 := by
  unfold putC
  rw [if_neg (by omega), if_pos (by omega)]
theorem pc_s : putC M r f r 3 = f 17 := by
  unfold putC
  rw [if_neg (by omega), if_neg (by omega), if_pos (by omega)]
theorem pc_w : putC M r f r 4 = f 18 := by
  unfold putC
  rw [if_neg (by omega), if_neg (by omega), if_neg (by omega), if_pos (by omega)]
theorem pc_n {j : Int} (h : j = 0 ∨ j = 1) : putC M r f r j = M r j := by
  unfold putC
  rw [if_neg (by omega), if_neg (by omega), if_neg (by omega), if_neg (by omega)]
theorem pc_o {k : Nat} {j : Int} (h : k ≠ r) (h2 : k ≠ r + 1) : putC M r f k j = M k j := by
  unfold putC
  rw [if_neg (by omega), if_neg (by omega), if_neg (by omega), if_neg (by omega)]
theorem pc_self : putC M r (roC M r) = M := by
  funext k j
  unfold putC
  split
  · rename_i h; obtain ⟨rfl, h1, h2⟩ := h; simp [roC, h1, h2]
  · split
    · rename_i h; obtain ⟨rfl, rfl⟩ := h; simp [roC]
    · split
      · rename_i h; obtain ⟨rfl, rfl⟩ := h; simp [roC]
      · split
        · rename_i h; obtain ⟨rfl, rfl⟩ := h; simp [roC]
        · rfl
theorem pc_pc : putC (putC M r f) r g = putC M r g := by
  funext k j
  unfold putC
  repeat' split
  all_goals first | rfl | omega
theorem ro_pc (h : ∀ j, j < 0 ∨ 18 < j → f j = 0) : roC (putC M r f) r = f := by
  funext j
  unfold roC
  split
  · rename_i h1; exact pc_y h1
  · split
    · rename_i h1; subst h1; exact pc_d
    · split
      · rename_i h1; subst h1; exact pc_s
      · split
        · rename_i h1; subst h1; exact pc_w
        · exact (h j (by omega)).symm
theorem ro_pco {q : Nat} (h1 : q ≠ r) (h2 : q ≠ r + 1) (h3 : q + 1 ≠ r) : roC (putC M r f) q = roC M q := by
  funext j
  unfold roC
  rw [pc_o (by omega) (by omega), pc_o (by omega) (by omega), pc_o (by omega) (by omega), pc_o (by omega) (by omega)]
theorem pc_co {k : Nat} (h : k ≠ r) (h2 : k ≠ r + 1) : putC M r f k = M k := by funext j; exact pc_o h h2
theorem pcu_y {i x : Int} (h : 0 ≤ i ∧ i < 16) : up (putC M r f) (r + 1) i x = putC M r (uF f i x) := by
  funext k j
  unfold up putC uF
  repeat' split
  all_goals first | rfl | omega
theorem pcu_d {x : Int} : up (putC M r f) r 2 x = putC M r (uF f 16 x) := by
  funext k j
  unfold up putC uF
  repeat' split
  all_goals first | rfl | omega
theorem pcu_s {x : Int} : up (putC M r f) r 3 x = putC M r (uF f 17 x) := by
  funext k j
  unfold up putC uF
  repeat' split
  all_goals first | rfl | omega
theorem pcu_w {x : Int} : up (putC M r f) r 4 x = putC M r (uF f 18 x) := by
  funext k j
  unfold up putC uF
  repeat' split
  all_goals first | rfl | omega
end PC
def capC (M : Mem) (m a : Nat) : Int := if a = 1 then 16 else if a = 2 ∨ a = 3 then M m 2 else if a = 4 ∨ a = 5 then M m 5 else if a ≤ 8 then M m 8 else 0
def moC (M : Mem) (m : Nat) : Mo := fun a i => if a = 0 then (if i = 0 then M m 0 else if i = 1 then M m 2 else if i = 2 then M m 5 else if i = 3 then M m 8 else if i = 4 then M m 12 else 0) else if a = 9 then (if 0 ≤ i ∧ i < 10 then sb (M m 13) i else 0) else if 0 ≤ i ∧ i < capC M m a then M (m + a) i else 0
section MoC
variable {M : Mem} {m : Nat}
theorem moC_0 : moC M m 0 0 = M m 0 := rfl
theorem moC_1 : moC M m 0 1 = M m 2 := rfl
theorem moC_2 : moC M m 0 2 = M m 5 := rfl
theorem moC_3 : moC M m 0 3 = M m 8 := rfl
theorem moC_4 : moC M m 0 4 = M m 12 := rfl
theorem moC_f {i : Int} (h : 0 ≤ i ∧ i < 16) : moC M m 1 i = M (m + 1) i := by simp [moC, capC, h]
theorem moC_k {i : Int} (h : 0 ≤ i ∧ i < M m 2) : moC M m 2 i = M (m + 2) i := by simp [moC, capC, h]
theorem moC_r {i : Int} (h : 0 ≤ i ∧ i < M m 2) : moC M m 3 i = M (m + 3) i := by simp [moC, capC, h]
theorem moC_p {i : Int} (h : 0 ≤ i ∧ i < M m 5) : moC M m 4 i = M (m + 4) i := by simp [moC, capC, h]
theorem moC_y {i : Int} (h : 0 ≤ i ∧ i < M m 5) : moC M m 5 i = M (m + 5) i := by simp [moC, capC, h]
theorem moC_d {i : Int} (h : 0 ≤ i ∧ i < M m 8) : moC M m 6 i = M (m + 6) i := by simp [moC, capC, h]
theorem moC_w {i : Int} (h : 0 ≤ i ∧ i < M m 8) : moC M m 7 i = M (m + 7) i := by simp [moC, capC, h]
theorem moC_t {i : Int} (h : 0 ≤ i ∧ i < M m 8) : moC M m 8 i = M (m + 8) i := by simp [moC, capC, h]
theorem moC_g {i : Int} (h : 0 ≤ i ∧ i < 10) : moC M m 9 i = sb (M m 13) i := by simp [moC, h]
theorem moC_pc {r : Nat} {f : Rd} (hr : 23 ≤ r) (hm : m ≤ 14) : moC (putC M r f) m = moC M m := by
  funext a i
  have e : ∀ k, k ≤ 22 → putC M r f k = M k := fun k hk => pc_co (by omega) (by omega)
  unfold moC capC
  rw [e m (by omega)]
  by_cases ha : a ≤ 8
  · rw [e (m + a) (by omega)]
  · by_cases h0 : a = 0
    · omega
    · by_cases h9 : a = 9
      · simp [h9]
      · rw [if_neg h0, if_neg h9, if_neg h0, if_neg h9]
        have hc : ¬ (a = 1) ∧ ¬ (a = 2 ∨ a = 3) ∧ ¬ (a = 4 ∨ a = 5) ∧ ¬ (a ≤ 8) := by omega
        simp only [hc, if_false]
        rw [if_neg (by omega), if_neg (by omega)]
end MoC
/-! the walk's row of posts, from post i on -/
def bnI (kind reach place yard : Int) (ro : Rd) (i : Int) : Rd × Int := bnS kind reach place yard ro (i - 1).toNat
theorem bnI_1 {kind reach place yard : Int} {ro : Rd} : bnI kind reach place yard ro 1 = (ro, 0) := rfl
theorem bnI_s {kind reach place yard : Int} {ro : Rd} {i : Int} (hi : 1 ≤ i) : bnI kind reach place yard ro (i + 1) = if ab i place ≤ reach then (uF (bnI kind reach place yard ro i).1 i (gy kind yard (bnI kind reach place yard ro i).1 i), (bnI kind reach place yard ro i).2 + ab (gy kind yard (bnI kind reach place yard ro i).1 i) ((bnI kind reach place yard ro i).1 i)) else bnI kind reach place yard ro i := by
  have e : (i + 1 - 1).toNat = (i - 1).toNat + 1 := by omega
  have e2 : (((i - 1).toNat : Nat) : Int) + 1 = i := by omega
  unfold bnI
  rw [e]
  show (if ab ((((i - 1).toNat : Nat) : Int) + 1) place ≤ reach then _ else _) = _
  rw [e2]
theorem bnI_skip {kind reach place yard : Int} {ro : Rd} : ∀ (n : Nat) (i : Int), 1 ≤ i → (∀ j, i ≤ j → j < i + n → reach < ab j place) → bnI kind reach place yard ro (i + n) = bnI kind reach place yard ro i
  | 0, i, _, _ => by simp
  | n + 1, i, hi, h => by
    have h1 := bnI_skip (kind := kind) (yard := yard) (ro := ro) n i hi (fun j a c => h j a (by omega))
    have h2 := h (i + n) (by omega) (by omega)
    have e : i + ((n + 1 : Nat) : Int) = (i + n) + 1 := by omega
    rw [e, bnI_s (by omega), if_neg (by omega), h1]
theorem bnI_to {kind reach place yard : Int} {ro : Rd} {i i2 : Int} (hi : 1 ≤ i) (h2 : i ≤ i2) (h : ∀ j, i ≤ j → j < i2 → reach < ab j place) : bnI kind reach place yard ro i2 = bnI kind reach place yard ro i := by
  have := bnI_skip (kind := kind) (reach := reach) (place := place) (yard := yard) (ro := ro) (i2 - i).toNat i hi (fun j a c => h j a (by omega))
  rw [show i + (((i2 - i).toNat : Nat) : Int) = i2 by omega] at this
  exact this
theorem bend_eq {mo : Mo} {ro : Rd} {k t : Int} (h : ¬ sb (ro 17) t = 1) (hN : 5 ≤ mo 0 0) : bend mo ro k t = bnI (mo 2 k) (rch mo k) (mo 4 t) (mo 5 t) ro (mo 0 0 - 1) := by
  unfold bend bnI
  rw [if_neg h, show mo 0 0 - 1 - 1 = mo 0 0 - 2 by omega]
theorem bend_sh {mo : Mo} {ro : Rd} {k t : Int} (h : sb (ro 17) t = 1) : bend mo ro k t = (ro, 0) := by
  unfold bend
  rw [if_pos h]
theorem bnI_in {kind reach place yard : Int} {ro : Rd} {B i : Int} (hw : WFr ro B) (hy : 0 ≤ yard ∧ yard ≤ 60) (hi : 1 ≤ i ∧ i ≤ 15) : WFr (bnI kind reach place yard ro i).1 B ∧ 0 ≤ (bnI kind reach place yard ro i).2 ∧ (bnI kind reach place yard ro i).2 ≤ 840 := by
  have := bnS_in (kind := kind) (reach := reach) (place := place) hw hy (i - 1).toNat (by omega)
  exact ⟨this.1, this.2.1, by show (bnS _ _ _ _ _ _).2 ≤ _; omega⟩
theorem sb01 (x t : Int) : sb x t = 0 ∨ sb x t = 1 := by
  have : 0 ≤ x / 2 ^ t.toNat % 2 := Int.emod_nonneg _ (by omega)
  have : x / 2 ^ t.toNat % 2 < 2 := Int.emod_lt_of_pos _ (by omega)
  show x / 2 ^ t.toNat % 2 = 0 ∨ x / 2 ^ t.toNat % 2 = 1
  omega
