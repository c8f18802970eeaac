/-! WHAT BOTH SIDES RECKON. A road: ro 0..15 the yards, 16 the days, 17 the windows shut, 18 whether it is walked. A moor: mo 0 0..4 posts, walkers, things, told, fogs; mo 1 first yards; 2 kinds; 3 reaches; 4, 5 the things' posts and yards; 6, 7, 8 told: day, walker, thing; 9 fog by the day (0 to 9). -/
abbrev Rd : Type := Int → Int
abbrev Mo : Type := Nat → Int → Int
def uF (f : Rd) (i x : Int) : Rd := fun j => if j = i then x else f j
theorem uF_s {f : Rd} {i x : Int} : uF f i x i = x := by simp [uF]
theorem uF_n {f : Rd} {i j x : Int} (h : j ≠ i) : uF f i x j = f j := by simp [uF, h]
abbrev ab (a c : Int) : Int := if a < c then c - a else a - c
abbrev tw (y a : Int) : Int := if y < a then y + 1 else if a < y then y - 1 else y
abbrev tb (y a d : Int) : Int := if y < a then (if y + d < a then y + d else a) else (if a < y - d then y - d else a)
abbrev aw (y a : Int) : Int := if y < a then (if 0 < y then y - 1 else 0) else (if y < 60 then y + 1 else 60)
abbrev mn3 (x : Int) : Int := if x < 3 then x else 3
/-- where post i goes by a walk -/
def gy (kind yard : Int) (ro : Rd) (i : Int) : Int :=
  if kind = 2 then (if i % 2 = 1 then tw (ro i) yard else aw (ro i) yard)
  else if kind = 3 then tw (ro i) 30
  else if kind = 4 then tb (ro i) yard (mn3 (ab (ro i) (ro (i - 1))))
  else tw (ro i) yard
/-- the posts 1 to n by a walk: the road, the yards bent -/
def bnS (kind reach place yard : Int) (ro : Rd) : Nat → Rd × Int
  | 0 => (ro, 0)
  | n + 1 => if ab ((n : Int) + 1) place ≤ reach then (uF (bnS kind reach place yard ro n).1 ((n : Int) + 1) (gy kind yard (bnS kind reach place yard ro n).1 ((n : Int) + 1)), (bnS kind reach place yard ro n).2 + ab (gy kind yard (bnS kind reach place yard ro n).1 ((n : Int) + 1)) ((bnS kind reach place yard ro n).1 ((n : Int) + 1))) else bnS kind reach place yard ro n
abbrev sb (x t : Int) : Int := x / 2 ^ t.toNat % 2
abbrev rch (mo : Mo) (k : Int) : Int := if mo 2 k = 1 then 0 else mo 3 k
/-- a walk -/
def bend (mo : Mo) (ro : Rd) (k t : Int) : Rd × Int := if sb (ro 17) t = 1 then (ro, 0) else bnS (mo 2 k) (rch mo k) (mo 4 t) (mo 5 t) ro (mo 0 0 - 2).toNat
/-- a night -/
def night (N : Int) (ro : Rd) : Rd := fun j => if j = 16 then ro 16 + 1 else if j = 18 then 0 else if ro 18 = 0 ∧ 1 ≤ j ∧ j ≤ N - 2 then tw (ro j) 30 else ro j
/-- the walks told for today, the first n of the row; fog: 1 -/
def tdS (mo : Mo) (fog : Int) (ro : Rd) : Nat → Rd
  | 0 => ro
  | n + 1 => if mo 6 n = ro 16 % 10 then (if fog = 1 then uF (tdS mo fog ro n) 18 1 else (bend mo (uF (tdS mo fog ro n) 18 1) (mo 7 n) (mo 8 n)).1) else tdS mo fog ro n
def day (mo : Mo) (fog : Int) (ro : Rd) : Rd := night (mo 0 0) (tdS mo fog ro (mo 0 3).toNat)
abbrev fogAt (mo : Mo) (d : Int) : Int := mo 9 (d % 10)
def days (mo : Mo) (ro : Rd) : Nat → Rd
  | 0 => ro
  | n + 1 => day mo (fogAt mo (days mo ro n 16)) (days mo ro n)
/-- how long the first n stretches are -/
def lnS (ro : Rd) : Nat → Int
  | 0 => 0
  | n + 1 => lnS ro n + (10 + ab (ro ((n : Int) + 1)) (ro n))
def len (N : Int) (ro : Rd) : Int := lnS ro (N - 1).toNat
/-! what is so of every moor and road -/
def WFm (mo : Mo) : Prop := (5 ≤ mo 0 0 ∧ mo 0 0 ≤ 16) ∧ (0 ≤ mo 0 1 ∧ mo 0 1 ≤ 4) ∧ (0 ≤ mo 0 2 ∧ mo 0 2 ≤ 6) ∧ (0 ≤ mo 0 3 ∧ mo 0 3 ≤ 8) ∧ (0 ≤ mo 0 4 ∧ mo 0 4 ≤ 2) ∧ (∀ i, 0 ≤ mo 1 i ∧ mo 1 i ≤ 60) ∧ (∀ i, 0 ≤ mo 2 i ∧ mo 2 i ≤ 4) ∧ (∀ i, 0 ≤ mo 3 i ∧ mo 3 i ≤ 9) ∧ (∀ i, 0 ≤ mo 4 i ∧ mo 4 i ≤ 15) ∧ (∀ i, 0 ≤ mo 5 i ∧ mo 5 i ≤ 60) ∧ (∀ i, 0 ≤ mo 6 i ∧ mo 6 i ≤ 9) ∧ (∀ i, 0 ≤ i → i < mo 0 3 → (0 ≤ mo 7 i ∧ mo 7 i < mo 0 1) ∧ (0 ≤ mo 8 i ∧ mo 8 i < mo 0 2)) ∧ (∀ i, mo 9 i = 0 ∨ mo 9 i = 1)
def WFr (ro : Rd) (B : Int) : Prop := (∀ j, 0 ≤ j → j < 16 → 0 ≤ ro j ∧ ro j ≤ 60) ∧ (0 ≤ ro 16 ∧ ro 16 ≤ B) ∧ (0 ≤ ro 17 ∧ ro 17 < 64) ∧ (ro 18 = 0 ∨ ro 18 = 1) ∧ (∀ j, j < 0 ∨ 18 < j → ro j = 0) ∧ B ≤ 100000
theorem gy_in {kind yard : Int} {ro : Rd} {i B : Int} (hw : WFr ro B) (hy : 0 ≤ yard ∧ yard ≤ 60) (hi : 1 ≤ i ∧ i ≤ 15) : 0 ≤ gy kind yard ro i ∧ gy kind yard ro i ≤ 60 := by
  have h1 := hw.1 i (by omega) (by omega)
  have h2 := hw.1 (i - 1) (by omega) (by omega)
  unfold gy
  repeat' split
  all_goals (simp only [tw, aw, tb, ab, mn3]; omega)
theorem WFr_u {ro : Rd} {B i x : Int} (hw : WFr ro B) (hi : 0 ≤ i ∧ i ≤ 15) (hx : 0 ≤ x ∧ x ≤ 60) : WFr (uF ro i x) B := by
  obtain ⟨h1, h2, h3, h4, h5, h6⟩ := hw
  refine ⟨fun j a c => ?_, ?_, ?_, ?_, fun j hj => ?_, h6⟩
  · unfold uF
    split
    · exact hx
    · exact h1 j a c
  · rw [uF_n (by omega)]; exact h2
  · rw [uF_n (by omega)]; exact h3
  · rw [uF_n (by omega)]; exact h4
  · rw [uF_n (by omega)]; exact h5 j hj
theorem WFr_w {ro : Rd} {B x : Int} (hw : WFr ro B) (hx : x = 0 ∨ x = 1) : WFr (uF ro 18 x) B := by
  obtain ⟨h1, h2, h3, h4, h5, h6⟩ := hw
  refine ⟨fun j a c => ?_, ?_, ?_, ?_, fun j hj => ?_, h6⟩
  · rw [uF_n (by omega)]; exact h1 j a c
  · rw [uF_n (by omega)]; exact h2
  · rw [uF_n (by omega)]; exact h3
  · rw [uF_s]; exact hx
  · rw [uF_n (by omega)]; exact h5 j hj
theorem WFr_s {ro : Rd} {B x : Int} (hw : WFr ro B) (hx : 0 ≤ x ∧ x < 64) : WFr (uF ro 17 x) B := by
  obtain ⟨h1, h2, h3, h4, h5, h6⟩ := hw
  refine ⟨fun j a c => ?_, ?_, ?_, ?_, fun j hj => ?_, h6⟩
  · rw [uF_n (by omega)]; exact h1 j a c
  · rw [uF_n (by omega)]; exact h2
  · rw [uF_s]; exact hx
  · rw [uF_n (by omega)]; exact h4
  · rw [uF_n (by omega)]; exact h5 j hj
theorem WFr_B {ro : Rd} {B B' : Int} (hw : WFr ro B) (h : B ≤ B') (h' : B' ≤ 100000) : WFr ro B' := by
  obtain ⟨h1, h2, h3, h4, h5, h6⟩ := hw
  exact ⟨h1, ⟨h2.1, by omega⟩, h3, h4, h5, h'⟩
theorem bnS_in {kind reach place yard : Int} {ro : Rd} {B : Int} (hw : WFr ro B) (hy : 0 ≤ yard ∧ yard ≤ 60) : ∀ n : Nat, n ≤ 14 → WFr (bnS kind reach place yard ro n).1 B ∧ 0 ≤ (bnS kind reach place yard ro n).2 ∧ (bnS kind reach place yard ro n).2 ≤ 60 * n ∧ (∀ j, (j < 1 ∨ (n : Int) < j) → (bnS kind reach place yard ro n).1 j = ro j)
  | 0, _ => ⟨hw, by show (0 : Int) ≤ 0; omega, by show (0 : Int) ≤ _; omega, fun j _ => rfl⟩
  | n + 1, hn => by
    obtain ⟨h1, h2, h3, h4⟩ := bnS_in hw hy n (by omega)
    unfold bnS
    split
    · have hg := gy_in (kind := kind) h1 hy (i := (n : Int) + 1) (by omega)
      have hv := h1.1 ((n : Int) + 1) (by omega) (by omega)
      refine ⟨WFr_u h1 (by omega) hg, ?_, ?_, fun j hj => ?_⟩
      · show 0 ≤ _ + ab _ _
        simp only [ab]; omega
      · show _ + ab _ _ ≤ _
        simp only [ab]; omega
      · show uF _ _ _ j = ro j
        rw [uF_n (by omega)]
        exact h4 j (by omega)
    · exact ⟨h1, h2, by omega, fun j hj => h4 j (by omega)⟩
theorem bend_in {mo : Mo} {ro : Rd} {k t B : Int} (hm : WFm mo) (hw : WFr ro B) : WFr (bend mo ro k t).1 B ∧ 0 ≤ (bend mo ro k t).2 ∧ (bend mo ro k t).2 ≤ 840 ∧ (∀ j, (j < 1 ∨ 15 < j) → (bend mo ro k t).1 j = ro j) := by
  unfold bend
  split
  · exact ⟨hw, by show (0 : Int) ≤ 0; omega, by show (0 : Int) ≤ 840; omega, fun _ _ => rfl⟩
  · obtain ⟨⟨h1, h2⟩, -, -, -, -, -, -, -, -, h5, -⟩ := hm
    have := bnS_in (kind := mo 2 k) (reach := rch mo k) (place := mo 4 t) hw (h5 t) (mo 0 0 - 2).toNat (by omega)
    exact ⟨this.1, this.2.1, by omega, fun j hj => this.2.2.2 j (by omega)⟩
theorem tw_in {y a : Int} (h : 0 ≤ y ∧ y ≤ 60) (ha : 0 ≤ a ∧ a ≤ 60) : 0 ≤ tw y a ∧ tw y a ≤ 60 := by simp only [tw]; omega
theorem night_in {N : Int} {ro : Rd} {B : Int} (hw : WFr ro B) (hN : 5 ≤ N ∧ N ≤ 16) (hB : B + 1 ≤ 100000) : WFr (night N ro) (B + 1) := by
  obtain ⟨h1, h2, h3, h4, h5, h6⟩ := hw
  refine ⟨fun j a c => ?_, ?_, ?_, ?_, fun j hj => ?_, hB⟩
  · have := h1 j a c
    unfold night
    simp only [tw]
    repeat' split
    all_goals omega
  · show 0 ≤ night N ro 16 ∧ _
    have e : night N ro 16 = ro 16 + 1 := by simp [night]
    rw [e]; omega
  · have e : night N ro 17 = ro 17 := by
      unfold night
      rw [if_neg (by omega), if_neg (by omega), if_neg (by omega)]
    rw [e]; exact h3
  · left
    simp [night]
  · have := h5 j hj
    unfold night
    rw [if_neg (by omega), if_neg (by omega), if_neg (by omega)]
    exact this
theorem tdS_in {mo : Mo} {fog : Int} {ro : Rd} {B : Int} (hm : WFm mo) (hw : WFr ro B) : ∀ n : Nat, WFr (tdS mo fog ro n) B ∧ tdS mo fog ro n 16 = ro 16 ∧ tdS mo fog ro n 17 = ro 17
  | 0 => ⟨hw, rfl, rfl⟩
  | n + 1 => by
    obtain ⟨h1, h2, h3⟩ := tdS_in (fog := fog) hm hw n
    unfold tdS
    have h4 := WFr_w h1 (x := 1) (by omega)
    repeat' split
    · exact ⟨h4, by rw [uF_n (by omega)]; exact h2, by rw [uF_n (by omega)]; exact h3⟩
    · obtain ⟨g1, -, -, g4⟩ := bend_in (k := mo 7 n) (t := mo 8 n) hm h4
      exact ⟨g1, by rw [g4 _ (by omega), uF_n (by omega)]; exact h2, by rw [g4 _ (by omega), uF_n (by omega)]; exact h3⟩
    · exact ⟨h1, h2, h3⟩
theorem day_in {mo : Mo} {fog : Int} {ro : Rd} {B : Int} (hm : WFm mo) (hw : WFr ro B) (hB : B + 1 ≤ 100000) : WFr (day mo fog ro) (B + 1) ∧ day mo fog ro 16 = ro 16 + 1 := by
  obtain ⟨h1, h2, -⟩ := tdS_in (fog := fog) hm hw (mo 0 3).toNat
  exact ⟨night_in h1 hm.1 hB, by show night _ _ 16 = _; simp [night, h2]⟩
theorem days_in {mo : Mo} {ro : Rd} {B : Int} (hm : WFm mo) (hw : WFr ro B) : ∀ n : Nat, B + n ≤ 100000 → WFr (days mo ro n) (B + n) ∧ days mo ro n 16 = ro 16 + n
  | 0, _ => ⟨by simpa [days] using hw, by simp [days]⟩
  | n + 1, h => by
    obtain ⟨h1, h2⟩ := days_in hm hw n (by omega)
    obtain ⟨h3, h4⟩ := day_in (fog := fogAt mo (days mo ro n 16)) hm h1 (by omega)
    have e : B + ((n + 1 : Nat) : Int) = B + n + 1 := by omega
    rw [e]
    exact ⟨h3, by show day mo _ (days mo ro n) 16 = _; rw [h4, h2]; omega⟩
theorem lnS_in {ro : Rd} {B : Int} (hw : WFr ro B) : ∀ n : Nat, n ≤ 15 → 10 * n ≤ lnS ro n ∧ lnS ro n ≤ 70 * n
  | 0, _ => by simp [lnS]
  | n + 1, hn => by
    have := lnS_in hw n (by omega)
    have h1 := hw.1 ((n : Int) + 1) (by omega) (by omega)
    have h2 := hw.1 n (by omega) (by omega)
    unfold lnS
    simp only [ab]; omega
/-! closing a contract -/
theorem eqi {x X : Int} {M M' : Mem} (h : x = X) (hM : M = M') : EQ (some (vi X)) M' (some (vi x)) M := ⟨by rw [h], hM⟩
theorem eqv {M M' : Mem} (hM : M = M') : EQ none M' none M := ⟨rfl, hM⟩
