/-! THE SHAPE OF ALL CELLS: the class (72), the reference (13) -/
def SHc : Shp := [(7, 0, [some 1, some 3, some 5, some 14, some 23, some 25, some 27, some 45, some 51, some 55, some 59, some 70, some 71]),
  (1, 0, [some 2, none]),
  (9, 200, []),
  (3, 0, [some 1, some 4]),
  (9, 3, []),
  (2, 0, [none, some 6, none, some 7, some 8, none, some 9, some 10, none, some 11, some 12, some 13, none, none, none]),
  (9, 16, []),
  (9, 4, []),
  (9, 4, []),
  (9, 6, []),
  (9, 6, []),
  (9, 8, []),
  (9, 8, []),
  (9, 8, []),
  (2, 0, [none, some 15, none, some 16, some 17, none, some 18, some 19, none, some 20, some 21, some 22, none, none, none]),
  (9, 16, []),
  (9, 4, []),
  (9, 4, []),
  (9, 6, []),
  (9, 6, []),
  (9, 8, []),
  (9, 8, []),
  (9, 8, []),
  (4, 0, [none, some 24, none, none, none]),
  (9, 16, []),
  (4, 0, [none, some 26, none, none, none]),
  (9, 16, []),
  (6, 0, [some 28, none]),
  (10, 8, []),
  (4, 0, [none, some 30, none, none, none]),
  (9, 16, []),
  (4, 0, [none, some 32, none, none, none]),
  (9, 16, []),
  (4, 0, [none, some 34, none, none, none]),
  (9, 16, []),
  (4, 0, [none, some 36, none, none, none]),
  (9, 16, []),
  (4, 0, [none, some 38, none, none, none]),
  (9, 16, []),
  (4, 0, [none, some 40, none, none, none]),
  (9, 16, []),
  (4, 0, [none, some 42, none, none, none]),
  (9, 16, []),
  (4, 0, [none, some 44, none, none, none]),
  (9, 16, []),
  (6, 0, [some 46, none]),
  (10, 2, []),
  (4, 0, [none, some 48, none, none, none]),
  (9, 16, []),
  (4, 0, [none, some 50, none, none, none]),
  (9, 16, []),
  (0, 0, [some 52, some 53, some 54, none]),
  (9, 6, []),
  (9, 6, []),
  (9, 6, []),
  (0, 0, [some 56, some 57, some 58, none]),
  (9, 6, []),
  (9, 6, []),
  (9, 6, []),
  (5, 0, [some 60, some 61, none, none]),
  (10, 4, []),
  (9, 3, []),
  (4, 0, [none, some 63, none, none, none]),
  (9, 16, []),
  (4, 0, [none, some 65, none, none, none]),
  (9, 16, []),
  (4, 0, [none, some 67, none, none, none]),
  (9, 16, []),
  (4, 0, [none, some 69, none, none, none]),
  (9, 16, []),
  (9, 36, []),
  (9, 36, [])]
def SHm : Shp := [(8, 0, [some 73, some 74, none, none, some 75, none, none, none, some 76, some 77, none, some 78, some 79, none, some 80, some 81, some 82, some 83, some 84]),
  (9, 138, []),
  (9, 304, []),
  (9, 200, []),
  (9, 3, []),
  (9, 3, []),
  (9, 6, []),
  (9, 6, []),
  (9, 6, []),
  (9, 6, []),
  (9, 6, []),
  (9, 36, []),
  (9, 36, [])]
def SH : Shp := SHc ++ SHm
theorem SHc_len : SHc.length = 72 := rfl
theorem SH_len : SH.length = 85 := rfl
/-- the class's cells stand at the head -/
def Hc (sh : Shp) : Prop := ∀ (k : Nat) (q : Sh1), SHc[k]? = some q → sh[k]? = some q
def Hm (sh : Shp) : Prop := ∀ (k : Nat) (q : Sh1), SH[k]? = some q → sh[k]? = some q
theorem Hc_c : Hc SHc := fun _ _ h => h
theorem Hc_a : Hc SH := fun k q h => by
  have hk : k < SHc.length := (List.getElem?_eq_some_iff.mp h).1
  show (SHc ++ SHm)[k]? = some q
  rw [List.getElem?_append_left hk]
  exact h
theorem Hm_a : Hm SH := fun _ _ h => h
/-- a road: its object, its yards -/
def isRd (sh : Shp) (r : Nat) : Prop := sh[r]? = some (4, 0, [none, some (r + 1), none, none, none]) ∧ sh[r + 1]? = some (9, 16, []) ∧ 23 ≤ r ∧ r ≤ 70
def isMo (sh : Shp) (m : Nat) : Prop := sh[m]? = some (2, 0, [none, some (m + 1), none, some (m + 2), some (m + 3), none, some (m + 4), some (m + 5), none, some (m + 6), some (m + 7), some (m + 8), none, none, none]) ∧ sh[m + 1]? = some (9, 16, []) ∧ sh[m + 2]? = some (9, 4, []) ∧ sh[m + 3]? = some (9, 4, []) ∧ sh[m + 4]? = some (9, 6, []) ∧ sh[m + 5]? = some (9, 6, []) ∧ sh[m + 6]? = some (9, 8, []) ∧ sh[m + 7]? = some (9, 8, []) ∧ sh[m + 8]? = some (9, 8, []) ∧ (m = 5 ∨ m = 14)
def isCl (sh : Shp) (c : Nat) : Prop := sh[c]? = some (0, 0, [some (c + 1), some (c + 2), some (c + 3), none]) ∧ sh[c + 1]? = some (9, 6, []) ∧ sh[c + 2]? = some (9, 6, []) ∧ sh[c + 3]? = some (9, 6, []) ∧ (c = 51 ∨ c = 55)
def isSf (sh : Shp) (f n : Nat) : Prop := sh[f]? = some (6, 0, [some (f + 1), none]) ∧ sh[f + 1]? = some (10, n, []) ∧ ((f = 27 ∧ n = 8) ∨ (f = 45 ∧ n = 2))
def roads : List Nat := [23, 25, 29, 31, 33, 35, 37, 39, 41, 43, 47, 49, 62, 64, 66, 68]
theorem rd_of {sh : Shp} (h : Hc sh) {r : Nat} (hr : r ∈ roads) : isRd sh r := by
  have key : ∀ r ∈ roads, SHc[r]? = some (4, 0, [none, some (r + 1), none, none, none]) ∧ SHc[r + 1]? = some (9, 16, []) ∧ 23 ≤ r ∧ r ≤ 70 := by decide
  obtain ⟨h1, h2, h3⟩ := key r hr
  exact ⟨h _ _ h1, h _ _ h2, h3⟩
theorem mo_of {sh : Shp} (h : Hc sh) {m : Nat} (hm : m = 5 ∨ m = 14) : isMo sh m := by
  rcases hm with rfl | rfl <;> exact ⟨h _ _ rfl, h _ _ rfl, h _ _ rfl, h _ _ rfl, h _ _ rfl, h _ _ rfl, h _ _ rfl, h _ _ rfl, h _ _ rfl, by omega⟩
theorem cl_of {sh : Shp} (h : Hc sh) {c : Nat} (hm : c = 51 ∨ c = 55) : isCl sh c := by
  rcases hm with rfl | rfl <;> exact ⟨h _ _ rfl, h _ _ rfl, h _ _ rfl, h _ _ rfl, by omega⟩
theorem sf27 {sh : Shp} (h : Hc sh) : isSf sh 27 8 := ⟨h _ _ rfl, h _ _ rfl, by omega⟩
theorem sf45 {sh : Shp} (h : Hc sh) : isSf sh 45 2 := ⟨h _ _ rfl, h _ _ rfl, by omega⟩
