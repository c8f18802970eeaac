/-! the tables' words: those that stay under warming (tblG), those of nest mates (tblN) -/
def isNestW : Cond → Bool
  | .fieldLinkNest _ _ _ _ _ _ => true
  | .methodLinkNest _ _ _ _ => true
  | _ => false
def tblG : List Cond := lw_tbl.filter goodWord
def tblN : List Cond := lw_tbl.filter isNestW
theorem inG {w : Cond} (h : w ∈ tables_1) (hg : goodWord w = true) : w ∈ tblG := List.mem_filter.mpr ⟨List.mem_append_right _ h, hg⟩
theorem inGp {w : Cond} (h : w ∈ k2_sels lw_privs) (hg : goodWord w = true) : w ∈ tblG := List.mem_filter.mpr ⟨List.mem_append_left _ h, hg⟩
theorem inN {w : Cond} (h : w ∈ tables_1) (hg : isNestW w = true) : w ∈ tblN := List.mem_filter.mpr ⟨List.mem_append_right _ h, hg⟩
theorem tblG_good {ws : List Cond} (h : ∀ w ∈ ws, w ∈ tblG) : GoodIn tblG ws := fun w hw => ⟨h w hw, good_of_word (List.mem_filter.mp (h w hw)).2⟩
theorem nest_tab {w : Cond} (h : isNestW w = true) : w.onTables = true := by cases w <;> first | rfl | cases h
theorem nest_warm {w : Cond} (h : isNestW w = true) {s U : State} (hW : s.WarmedH U.vm) (hZ : va_Nw w s) : va_Nw w U := by
  cases w <;> first | exact va_Nw.warmF hW hZ | exact va_Nw.warmM hW hZ | cases h
/-! the classes' field types -/
def tyA (ci : Nat) : Nat → FieldType := match ci with
  | 0 => tyX0 | 1 => tyX1 | 2 => tyX2 | 3 => tyX3 | 4 => tyX4 | 5 => tyX5 | 6 => tyX6 | 7 => tyX7 | _ => tyX8
def nF (ci : Nat) : Nat := match ci with
  | 0 => 4 | 1 => 2 | 2 => 15 | 3 => 2 | 4 => 5 | 5 => 4 | 6 => 2 | 7 => 13 | _ => 19
def rfT (ty : FieldType) : Bool := match ty with
  | .int => false | .boolean => false | _ => true
abbrev clO (ci : Nat) (r : vw_C) : Prop := (∀ w ∈ u_ws r.1 r.2.1 r.2.2, w ∈ tblG) ∧ (∀ k, k < r.2.2 → parseFieldDescriptor (r.2.1 k).2.2.1 = some (tyA ci k)) ∧ (∀ a, a < r.2.2 → ∀ b, b < r.2.2 → a ≠ b → (r.2.1 a).2.1 ≠ (r.2.1 b).2.1) ∧ (∀ k, k < r.2.2 → (r.2.1 k).1 = r.1) ∧ r.2.2 = nF ci
theorem clO_0 : clO 0 (RX0, TX0, 4) := ⟨by decide +kernel, by decide +kernel, by decide +kernel, by decide +kernel, rfl⟩
theorem clO_1 : clO 1 (RX1, TX1, 2) := ⟨by decide +kernel, by decide +kernel, by decide +kernel, by decide +kernel, rfl⟩
theorem clO_2 : clO 2 (RX2, TX2, 15) := ⟨by decide +kernel, by decide +kernel, by decide +kernel, by decide +kernel, rfl⟩
theorem clO_3 : clO 3 (RX3, TX3, 2) := ⟨by decide +kernel, by decide +kernel, by decide +kernel, by decide +kernel, rfl⟩
theorem clO_4 : clO 4 (RX4, TX4, 5) := ⟨by decide +kernel, by decide +kernel, by decide +kernel, by decide +kernel, rfl⟩
theorem clO_5 : clO 5 (RX5, TX5, 4) := ⟨by decide +kernel, by decide +kernel, by decide +kernel, by decide +kernel, rfl⟩
theorem clO_6 : clO 6 (RX6, TX6, 2) := ⟨by decide +kernel, by decide +kernel, by decide +kernel, by decide +kernel, rfl⟩
theorem clO_7 : clO 7 (RX7, TX7, 13) := ⟨by decide +kernel, by decide +kernel, by decide +kernel, by decide +kernel, rfl⟩
theorem clO_8 : clO 8 (RX8, TX8, 19) := ⟨by decide +kernel, by decide +kernel, by decide +kernel, by decide +kernel, rfl⟩
theorem clOK {ci : Nat} {r : vw_C} (h : vwCl[ci]? = some r) : clO ci r := by
  match ci, h with
  | 0, h => cases h; exact clO_0
  | 1, h => cases h; exact clO_1
  | 2, h => cases h; exact clO_2
  | 3, h => cases h; exact clO_3
  | 4, h => cases h; exact clO_4
  | 5, h => cases h; exact clO_5
  | 6, h => cases h; exact clO_6
  | 7, h => cases h; exact clO_7
  | 8, h => cases h; exact clO_8
  | ci + 9, h => simp [vwCl] at h
/-- the bytes of the first text, which is the class's one String constant -/
def txB : List Int32 := [110, 57, 59, 112, 51, 44, 51, 52, 59, 112, 52, 44, 51, 54, 59, 112, 53, 44, 51, 51, 59, 119, 48, 44, 50, 59, 119, 50, 44, 51, 59, 119, 51, 44, 57, 59, 116, 51, 44, 53, 48, 59, 116, 54, 44, 49, 48, 59, 116, 49, 44, 51, 48, 59, 100, 48, 44, 48, 44, 48, 59, 100, 50, 44, 49, 44, 49, 59, 100, 51, 44, 48, 44, 49, 59, 100, 51, 44, 50, 44, 50, 59, 100, 54, 44, 48, 44, 48, 59, 102, 52, 44, 54, 59]
def txS : String := "n9;p3,34;p4,36;p5,33;w0,2;w2,3;w3,9;t3,50;t6,10;t1,30;d0,0,0;d2,1,1;d3,0,1;d3,2,2;d6,0,0;f4,6;"
