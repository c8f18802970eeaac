/-! CLUES -/
def msk (n : Int) (f : Rd) : Rd := fun k => if 0 ≤ k ∧ k < n then f k else 0
theorem msk_i {n k : Int} {f : Rd} (h : 0 ≤ k ∧ k < n) : msk n f k = f k := by unfold msk; rw [if_pos h]
/-- do the first n clues of this time hold -/
def hld (cp ct cy : Rd) (f : Rd) (time : Int) : Nat → Int
  | 0 => 1
  | n + 1 => if hld cp ct cy f time n = 1 ∧ (ct n = time → f (cp n) = cy n) then 1 else 0
theorem hld01 {cp ct cy f : Rd} {time : Int} : ∀ n, hld cp ct cy f time n = 0 ∨ hld cp ct cy f time n = 1
  | 0 => Or.inr rfl
  | n + 1 => by unfold hld; split <;> omega
theorem hld_0 {cp ct cy f : Rd} {time : Int} : ∀ {n k : Nat}, k ≤ n → hld cp ct cy f time k = 0 → hld cp ct cy f time n = 0
  | 0, k, h, h0 => by
    have : k = 0 := by omega
    subst this; exact h0
  | n + 1, k, h, h0 => by
    by_cases hk : k = n + 1
    · subst hk; exact h0
    · have := hld_0 (n := n) (k := k) (by omega) h0
      unfold hld
      rw [if_neg (by omega)]
theorem hld_s {cp ct cy f : Rd} {time i : Int} (h : 0 ≤ i) : hld cp ct cy f time (i + 1).toNat = if hld cp ct cy f time i.toNat = 1 ∧ (ct i = time → f (cp i) = cy i) then 1 else 0 := by
  rw [show (i + 1).toNat = i.toNat + 1 by omega]
  show (if hld cp ct cy f time i.toNat = 1 ∧ (ct ((i.toNat : Nat) : Int) = time → f (cp ((i.toNat : Nat) : Int)) = cy ((i.toNat : Nat) : Int)) then (1 : Int) else 0) = _
  rw [Int.toNat_of_nonneg h]
/-- a row of clues: how many, posts, times, yards -/
def ClOK (M : Mem) (c : Nat) : Prop := (0 ≤ M c 3 ∧ M c 3 ≤ 6) ∧ ∀ k : Int, 0 ≤ k → k < M c 3 → (0 ≤ M (c + 1) k ∧ M (c + 1) k ≤ 15) ∧ (1 ≤ M (c + 2) k ∧ M (c + 2) k ≤ 10) ∧ (0 ≤ M (c + 3) k ∧ M (c + 3) k ≤ 60)
def clC (M : Mem) (c a : Nat) : Rd := msk (M c 3) (M (c + a))
theorem clC_i {M : Mem} {c a : Nat} {k : Int} (h : 0 ≤ k ∧ k < M c 3) : clC M c a k = M (c + a) k := msk_i h
theorem k_cclear (b : Nat) (sh : Shp) (M : Mem) (c : Nat) (hc : isCl sh c) : Ex 0 mX0_clear b sh M [vr b c] none (up M c 3 0) := by
  refine MC_of (ls := [some (vr b c)]) (by decide) rfl (Nat.le_of_ble_eq_true rfl) ?_
  refine R_aload_n (pc := 0) dX0_clear_0 rfl ?_
  refine R_iconst (pc := 1) dX0_clear_1 ?_
  refine R_putI (pc := 2) (J := 3) rfl dX0_clear_2 fl_RX0_21 rfl (fun r h => by cases h; rfl) hc.1 (by omega) ?_
  refine R_vret (pc := 5) dX0_clear_5 ?_
  exact eqv rfl
def addC (M : Mem) (c : Nat) (i t y : Int) : Mem := up (up (up (up M (c + 1) (M c 3) i) (c + 2) (M c 3) t) (c + 3) (M c 3) y) c 3 (M c 3 + 1)
theorem k_cadd (b : Nat) (sh : Shp) (M : Mem) (c : Nat) (hc : isCl sh c) (hC : ClOK M c) (i t y : Int) (hi : inR i) (ht : inR t) (hy : inR y) : Ex 0 mX0_add b sh M [vr b c, vi i, vi t, vi y] (some (vi (if M c 3 < 6 then 1 else 0))) (if M c 3 < 6 then addC M c i t y else M) := by
  have hs := hC.1
  refine MC_of (ls := [some (vr b c), some (vi i), some (vi t), some (vi y)]) (by decide) rfl (Nat.le_of_ble_eq_true rfl) ?_
  refine R_aload_n (pc := 0) dX0_add_0 rfl ?_
  refine R_getI (pc := 1) (J := 3) dX0_add_1 fl_RX0_21 rfl rfl hc.1 (rfl) ?_
  refine R_bipush (pc := 4) dX0_add_4 rfl ?_
  refine R_cmp_lt (pc := 6) (tgt := 11) dX0_add_6 (by decide) (by omega) (fun h_6 => ?_) (fun h_6 => ?_)
  · refine R_aload_n (pc := 11) dX0_add_11 rfl ?_
    refine R_getR (pc := 12) dX0_add_12 fl_RX0_9 rfl hc.1 rfl ?_
    refine R_aload_n (pc := 15) dX0_add_15 rfl ?_
    refine R_getI (pc := 16) (J := 3) dX0_add_16 fl_RX0_21 rfl rfl hc.1 (rfl) ?_
    refine R_iload_n (pc := 19) dX0_add_19 rfl ?_
    refine R_iast (pc := 20) dX0_add_20 hc.2.1 (by omega) (by omega) ?_
    refine R_aload_n (pc := 21) dX0_add_21 rfl ?_
    refine R_getR (pc := 22) dX0_add_22 fl_RX0_15 rfl hc.1 rfl ?_
    refine R_aload_n (pc := 25) dX0_add_25 rfl ?_
    refine R_getI (pc := 26) (J := 3) dX0_add_26 fl_RX0_21 rfl rfl hc.1 (up_k (by omega)) ?_
    refine R_iload_n (pc := 29) dX0_add_29 rfl ?_
    refine R_iast (pc := 30) dX0_add_30 hc.2.2.1 (by omega) (by omega) ?_
    refine R_aload_n (pc := 31) dX0_add_31 rfl ?_
    refine R_getR (pc := 32) dX0_add_32 fl_RX0_18 rfl hc.1 rfl ?_
    refine R_aload_n (pc := 35) dX0_add_35 rfl ?_
    refine R_getI (pc := 36) (J := 3) dX0_add_36 fl_RX0_21 rfl rfl hc.1 ((up_k (by omega)).trans (up_k (by omega))) ?_
    refine R_iload_n (pc := 39) dX0_add_39 rfl ?_
    refine R_iast (pc := 40) dX0_add_40 hc.2.2.2.1 (by omega) (by omega) ?_
    refine R_aload_n (pc := 41) dX0_add_41 rfl ?_
    refine R_dup (pc := 42) dX0_add_42 rfl ?_
    refine R_getI (pc := 43) (J := 3) dX0_add_43 fl_RX0_21 rfl rfl hc.1 (((up_k (by omega)).trans (up_k (by omega))).trans (up_k (by omega))) ?_
    refine R_iconst (pc := 46) dX0_add_46 ?_
    refine R_iadd (pc := 47) dX0_add_47 ?_
    refine R_putI (pc := 48) (J := 3) rfl dX0_add_48 fl_RX0_21 rfl (fun r h => by cases h; rfl) hc.1 (by omega) ?_
    refine R_iconst (pc := 51) dX0_add_51 ?_
    refine R_zret (pc := 52) dX0_add_52 (by first | exact Or.inl rfl | exact Or.inr rfl | omega) ?_
    exact eqi (by omega) (by rw [if_pos (by omega)]; rfl)
  · refine R_iconst (pc := 9) dX0_add_9 ?_
    refine R_zret (pc := 10) dX0_add_10 (by first | exact Or.inl rfl | exact Or.inr rfl | omega) ?_
    exact eqi (by omega) (by rw [if_neg (by omega)])
theorem k_holdOn (b : Nat) (sh : Shp) (M : Mem) (c r : Nat) (hc : isCl sh c) (hr : isRd sh r) (hrc : r + 1 < c ∨ c + 3 < r) (hC : ClOK M c) (f : Rd) {B : Int} (hf : WFr f B) (time : Int) (ht : inR time) : Ex 0 mX0_holdOn b sh (putC M r f) [vr b c, vr b r, vi time] (some (vi (hld (clC M c 1) (clC M c 2) (clC M c 3) f time (M c 3).toNat))) (putC M r f) := by
  have hs := hC.1
  have e0 : ∀ {k : Nat} {j : Int}, (c ≤ k ∧ k ≤ c + 3) → putC M r f k j = M k j := fun h => pc_o (by omega) (by omega)
  have L : ∀ (n : Nat) (i : Int), 0 ≤ i → i ≤ M c 3 → M c 3 - i < n → hld (clC M c 1) (clC M c 2) (clC M c 3) f time i.toNat = 1 → MW yX0_holdOn cX0_holdOn 4 (some .boolean) (rmD 0 0 0) (FM (EQ (some (vi (hld (clC M c 1) (clC M c 2) (clC M c 3) f time (M c 3).toNat))) (putC M r f)) b sh 0 0) b sh.length 0 0 2 [some (vr b c), some (vr b r), some (vi time), some (vi i)] [] sh (putC M r f) := by
    intro n
    induction n with
    | zero => intro i h1 h2 h3; exact absurd h3 (by omega)
    | succ n ih =>
      intro i h1 h2 h3 h4
      by_cases hlt : i < M c 3
      · have hv := hC.2 i h1 hlt
        have hs1 := hld_s (cp := clC M c 1) (ct := clC M c 2) (cy := clC M c 3) (f := f) (time := time) h1
        rw [clC_i ⟨h1, hlt⟩, clC_i ⟨h1, hlt⟩, clC_i ⟨h1, hlt⟩] at hs1
        have hfv := hf.1 (M (c + 1) i) (by omega) (by omega)
        refine R_iload_n (pc := 2) dX0_holdOn_2 rfl ?_
        refine R_aload_n (pc := 3) dX0_holdOn_3 rfl ?_
        refine R_getI (pc := 4) (J := 3) dX0_holdOn_4 fl_RX0_21 rfl rfl hc.1 (e0 (by omega)) ?_
        refine R_cmp_ge (pc := 7) (tgt := 48) dX0_holdOn_7 (by decide) (by omega) (fun h_7 => ?_) (fun h_7 => ?_)
        · exact absurd h_7 (by omega)
        · refine R_aload_n (pc := 10) dX0_holdOn_10 rfl ?_
          refine R_getR (pc := 11) dX0_holdOn_11 fl_RX0_15 rfl hc.1 rfl ?_
          refine R_iload_n (pc := 14) dX0_holdOn_14 rfl ?_
          refine R_iald (pc := 15) dX0_holdOn_15 hc.2.2.1 (by omega) (e0 (by omega)) ?_
          refine R_iload_n (pc := 16) dX0_holdOn_16 rfl ?_
          refine R_cmp_ne (pc := 17) (tgt := 42) dX0_holdOn_17 (by decide) (by omega) (fun h_17 => ?_) (fun h_17 => ?_)
          · refine R_iinc dX0_holdOn_42 rfl (by decide) rfl rfl ?_
            refine R_goto (tgt := 2) dX0_holdOn_45 (by decide) ?_
            refine ih (i + 1) (by omega) (by omega) (by omega) ?_
            rw [hs1]
            exact if_pos ⟨h4, fun q => by first | exact h_37 | exact absurd q h_17⟩
          · refine R_aload_n (pc := 20) dX0_holdOn_20 rfl ?_
            refine R_getR (pc := 21) dX0_holdOn_21 fl_RX0_25 rfl hr.1 rfl ?_
            refine R_aload_n (pc := 24) dX0_holdOn_24 rfl ?_
            refine R_getR (pc := 25) dX0_holdOn_25 fl_RX0_9 rfl hc.1 rfl ?_
            refine R_iload_n (pc := 28) dX0_holdOn_28 rfl ?_
            refine R_iald (pc := 29) dX0_holdOn_29 hc.2.1 (by omega) (e0 (by omega)) ?_
            refine R_iald (pc := 30) dX0_holdOn_30 hr.2.1 (by omega) (pc_y (by omega)) ?_
            refine R_aload_n (pc := 31) dX0_holdOn_31 rfl ?_
            refine R_getR (pc := 32) dX0_holdOn_32 fl_RX0_18 rfl hc.1 rfl ?_
            refine R_iload_n (pc := 35) dX0_holdOn_35 rfl ?_
            refine R_iald (pc := 36) dX0_holdOn_36 hc.2.2.2.1 (by omega) (e0 (by omega)) ?_
            refine R_cmp_eq (pc := 37) (tgt := 42) dX0_holdOn_37 (by decide) (by omega) (fun h_37 => ?_) (fun h_37 => ?_)
            · refine R_iinc dX0_holdOn_42 rfl (by decide) rfl rfl ?_
              refine R_goto (tgt := 2) dX0_holdOn_45 (by decide) ?_
              refine ih (i + 1) (by omega) (by omega) (by omega) ?_
              rw [hs1]
              exact if_pos ⟨h4, fun q => by first | exact h_37 | exact absurd q h_17⟩
            · refine R_iconst (pc := 40) dX0_holdOn_40 ?_
              refine R_zret (pc := 41) dX0_holdOn_41 (by first | exact Or.inl rfl | exact Or.inr rfl | omega) ?_
              have hz : hld (clC M c 1) (clC M c 2) (clC M c 3) f time (i + 1).toNat = 0 := by
                rw [hs1, if_neg (fun q => h_37 (q.2 h_17))]
              exact eqi (hld_0 (by omega) hz).symm rfl
      · have e1 : i = M c 3 := by omega
        subst e1
        refine R_iload_n (pc := 2) dX0_holdOn_2 rfl ?_
        refine R_aload_n (pc := 3) dX0_holdOn_3 rfl ?_
        refine R_getI (pc := 4) (J := 3) dX0_holdOn_4 fl_RX0_21 rfl rfl hc.1 (e0 (by omega)) ?_
        refine R_cmp_ge (pc := 7) (tgt := 48) dX0_holdOn_7 (by decide) (by omega) (fun h_7 => ?_) (fun h_7 => ?_)
        · refine R_iconst (pc := 48) dX0_holdOn_48 ?_
          refine R_zret (pc := 49) dX0_holdOn_49 (by first | exact Or.inl rfl | exact Or.inr rfl | omega) ?_
          exact eqi h4.symm rfl
        · exact absurd h_7 (by omega)
  refine MC_of (ls := [some (vr b c), some (vr b r), some (vi time), none]) (by decide) rfl (Nat.le_of_ble_eq_true rfl) ?_
  refine R_iconst (pc := 0) dX0_holdOn_0 ?_
  refine R_istore_n (pc := 1) dX0_holdOn_1 (by decide) rfl rfl ?_
  exact L 20 0 (by omega) (by omega) (by omega) rfl
