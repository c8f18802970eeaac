/-! THE CLASS'S READING: moors -/
theorem tb_or (a d i : Nat) : (a ||| 2 ^ d) / 2 ^ i % 2 = if i = d then 1 else a / 2 ^ i % 2 := by
  have h : ∀ x : Nat, x / 2 ^ i % 2 = (x.testBit i).toNat := fun x => by
    rw [Nat.testBit_eq_decide_div_mod_eq]
    have : x / 2 ^ i % 2 < 2 := Nat.mod_lt _ (by omega)
    rcases (show x / 2 ^ i % 2 = 0 ∨ x / 2 ^ i % 2 = 1 by omega) with h | h <;> simp [h]
  rw [h, h, Nat.testBit_or, Nat.testBit_two_pow]
  by_cases hi : i = d
  · subst hi; simp
  · simp [hi, Ne.symm hi]
theorem sb_or {x t i : Int} (hx : 0 ≤ x) (ht : 0 ≤ t) (hi : 0 ≤ i) : sb ((x.toNat ||| ((2 : Int) ^ t.toNat).toNat : Nat) : Int) i = if i = t then 1 else sb x i := by
  have e : ((2 : Int) ^ t.toNat).toNat = 2 ^ t.toNat := by
    rw [show (2 : Int) ^ t.toNat = ((2 ^ t.toNat : Nat) : Int) by simp, Int.toNat_natCast]
  have h := tb_or x.toNat t.toNat i.toNat
  simp only [sb]
  rw [e]
  have c1 : ∀ y : Nat, (y : Int) / 2 ^ i.toNat % 2 = ((y / 2 ^ i.toNat % 2 : Nat) : Int) := fun y => by
    rw [Int.natCast_emod, Int.natCast_ediv]
    simp
  rw [c1, h]
  have hx' : x / 2 ^ i.toNat % 2 = ((x.toNat / 2 ^ i.toNat % 2 : Nat) : Int) := by
    rw [← c1, Int.toNat_of_nonneg hx]
  by_cases hit : i = t
  · subst hit; simp
  · rw [if_neg (by omega), if_neg hit, hx']
theorem or_lt10 {x t : Int} (hx : 0 ≤ x ∧ x < 1024) (ht : 0 ≤ t ∧ t < 10) : 0 ≤ ((x.toNat ||| ((2 : Int) ^ t.toNat).toNat : Nat) : Int) ∧ ((x.toNat ||| ((2 : Int) ^ t.toNat).toNat : Nat) : Int) < 1024 := by
  have e : ((2 : Int) ^ t.toNat).toNat = 2 ^ t.toNat := by
    rw [show (2 : Int) ^ t.toNat = ((2 ^ t.toNat : Nat) : Int) by simp, Int.toNat_natCast]
  have h1 : 2 ^ t.toNat < 2 ^ 10 := Nat.pow_lt_pow_right (by omega) (by omega)
  have := Nat.or_lt_two_pow (x := x.toNat) (y := 2 ^ t.toNat) (n := 10) (by omega) h1
  rw [e]
  omega
def okP (bey a : Int) : Prop := bey = 0 ∧ 5 ≤ a ∧ a ≤ 16
theorem k_takePosts (b : Nat) (sh : Shp) (M : Mem) (m : Nat) (hm : isMo sh m) (a : Int) (ha : 0 ≤ a ∧ a ≤ 99) (h14 : M m 14 = 0 ∨ M m 14 = 1) : Ex 1 mX2_takePosts b sh M [vr b m, vi a] (some (vi (if M m 14 = 0 ∧ 5 ≤ a ∧ a ≤ 16 then 1 else 0))) (if M m 14 = 0 ∧ 5 ≤ a ∧ a ≤ 16 then up M m 0 a else M) := by
  refine MC_of (ls := [some (vr b m), some (vi a)]) (by decide) rfl (Nat.le_of_ble_eq_true rfl) ?_
  refine R_aload_n (pc := 0) dX2_takePosts_0 rfl ?_
  refine R_getI (pc := 1) (J := 14) dX2_takePosts_1 fl_RX2_55 rfl rfl hm.1 (rfl) ?_
  refine R_if_ne (pc := 4) (tgt := 17) dX2_takePosts_4 (by decide) (by omega) (fun h_4 => ?_) (fun h_4 => ?_)
  · refine R_iconst (pc := 17) dX2_takePosts_17 ?_
    refine R_zret (pc := 18) dX2_takePosts_18 (by first | exact Or.inl rfl | exact Or.inr rfl | omega) ?_
    exact eqi (by omega) (by rw [if_neg (by omega)])
  · refine R_iload_n (pc := 7) dX2_takePosts_7 rfl ?_
    refine R_iconst (pc := 8) dX2_takePosts_8 ?_
    refine R_bipush (pc := 9) dX2_takePosts_9 rfl ?_
    refine R_S3i (pc := 11) dX2_takePosts_11 ss_RX2_80 (k_within b sh _ _ _ _ (by omega) (by omega) (by omega)) (Nat.le_of_ble_eq_true rfl) (by decide) ?_
    refine R_if_ne (pc := 14) (tgt := 19) dX2_takePosts_14 (by decide) (by omega) (fun h_14 => ?_) (fun h_14 => ?_)
    · refine R_aload_n (pc := 19) dX2_takePosts_19 rfl ?_
      refine R_iload_n (pc := 20) dX2_takePosts_20 rfl ?_
      refine R_putI (pc := 21) (J := 0) rfl dX2_takePosts_21 fl_RX2_36 rfl (fun r h => by cases h; rfl) hm.1 (by omega) ?_
      refine R_iconst (pc := 24) dX2_takePosts_24 ?_
      refine R_zret (pc := 25) dX2_takePosts_25 (by first | exact Or.inl rfl | exact Or.inr rfl | omega) ?_
      exact eqi (by omega) (by rw [if_pos (by omega)])
    · refine R_iconst (pc := 17) dX2_takePosts_17 ?_
      refine R_zret (pc := 18) dX2_takePosts_18 (by first | exact Or.inl rfl | exact Or.inr rfl | omega) ?_
      exact eqi (by omega) (by rw [if_neg (by omega)])
theorem k_takeFirstYard (b : Nat) (sh : Shp) (M : Mem) (m : Nat) (hm : isMo sh m) (a c : Int) (ha : 0 ≤ a ∧ a ≤ 99) (hc : 0 ≤ c ∧ c ≤ 99) (hN : 5 ≤ M m 0 ∧ M m 0 ≤ 16) : Ex 2 mX2_takeFirstYard b sh M [vr b m, vi a, vi c] (some (vi (if 1 ≤ a ∧ a ≤ M m 0 - 2 ∧ c ≤ 60 then 1 else 0))) (if 1 ≤ a ∧ a ≤ M m 0 - 2 ∧ c ≤ 60 then up M (m + 1) a c else M) := by
  refine MC_of (ls := [some (vr b m), some (vi a), some (vi c)]) (by decide) rfl (Nat.le_of_ble_eq_true rfl) ?_
  refine R_iload_n (pc := 0) dX2_takeFirstYard_0 rfl ?_
  refine R_iconst (pc := 1) dX2_takeFirstYard_1 ?_
  refine R_aload_n (pc := 2) dX2_takeFirstYard_2 rfl ?_
  refine R_getI (pc := 3) (J := 0) dX2_takeFirstYard_3 fl_RX2_36 rfl rfl hm.1 (rfl) ?_
  refine R_iconst (pc := 6) dX2_takeFirstYard_6 ?_
  refine R_isub (pc := 7) dX2_takeFirstYard_7 ?_
  refine R_S3i (pc := 8) dX2_takeFirstYard_8 ss_RX2_80 (k_within b sh _ _ _ _ (by omega) (by omega) (by omega)) (Nat.le_of_ble_eq_true rfl) (by decide) ?_
  refine R_if_eq (pc := 11) (tgt := 21) dX2_takeFirstYard_11 (by decide) (by omega) (fun h_11 => ?_) (fun h_11 => ?_)
  · refine R_iconst (pc := 21) dX2_takeFirstYard_21 ?_
    refine R_zret (pc := 22) dX2_takeFirstYard_22 (by first | exact Or.inl rfl | exact Or.inr rfl | omega) ?_
    exact eqi (by omega) (by rw [if_neg (by omega)])
  · refine R_iload_n (pc := 14) dX2_takeFirstYard_14 rfl ?_
    refine R_S1i (pc := 15) dX2_takeFirstYard_15 ss_RX2_83 (k_isYard b sh _ _ (by omega)) (Nat.le_of_ble_eq_true rfl) (by decide) ?_
    refine R_if_ne (pc := 18) (tgt := 23) dX2_takeFirstYard_18 (by decide) (by omega) (fun h_18 => ?_) (fun h_18 => ?_)
    · refine R_aload_n (pc := 23) dX2_takeFirstYard_23 rfl ?_
      refine R_getR (pc := 24) dX2_takeFirstYard_24 fl_RX2_9 rfl hm.1 rfl ?_
      refine R_iload_n (pc := 27) dX2_takeFirstYard_27 rfl ?_
      refine R_iload_n (pc := 28) dX2_takeFirstYard_28 rfl ?_
      refine R_iast (pc := 29) dX2_takeFirstYard_29 hm.2.1 (by omega) (by omega) ?_
      refine R_iconst (pc := 30) dX2_takeFirstYard_30 ?_
      refine R_zret (pc := 31) dX2_takeFirstYard_31 (by first | exact Or.inl rfl | exact Or.inr rfl | omega) ?_
      exact eqi (by omega) (by rw [if_pos (by omega)])
    · refine R_iconst (pc := 21) dX2_takeFirstYard_21 ?_
      refine R_zret (pc := 22) dX2_takeFirstYard_22 (by first | exact Or.inl rfl | exact Or.inr rfl | omega) ?_
      exact eqi (by omega) (by rw [if_neg (by omega)])
theorem k_takeWalker (b : Nat) (sh : Shp) (M : Mem) (m : Nat) (hm : isMo sh m) (a c : Int) (ha : 0 ≤ a ∧ a ≤ 99) (hc : 0 ≤ c ∧ c ≤ 99) (hW : 0 ≤ M m 2 ∧ M m 2 ≤ 4) : Ex 2 mX2_takeWalker b sh M [vr b m, vi a, vi c] (some (vi (if M m 2 < 4 ∧ a ≤ 4 ∧ c ≤ 9 then 1 else 0))) (if M m 2 < 4 ∧ a ≤ 4 ∧ c ≤ 9 then up (up (up M (m + 2) (M m 2) a) (m + 3) (M m 2) c) m 2 (M m 2 + 1) else M) := by
  refine MC_of (ls := [some (vr b m), some (vi a), some (vi c)]) (by decide) rfl (Nat.le_of_ble_eq_true rfl) ?_
  refine R_aload_n (pc := 0) dX2_takeWalker_0 rfl ?_
  refine R_getI (pc := 1) (J := 2) dX2_takeWalker_1 fl_RX2_40 rfl rfl hm.1 (rfl) ?_
  refine R_iconst (pc := 4) dX2_takeWalker_4 ?_
  refine R_cmp_ge (pc := 5) (tgt := 27) dX2_takeWalker_5 (by decide) (by omega) (fun h_5 => ?_) (fun h_5 => ?_)
  · refine R_iconst (pc := 27) dX2_takeWalker_27 ?_
    refine R_zret (pc := 28) dX2_takeWalker_28 (by first | exact Or.inl rfl | exact Or.inr rfl | omega) ?_
    exact eqi (by omega) (by rw [if_neg (by omega)])
  · refine R_iload_n (pc := 8) dX2_takeWalker_8 rfl ?_
    refine R_iconst (pc := 9) dX2_takeWalker_9 ?_
    refine R_iconst (pc := 10) dX2_takeWalker_10 ?_
    refine R_S3i (pc := 11) dX2_takeWalker_11 ss_RX2_80 (k_within b sh _ _ _ _ (by omega) (by omega) (by omega)) (Nat.le_of_ble_eq_true rfl) (by decide) ?_
    refine R_if_eq (pc := 14) (tgt := 27) dX2_takeWalker_14 (by decide) (by omega) (fun h_14 => ?_) (fun h_14 => ?_)
    · refine R_iconst (pc := 27) dX2_takeWalker_27 ?_
      refine R_zret (pc := 28) dX2_takeWalker_28 (by first | exact Or.inl rfl | exact Or.inr rfl | omega) ?_
      exact eqi (by omega) (by rw [if_neg (by omega)])
    · refine R_iload_n (pc := 17) dX2_takeWalker_17 rfl ?_
      refine R_iconst (pc := 18) dX2_takeWalker_18 ?_
      refine R_bipush (pc := 19) dX2_takeWalker_19 rfl ?_
      refine R_S3i (pc := 21) dX2_takeWalker_21 ss_RX2_80 (k_within b sh _ _ _ _ (by omega) (by omega) (by omega)) (Nat.le_of_ble_eq_true rfl) (by decide) ?_
      refine R_if_ne (pc := 24) (tgt := 29) dX2_takeWalker_24 (by decide) (by omega) (fun h_24 => ?_) (fun h_24 => ?_)
      · refine R_aload_n (pc := 29) dX2_takeWalker_29 rfl ?_
        refine R_getR (pc := 30) dX2_takeWalker_30 fl_RX2_15 rfl hm.1 rfl ?_
        refine R_aload_n (pc := 33) dX2_takeWalker_33 rfl ?_
        refine R_getI (pc := 34) (J := 2) dX2_takeWalker_34 fl_RX2_40 rfl rfl hm.1 (rfl) ?_
        refine R_iload_n (pc := 37) dX2_takeWalker_37 rfl ?_
        refine R_iast (pc := 38) dX2_takeWalker_38 hm.2.2.1 (by omega) (by omega) ?_
        refine R_aload_n (pc := 39) dX2_takeWalker_39 rfl ?_
        refine R_getR (pc := 40) dX2_takeWalker_40 fl_RX2_18 rfl hm.1 rfl ?_
        refine R_aload_n (pc := 43) dX2_takeWalker_43 rfl ?_
        refine R_getI (pc := 44) (J := 2) dX2_takeWalker_44 fl_RX2_40 rfl rfl hm.1 (up_k (by omega)) ?_
        refine R_iload_n (pc := 47) dX2_takeWalker_47 rfl ?_
        refine R_iast (pc := 48) dX2_takeWalker_48 hm.2.2.2.1 (by omega) (by omega) ?_
        refine R_aload_n (pc := 49) dX2_takeWalker_49 rfl ?_
        refine R_dup (pc := 50) dX2_takeWalker_50 rfl ?_
        refine R_getI (pc := 51) (J := 2) dX2_takeWalker_51 fl_RX2_40 rfl rfl hm.1 ((up_k (by omega)).trans (up_k (by omega))) ?_
        refine R_iconst (pc := 54) dX2_takeWalker_54 ?_
        refine R_iadd (pc := 55) dX2_takeWalker_55 ?_
        refine R_putI (pc := 56) (J := 2) rfl dX2_takeWalker_56 fl_RX2_40 rfl (fun r h => by cases h; rfl) hm.1 (by omega) ?_
        refine R_iconst (pc := 59) dX2_takeWalker_59 ?_
        refine R_zret (pc := 60) dX2_takeWalker_60 (by first | exact Or.inl rfl | exact Or.inr rfl | omega) ?_
        exact eqi (by omega) (by rw [if_pos (by omega)])
      · refine R_iconst (pc := 27) dX2_takeWalker_27 ?_
        refine R_zret (pc := 28) dX2_takeWalker_28 (by first | exact Or.inl rfl | exact Or.inr rfl | omega) ?_
        exact eqi (by omega) (by rw [if_neg (by omega)])
theorem k_takeThing (b : Nat) (sh : Shp) (M : Mem) (m : Nat) (hm : isMo sh m) (a c : Int) (ha : 0 ≤ a ∧ a ≤ 99) (hc : 0 ≤ c ∧ c ≤ 99) (hN : 5 ≤ M m 0 ∧ M m 0 ≤ 16) (hT : 0 ≤ M m 5 ∧ M m 5 ≤ 6) : Ex 2 mX2_takeThing b sh M [vr b m, vi a, vi c] (some (vi (if M m 5 < 6 ∧ a < M m 0 ∧ c ≤ 60 then 1 else 0))) (if M m 5 < 6 ∧ a < M m 0 ∧ c ≤ 60 then up (up (up M (m + 4) (M m 5) a) (m + 5) (M m 5) c) m 5 (M m 5 + 1) else M) := by
  refine MC_of (ls := [some (vr b m), some (vi a), some (vi c)]) (by decide) rfl (Nat.le_of_ble_eq_true rfl) ?_
  refine R_aload_n (pc := 0) dX2_takeThing_0 rfl ?_
  refine R_getI (pc := 1) (J := 5) dX2_takeThing_1 fl_RX2_43 rfl rfl hm.1 (rfl) ?_
  refine R_bipush (pc := 4) dX2_takeThing_4 rfl ?_
  refine R_cmp_ge (pc := 6) (tgt := 30) dX2_takeThing_6 (by decide) (by omega) (fun h_6 => ?_) (fun h_6 => ?_)
  · refine R_iconst (pc := 30) dX2_takeThing_30 ?_
    refine R_zret (pc := 31) dX2_takeThing_31 (by first | exact Or.inl rfl | exact Or.inr rfl | omega) ?_
    exact eqi (by omega) (by rw [if_neg (by omega)])
  · refine R_iload_n (pc := 9) dX2_takeThing_9 rfl ?_
    refine R_iconst (pc := 10) dX2_takeThing_10 ?_
    refine R_aload_n (pc := 11) dX2_takeThing_11 rfl ?_
    refine R_getI (pc := 12) (J := 0) dX2_takeThing_12 fl_RX2_36 rfl rfl hm.1 (rfl) ?_
    refine R_iconst (pc := 15) dX2_takeThing_15 ?_
    refine R_isub (pc := 16) dX2_takeThing_16 ?_
    refine R_S3i (pc := 17) dX2_takeThing_17 ss_RX2_80 (k_within b sh _ _ _ _ (by omega) (by omega) (by omega)) (Nat.le_of_ble_eq_true rfl) (by decide) ?_
    refine R_if_eq (pc := 20) (tgt := 30) dX2_takeThing_20 (by decide) (by omega) (fun h_20 => ?_) (fun h_20 => ?_)
    · refine R_iconst (pc := 30) dX2_takeThing_30 ?_
      refine R_zret (pc := 31) dX2_takeThing_31 (by first | exact Or.inl rfl | exact Or.inr rfl | omega) ?_
      exact eqi (by omega) (by rw [if_neg (by omega)])
    · refine R_iload_n (pc := 23) dX2_takeThing_23 rfl ?_
      refine R_S1i (pc := 24) dX2_takeThing_24 ss_RX2_83 (k_isYard b sh _ _ (by omega)) (Nat.le_of_ble_eq_true rfl) (by decide) ?_
      refine R_if_ne (pc := 27) (tgt := 32) dX2_takeThing_27 (by decide) (by omega) (fun h_27 => ?_) (fun h_27 => ?_)
      · refine R_aload_n (pc := 32) dX2_takeThing_32 rfl ?_
        refine R_getR (pc := 33) dX2_takeThing_33 fl_RX2_21 rfl hm.1 rfl ?_
        refine R_aload_n (pc := 36) dX2_takeThing_36 rfl ?_
        refine R_getI (pc := 37) (J := 5) dX2_takeThing_37 fl_RX2_43 rfl rfl hm.1 (rfl) ?_
        refine R_iload_n (pc := 40) dX2_takeThing_40 rfl ?_
        refine R_iast (pc := 41) dX2_takeThing_41 hm.2.2.2.2.1 (by omega) (by omega) ?_
        refine R_aload_n (pc := 42) dX2_takeThing_42 rfl ?_
        refine R_getR (pc := 43) dX2_takeThing_43 fl_RX2_24 rfl hm.1 rfl ?_
        refine R_aload_n (pc := 46) dX2_takeThing_46 rfl ?_
        refine R_getI (pc := 47) (J := 5) dX2_takeThing_47 fl_RX2_43 rfl rfl hm.1 (up_k (by omega)) ?_
        refine R_iload_n (pc := 50) dX2_takeThing_50 rfl ?_
        refine R_iast (pc := 51) dX2_takeThing_51 hm.2.2.2.2.2.1 (by omega) (by omega) ?_
        refine R_aload_n (pc := 52) dX2_takeThing_52 rfl ?_
        refine R_dup (pc := 53) dX2_takeThing_53 rfl ?_
        refine R_getI (pc := 54) (J := 5) dX2_takeThing_54 fl_RX2_43 rfl rfl hm.1 ((up_k (by omega)).trans (up_k (by omega))) ?_
        refine R_iconst (pc := 57) dX2_takeThing_57 ?_
        refine R_iadd (pc := 58) dX2_takeThing_58 ?_
        refine R_putI (pc := 59) (J := 5) rfl dX2_takeThing_59 fl_RX2_43 rfl (fun r h => by cases h; rfl) hm.1 (by omega) ?_
        refine R_iconst (pc := 62) dX2_takeThing_62 ?_
        refine R_zret (pc := 63) dX2_takeThing_63 (by first | exact Or.inl rfl | exact Or.inr rfl | omega) ?_
        exact eqi (by omega) (by rw [if_pos (by omega)])
      · refine R_iconst (pc := 30) dX2_takeThing_30 ?_
        refine R_zret (pc := 31) dX2_takeThing_31 (by first | exact Or.inl rfl | exact Or.inr rfl | omega) ?_
        exact eqi (by omega) (by rw [if_neg (by omega)])
theorem k_takeTold (b : Nat) (sh : Shp) (M : Mem) (m : Nat) (hm : isMo sh m) (a c d : Int) (ha : 0 ≤ a ∧ a ≤ 99) (hc : 0 ≤ c ∧ c ≤ 99) (hd : 0 ≤ d ∧ d ≤ 99) (hW : 0 ≤ M m 2 ∧ M m 2 ≤ 4) (hT : 0 ≤ M m 5 ∧ M m 5 ≤ 6) (hD : 0 ≤ M m 8 ∧ M m 8 ≤ 8) : Ex 2 mX2_takeTold b sh M [vr b m, vi a, vi c, vi d] (some (vi (if M m 8 < 8 ∧ a ≤ 9 ∧ c < M m 2 ∧ d < M m 5 then 1 else 0))) (if M m 8 < 8 ∧ a ≤ 9 ∧ c < M m 2 ∧ d < M m 5 then up (up (up (up M (m + 6) (M m 8) a) (m + 7) (M m 8) c) (m + 8) (M m 8) d) m 8 (M m 8 + 1) else M) := by
  refine MC_of (ls := [some (vr b m), some (vi a), some (vi c), some (vi d)]) (by decide) rfl (Nat.le_of_ble_eq_true rfl) ?_
  refine R_aload_n (pc := 0) dX2_takeTold_0 rfl ?_
  refine R_getI (pc := 1) (J := 8) dX2_takeTold_1 fl_RX2_46 rfl rfl hm.1 (rfl) ?_
  refine R_bipush (pc := 4) dX2_takeTold_4 rfl ?_
  refine R_cmp_ge (pc := 6) (tgt := 47) dX2_takeTold_6 (by decide) (by omega) (fun h_6 => ?_) (fun h_6 => ?_)
  · refine R_iconst (pc := 47) dX2_takeTold_47 ?_
    refine R_zret (pc := 48) dX2_takeTold_48 (by first | exact Or.inl rfl | exact Or.inr rfl | omega) ?_
    exact eqi (by omega) (by rw [if_neg (by omega)])
  · refine R_iload_n (pc := 9) dX2_takeTold_9 rfl ?_
    refine R_iconst (pc := 10) dX2_takeTold_10 ?_
    refine R_bipush (pc := 11) dX2_takeTold_11 rfl ?_
    refine R_S3i (pc := 13) dX2_takeTold_13 ss_RX2_80 (k_within b sh _ _ _ _ (by omega) (by omega) (by omega)) (Nat.le_of_ble_eq_true rfl) (by decide) ?_
    refine R_if_eq (pc := 16) (tgt := 47) dX2_takeTold_16 (by decide) (by omega) (fun h_16 => ?_) (fun h_16 => ?_)
    · refine R_iconst (pc := 47) dX2_takeTold_47 ?_
      refine R_zret (pc := 48) dX2_takeTold_48 (by first | exact Or.inl rfl | exact Or.inr rfl | omega) ?_
      exact eqi (by omega) (by rw [if_neg (by omega)])
    · refine R_iload_n (pc := 19) dX2_takeTold_19 rfl ?_
      refine R_iconst (pc := 20) dX2_takeTold_20 ?_
      refine R_aload_n (pc := 21) dX2_takeTold_21 rfl ?_
      refine R_getI (pc := 22) (J := 2) dX2_takeTold_22 fl_RX2_40 rfl rfl hm.1 (rfl) ?_
      refine R_iconst (pc := 25) dX2_takeTold_25 ?_
      refine R_isub (pc := 26) dX2_takeTold_26 ?_
      refine R_S3i (pc := 27) dX2_takeTold_27 ss_RX2_80 (k_within b sh _ _ _ _ (by omega) (by omega) (by omega)) (Nat.le_of_ble_eq_true rfl) (by decide) ?_
      refine R_if_eq (pc := 30) (tgt := 47) dX2_takeTold_30 (by decide) (by omega) (fun h_30 => ?_) (fun h_30 => ?_)
      · refine R_iconst (pc := 47) dX2_takeTold_47 ?_
        refine R_zret (pc := 48) dX2_takeTold_48 (by first | exact Or.inl rfl | exact Or.inr rfl | omega) ?_
        exact eqi (by omega) (by rw [if_neg (by omega)])
      · refine R_iload_n (pc := 33) dX2_takeTold_33 rfl ?_
        refine R_iconst (pc := 34) dX2_takeTold_34 ?_
        refine R_aload_n (pc := 35) dX2_takeTold_35 rfl ?_
        refine R_getI (pc := 36) (J := 5) dX2_takeTold_36 fl_RX2_43 rfl rfl hm.1 (rfl) ?_
        refine R_iconst (pc := 39) dX2_takeTold_39 ?_
        refine R_isub (pc := 40) dX2_takeTold_40 ?_
        refine R_S3i (pc := 41) dX2_takeTold_41 ss_RX2_80 (k_within b sh _ _ _ _ (by omega) (by omega) (by omega)) (Nat.le_of_ble_eq_true rfl) (by decide) ?_
        refine R_if_ne (pc := 44) (tgt := 49) dX2_takeTold_44 (by decide) (by omega) (fun h_44 => ?_) (fun h_44 => ?_)
        · refine R_aload_n (pc := 49) dX2_takeTold_49 rfl ?_
          refine R_getR (pc := 50) dX2_takeTold_50 fl_RX2_27 rfl hm.1 rfl ?_
          refine R_aload_n (pc := 53) dX2_takeTold_53 rfl ?_
          refine R_getI (pc := 54) (J := 8) dX2_takeTold_54 fl_RX2_46 rfl rfl hm.1 (rfl) ?_
          refine R_iload_n (pc := 57) dX2_takeTold_57 rfl ?_
          refine R_iast (pc := 58) dX2_takeTold_58 hm.2.2.2.2.2.2.1 (by omega) (by omega) ?_
          refine R_aload_n (pc := 59) dX2_takeTold_59 rfl ?_
          refine R_getR (pc := 60) dX2_takeTold_60 fl_RX2_30 rfl hm.1 rfl ?_
          refine R_aload_n (pc := 63) dX2_takeTold_63 rfl ?_
          refine R_getI (pc := 64) (J := 8) dX2_takeTold_64 fl_RX2_46 rfl rfl hm.1 (up_k (by omega)) ?_
          refine R_iload_n (pc := 67) dX2_takeTold_67 rfl ?_
          refine R_iast (pc := 68) dX2_takeTold_68 hm.2.2.2.2.2.2.2.1 (by omega) (by omega) ?_
          refine R_aload_n (pc := 69) dX2_takeTold_69 rfl ?_
          refine R_getR (pc := 70) dX2_takeTold_70 fl_RX2_33 rfl hm.1 rfl ?_
          refine R_aload_n (pc := 73) dX2_takeTold_73 rfl ?_
          refine R_getI (pc := 74) (J := 8) dX2_takeTold_74 fl_RX2_46 rfl rfl hm.1 ((up_k (by omega)).trans (up_k (by omega))) ?_
          refine R_iload_n (pc := 77) dX2_takeTold_77 rfl ?_
          refine R_iast (pc := 78) dX2_takeTold_78 hm.2.2.2.2.2.2.2.2.1 (by omega) (by omega) ?_
          refine R_aload_n (pc := 79) dX2_takeTold_79 rfl ?_
          refine R_dup (pc := 80) dX2_takeTold_80 rfl ?_
          refine R_getI (pc := 81) (J := 8) dX2_takeTold_81 fl_RX2_46 rfl rfl hm.1 (((up_k (by omega)).trans (up_k (by omega))).trans (up_k (by omega))) ?_
          refine R_iconst (pc := 84) dX2_takeTold_84 ?_
          refine R_iadd (pc := 85) dX2_takeTold_85 ?_
          refine R_putI (pc := 86) (J := 8) rfl dX2_takeTold_86 fl_RX2_46 rfl (fun r h => by cases h; rfl) hm.1 (by omega) ?_
          refine R_iconst (pc := 89) dX2_takeTold_89 ?_
          refine R_zret (pc := 90) dX2_takeTold_90 (by first | exact Or.inl rfl | exact Or.inr rfl | omega) ?_
          exact eqi (by omega) (by rw [if_pos (by omega)])
        · refine R_iconst (pc := 47) dX2_takeTold_47 ?_
          refine R_zret (pc := 48) dX2_takeTold_48 (by first | exact Or.inl rfl | exact Or.inr rfl | omega) ?_
          exact eqi (by omega) (by rw [if_neg (by omega)])
/-- fogs' bits: days a up to i less 1 -/
def fgS (x a : Int) : Nat → Int
  | 0 => x
  | n + 1 => (((fgS x a n).toNat ||| ((2 : Int) ^ (a + n).toNat).toNat : Nat) : Int)
theorem fgS_in {x a : Int} (hx : 0 ≤ x ∧ x < 1024) (ha : 0 ≤ a) : ∀ n : Nat, a + n ≤ 10 → 0 ≤ fgS x a n ∧ fgS x a n < 1024
  | 0, _ => hx
  | n + 1, h => or_lt10 (fgS_in hx ha n (by omega)) (by omega)
theorem fgS_b {x a i : Int} (hx : 0 ≤ x ∧ x < 1024) (ha : 0 ≤ a) (hi : 0 ≤ i) : ∀ n : Nat, a + n ≤ 10 → sb (fgS x a n) i = if a ≤ i ∧ i < a + n then 1 else sb x i
  | 0, _ => by rw [if_neg (by omega)]; rfl
  | n + 1, h => by
    have h1 := fgS_b hx ha hi n (by omega)
    have h2 := fgS_in hx ha n (by omega)
    show sb (((fgS x a n).toNat ||| ((2 : Int) ^ (a + n).toNat).toNat : Nat) : Int) i = _
    rw [sb_or h2.1 (by omega) hi, h1]
    by_cases e : i = a + n
    · rw [if_pos e, if_pos (by omega)]
    · rw [if_neg e]
      by_cases e2 : a ≤ i ∧ i < a + n
      · rw [if_pos e2, if_pos (by omega)]
      · rw [if_neg e2, if_neg (by omega)]
theorem k_takeFog (b : Nat) (sh : Shp) (M : Mem) (m : Nat) (hm : isMo sh m) (a c : Int) (ha : 0 ≤ a ∧ a ≤ 99) (hc : 0 ≤ c ∧ c ≤ 99) (hF : 0 ≤ M m 12 ∧ M m 12 ≤ 2) (h13 : 0 ≤ M m 13 ∧ M m 13 < 1024) : Ex 2 mX2_takeFog b sh M [vr b m, vi a, vi c] (some (vi (if M m 12 < 2 ∧ a ≤ c ∧ c ≤ 9 then 1 else 0))) (if M m 12 < 2 ∧ a ≤ c ∧ c ≤ 9 then up (up M m 12 (M m 12 + 1)) m 13 (fgS (M m 13) a (c - a + 1).toNat) else M) := by
  have uu : ∀ x z, up (up (up M m 12 (M m 12 + 1)) m 13 x) m 13 z = up (up M m 12 (M m 12 + 1)) m 13 z := by
    intro x z
    funext k j
    unfold up
    repeat' split
    all_goals first | rfl | omega
  have L : M m 12 < 2 ∧ a ≤ c ∧ c ≤ 9 → ∀ (n : Nat) (i : Int), a ≤ i → i ≤ c + 1 → c + 1 - i < n → MW yX2_takeFog cX2_takeFog 4 (some .boolean) (rmD 2 0 0) (FM (EQ (some (vi (if M m 12 < 2 ∧ a ≤ c ∧ c ≤ 9 then 1 else 0))) (if M m 12 < 2 ∧ a ≤ c ∧ c ≤ 9 then up (up M m 12 (M m 12 + 1)) m 13 (fgS (M m 13) a (c - a + 1).toNat) else M)) b sh 0 0) b sh.length 0 0 42 [some (vr b m), some (vi a), some (vi c), some (vi i)] [] sh (up (up M m 12 (M m 12 + 1)) m 13 (fgS (M m 13) a (i - a).toNat)) := by
    intro hok n
    induction n with
    | zero => intro i h1 h2 h3; exact absurd h3 (by omega)
    | succ n ih =>
      intro i h1 h2 h3
      have g := fgS_in (x := M m 13) h13 ha.1 (i - a).toNat (by omega)
      refine R_iload_n (pc := 42) dX2_takeFog_42 rfl ?_
      refine R_iload_n (pc := 43) dX2_takeFog_43 rfl ?_
      refine R_cmp_gt (pc := 44) (tgt := 65) dX2_takeFog_44 (by decide) (by omega) (fun h_44 => ?_) (fun h_44 => ?_)
      · have e1 : i = c + 1 := by omega
        subst e1
        refine R_iconst (pc := 65) dX2_takeFog_65 ?_
        refine R_zret (pc := 66) dX2_takeFog_66 (by first | exact Or.inl rfl | exact Or.inr rfl | omega) ?_
        exact eqi (by omega) (by rw [if_pos (by omega), show c + 1 - a = c - a + 1 by omega])
      · have g2 := or_lt10 g (t := i) (by omega)
        have hp := pow_le10 (v := i) (by omega)
        refine R_aload_n (pc := 47) dX2_takeFog_47 rfl ?_
        refine R_dup (pc := 48) dX2_takeFog_48 rfl ?_
        refine R_getI (pc := 49) (J := 13) dX2_takeFog_49 fl_RX2_52 rfl rfl hm.1 (up_s) ?_
        refine R_iconst (pc := 52) dX2_takeFog_52 ?_
        refine R_iload_n (pc := 53) dX2_takeFog_53 rfl ?_
        refine R_ishl (pc := 54) dX2_takeFog_54 (by omega) ?_
        refine R_ior (pc := 55) dX2_takeFog_55 (by omega) ?_
        refine R_putI (pc := 56) (J := 13) rfl dX2_takeFog_56 fl_RX2_52 rfl (fun r h => by cases h; rfl) hm.1 (by omega) ?_
        rw [uu]
        refine R_iinc dX2_takeFog_59 rfl (by decide) rfl rfl ?_
        refine R_goto (tgt := 42) dX2_takeFog_62 (by decide) ?_
        have hx := ih (i + 1) (by omega) (by omega) (by omega)
        rw [show (i + 1 - a).toNat = (i - a).toNat + 1 by omega] at hx
        have e9 : fgS (M m 13) a ((i - a).toNat + 1) = (((fgS (M m 13) a (i - a).toNat).toNat ||| ((2 : Int) ^ i.toNat).toNat : Nat) : Int) := by
          show (((fgS (M m 13) a (i - a).toNat).toNat ||| ((2 : Int) ^ (a + (((i - a).toNat : Nat) : Int)).toNat).toNat : Nat) : Int) = _
          rw [show a + (((i - a).toNat : Nat) : Int) = i by omega]
        rw [e9] at hx
        exact hx
  refine MC_of (ls := [some (vr b m), some (vi a), some (vi c), none]) (by decide) rfl (Nat.le_of_ble_eq_true rfl) ?_
  refine R_aload_n (pc := 0) dX2_takeFog_0 rfl ?_
  refine R_getI (pc := 1) (J := 12) dX2_takeFog_1 fl_RX2_49 rfl rfl hm.1 (rfl) ?_
  refine R_iconst (pc := 4) dX2_takeFog_4 ?_
  refine R_cmp_ge (pc := 5) (tgt := 28) dX2_takeFog_5 (by decide) (by omega) (fun h_5 => ?_) (fun h_5 => ?_)
  · refine R_iconst (pc := 28) dX2_takeFog_28 ?_
    refine R_zret (pc := 29) dX2_takeFog_29 (by first | exact Or.inl rfl | exact Or.inr rfl | omega) ?_
    exact eqi (by omega) (by rw [if_neg (by omega)])
  · refine R_iload_n (pc := 8) dX2_takeFog_8 rfl ?_
    refine R_iconst (pc := 9) dX2_takeFog_9 ?_
    refine R_bipush (pc := 10) dX2_takeFog_10 rfl ?_
    refine R_S3i (pc := 12) dX2_takeFog_12 ss_RX2_80 (k_within b sh _ _ _ _ (by omega) (by omega) (by omega)) (Nat.le_of_ble_eq_true rfl) (by decide) ?_
    refine R_if_eq (pc := 15) (tgt := 28) dX2_takeFog_15 (by decide) (by omega) (fun h_15 => ?_) (fun h_15 => ?_)
    · refine R_iconst (pc := 28) dX2_takeFog_28 ?_
      refine R_zret (pc := 29) dX2_takeFog_29 (by first | exact Or.inl rfl | exact Or.inr rfl | omega) ?_
      exact eqi (by omega) (by rw [if_neg (by omega)])
    · refine R_iload_n (pc := 18) dX2_takeFog_18 rfl ?_
      refine R_iload_n (pc := 19) dX2_takeFog_19 rfl ?_
      refine R_bipush (pc := 20) dX2_takeFog_20 rfl ?_
      refine R_S3i (pc := 22) dX2_takeFog_22 ss_RX2_80 (k_within b sh _ _ _ _ (by omega) (by omega) (by omega)) (Nat.le_of_ble_eq_true rfl) (by decide) ?_
      refine R_if_ne (pc := 25) (tgt := 30) dX2_takeFog_25 (by decide) (by omega) (fun h_25 => ?_) (fun h_25 => ?_)
      · refine R_aload_n (pc := 30) dX2_takeFog_30 rfl ?_
        refine R_dup (pc := 31) dX2_takeFog_31 rfl ?_
        refine R_getI (pc := 32) (J := 12) dX2_takeFog_32 fl_RX2_49 rfl rfl hm.1 (rfl) ?_
        refine R_iconst (pc := 35) dX2_takeFog_35 ?_
        refine R_iadd (pc := 36) dX2_takeFog_36 ?_
        refine R_putI (pc := 37) (J := 12) rfl dX2_takeFog_37 fl_RX2_49 rfl (fun r h => by cases h; rfl) hm.1 (by omega) ?_
        refine R_iload_n (pc := 40) dX2_takeFog_40 rfl ?_
        refine R_istore_n (pc := 41) dX2_takeFog_41 (by decide) rfl rfl ?_
        have hx := L (by omega) 20 a (by omega) (by omega) (by omega)
        rw [show (a - a).toNat = 0 by omega, show fgS (M m 13) a 0 = M m 13 from rfl] at hx
        have e : up (up M m 12 (M m 12 + 1)) m 13 (M m 13) = up M m 12 (M m 12 + 1) := by
          funext k j
          unfold up
          repeat' split
          all_goals first | rfl | omega | (rename_i h _; obtain ⟨rfl, rfl⟩ := h; rfl) | (rename_i h; obtain ⟨rfl, rfl⟩ := h; rfl)
        rw [e] at hx
        exact hx
      · refine R_iconst (pc := 28) dX2_takeFog_28 ?_
        refine R_zret (pc := 29) dX2_takeFog_29 (by first | exact Or.inl rfl | exact Or.inr rfl | omega) ?_
        exact eqi (by omega) (by rw [if_neg (by omega)])
