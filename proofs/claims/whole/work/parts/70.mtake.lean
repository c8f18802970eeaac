/-! the reference's reading: a moor begun, its items -/
theorem fl_0 {g : Rd} {ci bi : Int} (h : g ci = 0) : fl g ci bi = zF := by
  funext i
  unfold fl
  rw [h, if_neg (by omega)]
  rfl
def bgM (M : Mem) : Mem := fun c j => if c = 73 ∧ 69 ≤ j ∧ j < 138 then (if j = 69 then 9 else if 74 ≤ j ∧ j < 90 then 30 else 0) else M c j
theorem mo0_mk : mo0 = mk (fun i => if i = 0 then 9 else 0) (fun i => if 0 ≤ i ∧ i < 16 then 30 else 0) zF zF zF zF zF zF zF zF := by
  funext a i
  match a with
  | 0 => rfl
  | 1 => rfl
  | 2 => rfl
  | 3 => rfl
  | 4 => rfl
  | 5 => rfl
  | 6 => rfl
  | 7 => rfl
  | 8 => rfl
  | 9 => rfl
  | a + 10 =>
    unfold mo0
    rw [if_neg (by omega), if_neg (by omega)]
    rfl
theorem bg_mo {M : Mem} : moW (bgM M 73) 69 = mo0 := by
  have e : ∀ j, 69 ≤ j → j < 138 → bgM M 73 j = if j = 69 then 9 else if 74 ≤ j ∧ j < 90 then 30 else 0 := fun j a c => by unfold bgM; rw [if_pos ⟨rfl, a, c⟩]
  generalize bgM M 73 = g at e
  have z : ∀ j, 69 < j → j < 74 → g j = 0 := fun j a c => by rw [e j (by omega) (by omega), if_neg (by omega), if_neg (by omega)]
  have e0 : fg0 g = fun i => if i = 0 then 9 else 0 := by
    funext i
    unfold fg0
    by_cases hi : 0 ≤ i ∧ i ≤ 4
    · rw [if_pos hi]
      by_cases h0 : i = 0
      · rw [if_pos h0, e _ (by omega) (by omega), if_pos (by omega)]
      · rw [if_neg h0, z _ (by omega) (by omega)]
    · rw [if_neg hi, if_neg (by omega)]
  have e1 : fg1 g = fun i => if 0 ≤ i ∧ i < 16 then 30 else 0 := by
    funext i
    unfold fg1
    by_cases hi : 0 ≤ i ∧ i < 16
    · rw [if_pos hi, if_pos hi, e _ (by omega) (by omega), if_neg (by omega), if_pos (by omega)]
    · rw [if_neg hi, if_neg hi]
  have e9 : fg9 g = zF := by
    funext i
    unfold fg9
    rw [z 73 (by omega) (by omega), if_neg (by omega)]
    rfl
  rw [moW_mk, mo0_mk, e0, e1, e9, fl_0 (ci := 70) (bi := 90) (z 70 (by omega) (by omega)), fl_0 (ci := 70) (bi := 94) (z 70 (by omega) (by omega)), fl_0 (ci := 71) (bi := 98) (z 71 (by omega) (by omega)), fl_0 (ci := 71) (bi := 104) (z 71 (by omega) (by omega)), fl_0 (ci := 72) (bi := 110) (z 72 (by omega) (by omega)), fl_0 (ci := 72) (bi := 118) (z 72 (by omega) (by omega)), fl_0 (ci := 72) (bi := 126) (z 72 (by omega) (by omega))]
theorem j_begins (b : Nat) (sh : Shp) (M : Mem) (hsh : Hm sh) : Ex 0 mX8_begins b sh M [vr b 72] none (bgM M) := by
  have L2 : ∀ (n : Nat) (i : Int), 0 ≤ i → i ≤ 16 → 16 - i < n → MW yX8_begins cX8_begins 2 none (rmD 0 0 0) (FM (EQ none (bgM M)) b sh 0 0) b sh.length 0 0 35 [some (vr b 72), some (vi i)] [] sh (fun c j => if c = 73 ∧ 74 ≤ j ∧ j < 74 + i then 30 else if c = 73 ∧ j = 69 then 9 else if c = 73 ∧ 69 ≤ j ∧ j < 138 then 0 else M c j) := by
    intro n
    induction n with
    | zero => intro i h1 h2 h3; exact absurd h3 (by omega)
    | succ n ih =>
      intro i h1 h2 h3
      refine R_iload_n (pc := 35) dX8_begins_35 rfl ?_
      refine R_bipush (pc := 36) dX8_begins_36 rfl ?_
      refine R_cmp_ge (pc := 38) (tgt := 58) dX8_begins_38 (by decide) (by omega) (fun h_38 => ?_) (fun h_38 => ?_)
      · refine R_vret (pc := 58) dX8_begins_58 ?_
        refine eqv ?_
        have e1 : i = 16 := by omega
        subst e1
        funext c j
        unfold bgM
        repeat' split
        all_goals first | rfl | omega
      · refine R_aload_n (pc := 41) dX8_begins_41 rfl ?_
        refine R_getR (pc := 42) dX8_begins_42 fl_RX8_7 rfl (hsh _ _ rfl) rfl ?_
        refine R_bipush (pc := 45) dX8_begins_45 rfl ?_
        refine R_iload_n (pc := 47) dX8_begins_47 rfl ?_
        refine R_iadd (pc := 48) dX8_begins_48 ?_
        refine R_bipush (pc := 49) dX8_begins_49 rfl ?_
        refine R_iast (pc := 51) dX8_begins_51 (hsh _ _ rfl) (by omega) (by omega) ?_
        refine R_iinc (pc := 52) dX8_begins_52 rfl (by decide) rfl rfl ?_
        refine R_goto (pc := 55) (tgt := 35) dX8_begins_55 (by decide) ?_
        refine R_mem ?_ (ih (i + 1) (by omega) (by omega) (by omega))
        funext c j
        unfold up
        dsimp only
        repeat' split
        all_goals first | rfl | omega
  have L1 : ∀ (n : Nat) (i : Int), 0 ≤ i → i ≤ 69 → 69 - i < n → MW yX8_begins cX8_begins 2 none (rmD 0 0 0) (FM (EQ none (bgM M)) b sh 0 0) b sh.length 0 0 2 [some (vr b 72), some (vi i)] [] sh (fun c j => if c = 73 ∧ 69 ≤ j ∧ j < 69 + i then 0 else M c j) := by
    intro n
    induction n with
    | zero => intro i h1 h2 h3; exact absurd h3 (by omega)
    | succ n ih =>
      intro i h1 h2 h3
      refine R_iload_n (pc := 2) dX8_begins_2 rfl ?_
      refine R_bipush (pc := 3) dX8_begins_3 rfl ?_
      refine R_cmp_ge (pc := 5) (tgt := 24) dX8_begins_5 (by decide) (by omega) (fun h_5 => ?_) (fun h_5 => ?_)
      · refine R_aload_n (pc := 24) dX8_begins_24 rfl ?_
        refine R_getR (pc := 25) dX8_begins_25 fl_RX8_7 rfl (hsh _ _ rfl) rfl ?_
        refine R_bipush (pc := 28) dX8_begins_28 rfl ?_
        refine R_bipush (pc := 30) dX8_begins_30 rfl ?_
        refine R_iast (pc := 32) dX8_begins_32 (hsh _ _ rfl) (by omega) (by omega) ?_
        refine R_iconst (pc := 33) dX8_begins_33 ?_
        refine R_istore_n (pc := 34) dX8_begins_34 (by decide) rfl rfl ?_
        refine R_mem ?_ (L2 30 0 (by omega) (by omega) (by omega))
        have e1 : i = 69 := by omega
        subst e1
        funext c j
        unfold up
        dsimp only
        repeat' split
        all_goals first | rfl | omega
      · refine R_aload_n (pc := 8) dX8_begins_8 rfl ?_
        refine R_getR (pc := 9) dX8_begins_9 fl_RX8_7 rfl (hsh _ _ rfl) rfl ?_
        refine R_bipush (pc := 12) dX8_begins_12 rfl ?_
        refine R_iload_n (pc := 14) dX8_begins_14 rfl ?_
        refine R_iadd (pc := 15) dX8_begins_15 ?_
        refine R_iconst (pc := 16) dX8_begins_16 ?_
        refine R_iast (pc := 17) dX8_begins_17 (hsh _ _ rfl) (by omega) (by omega) ?_
        refine R_iinc (pc := 18) dX8_begins_18 rfl (by decide) rfl rfl ?_
        refine R_goto (pc := 21) (tgt := 2) dX8_begins_21 (by decide) ?_
        refine R_mem ?_ (ih (i + 1) (by omega) (by omega) (by omega))
        funext c j
        unfold up
        dsimp only
        repeat' split
        all_goals first | rfl | omega
  refine MC_of (ls := [some (vr b 72), none]) (by decide) rfl (Nat.le_of_ble_eq_true rfl) ?_
  refine R_iconst (pc := 0) dX8_begins_0 ?_
  refine R_istore_n (pc := 1) dX8_begins_1 (by decide) rfl rfl ?_
  refine R_mem ?_ (L1 100 0 (by omega) (by omega) (by omega))
  funext c j
  rw [if_neg (by omega)]
theorem j_posts (b : Nat) (sh : Shp) (M : Mem) (hsh : Hm sh) (i y : Int) (hi : 0 ≤ i ∧ i ≤ 99) (hy : 0 ≤ y ∧ y ≤ 99) (hN : 5 ≤ M 73 69 ∧ M 73 69 ≤ 16) : Ex 1 mX8_posts b sh M [vr b 72, vi i, vi y] (some (vi (if 1 ≤ i ∧ i ≤ M 73 69 - 2 ∧ y ≤ 60 then 1 else 0))) (if 1 ≤ i ∧ i ≤ M 73 69 - 2 ∧ y ≤ 60 then up M 73 (74 + i) y else up M 73 74 30) := by
  refine MC_of (ls := [some (vr b 72), some (vi i), some (vi y), none]) (by decide) rfl (Nat.le_of_ble_eq_true rfl) ?_
  refine R_iload_n (pc := 0) dX8_posts_0 rfl ?_
  refine R_i2l (pc := 1) dX8_posts_1 (by omega) ?_
  refine R_lconst (pc := 2) dX8_posts_2 (x := 1) rfl ?_
  refine R_aload_n (pc := 3) dX8_posts_3 rfl ?_
  refine R_getR (pc := 4) dX8_posts_4 fl_RX8_7 rfl (hsh _ _ rfl) rfl ?_
  refine R_bipush (pc := 7) dX8_posts_7 rfl ?_
  refine R_iald (pc := 9) dX8_posts_9 (hsh _ _ rfl) (by omega) (rfl) ?_
  refine R_iconst (pc := 10) dX8_posts_10 ?_
  refine R_isub (pc := 11) dX8_posts_11 ?_
  refine R_i2l (pc := 12) dX8_posts_12 (by omega) ?_
  refine R_S3i (pc := 13) dX8_posts_13 ss_RX8_69 (j_in b sh M _ _ _ (by omega) (by omega) (by omega)) (Nat.le_of_ble_eq_true rfl) (by decide) ?_
  refine R_if_eq (pc := 16) (tgt := 29) dX8_posts_16 (by decide) (by omega) (fun h_16 => ?_) (fun h_16 => ?_)
  · refine R_iconst (pc := 29) dX8_posts_29 ?_
    refine R_istore_n (pc := 30) dX8_posts_30 (by decide) rfl rfl ?_
    refine R_aload_n (pc := 31) dX8_posts_31 rfl ?_
    refine R_getR (pc := 32) dX8_posts_32 fl_RX8_7 rfl (hsh _ _ rfl) rfl ?_
    refine R_bipush (pc := 35) dX8_posts_35 rfl ?_
    refine R_iload_n (pc := 37) dX8_posts_37 rfl ?_
    refine R_if_eq (pc := 38) (tgt := 45) dX8_posts_38 (by decide) (by omega) (fun _ => ?_) (fun h => absurd h (by decide))
    refine R_iconst (pc := 45) dX8_posts_45 ?_
    refine R_iadd (pc := 46) dX8_posts_46 ?_
    refine R_iload_n (pc := 47) dX8_posts_47 rfl ?_
    refine R_if_eq (pc := 48) (tgt := 55) dX8_posts_48 (by decide) (by omega) (fun _ => ?_) (fun h => absurd h (by decide))
    refine R_bipush (pc := 55) dX8_posts_55 rfl ?_
    refine R_iast (pc := 57) dX8_posts_57 (hsh _ _ rfl) (by omega) (by omega) ?_
    refine R_iload_n (pc := 58) dX8_posts_58 rfl ?_
    refine R_zret (pc := 59) dX8_posts_59 (by first | exact Or.inl rfl | exact Or.inr rfl | omega) ?_
    exact eqi (by omega) (by first | rw [if_pos (by omega)] | (rw [if_neg (by omega)]; rfl))
  · refine R_iload_n (pc := 19) dX8_posts_19 rfl ?_
    refine R_bipush (pc := 20) dX8_posts_20 rfl ?_
    refine R_cmp_gt (pc := 22) (tgt := 29) dX8_posts_22 (by decide) (by omega) (fun h_22 => ?_) (fun h_22 => ?_)
    · refine R_iconst (pc := 29) dX8_posts_29 ?_
      refine R_istore_n (pc := 30) dX8_posts_30 (by decide) rfl rfl ?_
      refine R_aload_n (pc := 31) dX8_posts_31 rfl ?_
      refine R_getR (pc := 32) dX8_posts_32 fl_RX8_7 rfl (hsh _ _ rfl) rfl ?_
      refine R_bipush (pc := 35) dX8_posts_35 rfl ?_
      refine R_iload_n (pc := 37) dX8_posts_37 rfl ?_
      refine R_if_eq (pc := 38) (tgt := 45) dX8_posts_38 (by decide) (by omega) (fun _ => ?_) (fun h => absurd h (by decide))
      refine R_iconst (pc := 45) dX8_posts_45 ?_
      refine R_iadd (pc := 46) dX8_posts_46 ?_
      refine R_iload_n (pc := 47) dX8_posts_47 rfl ?_
      refine R_if_eq (pc := 48) (tgt := 55) dX8_posts_48 (by decide) (by omega) (fun _ => ?_) (fun h => absurd h (by decide))
      refine R_bipush (pc := 55) dX8_posts_55 rfl ?_
      refine R_iast (pc := 57) dX8_posts_57 (hsh _ _ rfl) (by omega) (by omega) ?_
      refine R_iload_n (pc := 58) dX8_posts_58 rfl ?_
      refine R_zret (pc := 59) dX8_posts_59 (by first | exact Or.inl rfl | exact Or.inr rfl | omega) ?_
      exact eqi (by omega) (by first | rw [if_pos (by omega)] | (rw [if_neg (by omega)]; rfl))
    · refine R_iconst (pc := 25) dX8_posts_25 ?_
      refine R_goto (pc := 26) (tgt := 30) dX8_posts_26 (by decide) ?_
      refine R_istore_n (pc := 30) dX8_posts_30 (by decide) rfl rfl ?_
      refine R_aload_n (pc := 31) dX8_posts_31 rfl ?_
      refine R_getR (pc := 32) dX8_posts_32 fl_RX8_7 rfl (hsh _ _ rfl) rfl ?_
      refine R_bipush (pc := 35) dX8_posts_35 rfl ?_
      refine R_iload_n (pc := 37) dX8_posts_37 rfl ?_
      refine R_if_eq (pc := 38) (tgt := 45) dX8_posts_38 (by decide) (by omega) (fun h => absurd h (by decide)) (fun _ => ?_)
      refine R_iload_n (pc := 41) dX8_posts_41 rfl ?_
      refine R_goto (pc := 42) (tgt := 46) dX8_posts_42 (by decide) ?_
      refine R_iadd (pc := 46) dX8_posts_46 ?_
      refine R_iload_n (pc := 47) dX8_posts_47 rfl ?_
      refine R_if_eq (pc := 48) (tgt := 55) dX8_posts_48 (by decide) (by omega) (fun h => absurd h (by decide)) (fun _ => ?_)
      refine R_iload_n (pc := 51) dX8_posts_51 rfl ?_
      refine R_goto (pc := 52) (tgt := 57) dX8_posts_52 (by decide) ?_
      refine R_iast (pc := 57) dX8_posts_57 (hsh _ _ rfl) (by omega) (by omega) ?_
      refine R_iload_n (pc := 58) dX8_posts_58 rfl ?_
      refine R_zret (pc := 59) dX8_posts_59 (by first | exact Or.inl rfl | exact Or.inr rfl | omega) ?_
      exact eqi (by omega) (by first | rw [if_pos (by omega)] | (rw [if_neg (by omega)]; rfl))
theorem j_walkers (b : Nat) (sh : Shp) (M : Mem) (hsh : Hm sh) (x y : Int) (hx : 0 ≤ x ∧ x ≤ 99) (hy : 0 ≤ y ∧ y ≤ 99) (hW : 0 ≤ M 73 70 ∧ M 73 70 ≤ 4) : Ex 0 mX8_walkers b sh M [vr b 72, vi x, vi y] (some (vi (if M 73 70 < 4 ∧ x ≤ 4 ∧ y ≤ 9 then 1 else 0))) (if M 73 70 < 4 ∧ x ≤ 4 ∧ y ≤ 9 then up (up (up M 73 (90 + M 73 70) x) 73 (94 + M 73 70) y) 73 70 (M 73 70 + 1) else M) := by
  refine MC_of (ls := [some (vr b 72), some (vi x), some (vi y), none]) (by decide) rfl (Nat.le_of_ble_eq_true rfl) ?_
  refine R_aload_n (pc := 0) dX8_walkers_0 rfl ?_
  refine R_getR (pc := 1) dX8_walkers_1 fl_RX8_7 rfl (hsh _ _ rfl) rfl ?_
  refine R_bipush (pc := 4) dX8_walkers_4 rfl ?_
  refine R_iald (pc := 6) dX8_walkers_6 (hsh _ _ rfl) (by omega) (rfl) ?_
  refine R_istore_n (pc := 7) dX8_walkers_7 (by decide) rfl rfl ?_
  refine R_iload_n (pc := 8) dX8_walkers_8 rfl ?_
  refine R_iconst (pc := 9) dX8_walkers_9 ?_
  refine R_cmp_eq (pc := 10) (tgt := 24) dX8_walkers_10 (by decide) (by omega) (fun h_10 => ?_) (fun h_10 => ?_)
  · refine R_iconst (pc := 24) dX8_walkers_24 ?_
    refine R_zret (pc := 25) dX8_walkers_25 (by first | exact Or.inl rfl | exact Or.inr rfl | omega) ?_
    exact eqi (by omega) (by first | rw [if_pos (by omega)] | rw [if_neg (by omega)])
  · refine R_iload_n (pc := 13) dX8_walkers_13 rfl ?_
    refine R_iconst (pc := 14) dX8_walkers_14 ?_
    refine R_cmp_gt (pc := 15) (tgt := 24) dX8_walkers_15 (by decide) (by omega) (fun h_15 => ?_) (fun h_15 => ?_)
    · refine R_iconst (pc := 24) dX8_walkers_24 ?_
      refine R_zret (pc := 25) dX8_walkers_25 (by first | exact Or.inl rfl | exact Or.inr rfl | omega) ?_
      exact eqi (by omega) (by first | rw [if_pos (by omega)] | rw [if_neg (by omega)])
    · refine R_iload_n (pc := 18) dX8_walkers_18 rfl ?_
      refine R_bipush (pc := 19) dX8_walkers_19 rfl ?_
      refine R_cmp_le (pc := 21) (tgt := 26) dX8_walkers_21 (by decide) (by omega) (fun h_21 => ?_) (fun h_21 => ?_)
      · refine R_aload_n (pc := 26) dX8_walkers_26 rfl ?_
        refine R_getR (pc := 27) dX8_walkers_27 fl_RX8_7 rfl (hsh _ _ rfl) rfl ?_
        refine R_bipush (pc := 30) dX8_walkers_30 rfl ?_
        refine R_iload_n (pc := 32) dX8_walkers_32 rfl ?_
        refine R_iadd (pc := 33) dX8_walkers_33 ?_
        refine R_iload_n (pc := 34) dX8_walkers_34 rfl ?_
        refine R_iast (pc := 35) dX8_walkers_35 (hsh _ _ rfl) (by omega) (by omega) ?_
        refine R_aload_n (pc := 36) dX8_walkers_36 rfl ?_
        refine R_getR (pc := 37) dX8_walkers_37 fl_RX8_7 rfl (hsh _ _ rfl) rfl ?_
        refine R_bipush (pc := 40) dX8_walkers_40 rfl ?_
        refine R_iload_n (pc := 42) dX8_walkers_42 rfl ?_
        refine R_iadd (pc := 43) dX8_walkers_43 ?_
        refine R_iload_n (pc := 44) dX8_walkers_44 rfl ?_
        refine R_iast (pc := 45) dX8_walkers_45 (hsh _ _ rfl) (by omega) (by omega) ?_
        refine R_aload_n (pc := 46) dX8_walkers_46 rfl ?_
        refine R_getR (pc := 47) dX8_walkers_47 fl_RX8_7 rfl (hsh _ _ rfl) rfl ?_
        refine R_bipush (pc := 50) dX8_walkers_50 rfl ?_
        refine R_dup2 (pc := 52) dX8_walkers_52 rfl rfl ?_
        refine R_iald (pc := 53) dX8_walkers_53 (hsh _ _ rfl) (by omega) ((show up (up M 73 (90 + M 73 70) x) 73 (94 + M 73 70) y 73 70 = M 73 70 by rw [up_j (by omega), up_j (by omega)])) ?_
        refine R_iconst (pc := 54) dX8_walkers_54 ?_
        refine R_iadd (pc := 55) dX8_walkers_55 ?_
        refine R_iast (pc := 56) dX8_walkers_56 (hsh _ _ rfl) (by omega) (by omega) ?_
        refine R_iconst (pc := 57) dX8_walkers_57 ?_
        refine R_zret (pc := 58) dX8_walkers_58 (by first | exact Or.inl rfl | exact Or.inr rfl | omega) ?_
        exact eqi (by omega) (by first | rw [if_pos (by omega)] | rw [if_neg (by omega)])
      · refine R_iconst (pc := 24) dX8_walkers_24 ?_
        refine R_zret (pc := 25) dX8_walkers_25 (by first | exact Or.inl rfl | exact Or.inr rfl | omega) ?_
        exact eqi (by omega) (by first | rw [if_pos (by omega)] | rw [if_neg (by omega)])
theorem j_things (b : Nat) (sh : Shp) (M : Mem) (hsh : Hm sh) (x y : Int) (hx : 0 ≤ x ∧ x ≤ 99) (hy : 0 ≤ y ∧ y ≤ 99) (hN : 5 ≤ M 73 69 ∧ M 73 69 ≤ 16) (hT : 0 ≤ M 73 71 ∧ M 73 71 ≤ 6) : Ex 0 mX8_things b sh M [vr b 72, vi x, vi y] (some (vi (if M 73 71 < 6 ∧ x < M 73 69 ∧ y ≤ 60 then 1 else 0))) (if M 73 71 < 6 ∧ x < M 73 69 ∧ y ≤ 60 then up (up (up M 73 (98 + M 73 71) x) 73 (104 + M 73 71) y) 73 71 (M 73 71 + 1) else M) := by
  refine MC_of (ls := [some (vr b 72), some (vi x), some (vi y), none]) (by decide) rfl (Nat.le_of_ble_eq_true rfl) ?_
  refine R_aload_n (pc := 0) dX8_things_0 rfl ?_
  refine R_getR (pc := 1) dX8_things_1 fl_RX8_7 rfl (hsh _ _ rfl) rfl ?_
  refine R_bipush (pc := 4) dX8_things_4 rfl ?_
  refine R_iald (pc := 6) dX8_things_6 (hsh _ _ rfl) (by omega) (rfl) ?_
  refine R_istore_n (pc := 7) dX8_things_7 (by decide) rfl rfl ?_
  refine R_iload_n (pc := 8) dX8_things_8 rfl ?_
  refine R_bipush (pc := 9) dX8_things_9 rfl ?_
  refine R_cmp_eq (pc := 11) (tgt := 31) dX8_things_11 (by decide) (by omega) (fun h_11 => ?_) (fun h_11 => ?_)
  · refine R_iconst (pc := 31) dX8_things_31 ?_
    refine R_zret (pc := 32) dX8_things_32 (by first | exact Or.inl rfl | exact Or.inr rfl | omega) ?_
    exact eqi (by omega) (by first | rw [if_pos (by omega)] | rw [if_neg (by omega)])
  · refine R_iload_n (pc := 14) dX8_things_14 rfl ?_
    refine R_aload_n (pc := 15) dX8_things_15 rfl ?_
    refine R_getR (pc := 16) dX8_things_16 fl_RX8_7 rfl (hsh _ _ rfl) rfl ?_
    refine R_bipush (pc := 19) dX8_things_19 rfl ?_
    refine R_iald (pc := 21) dX8_things_21 (hsh _ _ rfl) (by omega) (rfl) ?_
    refine R_cmp_ge (pc := 22) (tgt := 31) dX8_things_22 (by decide) (by omega) (fun h_22 => ?_) (fun h_22 => ?_)
    · refine R_iconst (pc := 31) dX8_things_31 ?_
      refine R_zret (pc := 32) dX8_things_32 (by first | exact Or.inl rfl | exact Or.inr rfl | omega) ?_
      exact eqi (by omega) (by first | rw [if_pos (by omega)] | rw [if_neg (by omega)])
    · refine R_iload_n (pc := 25) dX8_things_25 rfl ?_
      refine R_bipush (pc := 26) dX8_things_26 rfl ?_
      refine R_cmp_le (pc := 28) (tgt := 33) dX8_things_28 (by decide) (by omega) (fun h_28 => ?_) (fun h_28 => ?_)
      · refine R_aload_n (pc := 33) dX8_things_33 rfl ?_
        refine R_getR (pc := 34) dX8_things_34 fl_RX8_7 rfl (hsh _ _ rfl) rfl ?_
        refine R_bipush (pc := 37) dX8_things_37 rfl ?_
        refine R_iload_n (pc := 39) dX8_things_39 rfl ?_
        refine R_iadd (pc := 40) dX8_things_40 ?_
        refine R_iload_n (pc := 41) dX8_things_41 rfl ?_
        refine R_iast (pc := 42) dX8_things_42 (hsh _ _ rfl) (by omega) (by omega) ?_
        refine R_aload_n (pc := 43) dX8_things_43 rfl ?_
        refine R_getR (pc := 44) dX8_things_44 fl_RX8_7 rfl (hsh _ _ rfl) rfl ?_
        refine R_bipush (pc := 47) dX8_things_47 rfl ?_
        refine R_iload_n (pc := 49) dX8_things_49 rfl ?_
        refine R_iadd (pc := 50) dX8_things_50 ?_
        refine R_iload_n (pc := 51) dX8_things_51 rfl ?_
        refine R_iast (pc := 52) dX8_things_52 (hsh _ _ rfl) (by omega) (by omega) ?_
        refine R_aload_n (pc := 53) dX8_things_53 rfl ?_
        refine R_getR (pc := 54) dX8_things_54 fl_RX8_7 rfl (hsh _ _ rfl) rfl ?_
        refine R_bipush (pc := 57) dX8_things_57 rfl ?_
        refine R_dup2 (pc := 59) dX8_things_59 rfl rfl ?_
        refine R_iald (pc := 60) dX8_things_60 (hsh _ _ rfl) (by omega) ((show up (up M 73 (98 + M 73 71) x) 73 (104 + M 73 71) y 73 71 = M 73 71 by rw [up_j (by omega), up_j (by omega)])) ?_
        refine R_iconst (pc := 61) dX8_things_61 ?_
        refine R_iadd (pc := 62) dX8_things_62 ?_
        refine R_iast (pc := 63) dX8_things_63 (hsh _ _ rfl) (by omega) (by omega) ?_
        refine R_iconst (pc := 64) dX8_things_64 ?_
        refine R_zret (pc := 65) dX8_things_65 (by first | exact Or.inl rfl | exact Or.inr rfl | omega) ?_
        exact eqi (by omega) (by first | rw [if_pos (by omega)] | rw [if_neg (by omega)])
      · refine R_iconst (pc := 31) dX8_things_31 ?_
        refine R_zret (pc := 32) dX8_things_32 (by first | exact Or.inl rfl | exact Or.inr rfl | omega) ?_
        exact eqi (by omega) (by first | rw [if_pos (by omega)] | rw [if_neg (by omega)])
theorem j_walks (b : Nat) (sh : Shp) (M : Mem) (hsh : Hm sh) (x y z : Int) (hx : 0 ≤ x ∧ x ≤ 99) (hy : 0 ≤ y ∧ y ≤ 99) (hz : 0 ≤ z ∧ z ≤ 99) (hW : 0 ≤ M 73 70 ∧ M 73 70 ≤ 4) (hT : 0 ≤ M 73 71 ∧ M 73 71 ≤ 6) (hD : 0 ≤ M 73 72 ∧ M 73 72 ≤ 8) : Ex 0 mX8_walks b sh M [vr b 72, vi x, vi y, vi z] (some (vi (if M 73 72 < 8 ∧ x ≤ 9 ∧ y < M 73 70 ∧ z < M 73 71 then 1 else 0))) (if M 73 72 < 8 ∧ x ≤ 9 ∧ y < M 73 70 ∧ z < M 73 71 then up (up (up (up M 73 (110 + M 73 72) x) 73 (118 + M 73 72) y) 73 (126 + M 73 72) z) 73 72 (M 73 72 + 1) else M) := by
  refine MC_of (ls := [some (vr b 72), some (vi x), some (vi y), some (vi z), none]) (by decide) rfl (Nat.le_of_ble_eq_true rfl) ?_
  refine R_aload_n (pc := 0) dX8_walks_0 rfl ?_
  refine R_getR (pc := 1) dX8_walks_1 fl_RX8_7 rfl (hsh _ _ rfl) rfl ?_
  refine R_bipush (pc := 4) dX8_walks_4 rfl ?_
  refine R_iald (pc := 6) dX8_walks_6 (hsh _ _ rfl) (by omega) (rfl) ?_
  refine R_istore (pc := 7) dX8_walks_7 (by decide) rfl rfl ?_
  refine R_iload (pc := 9) dX8_walks_9 rfl ?_
  refine R_bipush (pc := 11) dX8_walks_11 rfl ?_
  refine R_cmp_eq (pc := 13) (tgt := 44) dX8_walks_13 (by decide) (by omega) (fun h_13 => ?_) (fun h_13 => ?_)
  · refine R_iconst (pc := 44) dX8_walks_44 ?_
    refine R_zret (pc := 45) dX8_walks_45 (by first | exact Or.inl rfl | exact Or.inr rfl | omega) ?_
    exact eqi (by omega) (by first | rw [if_pos (by omega)] | rw [if_neg (by omega)])
  · refine R_iload_n (pc := 16) dX8_walks_16 rfl ?_
    refine R_bipush (pc := 17) dX8_walks_17 rfl ?_
    refine R_cmp_gt (pc := 19) (tgt := 44) dX8_walks_19 (by decide) (by omega) (fun h_19 => ?_) (fun h_19 => ?_)
    · refine R_iconst (pc := 44) dX8_walks_44 ?_
      refine R_zret (pc := 45) dX8_walks_45 (by first | exact Or.inl rfl | exact Or.inr rfl | omega) ?_
      exact eqi (by omega) (by first | rw [if_pos (by omega)] | rw [if_neg (by omega)])
    · refine R_iload_n (pc := 22) dX8_walks_22 rfl ?_
      refine R_aload_n (pc := 23) dX8_walks_23 rfl ?_
      refine R_getR (pc := 24) dX8_walks_24 fl_RX8_7 rfl (hsh _ _ rfl) rfl ?_
      refine R_bipush (pc := 27) dX8_walks_27 rfl ?_
      refine R_iald (pc := 29) dX8_walks_29 (hsh _ _ rfl) (by omega) (rfl) ?_
      refine R_cmp_ge (pc := 30) (tgt := 44) dX8_walks_30 (by decide) (by omega) (fun h_30 => ?_) (fun h_30 => ?_)
      · refine R_iconst (pc := 44) dX8_walks_44 ?_
        refine R_zret (pc := 45) dX8_walks_45 (by first | exact Or.inl rfl | exact Or.inr rfl | omega) ?_
        exact eqi (by omega) (by first | rw [if_pos (by omega)] | rw [if_neg (by omega)])
      · refine R_iload_n (pc := 33) dX8_walks_33 rfl ?_
        refine R_aload_n (pc := 34) dX8_walks_34 rfl ?_
        refine R_getR (pc := 35) dX8_walks_35 fl_RX8_7 rfl (hsh _ _ rfl) rfl ?_
        refine R_bipush (pc := 38) dX8_walks_38 rfl ?_
        refine R_iald (pc := 40) dX8_walks_40 (hsh _ _ rfl) (by omega) (rfl) ?_
        refine R_cmp_lt (pc := 41) (tgt := 46) dX8_walks_41 (by decide) (by omega) (fun h_41 => ?_) (fun h_41 => ?_)
        · refine R_aload_n (pc := 46) dX8_walks_46 rfl ?_
          refine R_getR (pc := 47) dX8_walks_47 fl_RX8_7 rfl (hsh _ _ rfl) rfl ?_
          refine R_bipush (pc := 50) dX8_walks_50 rfl ?_
          refine R_iload (pc := 52) dX8_walks_52 rfl ?_
          refine R_iadd (pc := 54) dX8_walks_54 ?_
          refine R_iload_n (pc := 55) dX8_walks_55 rfl ?_
          refine R_iast (pc := 56) dX8_walks_56 (hsh _ _ rfl) (by omega) (by omega) ?_
          refine R_aload_n (pc := 57) dX8_walks_57 rfl ?_
          refine R_getR (pc := 58) dX8_walks_58 fl_RX8_7 rfl (hsh _ _ rfl) rfl ?_
          refine R_bipush (pc := 61) dX8_walks_61 rfl ?_
          refine R_iload (pc := 63) dX8_walks_63 rfl ?_
          refine R_iadd (pc := 65) dX8_walks_65 ?_
          refine R_iload_n (pc := 66) dX8_walks_66 rfl ?_
          refine R_iast (pc := 67) dX8_walks_67 (hsh _ _ rfl) (by omega) (by omega) ?_
          refine R_aload_n (pc := 68) dX8_walks_68 rfl ?_
          refine R_getR (pc := 69) dX8_walks_69 fl_RX8_7 rfl (hsh _ _ rfl) rfl ?_
          refine R_bipush (pc := 72) dX8_walks_72 rfl ?_
          refine R_iload (pc := 74) dX8_walks_74 rfl ?_
          refine R_iadd (pc := 76) dX8_walks_76 ?_
          refine R_iload_n (pc := 77) dX8_walks_77 rfl ?_
          refine R_iast (pc := 78) dX8_walks_78 (hsh _ _ rfl) (by omega) (by omega) ?_
          refine R_aload_n (pc := 79) dX8_walks_79 rfl ?_
          refine R_getR (pc := 80) dX8_walks_80 fl_RX8_7 rfl (hsh _ _ rfl) rfl ?_
          refine R_bipush (pc := 83) dX8_walks_83 rfl ?_
          refine R_dup2 (pc := 85) dX8_walks_85 rfl rfl ?_
          refine R_iald (pc := 86) dX8_walks_86 (hsh _ _ rfl) (by omega) ((show up (up (up M 73 (110 + M 73 72) x) 73 (118 + M 73 72) y) 73 (126 + M 73 72) z 73 72 = M 73 72 by rw [up_j (by omega), up_j (by omega), up_j (by omega)])) ?_
          refine R_iconst (pc := 87) dX8_walks_87 ?_
          refine R_iadd (pc := 88) dX8_walks_88 ?_
          refine R_iast (pc := 89) dX8_walks_89 (hsh _ _ rfl) (by omega) (by omega) ?_
          refine R_iconst (pc := 90) dX8_walks_90 ?_
          refine R_zret (pc := 91) dX8_walks_91 (by first | exact Or.inl rfl | exact Or.inr rfl | omega) ?_
          exact eqi (by omega) (by first | rw [if_pos (by omega)] | rw [if_neg (by omega)])
        · refine R_iconst (pc := 44) dX8_walks_44 ?_
          refine R_zret (pc := 45) dX8_walks_45 (by first | exact Or.inl rfl | exact Or.inr rfl | omega) ?_
          exact eqi (by omega) (by first | rw [if_pos (by omega)] | rw [if_neg (by omega)])
theorem j_fogs (b : Nat) (sh : Shp) (M : Mem) (hsh : Hm sh) (x y : Int) (hx : 0 ≤ x ∧ x ≤ 99) (hy : 0 ≤ y ∧ y ≤ 99) (hF : 0 ≤ M 73 73 ∧ M 73 73 ≤ 2) : Ex 0 mX8_fogs b sh M [vr b 72, vi x, vi y] (some (vi (if M 73 73 < 2 ∧ x ≤ y ∧ y ≤ 9 then 1 else 0))) (if M 73 73 < 2 ∧ x ≤ y ∧ y ≤ 9 then up (up (up M 73 (134 + M 73 73) x) 73 (136 + M 73 73) y) 73 73 (M 73 73 + 1) else M) := by
  refine MC_of (ls := [some (vr b 72), some (vi x), some (vi y), none]) (by decide) rfl (Nat.le_of_ble_eq_true rfl) ?_
  refine R_aload_n (pc := 0) dX8_fogs_0 rfl ?_
  refine R_getR (pc := 1) dX8_fogs_1 fl_RX8_7 rfl (hsh _ _ rfl) rfl ?_
  refine R_bipush (pc := 4) dX8_fogs_4 rfl ?_
  refine R_iald (pc := 6) dX8_fogs_6 (hsh _ _ rfl) (by omega) (rfl) ?_
  refine R_istore_n (pc := 7) dX8_fogs_7 (by decide) rfl rfl ?_
  refine R_iload_n (pc := 8) dX8_fogs_8 rfl ?_
  refine R_iconst (pc := 9) dX8_fogs_9 ?_
  refine R_cmp_eq (pc := 10) (tgt := 24) dX8_fogs_10 (by decide) (by omega) (fun h_10 => ?_) (fun h_10 => ?_)
  · refine R_iconst (pc := 24) dX8_fogs_24 ?_
    refine R_zret (pc := 25) dX8_fogs_25 (by first | exact Or.inl rfl | exact Or.inr rfl | omega) ?_
    exact eqi (by omega) (by first | rw [if_pos (by omega)] | rw [if_neg (by omega)])
  · refine R_iload_n (pc := 13) dX8_fogs_13 rfl ?_
    refine R_bipush (pc := 14) dX8_fogs_14 rfl ?_
    refine R_cmp_gt (pc := 16) (tgt := 24) dX8_fogs_16 (by decide) (by omega) (fun h_16 => ?_) (fun h_16 => ?_)
    · refine R_iconst (pc := 24) dX8_fogs_24 ?_
      refine R_zret (pc := 25) dX8_fogs_25 (by first | exact Or.inl rfl | exact Or.inr rfl | omega) ?_
      exact eqi (by omega) (by first | rw [if_pos (by omega)] | rw [if_neg (by omega)])
    · refine R_iload_n (pc := 19) dX8_fogs_19 rfl ?_
      refine R_iload_n (pc := 20) dX8_fogs_20 rfl ?_
      refine R_cmp_le (pc := 21) (tgt := 26) dX8_fogs_21 (by decide) (by omega) (fun h_21 => ?_) (fun h_21 => ?_)
      · refine R_aload_n (pc := 26) dX8_fogs_26 rfl ?_
        refine R_getR (pc := 27) dX8_fogs_27 fl_RX8_7 rfl (hsh _ _ rfl) rfl ?_
        refine R_sipush (pc := 30) dX8_fogs_30 rfl ?_
        refine R_iload_n (pc := 33) dX8_fogs_33 rfl ?_
        refine R_iadd (pc := 34) dX8_fogs_34 ?_
        refine R_iload_n (pc := 35) dX8_fogs_35 rfl ?_
        refine R_iast (pc := 36) dX8_fogs_36 (hsh _ _ rfl) (by omega) (by omega) ?_
        refine R_aload_n (pc := 37) dX8_fogs_37 rfl ?_
        refine R_getR (pc := 38) dX8_fogs_38 fl_RX8_7 rfl (hsh _ _ rfl) rfl ?_
        refine R_sipush (pc := 41) dX8_fogs_41 rfl ?_
        refine R_iload_n (pc := 44) dX8_fogs_44 rfl ?_
        refine R_iadd (pc := 45) dX8_fogs_45 ?_
        refine R_iload_n (pc := 46) dX8_fogs_46 rfl ?_
        refine R_iast (pc := 47) dX8_fogs_47 (hsh _ _ rfl) (by omega) (by omega) ?_
        refine R_aload_n (pc := 48) dX8_fogs_48 rfl ?_
        refine R_getR (pc := 49) dX8_fogs_49 fl_RX8_7 rfl (hsh _ _ rfl) rfl ?_
        refine R_bipush (pc := 52) dX8_fogs_52 rfl ?_
        refine R_dup2 (pc := 54) dX8_fogs_54 rfl rfl ?_
        refine R_iald (pc := 55) dX8_fogs_55 (hsh _ _ rfl) (by omega) ((show up (up M 73 (134 + M 73 73) x) 73 (136 + M 73 73) y 73 73 = M 73 73 by rw [up_j (by omega), up_j (by omega)])) ?_
        refine R_iconst (pc := 56) dX8_fogs_56 ?_
        refine R_iadd (pc := 57) dX8_fogs_57 ?_
        refine R_iast (pc := 58) dX8_fogs_58 (hsh _ _ rfl) (by omega) (by omega) ?_
        refine R_iconst (pc := 59) dX8_fogs_59 ?_
        refine R_zret (pc := 60) dX8_fogs_60 (by first | exact Or.inl rfl | exact Or.inr rfl | omega) ?_
        exact eqi (by omega) (by first | rw [if_pos (by omega)] | rw [if_neg (by omega)])
      · refine R_iconst (pc := 24) dX8_fogs_24 ?_
        refine R_zret (pc := 25) dX8_fogs_25 (by first | exact Or.inl rfl | exact Or.inr rfl | omega) ?_
        exact eqi (by omega) (by first | rw [if_pos (by omega)] | rw [if_neg (by omega)])
/-! an item -/
theorem OfT_Fr {M N : Mem} (h : OfT M N) : FrM M N := fun c j hc => h c j (fun q => hc (by unfold SM; omega)) (fun q => hc (by unfold SM; omega))
theorem OfT_73 {M N : Mem} (h : OfT M N) : N 73 = M 73 := funext fun j => h 73 j (by omega) (by omega)
def GTM (M : Mem) : Prop := M 72 7 = 1 ∧ okn (txM M) (M 72 6) 1 1 = true ∧ 5 ≤ nv (txM M) (M 72 6) ∧ nv (txM M) (M 72 6) ≤ 16
def QTM (M : Mem) : Option Value → Mem → Prop := fun v N => (GTM M → v = some (vi 1)) ∧ (¬ GTM M → v = some (vi 0)) ∧ FrM M N ∧ (GTM M → N 72 6 = ps (txM M) (M 72 6) 1 ∧ N 72 7 = M 72 7 ∧ N 73 = uF (M 73) 69 (nv (txM M) (M 72 6)))
theorem j_takesMany (b : Nat) (sh : Shp) (M : Mem) (hsh : Hm sh) (hn : 0 ≤ M 72 5 ∧ M 72 5 ≤ 200) (hp : 0 ≤ M 72 6 ∧ M 72 6 ≤ 1000) (h7 : M 72 7 = 0 ∨ M 72 7 = 1) : C0 2 mX8_takesMany b sh M [vr b 72] (QTM M) := by
  have hfail : ∀ N, FrM M N → ¬ GTM M → QTM M (some (vi 0)) N := fun N hF h => ⟨fun q => absurd q h, fun _ => rfl, hF, fun q => absurd q h⟩
  refine MC_of (ls := [some (vr b 72)]) (by decide) rfl (Nat.le_of_ble_eq_true rfl) ?_
  refine R_aload_n (pc := 0) dX8_takesMany_0 rfl ?_
  refine R_getI (pc := 1) (J := 7) dX8_takesMany_1 fl_RX8_104 rfl rfl (hsh _ _ rfl) (rfl) ?_
  refine R_if_eq (pc := 4) (tgt := 34) dX8_takesMany_4 (by decide) (by omega) (fun h_4 => ?_) (fun h_4 => ?_)
  · refine R_iconst (pc := 34) dX8_takesMany_34 ?_
    refine R_zret (pc := 35) dX8_takesMany_35 (Or.inl rfl) ?_
    exact hfail _ FrM_r (fun q => by have := q.1; omega)
  · refine R_aload_n (pc := 7) dX8_takesMany_7 rfl ?_
    refine R_iconst (pc := 8) dX8_takesMany_8 ?_
    refine R_V1 (pc := 9) dX8_takesMany_9 sv_RX8_108 (j_takesNumbers b sh M hsh hn 1 (by omega) hp) (hsh _ _ rfl) (Nat.le_of_ble_eq_true rfl) (by decide) (fun v_9 M_9 hq_9 => ?_)
    obtain ⟨rfl, hO, hvs⟩ := hq_9
    have hO2 := OfT_Fr hO
    refine R_if_eq (pc := 12) (tgt := 34) dX8_takesMany_12 (by decide) (by split <;> omega) (fun h_12 => ?_) (fun h_12 => ?_)
    · refine R_iconst (pc := 34) dX8_takesMany_34 ?_
      refine R_zret (pc := 35) dX8_takesMany_35 (Or.inl rfl) ?_
      exact hfail _ hO2 (fun q => by rw [if_pos (show okn (txM M) (M 72 6) 1 (1 : Int).toNat = true from q.2.1)] at h_12; omega)
    · have hok : okn (txM M) (M 72 6) 1 (1 : Int).toNat = true := by
        by_cases hh : okn (txM M) (M 72 6) 1 (1 : Int).toNat = true
        · exact hh
        · rw [if_neg hh] at h_12; omega
      obtain ⟨h6, hnum⟩ := hvs hok
      have v0 : M_9 76 0 = nv (txM M) (M 72 6) := hnum 0 (by omega)
      have b0 : 0 ≤ nv (txM M) (M 72 6) ∧ nv (txM M) (M 72 6) ≤ 99 := okn_v (j := 0) (by decide) hok
      refine R_aload_n (pc := 15) dX8_takesMany_15 rfl ?_
      refine R_getR (pc := 16) dX8_takesMany_16 fl_RX8_19 rfl (hsh _ _ rfl) rfl ?_
      refine R_iconst (pc := 19) dX8_takesMany_19 ?_
      refine R_iald (pc := 20) dX8_takesMany_20 (hsh _ _ rfl) (by omega) (v0) ?_
      refine R_i2l (pc := 21) dX8_takesMany_21 (by omega) ?_
      refine R_ldc2 (pc := 22) (x := 5) dX8_takesMany_22 kl_RX8_112 rfl ?_
      refine R_ldc2 (pc := 25) (x := 16) dX8_takesMany_25 kl_RX8_114 rfl ?_
      refine R_S3i (pc := 28) dX8_takesMany_28 ss_RX8_69 (j_in b sh M_9 _ _ _ (by omega) (by omega) (by omega)) (Nat.le_of_ble_eq_true rfl) (by decide) ?_
      refine R_if_ne (pc := 31) (tgt := 36) dX8_takesMany_31 (by decide) (by omega) (fun h_31 => ?_) (fun h_31 => ?_)
      · refine R_aload_n (pc := 36) dX8_takesMany_36 rfl ?_
        refine R_getR (pc := 37) dX8_takesMany_37 fl_RX8_7 rfl (hsh _ _ rfl) rfl ?_
        refine R_bipush (pc := 40) dX8_takesMany_40 rfl ?_
        refine R_aload_n (pc := 42) dX8_takesMany_42 rfl ?_
        refine R_getR (pc := 43) dX8_takesMany_43 fl_RX8_19 rfl (hsh _ _ rfl) rfl ?_
        refine R_iconst (pc := 46) dX8_takesMany_46 ?_
        refine R_iald (pc := 47) dX8_takesMany_47 (hsh _ _ rfl) (by omega) (v0) ?_
        refine R_iast (pc := 48) dX8_takesMany_48 (hsh _ _ rfl) (by omega) (by omega) ?_
        refine R_iconst (pc := 49) dX8_takesMany_49 ?_
        refine R_zret (pc := 50) dX8_takesMany_50 (by first | exact Or.inl rfl | exact Or.inr rfl | omega) ?_
        have hG : GTM M := ⟨by omega, hok, by omega, by omega⟩
        refine ⟨fun _ => rfl, fun q => absurd hG q, FrM_up hO2 (by unfold SM; omega), fun _ => ⟨by rw [up_k (by omega)]; exact h6, by rw [up_k (by omega)]; exact hO 72 7 (by omega) (by omega), by rw [up_row, OfT_73 hO]⟩⟩
      · refine R_iconst (pc := 34) dX8_takesMany_34 ?_
        refine R_zret (pc := 35) dX8_takesMany_35 (by first | exact Or.inl rfl | exact Or.inr rfl | omega) ?_
        exact hfail _ hO2 (fun q => by have := q.2.2; omega)
abbrev nu (M : Mem) (k : Nat) : Int := nv (txM M) (ps (txM M) (M 72 6 + 1) k)
def GI (M : Mem) (c : Int) : Prop := okn (txM M) (M 72 6 + 1) (nb c) (nb c).toNat = true ∧ okI (moW (M 73) 69) (1 - M 72 7) c (nu M 0) (nu M 1) (nu M 2) = true
theorem GI_k {M : Mem} {c k : Int} (h : nb c = k) : GI M c ↔ okn (txM M) (M 72 6 + 1) k k.toNat = true ∧ okI (moW (M 73) 69) (1 - M 72 7) c (nu M 0) (nu M 1) (nu M 2) = true := by
  unfold GI
  rw [h]
def QTI (M : Mem) (c : Int) : Option Value → Mem → Prop := fun v N => (GI M c → v = some (vi 1)) ∧ (¬ GI M c → v = some (vi 0)) ∧ FrM M N ∧ (GI M c → N 72 6 = ps (txM M) (M 72 6 + 1) (nb c).toNat ∧ moW (N 73) 69 = moI (moW (M 73) 69) c (nu M 0) (nu M 1) (nu M 2) ∧ N 72 7 = if c = 110 then M 72 7 else 0)
theorem j_takesItem (b : Nat) (sh : Shp) (M : Mem) (hsh : Hm sh) (hn : 0 ≤ M 72 5 ∧ M 72 5 ≤ 200) (hp : 0 ≤ M 72 6 ∧ M 72 6 < M 72 5) (h7 : M 72 7 = 0 ∨ M 72 7 = 1) (hm : WFm (moW (M 73) 69)) (c : Int) (hc : txM M (M 72 6) = c) (hcr : inR c) : C0 3 mX8_takesItem b sh M [vr b 72] (QTI M c) := by
  have hfail : ∀ N, FrM M N → ¬ GI M c → QTI M c (some (vi 0)) N := fun N hF h => ⟨fun q => absurd q h, fun _ => rfl, hF, fun q => absurd q h⟩
  have hsucc : ∀ N, FrM M N → GI M c → N 72 6 = ps (txM M) (M 72 6 + 1) (nb c).toNat → moW (N 73) 69 = moI (moW (M 73) 69) c (nu M 0) (nu M 1) (nu M 2) → (N 72 7 = if c = 110 then M 72 7 else 0) → QTI M c (some (vi 1)) N := fun N hF h e1 e2 e3 => ⟨fun _ => rfl, fun q => absurd h q, hF, fun _ => ⟨e1, e2, e3⟩⟩
  have g0 : 5 ≤ M 73 69 ∧ M 73 69 ≤ 16 := hm.1
  have g1 : 0 ≤ M 73 70 ∧ M 73 70 ≤ 4 := hm.2.1
  have g2 : 0 ≤ M 73 71 ∧ M 73 71 ≤ 6 := hm.2.2.1
  have g3 : 0 ≤ M 73 72 ∧ M 73 72 ≤ 8 := hm.2.2.2.1
  have g4 : 0 ≤ M 73 73 ∧ M 73 73 ≤ 2 := hm.2.2.2.2.1
  have TN : ∀ (N : Mem) (many : Int), 1 ≤ many ∧ many ≤ 3 → N 75 = M 75 → N 72 5 = M 72 5 → N 72 6 = M 72 6 + 1 → C0 1 mX8_takesNumbers b sh N [vr b 72, vi many] (QTN N (txM M) (M 72 6 + 1) many) := fun N many hmm e1 e2 e3 => by
    have et : txM N = txM M := by unfold txM; rw [e1, e2]
    have := j_takesNumbers b sh N hsh (by rw [e2]; exact hn) many hmm (by rw [e3]; omega)
    rw [et, e3] at this
    exact this
  obtain ⟨A, hAe⟩ : ∃ A, up M 72 6 (M 72 6 + 1) = A := ⟨_, rfl⟩
  have hA75 : A 75 = M 75 := by rw [← hAe]; exact up_o 75 (by omega)
  have hA5 : A 72 5 = M 72 5 := by rw [← hAe]; exact up_j (by omega)
  have hA6 : A 72 6 = M 72 6 + 1 := by rw [← hAe]; exact up_s
  have hA7 : A 72 7 = M 72 7 := by rw [← hAe]; exact up_j (by omega)
  have hA73 : A 73 = M 73 := by rw [← hAe]; exact up_o 73 (by omega)
  have hAF : FrM M A := by rw [← hAe]; exact FrM_up FrM_r (by unfold SM; omega)
  have hAt : txM A = txM M := by unfold txM; rw [hA75, hA5]
  obtain ⟨Bm, hBe⟩ : ∃ Bm, up A 72 7 0 = Bm := ⟨_, rfl⟩
  have hBF : FrM M Bm := by rw [← hBe]; exact FrM_up hAF (by unfold SM; omega)
  have hB75 : Bm 75 = M 75 := by rw [← hBe, up_o 75 (by omega)]; exact hA75
  have hB5 : Bm 72 5 = M 72 5 := by rw [← hBe, up_j (by omega)]; exact hA5
  have hB6 : Bm 72 6 = M 72 6 + 1 := by rw [← hBe, up_j (by omega)]; exact hA6
  have hB7 : Bm 72 7 = 0 := by rw [← hBe]; exact up_s
  have hB73 : Bm 73 = M 73 := by rw [← hBe, up_o 73 (by omega)]; exact hA73
  have TB := fun (many : Int) (hmm : 1 ≤ many ∧ many ≤ 3) => TN Bm many hmm hB75 hB5 hB6
  have hlt : Ex 0 mX8_letterAt b sh M [vr b 72, vi (M 72 6)] (some (vi c)) M := by
    have := j_letterAt b sh M hsh hn (M 72 6) (by omega)
    rw [if_pos hp.2, hc] at this
    exact this
  have hTM : C0 2 mX8_takesMany b sh A [vr b 72] (QTM A) := j_takesMany b sh A hsh (by rw [hA5]; exact hn) (by rw [hA6]; omega) (by rw [hA7]; exact h7)
  have hGM : c = 110 → (GTM A ↔ GI M c) := fun h => by
    rw [GI_k (k := 1) (by rw [h]; rfl), h, okI_110]
    unfold GTM
    rw [hAt, hA6, hA7]
    show (M 72 7 = 1 ∧ okn (txM M) (M 72 6 + 1) 1 1 = true ∧ 5 ≤ nu M 0 ∧ nu M 0 ≤ 16) ↔ (okn (txM M) (M 72 6 + 1) 1 1 = true ∧ 1 - M 72 7 = 0 ∧ 5 ≤ nu M 0 ∧ nu M 0 ≤ 16)
    constructor
    · rintro ⟨a1, a2, a3⟩
      exact ⟨a2, by omega, a3⟩
    · rintro ⟨a1, a2, a3⟩
      exact ⟨by omega, a1, a3⟩
  refine MC_of (ls := [some (vr b 72), none]) (by decide) rfl (Nat.le_of_ble_eq_true rfl) ?_
  refine R_aload_n (pc := 0) dX8_takesItem_0 rfl ?_
  refine R_aload_n (pc := 1) dX8_takesItem_1 rfl ?_
  refine R_getI (pc := 2) (J := 6) dX8_takesItem_2 fl_RX8_93 rfl rfl (hsh _ _ rfl) (rfl) ?_
  refine R_V1i (pc := 5) dX8_takesItem_5 sv_RX8_96 (hsh _ _ rfl) (hlt) (Nat.le_of_ble_eq_true rfl) (by decide) ?_
  refine R_istore_n (pc := 8) dX8_takesItem_8 (by decide) rfl rfl ?_
  refine R_aload_n (pc := 9) dX8_takesItem_9 rfl ?_
  refine R_dup (pc := 10) dX8_takesItem_10 rfl ?_
  refine R_getI (pc := 11) (J := 6) dX8_takesItem_11 fl_RX8_93 rfl rfl (hsh _ _ rfl) (rfl) ?_
  refine R_iconst (pc := 14) dX8_takesItem_14 ?_
  refine R_iadd (pc := 15) dX8_takesItem_15 ?_
  refine R_putI (pc := 16) (J := 6) rfl dX8_takesItem_16 fl_RX8_93 rfl (fun r h => by cases h; rfl) (hsh _ _ rfl) (by omega) ?_
  rw [hAe]
  refine R_iload_n (pc := 19) dX8_takesItem_19 rfl ?_
  refine R_bipush (pc := 20) dX8_takesItem_20 rfl ?_
  refine R_cmp_ne (pc := 22) (tgt := 30) dX8_takesItem_22 (by decide) (by omega) (fun h_22 => ?_) (fun h_22 => ?_)
  · refine R_aload_n (pc := 30) dX8_takesItem_30 rfl ?_
    refine R_iconst (pc := 31) dX8_takesItem_31 ?_
    refine R_putZ (pc := 32) (J := 7) rfl dX8_takesItem_32 fl_RX8_104 rfl (fun r h => by cases h; rfl) (hsh _ _ rfl) (by omega) ?_
    rw [hBe]
    refine R_iload_n (pc := 35) dX8_takesItem_35 rfl ?_
    by_cases h_36_0 : c = 100
    · refine R_look (pc := 36) (off := 151) (tgt := 187) dX8_takesItem_36 (by decide) (by omega) (by rw [h_36_0]; rfl) (by decide) ?_
      subst h_36_0
      refine R_aload_n (pc := 187) dX8_takesItem_187 rfl ?_
      refine R_iconst (pc := 188) dX8_takesItem_188 ?_
      refine R_V1 (pc := 189) dX8_takesItem_189 sv_RX8_108 (TB 3 (by omega)) (hsh _ _ rfl) (Nat.le_of_ble_eq_true rfl) (by decide) (fun v_189 M_189 hq_189 => ?_)
      obtain ⟨rfl, hO, hvs⟩ := hq_189
      have hO2 : FrM M M_189 := FrM_t hBF (OfT_Fr hO)
      have h73 : M_189 73 = M 73 := (OfT_73 hO).trans hB73
      have hGk := GI_k (M := M) (c := 100) (k := 3) rfl
      refine R_if_eq (pc := 192) (tgt := 224) dX8_takesItem_192 (by decide) (by split <;> omega) (fun h_192 => ?_) (fun h_192 => ?_)
      · refine R_iconst (pc := 224) dX8_takesItem_224 ?_
        refine R_zret (pc := 225) dX8_takesItem_225 (Or.inl rfl) ?_
        exact hfail _ hO2 (fun q => by rw [if_pos (hGk.mp q).1] at h_192; omega)
      · have hok : okn (txM M) (M 72 6 + 1) 3 (3 : Int).toNat = true := by
          by_cases hh : okn (txM M) (M 72 6 + 1) 3 (3 : Int).toNat = true
          · exact hh
          · rw [if_neg hh] at h_192; omega
        obtain ⟨h6, hnum⟩ := hvs hok
        have v0 : M_189 76 0 = nu M 0 := hnum 0 (by omega)
        have b0 : 0 ≤ nu M 0 ∧ nu M 0 ≤ 99 := okn_v (j := 0) (by decide) hok
        have v1 : M_189 76 1 = nu M 1 := hnum 1 (by omega)
        have b1 : 0 ≤ nu M 1 ∧ nu M 1 ≤ 99 := okn_v (j := 1) (by decide) hok
        have v2 : M_189 76 2 = nu M 2 := hnum 2 (by omega)
        have b2 : 0 ≤ nu M 2 ∧ nu M 2 ≤ 99 := okn_v (j := 2) (by decide) hok
        refine R_aload_n (pc := 195) dX8_takesItem_195 rfl ?_
        refine R_aload_n (pc := 196) dX8_takesItem_196 rfl ?_
        refine R_getR (pc := 197) dX8_takesItem_197 fl_RX8_19 rfl (hsh _ _ rfl) rfl ?_
        refine R_iconst (pc := 200) dX8_takesItem_200 ?_
        refine R_iald (pc := 201) dX8_takesItem_201 (hsh _ _ rfl) (by omega) (v0) ?_
        refine R_aload_n (pc := 202) dX8_takesItem_202 rfl ?_
        refine R_getR (pc := 203) dX8_takesItem_203 fl_RX8_19 rfl (hsh _ _ rfl) rfl ?_
        refine R_iconst (pc := 206) dX8_takesItem_206 ?_
        refine R_iald (pc := 207) dX8_takesItem_207 (hsh _ _ rfl) (by omega) (v1) ?_
        refine R_aload_n (pc := 208) dX8_takesItem_208 rfl ?_
        refine R_getR (pc := 209) dX8_takesItem_209 fl_RX8_19 rfl (hsh _ _ rfl) rfl ?_
        refine R_iconst (pc := 212) dX8_takesItem_212 ?_
        refine R_iald (pc := 213) dX8_takesItem_213 (hsh _ _ rfl) (by omega) (v2) ?_
        refine R_V3 (pc := 214) dX8_takesItem_214 sv_RX8_59 (j_walks b sh M_189 hsh _ _ _ b0 b1 b2 (by rw [h73]; exact g1) (by rw [h73]; exact g2) (by rw [h73]; exact g3)) (hsh _ _ rfl) (Nat.le_of_ble_eq_true rfl) (by decide) (fun v_214 M_214 hq_214 => ?_)
        obtain ⟨rfl, rfl⟩ := hq_214
        rw [h73]
        refine R_if_eq (pc := 217) (tgt := 224) dX8_takesItem_217 (by decide) (by split <;> omega) (fun h_217 => ?_) (fun h_217 => ?_)
        · have hno : ¬ (M 73 72 < 8 ∧ nu M 0 ≤ 9 ∧ nu M 1 < M 73 70 ∧ nu M 2 < M 73 71) := fun z => by rw [if_pos z] at h_217; omega
          rw [if_neg hno]
          refine R_iconst (pc := 224) dX8_takesItem_224 ?_
          refine R_zret (pc := 225) dX8_takesItem_225 (Or.inl rfl) ?_
          exact hfail _ (hO2) (fun q => hno (okI_100.mp (hGk.mp q).2))
        · have hyes : M 73 72 < 8 ∧ nu M 0 ≤ 9 ∧ nu M 1 < M 73 70 ∧ nu M 2 < M 73 71 := by
            by_cases hh : M 73 72 < 8 ∧ nu M 0 ≤ 9 ∧ nu M 1 < M 73 70 ∧ nu M 2 < M 73 71
            · exact hh
            · rw [if_neg hh] at h_217; omega
          rw [if_pos hyes]
          refine R_iconst (pc := 220) dX8_takesItem_220 ?_
          refine R_goto (pc := 221) (tgt := 225) dX8_takesItem_221 (by decide) ?_
          refine R_zret (pc := 225) dX8_takesItem_225 (by first | exact Or.inl rfl | exact Or.inr rfl | omega) ?_
          refine hsucc _ (FrM_up (FrM_up (FrM_up (FrM_up hO2 (by unfold SM; omega)) (by unfold SM; omega)) (by unfold SM; omega)) (by unfold SM; omega)) (hGk.mpr ⟨hok, okI_100.mpr hyes⟩) (by rw [up_k (by omega), up_k (by omega), up_k (by omega), up_k (by omega)]; exact h6) (by rw [up_row, up_row, up_row, up_row, h73]; exact iW_d g1 g2 g3 g4 hyes.1) (by rw [up_k (by omega), up_k (by omega), up_k (by omega), up_k (by omega), if_neg (by decide)]; exact (hO 72 7 (by omega) (by omega)).trans hB7)
    by_cases h_36_1 : c = 102
    · refine R_look (off := 190) (tgt := 226) dX8_takesItem_36 (by decide) (by omega) (by rw [h_36_1]; rfl) (by decide) ?_
      subst h_36_1
      refine R_aload_n (pc := 226) dX8_takesItem_226 rfl ?_
      refine R_iconst (pc := 227) dX8_takesItem_227 ?_
      refine R_V1 (pc := 228) dX8_takesItem_228 sv_RX8_108 (TB 2 (by omega)) (hsh _ _ rfl) (Nat.le_of_ble_eq_true rfl) (by decide) (fun v_228 M_228 hq_228 => ?_)
      obtain ⟨rfl, hO, hvs⟩ := hq_228
      have hO2 : FrM M M_228 := FrM_t hBF (OfT_Fr hO)
      have h73 : M_228 73 = M 73 := (OfT_73 hO).trans hB73
      have hGk := GI_k (M := M) (c := 102) (k := 2) rfl
      refine R_if_eq (pc := 231) (tgt := 257) dX8_takesItem_231 (by decide) (by split <;> omega) (fun h_231 => ?_) (fun h_231 => ?_)
      · refine R_iconst (pc := 257) dX8_takesItem_257 ?_
        refine R_zret (pc := 258) dX8_takesItem_258 (Or.inl rfl) ?_
        exact hfail _ hO2 (fun q => by rw [if_pos (hGk.mp q).1] at h_231; omega)
      · have hok : okn (txM M) (M 72 6 + 1) 2 (2 : Int).toNat = true := by
          by_cases hh : okn (txM M) (M 72 6 + 1) 2 (2 : Int).toNat = true
          · exact hh
          · rw [if_neg hh] at h_231; omega
        obtain ⟨h6, hnum⟩ := hvs hok
        have v0 : M_228 76 0 = nu M 0 := hnum 0 (by omega)
        have b0 : 0 ≤ nu M 0 ∧ nu M 0 ≤ 99 := okn_v (j := 0) (by decide) hok
        have v1 : M_228 76 1 = nu M 1 := hnum 1 (by omega)
        have b1 : 0 ≤ nu M 1 ∧ nu M 1 ≤ 99 := okn_v (j := 1) (by decide) hok
        refine R_aload_n (pc := 234) dX8_takesItem_234 rfl ?_
        refine R_aload_n (pc := 235) dX8_takesItem_235 rfl ?_
        refine R_getR (pc := 236) dX8_takesItem_236 fl_RX8_19 rfl (hsh _ _ rfl) rfl ?_
        refine R_iconst (pc := 239) dX8_takesItem_239 ?_
        refine R_iald (pc := 240) dX8_takesItem_240 (hsh _ _ rfl) (by omega) (v0) ?_
        refine R_aload_n (pc := 241) dX8_takesItem_241 rfl ?_
        refine R_getR (pc := 242) dX8_takesItem_242 fl_RX8_19 rfl (hsh _ _ rfl) rfl ?_
        refine R_iconst (pc := 245) dX8_takesItem_245 ?_
        refine R_iald (pc := 246) dX8_takesItem_246 (hsh _ _ rfl) (by omega) (v1) ?_
        refine R_V2 (pc := 247) dX8_takesItem_247 sv_RX8_63 (j_fogs b sh M_228 hsh _ _ b0 b1 (by rw [h73]; exact g4)) (hsh _ _ rfl) (Nat.le_of_ble_eq_true rfl) (by decide) (fun v_247 M_247 hq_247 => ?_)
        obtain ⟨rfl, rfl⟩ := hq_247
        rw [h73]
        refine R_if_eq (pc := 250) (tgt := 257) dX8_takesItem_250 (by decide) (by split <;> omega) (fun h_250 => ?_) (fun h_250 => ?_)
        · have hno : ¬ (M 73 73 < 2 ∧ nu M 0 ≤ nu M 1 ∧ nu M 1 ≤ 9) := fun z => by rw [if_pos z] at h_250; omega
          rw [if_neg hno]
          refine R_iconst (pc := 257) dX8_takesItem_257 ?_
          refine R_zret (pc := 258) dX8_takesItem_258 (Or.inl rfl) ?_
          exact hfail _ (hO2) (fun q => hno (okI_102.mp (hGk.mp q).2))
        · have hyes : M 73 73 < 2 ∧ nu M 0 ≤ nu M 1 ∧ nu M 1 ≤ 9 := by
            by_cases hh : M 73 73 < 2 ∧ nu M 0 ≤ nu M 1 ∧ nu M 1 ≤ 9
            · exact hh
            · rw [if_neg hh] at h_250; omega
          rw [if_pos hyes]
          refine R_iconst (pc := 253) dX8_takesItem_253 ?_
          refine R_goto (pc := 254) (tgt := 258) dX8_takesItem_254 (by decide) ?_
          refine R_zret (pc := 258) dX8_takesItem_258 (by first | exact Or.inl rfl | exact Or.inr rfl | omega) ?_
          refine hsucc _ (FrM_up (FrM_up (FrM_up hO2 (by unfold SM; omega)) (by unfold SM; omega)) (by unfold SM; omega)) (hGk.mpr ⟨hok, okI_102.mpr hyes⟩) (by rw [up_k (by omega), up_k (by omega), up_k (by omega)]; exact h6) (by rw [up_row, up_row, up_row, h73]; exact iW_f g1 g2 g3 g4 hyes.1 b0.1 hyes.2.2) (by rw [up_k (by omega), up_k (by omega), up_k (by omega), if_neg (by decide)]; exact (hO 72 7 (by omega) (by omega)).trans hB7)
    by_cases h_36_2 : c = 112
    · refine R_look (off := 52) (tgt := 88) dX8_takesItem_36 (by decide) (by omega) (by rw [h_36_2]; rfl) (by decide) ?_
      subst h_36_2
      refine R_aload_n (pc := 88) dX8_takesItem_88 rfl ?_
      refine R_iconst (pc := 89) dX8_takesItem_89 ?_
      refine R_V1 (pc := 90) dX8_takesItem_90 sv_RX8_108 (TB 2 (by omega)) (hsh _ _ rfl) (Nat.le_of_ble_eq_true rfl) (by decide) (fun v_90 M_90 hq_90 => ?_)
      obtain ⟨rfl, hO, hvs⟩ := hq_90
      have hO2 : FrM M M_90 := FrM_t hBF (OfT_Fr hO)
      have h73 : M_90 73 = M 73 := (OfT_73 hO).trans hB73
      have hGk := GI_k (M := M) (c := 112) (k := 2) rfl
      refine R_if_eq (pc := 93) (tgt := 119) dX8_takesItem_93 (by decide) (by split <;> omega) (fun h_93 => ?_) (fun h_93 => ?_)
      · refine R_iconst (pc := 119) dX8_takesItem_119 ?_
        refine R_zret (pc := 120) dX8_takesItem_120 (Or.inl rfl) ?_
        exact hfail _ hO2 (fun q => by rw [if_pos (hGk.mp q).1] at h_93; omega)
      · have hok : okn (txM M) (M 72 6 + 1) 2 (2 : Int).toNat = true := by
          by_cases hh : okn (txM M) (M 72 6 + 1) 2 (2 : Int).toNat = true
          · exact hh
          · rw [if_neg hh] at h_93; omega
        obtain ⟨h6, hnum⟩ := hvs hok
        have v0 : M_90 76 0 = nu M 0 := hnum 0 (by omega)
        have b0 : 0 ≤ nu M 0 ∧ nu M 0 ≤ 99 := okn_v (j := 0) (by decide) hok
        have v1 : M_90 76 1 = nu M 1 := hnum 1 (by omega)
        have b1 : 0 ≤ nu M 1 ∧ nu M 1 ≤ 99 := okn_v (j := 1) (by decide) hok
        refine R_aload_n (pc := 96) dX8_takesItem_96 rfl ?_
        refine R_aload_n (pc := 97) dX8_takesItem_97 rfl ?_
        refine R_getR (pc := 98) dX8_takesItem_98 fl_RX8_19 rfl (hsh _ _ rfl) rfl ?_
        refine R_iconst (pc := 101) dX8_takesItem_101 ?_
        refine R_iald (pc := 102) dX8_takesItem_102 (hsh _ _ rfl) (by omega) (v0) ?_
        refine R_aload_n (pc := 103) dX8_takesItem_103 rfl ?_
        refine R_getR (pc := 104) dX8_takesItem_104 fl_RX8_19 rfl (hsh _ _ rfl) rfl ?_
        refine R_iconst (pc := 107) dX8_takesItem_107 ?_
        refine R_iald (pc := 108) dX8_takesItem_108 (hsh _ _ rfl) (by omega) (v1) ?_
        refine R_V2 (pc := 109) dX8_takesItem_109 sv_RX8_49 (j_posts b sh M_90 hsh _ _ b0 b1 (by rw [h73]; exact g0)) (hsh _ _ rfl) (Nat.le_of_ble_eq_true rfl) (by decide) (fun v_109 M_109 hq_109 => ?_)
        obtain ⟨rfl, rfl⟩ := hq_109
        rw [h73]
        refine R_if_eq (pc := 112) (tgt := 119) dX8_takesItem_112 (by decide) (by split <;> omega) (fun h_112 => ?_) (fun h_112 => ?_)
        · have hno : ¬ (1 ≤ nu M 0 ∧ nu M 0 ≤ M 73 69 - 2 ∧ nu M 1 ≤ 60) := fun z => by rw [if_pos z] at h_112; omega
          rw [if_neg hno]
          refine R_iconst (pc := 119) dX8_takesItem_119 ?_
          refine R_zret (pc := 120) dX8_takesItem_120 (Or.inl rfl) ?_
          exact hfail _ (FrM_up hO2 (by unfold SM; omega)) (fun q => hno (okI_112.mp (hGk.mp q).2))
        · have hyes : 1 ≤ nu M 0 ∧ nu M 0 ≤ M 73 69 - 2 ∧ nu M 1 ≤ 60 := by
            by_cases hh : 1 ≤ nu M 0 ∧ nu M 0 ≤ M 73 69 - 2 ∧ nu M 1 ≤ 60
            · exact hh
            · rw [if_neg hh] at h_112; omega
          rw [if_pos hyes]
          refine R_iconst (pc := 115) dX8_takesItem_115 ?_
          refine R_goto (pc := 116) (tgt := 120) dX8_takesItem_116 (by decide) ?_
          refine R_zret (pc := 120) dX8_takesItem_120 (by first | exact Or.inl rfl | exact Or.inr rfl | omega) ?_
          refine hsucc _ (FrM_up hO2 (by unfold SM; omega)) (hGk.mpr ⟨hok, okI_112.mpr hyes⟩) (by rw [up_k (by omega)]; exact h6) (by rw [up_row, h73]; exact iW_p g1 g2 g3 g4 (by omega)) (by rw [up_k (by omega), if_neg (by decide)]; exact (hO 72 7 (by omega) (by omega)).trans hB7)
    by_cases h_36_3 : c = 116
    · refine R_look (off := 118) (tgt := 154) dX8_takesItem_36 (by decide) (by omega) (by rw [h_36_3]; rfl) (by decide) ?_
      subst h_36_3
      refine R_aload_n (pc := 154) dX8_takesItem_154 rfl ?_
      refine R_iconst (pc := 155) dX8_takesItem_155 ?_
      refine R_V1 (pc := 156) dX8_takesItem_156 sv_RX8_108 (TB 2 (by omega)) (hsh _ _ rfl) (Nat.le_of_ble_eq_true rfl) (by decide) (fun v_156 M_156 hq_156 => ?_)
      obtain ⟨rfl, hO, hvs⟩ := hq_156
      have hO2 : FrM M M_156 := FrM_t hBF (OfT_Fr hO)
      have h73 : M_156 73 = M 73 := (OfT_73 hO).trans hB73
      have hGk := GI_k (M := M) (c := 116) (k := 2) rfl
      refine R_if_eq (pc := 159) (tgt := 185) dX8_takesItem_159 (by decide) (by split <;> omega) (fun h_159 => ?_) (fun h_159 => ?_)
      · refine R_iconst (pc := 185) dX8_takesItem_185 ?_
        refine R_zret (pc := 186) dX8_takesItem_186 (Or.inl rfl) ?_
        exact hfail _ hO2 (fun q => by rw [if_pos (hGk.mp q).1] at h_159; omega)
      · have hok : okn (txM M) (M 72 6 + 1) 2 (2 : Int).toNat = true := by
          by_cases hh : okn (txM M) (M 72 6 + 1) 2 (2 : Int).toNat = true
          · exact hh
          · rw [if_neg hh] at h_159; omega
        obtain ⟨h6, hnum⟩ := hvs hok
        have v0 : M_156 76 0 = nu M 0 := hnum 0 (by omega)
        have b0 : 0 ≤ nu M 0 ∧ nu M 0 ≤ 99 := okn_v (j := 0) (by decide) hok
        have v1 : M_156 76 1 = nu M 1 := hnum 1 (by omega)
        have b1 : 0 ≤ nu M 1 ∧ nu M 1 ≤ 99 := okn_v (j := 1) (by decide) hok
        refine R_aload_n (pc := 162) dX8_takesItem_162 rfl ?_
        refine R_aload_n (pc := 163) dX8_takesItem_163 rfl ?_
        refine R_getR (pc := 164) dX8_takesItem_164 fl_RX8_19 rfl (hsh _ _ rfl) rfl ?_
        refine R_iconst (pc := 167) dX8_takesItem_167 ?_
        refine R_iald (pc := 168) dX8_takesItem_168 (hsh _ _ rfl) (by omega) (v0) ?_
        refine R_aload_n (pc := 169) dX8_takesItem_169 rfl ?_
        refine R_getR (pc := 170) dX8_takesItem_170 fl_RX8_19 rfl (hsh _ _ rfl) rfl ?_
        refine R_iconst (pc := 173) dX8_takesItem_173 ?_
        refine R_iald (pc := 174) dX8_takesItem_174 (hsh _ _ rfl) (by omega) (v1) ?_
        refine R_V2 (pc := 175) dX8_takesItem_175 sv_RX8_56 (j_things b sh M_156 hsh _ _ b0 b1 (by rw [h73]; exact g0) (by rw [h73]; exact g2)) (hsh _ _ rfl) (Nat.le_of_ble_eq_true rfl) (by decide) (fun v_175 M_175 hq_175 => ?_)
        obtain ⟨rfl, rfl⟩ := hq_175
        rw [h73]
        refine R_if_eq (pc := 178) (tgt := 185) dX8_takesItem_178 (by decide) (by split <;> omega) (fun h_178 => ?_) (fun h_178 => ?_)
        · have hno : ¬ (M 73 71 < 6 ∧ nu M 0 < M 73 69 ∧ nu M 1 ≤ 60) := fun z => by rw [if_pos z] at h_178; omega
          rw [if_neg hno]
          refine R_iconst (pc := 185) dX8_takesItem_185 ?_
          refine R_zret (pc := 186) dX8_takesItem_186 (Or.inl rfl) ?_
          exact hfail _ (hO2) (fun q => hno (okI_116.mp (hGk.mp q).2))
        · have hyes : M 73 71 < 6 ∧ nu M 0 < M 73 69 ∧ nu M 1 ≤ 60 := by
            by_cases hh : M 73 71 < 6 ∧ nu M 0 < M 73 69 ∧ nu M 1 ≤ 60
            · exact hh
            · rw [if_neg hh] at h_178; omega
          rw [if_pos hyes]
          refine R_iconst (pc := 181) dX8_takesItem_181 ?_
          refine R_goto (pc := 182) (tgt := 186) dX8_takesItem_182 (by decide) ?_
          refine R_zret (pc := 186) dX8_takesItem_186 (by first | exact Or.inl rfl | exact Or.inr rfl | omega) ?_
          refine hsucc _ (FrM_up (FrM_up (FrM_up hO2 (by unfold SM; omega)) (by unfold SM; omega)) (by unfold SM; omega)) (hGk.mpr ⟨hok, okI_116.mpr hyes⟩) (by rw [up_k (by omega), up_k (by omega), up_k (by omega)]; exact h6) (by rw [up_row, up_row, up_row, h73]; exact iW_t g1 g2 g3 g4 hyes.1) (by rw [up_k (by omega), up_k (by omega), up_k (by omega), if_neg (by decide)]; exact (hO 72 7 (by omega) (by omega)).trans hB7)
    by_cases h_36_4 : c = 119
    · refine R_look (off := 85) (tgt := 121) dX8_takesItem_36 (by decide) (by omega) (by rw [h_36_4]; rfl) (by decide) ?_
      subst h_36_4
      refine R_aload_n (pc := 121) dX8_takesItem_121 rfl ?_
      refine R_iconst (pc := 122) dX8_takesItem_122 ?_
      refine R_V1 (pc := 123) dX8_takesItem_123 sv_RX8_108 (TB 2 (by omega)) (hsh _ _ rfl) (Nat.le_of_ble_eq_true rfl) (by decide) (fun v_123 M_123 hq_123 => ?_)
      obtain ⟨rfl, hO, hvs⟩ := hq_123
      have hO2 : FrM M M_123 := FrM_t hBF (OfT_Fr hO)
      have h73 : M_123 73 = M 73 := (OfT_73 hO).trans hB73
      have hGk := GI_k (M := M) (c := 119) (k := 2) rfl
      refine R_if_eq (pc := 126) (tgt := 152) dX8_takesItem_126 (by decide) (by split <;> omega) (fun h_126 => ?_) (fun h_126 => ?_)
      · refine R_iconst (pc := 152) dX8_takesItem_152 ?_
        refine R_zret (pc := 153) dX8_takesItem_153 (Or.inl rfl) ?_
        exact hfail _ hO2 (fun q => by rw [if_pos (hGk.mp q).1] at h_126; omega)
      · have hok : okn (txM M) (M 72 6 + 1) 2 (2 : Int).toNat = true := by
          by_cases hh : okn (txM M) (M 72 6 + 1) 2 (2 : Int).toNat = true
          · exact hh
          · rw [if_neg hh] at h_126; omega
        obtain ⟨h6, hnum⟩ := hvs hok
        have v0 : M_123 76 0 = nu M 0 := hnum 0 (by omega)
        have b0 : 0 ≤ nu M 0 ∧ nu M 0 ≤ 99 := okn_v (j := 0) (by decide) hok
        have v1 : M_123 76 1 = nu M 1 := hnum 1 (by omega)
        have b1 : 0 ≤ nu M 1 ∧ nu M 1 ≤ 99 := okn_v (j := 1) (by decide) hok
        refine R_aload_n (pc := 129) dX8_takesItem_129 rfl ?_
        refine R_aload_n (pc := 130) dX8_takesItem_130 rfl ?_
        refine R_getR (pc := 131) dX8_takesItem_131 fl_RX8_19 rfl (hsh _ _ rfl) rfl ?_
        refine R_iconst (pc := 134) dX8_takesItem_134 ?_
        refine R_iald (pc := 135) dX8_takesItem_135 (hsh _ _ rfl) (by omega) (v0) ?_
        refine R_aload_n (pc := 136) dX8_takesItem_136 rfl ?_
        refine R_getR (pc := 137) dX8_takesItem_137 fl_RX8_19 rfl (hsh _ _ rfl) rfl ?_
        refine R_iconst (pc := 140) dX8_takesItem_140 ?_
        refine R_iald (pc := 141) dX8_takesItem_141 (hsh _ _ rfl) (by omega) (v1) ?_
        refine R_V2 (pc := 142) dX8_takesItem_142 sv_RX8_53 (j_walkers b sh M_123 hsh _ _ b0 b1 (by rw [h73]; exact g1)) (hsh _ _ rfl) (Nat.le_of_ble_eq_true rfl) (by decide) (fun v_142 M_142 hq_142 => ?_)
        obtain ⟨rfl, rfl⟩ := hq_142
        rw [h73]
        refine R_if_eq (pc := 145) (tgt := 152) dX8_takesItem_145 (by decide) (by split <;> omega) (fun h_145 => ?_) (fun h_145 => ?_)
        · have hno : ¬ (M 73 70 < 4 ∧ nu M 0 ≤ 4 ∧ nu M 1 ≤ 9) := fun z => by rw [if_pos z] at h_145; omega
          rw [if_neg hno]
          refine R_iconst (pc := 152) dX8_takesItem_152 ?_
          refine R_zret (pc := 153) dX8_takesItem_153 (Or.inl rfl) ?_
          exact hfail _ (hO2) (fun q => hno (okI_119.mp (hGk.mp q).2))
        · have hyes : M 73 70 < 4 ∧ nu M 0 ≤ 4 ∧ nu M 1 ≤ 9 := by
            by_cases hh : M 73 70 < 4 ∧ nu M 0 ≤ 4 ∧ nu M 1 ≤ 9
            · exact hh
            · rw [if_neg hh] at h_145; omega
          rw [if_pos hyes]
          refine R_iconst (pc := 148) dX8_takesItem_148 ?_
          refine R_goto (pc := 149) (tgt := 153) dX8_takesItem_149 (by decide) ?_
          refine R_zret (pc := 153) dX8_takesItem_153 (by first | exact Or.inl rfl | exact Or.inr rfl | omega) ?_
          refine hsucc _ (FrM_up (FrM_up (FrM_up hO2 (by unfold SM; omega)) (by unfold SM; omega)) (by unfold SM; omega)) (hGk.mpr ⟨hok, okI_119.mpr hyes⟩) (by rw [up_k (by omega), up_k (by omega), up_k (by omega)]; exact h6) (by rw [up_row, up_row, up_row, h73]; exact iW_w g1 g2 g3 g4 hyes.1) (by rw [up_k (by omega), up_k (by omega), up_k (by omega), if_neg (by decide)]; exact (hO 72 7 (by omega) (by omega)).trans hB7)
    refine R_look (off := 223) (tgt := 259) dX8_takesItem_36 (by decide) (by omega) (by simp [Op.lookupswitch.offset_cons, Op.lookupswitch.offset_nil]; omega) (by decide) ?_
    refine R_iconst (pc := 259) dX8_takesItem_259 ?_
    refine R_zret (pc := 260) dX8_takesItem_260 (by first | exact Or.inl rfl | exact Or.inr rfl | omega) ?_
    exact hfail _ hBF (fun q => okI_no (by omega) q.2)
  · refine R_aload_n (pc := 25) dX8_takesItem_25 rfl ?_
    refine R_V0 (pc := 26) dX8_takesItem_26 sv_RX8_116 (hTM) (hsh _ _ rfl) (Nat.le_of_ble_eq_true rfl) (by decide) (fun v_26 M_26 hq_26 => ?_)
    obtain ⟨q1, q2, hF, q3⟩ := hq_26
    by_cases hG : GTM A
    · cases q1 hG
      obtain ⟨e1, e2, e3⟩ := q3 hG
      refine R_zret (pc := 29) dX8_takesItem_29 (Or.inr rfl) ?_
      refine hsucc _ (FrM_t hAF hF) ((hGM h_22).mp hG) (by rw [e1, hAt, hA6, h_22]; rfl) ?_ (by rw [if_pos h_22, e2, hA7])
      rw [e3, hA73, hAt, hA6, h_22]
      exact iW_n g1 g2 g3 g4
    · cases q2 hG
      refine R_zret (pc := 29) dX8_takesItem_29 (Or.inl rfl) ?_
      exact hfail _ (FrM_t hAF hF) (fun q => hG ((hGM h_22).mpr q))
theorem frm_tx {M N : Mem} (h : FrM M N) : txM N = txM M ∧ N 72 5 = M 72 5 := by
  have e := h 72 5 (by unfold SM; omega)
  refine ⟨?_, e⟩
  unfold txM
  rw [e, funext fun j => h 75 j (by unfold SM; omega)]
def QRm (M : Mem) : Option Value → Mem → Prop := fun v N => v = some (vi (rdg (txM M) (M 72 5)).1) ∧ FrM M N ∧ ((rdg (txM M) (M 72 5)).1 = -4 → moW (N 73) 69 = (rdg (txM M) (M 72 5)).2 ∧ WFm (moW (N 73) 69))
theorem j_faultOf (b : Nat) (sh : Shp) (M : Mem) (hsh : Hm sh) (hn : 0 ≤ M 72 5 ∧ M 72 5 ≤ 200) : C0 4 mX8_faultOf b sh M [vr b 72] (QRm M) := by
  have hexit : ∀ (F : Nat) (p bey : Int) (N : Mem), ¬ p < M 72 5 → 0 ≤ p → p ≤ 2000 → FrM M N → N 72 6 = p → WFm (moW (N 73) 69) → prs (txM M) (M 72 5) F p (moW (N 73) 69) bey = rdg (txM M) (M 72 5) → MW yX8_faultOf cX8_faultOf 2 (some .int) (rmD 4 0 0) (FM (QRm M) b sh 0 0) b sh.length 0 0 14 [some (vr b 72), none] [] sh (N) := by
    intro F p bey N hp h0 h2 hF h6 hw hr
    obtain ⟨-, h5⟩ := frm_tx hF
    have hfin : QRm M (some (vi (-4))) N := by
      rw [prs_x hp] at hr
      exact ⟨by rw [← hr], hF, fun _ => ⟨by rw [← hr], hw⟩⟩
    refine R_aload_n (pc := 14) dX8_faultOf_14 rfl ?_
    refine R_getI (pc := 15) (J := 6) dX8_faultOf_15 fl_RX8_93 rfl rfl (hsh _ _ rfl) (h6) ?_
    refine R_aload_n (pc := 18) dX8_faultOf_18 rfl ?_
    refine R_getI (pc := 19) (J := 5) dX8_faultOf_19 fl_RX8_90 rfl rfl (hsh _ _ rfl) (h5) ?_
    refine R_cmp_ge (pc := 22) (tgt := 42) dX8_faultOf_22 (by decide) (by omega) (fun h_22 => ?_) (fun h_22 => ?_)
    · refine R_bipush (pc := 42) dX8_faultOf_42 rfl ?_
      refine R_iret (pc := 44) dX8_faultOf_44 ?_
      exact hfin
    · exact absurd h_22 (by omega)
  have L : ∀ (F : Nat) (p bey : Int) (N : Mem), M 72 5 - p < F → 0 ≤ p → p ≤ 2000 → FrM M N → N 72 6 = p → N 72 7 = 1 - bey → (bey = 0 ∨ bey = 1) → WFm (moW (N 73) 69) → prs (txM M) (M 72 5) F p (moW (N 73) 69) bey = rdg (txM M) (M 72 5) → MW yX8_faultOf cX8_faultOf 2 (some .int) (rmD 4 0 0) (FM (QRm M) b sh 0 0) b sh.length 0 0 14 [some (vr b 72), none] [] sh (N) := by
    intro F
    induction F with
    | zero =>
      intro p bey N h1 h0 h2 hF h6 h7 hbey hw hr
      exact hexit 0 p bey N (by omega) h0 h2 hF h6 hw hr
    | succ F ih =>
      intro p bey N h1 h0 h2 hF h6 h7 hbey hw hr
      by_cases hp : p < M 72 5
      case neg => exact hexit (F + 1) p bey N hp h0 h2 hF h6 hw hr
      obtain ⟨et, h5⟩ := frm_tx hF
      unfold prs at hr
      rw [if_pos hp] at hr
      have hge := ps_ge (tx := txM M) (p := p + 1) (nb (txM M p)).toNat
      have hnb3 : nb (txM M p) ≤ 3 := by simp only [nb]; omega
      have hGe : GI N (txM M p) ↔ (okn (txM M) (p + 1) (nb (txM M p)) (nb (txM M p)).toNat = true ∧ okI (moW (N 73) 69) bey (txM M p) (nv (txM M) (ps (txM M) (p + 1) 0)) (nv (txM M) (ps (txM M) (p + 1) 1)) (nv (txM M) (ps (txM M) (p + 1) 2)) = true) := by
        unfold GI nu
        rw [et, h6, h7, show 1 - (1 - bey) = bey by omega]
      refine R_rng fun hNr => ?_
      have hcr : inR (txM M p) := by
        have := txM_R hNr p
        rw [et] at this
        exact this
      have TI := j_takesItem b sh N hsh (by rw [h5]; exact hn) (by rw [h6, h5]; omega) (by rw [h7]; omega) hw (txM M p) (by rw [et, h6]) hcr
      refine R_aload_n (pc := 14) dX8_faultOf_14 rfl ?_
      refine R_getI (pc := 15) (J := 6) dX8_faultOf_15 fl_RX8_93 rfl rfl (hsh _ _ rfl) (h6) ?_
      refine R_aload_n (pc := 18) dX8_faultOf_18 rfl ?_
      refine R_getI (pc := 19) (J := 5) dX8_faultOf_19 fl_RX8_90 rfl rfl (hsh _ _ rfl) (h5) ?_
      refine R_cmp_ge (pc := 22) (tgt := 42) dX8_faultOf_22 (by decide) (by omega) (fun h_22 => ?_) (fun h_22 => ?_)
      · exact absurd h_22 (by omega)
      · refine R_aload_n (pc := 25) dX8_faultOf_25 rfl ?_
        refine R_getI (pc := 26) (J := 6) dX8_faultOf_26 fl_RX8_93 rfl rfl (hsh _ _ rfl) (h6) ?_
        refine R_istore_n (pc := 29) dX8_faultOf_29 (by decide) rfl rfl ?_
        refine R_aload_n (pc := 30) dX8_faultOf_30 rfl ?_
        refine R_V0 (pc := 31) dX8_faultOf_31 sv_RX8_120 (TI) (hsh _ _ rfl) (Nat.le_of_ble_eq_true rfl) (by decide) (fun v_31 M_31 hq_31 => ?_)
        obtain ⟨q1, q2, hF2, q3⟩ := hq_31
        by_cases hG : GI N (txM M p)
        · cases q1 hG
          obtain ⟨e1, e2, e3⟩ := q3 hG
          have hG2 := hGe.mp hG
          rw [if_pos hG2] at hr
          unfold nu at e2
          rw [et, h6] at e1 e2
          rw [← e2] at hr
          have hnb1 : 1 ≤ nb (txM M p) := by
            by_cases h1n : 1 ≤ nb (txM M p)
            · exact h1n
            · exact absurd hG2.2 (okI_no (by simp only [nb] at h1n; omega))
          have a0 := okn_v (j := 0) (by omega) hG2.1
          have n2 : txM M p ≠ 110 → 2 ≤ nb (txM M p) := fun h => by simp only [nb] at hnb1 ⊢; omega
          have n3 : txM M p = 100 → 3 ≤ nb (txM M p) := fun h => by simp only [nb]; omega
          have a1 : txM M p ≠ 110 → 0 ≤ nv (txM M) (ps (txM M) (p + 1) 1) := fun h => (okn_v (j := 1) (by have := n2 h; omega) hG2.1).1
          have a2 : txM M p = 100 → 0 ≤ nv (txM M) (ps (txM M) (p + 1) 2) := fun h => (okn_v (j := 2) (by have := n3 h; omega) hG2.1).1
          have hw2 := WFm_I hw a0.1 a1 a2 hG2.2
          rw [← e2] at hw2
          refine R_if_ne (pc := 34) (tgt := 39) dX8_faultOf_34 (by decide) (by omega) (fun _ => ?_) (fun h => absurd h (by decide))
          refine R_goto (pc := 39) (tgt := 14) dX8_faultOf_39 (by decide) ?_
          refine R_drop 1 rfl ?_
          refine ih _ _ _ (by omega) (by omega) (by omega) (FrM_t hF hF2) e1 ?_ ?_ hw2 hr
          · rw [e3, h7]
            split <;> omega
          · split <;> omega
        · cases q2 hG
          rw [if_neg (fun q => hG (hGe.mpr q))] at hr
          refine R_if_ne (pc := 34) (tgt := 39) dX8_faultOf_34 (by decide) (by omega) (fun h => absurd rfl h) (fun _ => ?_)
          refine R_iload_n (pc := 37) dX8_faultOf_37 rfl ?_
          refine R_iret (pc := 38) dX8_faultOf_38 ?_
          exact ⟨by rw [← hr], FrM_t hF hF2, fun h4 => by rw [← hr] at h4; exact absurd h4 (by show ¬ p = -4; omega)⟩
  refine MC_of (ls := [some (vr b 72), none]) (by decide) rfl (Nat.le_of_ble_eq_true rfl) ?_
  refine R_aload_n (pc := 0) dX8_faultOf_0 rfl ?_
  refine R_V0v (pc := 1) dX8_faultOf_1 sv_RX8_46 (hsh _ _ rfl) (j_begins b sh M hsh) (Nat.le_of_ble_eq_true rfl) (by decide) ?_
  refine R_aload_n (pc := 4) dX8_faultOf_4 rfl ?_
  refine R_iconst (pc := 5) dX8_faultOf_5 ?_
  refine R_putI (pc := 6) (J := 6) rfl dX8_faultOf_6 fl_RX8_93 rfl (fun r h => by cases h; rfl) (hsh _ _ rfl) (by omega) ?_
  refine R_aload_n (pc := 9) dX8_faultOf_9 rfl ?_
  refine R_iconst (pc := 10) dX8_faultOf_10 ?_
  refine R_putZ (pc := 11) (J := 7) rfl dX8_faultOf_11 fl_RX8_104 rfl (fun r h => by cases h; rfl) (hsh _ _ rfl) (by omega) ?_
  have e73 : up (up (bgM M) 72 6 0) 72 7 1 73 = bgM M 73 := by rw [up_o 73 (by omega), up_o 73 (by omega)]
  refine L 201 0 0 _ (by omega) (by omega) (by omega) (FrM_up (FrM_up (fun c j hc => ?_) (by unfold SM; omega)) (by unfold SM; omega)) (by rw [up_j (by omega), up_s]) (by rw [up_s]; omega) (by omega) (by rw [e73, bg_mo]; exact WFm_0) (by rw [e73, bg_mo]; rfl)
  unfold bgM
  rw [if_neg (fun q => hc (by unfold SM; omega))]
theorem j_fault (b : Nat) (sh : Shp) (M : Mem) {B : Int} (hsh : Hm sh) (hI : IS (absM M) B) : C0 5 mX8_fault b sh M [vr b 72] (QM M (absM M) (a_fault (absM M))) := by
  refine MC_of (ls := [some (vr b 72)]) (by decide) rfl (Nat.le_of_ble_eq_true rfl) ?_
  refine R_aload_n (pc := 0) dX8_fault_0 rfl ?_
  refine R_V0 (pc := 1) dX8_fault_1 sv_RX8_123 (j_faultOf b sh M hsh hI.2.1) (hsh _ _ rfl) (Nat.le_of_ble_eq_true rfl) (by decide) (fun v_1 M_1 hq_1 => ?_)
  obtain ⟨rfl, hF, -⟩ := hq_1
  refine R_iret (pc := 4) dX8_fault_4 ?_
  exact QM_ro hI hF rfl
def cmM (N : Mem) : Mem := fun c j => if c = 73 ∧ 0 ≤ j ∧ j < 69 then N 73 (69 + j) else if c = 74 ∧ 0 ≤ j ∧ j < 19 then (if j < 16 then N 73 (74 + j) else 0) else if c = 72 ∧ (j = 2 ∨ j = 3 ∨ j = 10 ∨ j = 13) then 0 else N c j
theorem j_comes (b : Nat) (sh : Shp) (M : Mem) (hsh : Hm sh) : Ex 0 mX8_comes b sh M [vr b 72] none (cmM M) := by
  refine MC_of (ls := [some (vr b 72), none]) (by decide) rfl (Nat.le_of_ble_eq_true rfl) ?_
  refine R_rng fun hM => ?_
  have L2 : ∀ (n : Nat) (i : Int), 0 ≤ i → i ≤ 19 → 19 - i < n → MW yX8_comes cX8_comes 2 none (rmD 0 0 0) (FM (EQ none (cmM M)) b sh 0 0) b sh.length 0 0 31 [some (vr b 72), some (vi i)] [] sh (fun c j => if c = 73 ∧ 0 ≤ j ∧ j < 69 then M 73 (69 + j) else if c = 74 ∧ 0 ≤ j ∧ j < i then (if j < 16 then M 73 (74 + j) else 0) else M c j) := by
    intro n
    induction n with
    | zero => intro i h1 h2 h3; exact absurd h3 (by omega)
    | succ n ih =>
      intro i h1 h2 h3
      have hv : i < 16 → (fun (c : Nat) (j : Int) => if c = 73 ∧ 0 ≤ j ∧ j < 69 then M 73 (69 + j) else if c = 74 ∧ 0 ≤ j ∧ j < i then (if j < 16 then M 73 (74 + j) else 0) else M c j) 73 (5 + i) = M 73 (74 + i) := fun h => by
        dsimp only
        rw [if_pos (by omega)]
        congr 1; omega
      have hr := hM 73 (74 + i)
      refine R_iload_n (pc := 31) dX8_comes_31 rfl ?_
      refine R_bipush (pc := 32) dX8_comes_32 rfl ?_
      refine R_cmp_ge (pc := 34) (tgt := 67) dX8_comes_34 (by decide) (by omega) (fun h_34 => ?_) (fun h_34 => ?_)
      · refine R_aload_n (pc := 67) dX8_comes_67 rfl ?_
        refine R_iconst (pc := 68) dX8_comes_68 ?_
        refine R_putI (pc := 69) (J := 2) rfl dX8_comes_69 fl_RX8_73 rfl (fun r h => by cases h; rfl) (hsh _ _ rfl) (by omega) ?_
        refine R_aload_n (pc := 72) dX8_comes_72 rfl ?_
        refine R_iconst (pc := 73) dX8_comes_73 ?_
        refine R_putI (pc := 74) (J := 3) rfl dX8_comes_74 fl_RX8_77 rfl (fun r h => by cases h; rfl) (hsh _ _ rfl) (by omega) ?_
        refine R_aload_n (pc := 77) dX8_comes_77 rfl ?_
        refine R_iconst (pc := 78) dX8_comes_78 ?_
        refine R_putI (pc := 79) (J := 10) rfl dX8_comes_79 fl_RX8_80 rfl (fun r h => by cases h; rfl) (hsh _ _ rfl) (by omega) ?_
        refine R_aload_n (pc := 82) dX8_comes_82 rfl ?_
        refine R_iconst (pc := 83) dX8_comes_83 ?_
        refine R_putI (pc := 84) (J := 13) rfl dX8_comes_84 fl_RX8_83 rfl (fun r h => by cases h; rfl) (hsh _ _ rfl) (by omega) ?_
        refine R_vret (pc := 87) dX8_comes_87 ?_
        refine eqv ?_
        have e1 : i = 19 := by omega
        subst e1
        funext c j
        unfold cmM up
        by_cases h72 : c = 72
        · subst h72
          rw [if_neg (show ¬ (72 = 73 ∧ 0 ≤ j ∧ j < 69) by omega), if_neg (show ¬ (72 = 74 ∧ 0 ≤ j ∧ j < 19) by omega)]
          by_cases hj : j = 2 ∨ j = 3 ∨ j = 10 ∨ j = 13
          · rw [if_pos (show 72 = 72 ∧ (j = 2 ∨ j = 3 ∨ j = 10 ∨ j = 13) from ⟨rfl, hj⟩)]
            repeat' split
            all_goals first | rfl | omega
          · rw [if_neg (show ¬ (72 = 72 ∧ (j = 2 ∨ j = 3 ∨ j = 10 ∨ j = 13)) from fun q => hj q.2)]
            repeat' split
            all_goals first | rfl | omega
        · rw [if_neg (fun q => h72 q.1), if_neg (fun q => h72 q.1), if_neg (fun q => h72 q.1), if_neg (fun q => h72 q.1)]
          dsimp only
          by_cases h73 : c = 73 ∧ 0 ≤ j ∧ j < 69
          · rw [if_pos h73, if_pos h73]
          · rw [if_neg h73, if_neg h73]
            by_cases h74 : c = 74 ∧ 0 ≤ j ∧ j < 19
            · rw [if_pos h74, if_pos h74]
            · rw [if_neg h74, if_neg h74, if_neg (fun q => h72 q.1)]
      · refine R_aload_n (pc := 37) dX8_comes_37 rfl ?_
        refine R_getR (pc := 38) dX8_comes_38 fl_RX8_13 rfl (hsh _ _ rfl) rfl ?_
        refine R_iload_n (pc := 41) dX8_comes_41 rfl ?_
        refine R_iload_n (pc := 42) dX8_comes_42 rfl ?_
        refine R_bipush (pc := 43) dX8_comes_43 rfl ?_
        refine R_cmp_ge (pc := 45) (tgt := 59) dX8_comes_45 (by decide) (by omega) (fun h_45 => ?_) (fun h_45 => ?_)
        · refine R_iconst (pc := 59) dX8_comes_59 ?_
          refine R_iast (pc := 60) dX8_comes_60 (hsh _ _ rfl) (by omega) (by omega) ?_
          refine R_iinc (pc := 61) dX8_comes_61 rfl (by decide) rfl rfl ?_
          refine R_goto (pc := 64) (tgt := 31) dX8_comes_64 (by decide) ?_
          refine R_mem ?_ (ih (i + 1) (by omega) (by omega) (by omega))
          funext c j
          unfold up
          by_cases hj : c = 74 ∧ j = i
          · rw [if_pos hj, if_neg (by omega), if_pos (by omega), hj.2]
            first | rw [if_pos (by omega)] | rw [if_neg (by omega)]
          · rw [if_neg hj]
            dsimp only
            by_cases h73 : c = 73 ∧ 0 ≤ j ∧ j < 69
            · rw [if_pos h73, if_pos h73]
            · rw [if_neg h73, if_neg h73]
              by_cases h74 : c = 74 ∧ 0 ≤ j ∧ j < i
              · rw [if_pos h74, if_pos (show c = 74 ∧ 0 ≤ j ∧ j < i + 1 by omega)]
              · rw [if_neg h74, if_neg (by omega)]
        · refine R_aload_n (pc := 48) dX8_comes_48 rfl ?_
          refine R_getR (pc := 49) dX8_comes_49 fl_RX8_7 rfl (hsh _ _ rfl) rfl ?_
          refine R_iconst (pc := 52) dX8_comes_52 ?_
          refine R_iload_n (pc := 53) dX8_comes_53 rfl ?_
          refine R_iadd (pc := 54) dX8_comes_54 ?_
          refine R_iald (pc := 55) dX8_comes_55 (hsh _ _ rfl) (by omega) (hv (by omega)) ?_
          refine R_goto (pc := 56) (tgt := 60) dX8_comes_56 (by decide) ?_
          refine R_iast (pc := 60) dX8_comes_60 (hsh _ _ rfl) (by omega) (by omega) ?_
          refine R_iinc (pc := 61) dX8_comes_61 rfl (by decide) rfl rfl ?_
          refine R_goto (pc := 64) (tgt := 31) dX8_comes_64 (by decide) ?_
          refine R_mem ?_ (ih (i + 1) (by omega) (by omega) (by omega))
          funext c j
          unfold up
          by_cases hj : c = 74 ∧ j = i
          · rw [if_pos hj, if_neg (by omega), if_pos (by omega), hj.2]
            first | rw [if_pos (by omega)] | rw [if_neg (by omega)]
          · rw [if_neg hj]
            dsimp only
            by_cases h73 : c = 73 ∧ 0 ≤ j ∧ j < 69
            · rw [if_pos h73, if_pos h73]
            · rw [if_neg h73, if_neg h73]
              by_cases h74 : c = 74 ∧ 0 ≤ j ∧ j < i
              · rw [if_pos h74, if_pos (show c = 74 ∧ 0 ≤ j ∧ j < i + 1 by omega)]
              · rw [if_neg h74, if_neg (by omega)]
  have L1 : ∀ (n : Nat) (i : Int), 0 ≤ i → i ≤ 69 → 69 - i < n → MW yX8_comes cX8_comes 2 none (rmD 0 0 0) (FM (EQ none (cmM M)) b sh 0 0) b sh.length 0 0 2 [some (vr b 72), some (vi i)] [] sh (fun c j => if c = 73 ∧ 0 ≤ j ∧ j < i then M 73 (69 + j) else M c j) := by
    intro n
    induction n with
    | zero => intro i h1 h2 h3; exact absurd h3 (by omega)
    | succ n ih =>
      intro i h1 h2 h3
      have hv : i < 69 → (fun (c : Nat) (j : Int) => if c = 73 ∧ 0 ≤ j ∧ j < i then M 73 (69 + j) else M c j) 73 (69 + i) = M 73 (69 + i) := fun h => by
        dsimp only
        rw [if_neg (by omega)]
      have hr := hM 73 (69 + i)
      refine R_iload_n (pc := 2) dX8_comes_2 rfl ?_
      refine R_bipush (pc := 3) dX8_comes_3 rfl ?_
      refine R_cmp_ge (pc := 5) (tgt := 29) dX8_comes_5 (by decide) (by omega) (fun h_5 => ?_) (fun h_5 => ?_)
      · refine R_iconst (pc := 29) dX8_comes_29 ?_
        refine R_istore_n (pc := 30) dX8_comes_30 (by decide) rfl rfl ?_
        refine R_mem ?_ (L2 30 0 (by omega) (by omega) (by omega))
        have e1 : i = 69 := by omega
        subst e1
        funext c j
        by_cases h73 : c = 73 ∧ 0 ≤ j ∧ j < 69
        · rw [if_pos h73, if_pos h73]
        · rw [if_neg h73, if_neg h73, if_neg (by omega)]
      · refine R_aload_n (pc := 8) dX8_comes_8 rfl ?_
        refine R_getR (pc := 9) dX8_comes_9 fl_RX8_7 rfl (hsh _ _ rfl) rfl ?_
        refine R_iload_n (pc := 12) dX8_comes_12 rfl ?_
        refine R_aload_n (pc := 13) dX8_comes_13 rfl ?_
        refine R_getR (pc := 14) dX8_comes_14 fl_RX8_7 rfl (hsh _ _ rfl) rfl ?_
        refine R_bipush (pc := 17) dX8_comes_17 rfl ?_
        refine R_iload_n (pc := 19) dX8_comes_19 rfl ?_
        refine R_iadd (pc := 20) dX8_comes_20 ?_
        refine R_iald (pc := 21) dX8_comes_21 (hsh _ _ rfl) (by omega) (hv (by omega)) ?_
        refine R_iast (pc := 22) dX8_comes_22 (hsh _ _ rfl) (by omega) (by omega) ?_
        refine R_iinc (pc := 23) dX8_comes_23 rfl (by decide) rfl rfl ?_
        refine R_goto (pc := 26) (tgt := 2) dX8_comes_26 (by decide) ?_
        refine R_mem ?_ (ih (i + 1) (by omega) (by omega) (by omega))
        funext c j
        unfold up
        by_cases hj : c = 73 ∧ j = i
        · rw [if_pos hj, if_pos (by omega), hj.2]
        · rw [if_neg hj]
          dsimp only
          by_cases h73 : c = 73 ∧ 0 ≤ j ∧ j < i
          · rw [if_pos h73, if_pos (by omega)]
          · rw [if_neg h73, if_neg (by omega)]
  refine R_iconst (pc := 0) dX8_comes_0 ?_
  refine R_istore_n (pc := 1) dX8_comes_1 (by decide) rfl rfl ?_
  refine R_mem ?_ (L1 100 0 (by omega) (by omega) (by omega))
  funext c j
  rw [if_neg (by omega)]
theorem cm_abs {M N : Mem} (hF : FrM M N) (hw : WFm (moW (N 73) 69)) : absM (cmM N) = (M 72 5, txM M, moW (N 73) 69, strt (moW (N 73) 69), (0, zR), (0, zR), (0, zF, zF), (0, zF, zF, zF)) ∧ (∀ c, c < 72 → cmM N c = N c) ∧ cmM N 73 0 = moW (N 73) 69 0 0 := by
  obtain ⟨et, e5⟩ := frm_tx hF
  have z : ∀ j, (j = 2 ∨ j = 3 ∨ j = 10 ∨ j = 13) → cmM N 72 j = 0 := fun j hj => by
    unfold cmM
    rw [if_neg (by omega), if_neg (by omega), if_pos ⟨rfl, hj⟩]
  have o : ∀ c, c ≠ 72 → c ≠ 73 → c ≠ 74 → cmM N c = N c := fun c h1 h2 h3 => by
    funext j
    unfold cmM
    rw [if_neg (fun q => h2 q.1), if_neg (fun q => h3 q.1), if_neg (fun q => h1 q.1)]
  have e5' : cmM N 72 5 = N 72 5 := by
    unfold cmM
    rw [if_neg (by omega), if_neg (by omega), if_neg (by omega)]
  have w : ∀ j, 0 ≤ j → j < 69 → cmM N 73 j = N 73 (69 + j) := fun j a c => by
    unfold cmM
    rw [if_pos ⟨rfl, a, c⟩]
  refine ⟨absM_gen ⟨by rw [e5', e5], ?_⟩ (moW_sh w hw.2.1.2 hw.2.2.1.2 hw.2.2.2.1.2) ?_ ?_ ?_ ?_ ?_, fun c hc => o c (by omega) (by omega) (by omega), by rw [w 0 (by omega) (by omega)]; rfl⟩
  · show txM (cmM N) = txM M
    rw [← et]
    unfold txM
    rw [e5', o 75 (by omega) (by omega) (by omega)]
  · show roM (cmM N) 0 = strt (moW (N 73) 69)
    funext j
    have e1 : moW (N 73) 69 1 j = if 0 ≤ j ∧ j < 16 then N 73 (69 + 5 + j) else 0 := rfl
    unfold roM strt
    rw [e1]
    by_cases hj : 0 ≤ j ∧ j < 16
    · rw [if_pos (by omega), if_pos hj, if_pos hj]
      unfold cmM
      rw [if_neg (by omega), if_pos (by omega), if_pos (by omega)]
      congr 1; omega
    · rw [if_neg hj]
      by_cases h2 : 0 ≤ j ∧ j ≤ 18
      · rw [if_pos h2]
        unfold cmM
        rw [if_neg (by omega), if_pos (by omega), if_neg (by omega)]
      · rw [if_neg h2]
  · show (cmM N 72 2, mskR (cmM N 72 2) _) = (0, zR)
    rw [z 2 (by omega), mskR_0]
  · show (cmM N 72 3, mskR (cmM N 72 3) _) = (0, zR)
    rw [z 3 (by omega), mskR_0]
  · show (cmM N 72 10, msk (cmM N 72 10) _, msk (cmM N 72 10) _) = (0, zF, zF)
    rw [z 10 (by omega), msk_0, msk_0]
  · show (cmM N 72 13, msk (cmM N 72 13) _, msk (cmM N 72 13) _, msk (cmM N 72 13) _) = (0, zF, zF, zF)
    rw [z 13 (by omega), msk_0, msk_0, msk_0]
theorem rdg_R {tx : Rd} {n : Int} (hn : n ≤ 200) : inR (rdg tx n).1 := by
  have : ∀ (F : Nat) (p bey : Int) (mo : Mo), 0 ≤ p → inR (prs tx n F p mo bey).1 := by
    intro F
    induction F with
    | zero => intro p bey mo hp; show inR (-4); omega
    | succ F ih =>
      intro p bey mo hp
      unfold prs
      split
      · split
        · exact ih _ _ _ (by have := ps_ge (tx := tx) (p := p + 1) (nb (tx p)).toNat; omega)
        · show inR p; omega
      · show inR (-4); omega
  exact this 201 0 0 mo0 (by omega)
theorem j_lay (b : Nat) (sh : Shp) (M : Mem) {B : Int} (hsh : Hm sh) (hI : IS (absM M) B) : C0 5 mX8_lay b sh M [vr b 72] (QM M (nx_lay (absM M)) (a_lay (absM M))) := by
  have hz : 0 ≤ M 72 5 ∧ M 72 5 ≤ 200 := hI.2.1
  have ea : a_lay (absM M) = if M 72 5 = 0 ∨ ¬ (rdg (txM M) (M 72 5)).1 = -4 then -2 else (rdg (txM M) (M 72 5)).2 0 0 := rfl
  have et : nx_lay (absM M) = if M 72 5 = 0 ∨ ¬ (rdg (txM M) (M 72 5)).1 = -4 then absM M else (M 72 5, txM M, (rdg (txM M) (M 72 5)).2, strt (rdg (txM M) (M 72 5)).2, (0, zR), (0, zR), (0, zF, zF), (0, zF, zF, zF)) := rfl
  have hrg : inR (rdg (txM M) (M 72 5)).1 := rdg_R hz.2
  refine MC_of (ls := [some (vr b 72)]) (by decide) rfl (Nat.le_of_ble_eq_true rfl) ?_
  refine R_aload_n (pc := 0) dX8_lay_0 rfl ?_
  refine R_V0 (pc := 1) dX8_lay_1 sv_RX8_123 (j_faultOf b sh M hsh hz) (hsh _ _ rfl) (Nat.le_of_ble_eq_true rfl) (by decide) (fun v_1 M_1 hq_1 => ?_)
  obtain ⟨rfl, hF, hok⟩ := hq_1
  have e5 : M_1 72 5 = M 72 5 := (frm_tx hF).2
  refine R_bipush (pc := 4) dX8_lay_4 rfl ?_
  refine R_cmp_ne (pc := 6) (tgt := 16) dX8_lay_6 (by decide) (by omega) (fun h_6 => ?_) (fun h_6 => ?_)
  · refine R_bipush (pc := 16) dX8_lay_16 rfl ?_
    refine R_iret (pc := 18) dX8_lay_18 ?_
    first
      | (rw [et, if_pos (Or.inl h_13)]; exact QM_ro hI hF (by rw [ea, if_pos (Or.inl h_13)]))
      | (rw [et, if_pos (Or.inr h_6)]; exact QM_ro hI hF (by rw [ea, if_pos (Or.inr h_6)]))
  · refine R_aload_n (pc := 9) dX8_lay_9 rfl ?_
    refine R_getI (pc := 10) (J := 5) dX8_lay_10 fl_RX8_90 rfl rfl (hsh _ _ rfl) (e5) ?_
    refine R_if_ne (pc := 13) (tgt := 19) dX8_lay_13 (by decide) (by omega) (fun h_13 => ?_) (fun h_13 => ?_)
    · refine R_aload_n (pc := 19) dX8_lay_19 rfl ?_
      refine R_V0v (pc := 20) dX8_lay_20 sv_RX8_66 (hsh _ _ rfl) (j_comes b sh M_1 hsh) (Nat.le_of_ble_eq_true rfl) (by decide) ?_
      refine R_aload_n (pc := 23) dX8_lay_23 rfl ?_
      refine R_getR (pc := 24) dX8_lay_24 fl_RX8_7 rfl (hsh _ _ rfl) rfl ?_
      refine R_iconst (pc := 27) dX8_lay_27 ?_
      refine R_iald (pc := 28) dX8_lay_28 (hsh _ _ rfl) (by omega) (rfl) ?_
      refine R_iret (pc := 29) dX8_lay_29 ?_
      have hno : ¬ (M 72 5 = 0 ∨ ¬ (rdg (txM M) (M 72 5)).1 = -4) := fun q => q.elim h_13 (fun q => q h_6)
      obtain ⟨k1, k2⟩ := hok h_6
      obtain ⟨c1, c2, c3⟩ := cm_abs hF k2
      rw [et, if_neg hno]
      refine ⟨?_, ?_, fun c hc => ?_⟩
      · rw [ea, if_neg hno, c3, k1]
      · rw [c1, k1]
      · rw [c2 c hc]
        exact FrM_c hF (fun j => by unfold SM; omega)
    · refine R_bipush (pc := 16) dX8_lay_16 rfl ?_
      refine R_iret (pc := 18) dX8_lay_18 ?_
      first
        | (rw [et, if_pos (Or.inl h_13)]; exact QM_ro hI hF (by rw [ea, if_pos (Or.inl h_13)]))
        | (rw [et, if_pos (Or.inr h_6)]; exact QM_ro hI hF (by rw [ea, if_pos (Or.inr h_6)]))
