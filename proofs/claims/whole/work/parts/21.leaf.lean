theorem k_within (b : Nat) (sh : Shp) (M : Mem) (x lo hi : Int) (hx : inR x) (hl : inR lo) (hh : inR hi) : Ex 0 mX7_within b sh M [vi x, vi lo, vi hi] (some (vi (if lo ≤ x ∧ x ≤ hi then 1 else 0))) M := by
  refine MC_of (ls := [some (vi x), some (vi lo), some (vi hi)]) (by decide) rfl (Nat.le_of_ble_eq_true rfl) ?_
  refine R_iload_n (pc := 0) dX7_within_0 rfl ?_
  refine R_iload_n (pc := 1) dX7_within_1 rfl ?_
  refine R_cmp_lt (pc := 2) (tgt := 14) dX7_within_2 (by decide) (by omega) (fun h_2 => ?_) (fun h_2 => ?_)
  · refine R_iconst (pc := 14) dX7_within_14 ?_
    refine R_zret (pc := 15) dX7_within_15 (by first | exact Or.inl rfl | exact Or.inr rfl | omega) ?_
    exact eqi (by (try simp only [tb, aw, ab]); omega) rfl
  · refine R_iload_n (pc := 5) dX7_within_5 rfl ?_
    refine R_iload_n (pc := 6) dX7_within_6 rfl ?_
    refine R_cmp_gt (pc := 7) (tgt := 14) dX7_within_7 (by decide) (by omega) (fun h_7 => ?_) (fun h_7 => ?_)
    · refine R_iconst (pc := 14) dX7_within_14 ?_
      refine R_zret (pc := 15) dX7_within_15 (by first | exact Or.inl rfl | exact Or.inr rfl | omega) ?_
      exact eqi (by (try simp only [tb, aw, ab]); omega) rfl
    · refine R_iconst (pc := 10) dX7_within_10 ?_
      refine R_goto (pc := 11) (tgt := 15) dX7_within_11 (by decide) ?_
      refine R_zret (pc := 15) dX7_within_15 (by first | exact Or.inl rfl | exact Or.inr rfl | omega) ?_
      exact eqi (by (try simp only [tb, aw, ab]); omega) rfl
theorem k_isYard (b : Nat) (sh : Shp) (M : Mem) (x : Int) (hx : inR x) : Ex 1 mX7_isYard b sh M [vi x] (some (vi (if 0 ≤ x ∧ x ≤ 60 then 1 else 0))) M := by
  refine MC_of (ls := [some (vi x)]) (by decide) rfl (Nat.le_of_ble_eq_true rfl) ?_
  refine R_iload_n (pc := 0) dX7_isYard_0 rfl ?_
  refine R_iconst (pc := 1) dX7_isYard_1 ?_
  refine R_bipush (pc := 2) dX7_isYard_2 rfl ?_
  refine R_S3i (pc := 4) dX7_isYard_4 ss_RX7_108 (k_within b sh M _ _ _ hx (by omega) (by omega)) (Nat.le_of_ble_eq_true rfl) (by decide) ?_
  refine R_zret (pc := 7) dX7_isYard_7 (by first | exact Or.inl rfl | exact Or.inr rfl | omega) ?_
  exact eqi rfl rfl
theorem k_toward (b : Nat) (sh : Shp) (M : Mem) (y a d : Int) (hy : 0 ≤ y ∧ y ≤ 1000) (ha : 0 ≤ a ∧ a ≤ 1000) (hd : 0 ≤ d ∧ d ≤ 1000) : Ex 0 mX4_toward b sh M [vi y, vi a, vi d] (some (vi (tb y a d))) M := by
  refine MC_of (ls := [some (vi y), some (vi a), some (vi d)]) (by decide) rfl (Nat.le_of_ble_eq_true rfl) ?_
  refine R_iload_n (pc := 0) dX4_toward_0 rfl ?_
  refine R_iload_n (pc := 1) dX4_toward_1 rfl ?_
  refine R_cmp_ge (pc := 2) (tgt := 20) dX4_toward_2 (by decide) (by omega) (fun h_2 => ?_) (fun h_2 => ?_)
  · refine R_iload_n (pc := 20) dX4_toward_20 rfl ?_
    refine R_iload_n (pc := 21) dX4_toward_21 rfl ?_
    refine R_isub (pc := 22) dX4_toward_22 ?_
    refine R_iload_n (pc := 23) dX4_toward_23 rfl ?_
    refine R_cmp_le (pc := 24) (tgt := 33) dX4_toward_24 (by decide) (by omega) (fun h_24 => ?_) (fun h_24 => ?_)
    · refine R_iload_n (pc := 33) dX4_toward_33 rfl ?_
      refine R_iret (pc := 34) dX4_toward_34 ?_
      exact eqi (by (try simp only [tb, aw, ab]); omega) rfl
    · refine R_iload_n (pc := 27) dX4_toward_27 rfl ?_
      refine R_iload_n (pc := 28) dX4_toward_28 rfl ?_
      refine R_isub (pc := 29) dX4_toward_29 ?_
      refine R_goto (pc := 30) (tgt := 34) dX4_toward_30 (by decide) ?_
      refine R_iret (pc := 34) dX4_toward_34 ?_
      exact eqi (by (try simp only [tb, aw, ab]); omega) rfl
  · refine R_iload_n (pc := 5) dX4_toward_5 rfl ?_
    refine R_iload_n (pc := 6) dX4_toward_6 rfl ?_
    refine R_iadd (pc := 7) dX4_toward_7 ?_
    refine R_iload_n (pc := 8) dX4_toward_8 rfl ?_
    refine R_cmp_ge (pc := 9) (tgt := 18) dX4_toward_9 (by decide) (by omega) (fun h_9 => ?_) (fun h_9 => ?_)
    · refine R_iload_n (pc := 18) dX4_toward_18 rfl ?_
      refine R_iret (pc := 19) dX4_toward_19 ?_
      exact eqi (by (try simp only [tb, aw, ab]); omega) rfl
    · refine R_iload_n (pc := 12) dX4_toward_12 rfl ?_
      refine R_iload_n (pc := 13) dX4_toward_13 rfl ?_
      refine R_iadd (pc := 14) dX4_toward_14 ?_
      refine R_goto (pc := 15) (tgt := 19) dX4_toward_15 (by decide) ?_
      refine R_iret (pc := 19) dX4_toward_19 ?_
      exact eqi (by (try simp only [tb, aw, ab]); omega) rfl
theorem k_awayFrom (b : Nat) (sh : Shp) (M : Mem) (y a : Int) (hy : 0 ≤ y ∧ y ≤ 60) (ha : 0 ≤ a ∧ a ≤ 60) : Ex 0 mX4_awayFrom b sh M [vi y, vi a] (some (vi (aw y a))) M := by
  refine MC_of (ls := [some (vi y), some (vi a)]) (by decide) rfl (Nat.le_of_ble_eq_true rfl) ?_
  refine R_iload_n (pc := 0) dX4_awayFrom_0 rfl ?_
  refine R_iload_n (pc := 1) dX4_awayFrom_1 rfl ?_
  refine R_cmp_ge (pc := 2) (tgt := 17) dX4_awayFrom_2 (by decide) (by omega) (fun h_2 => ?_) (fun h_2 => ?_)
  · refine R_iload_n (pc := 17) dX4_awayFrom_17 rfl ?_
    refine R_bipush (pc := 18) dX4_awayFrom_18 rfl ?_
    refine R_cmp_ge (pc := 20) (tgt := 29) dX4_awayFrom_20 (by decide) (by omega) (fun h_20 => ?_) (fun h_20 => ?_)
    · refine R_bipush (pc := 29) dX4_awayFrom_29 rfl ?_
      refine R_iret (pc := 31) dX4_awayFrom_31 ?_
      exact eqi (by (try simp only [tb, aw, ab]); omega) rfl
    · refine R_iload_n (pc := 23) dX4_awayFrom_23 rfl ?_
      refine R_iconst (pc := 24) dX4_awayFrom_24 ?_
      refine R_iadd (pc := 25) dX4_awayFrom_25 ?_
      refine R_goto (pc := 26) (tgt := 31) dX4_awayFrom_26 (by decide) ?_
      refine R_iret (pc := 31) dX4_awayFrom_31 ?_
      exact eqi (by (try simp only [tb, aw, ab]); omega) rfl
  · refine R_iload_n (pc := 5) dX4_awayFrom_5 rfl ?_
    refine R_if_le (pc := 6) (tgt := 15) dX4_awayFrom_6 (by decide) (by omega) (fun h_6 => ?_) (fun h_6 => ?_)
    · refine R_iconst (pc := 15) dX4_awayFrom_15 ?_
      refine R_iret (pc := 16) dX4_awayFrom_16 ?_
      exact eqi (by (try simp only [tb, aw, ab]); omega) rfl
    · refine R_iload_n (pc := 9) dX4_awayFrom_9 rfl ?_
      refine R_iconst (pc := 10) dX4_awayFrom_10 ?_
      refine R_isub (pc := 11) dX4_awayFrom_11 ?_
      refine R_goto (pc := 12) (tgt := 16) dX4_awayFrom_12 (by decide) ?_
      refine R_iret (pc := 16) dX4_awayFrom_16 ?_
      exact eqi (by (try simp only [tb, aw, ab]); omega) rfl
theorem k_gapBefore (b : Nat) (sh : Shp) (M : Mem) (r : Nat) (hr : isRd sh r) (i : Int) (hi : 1 ≤ i ∧ i ≤ 15) (h1 : 0 ≤ M (r + 1) i ∧ M (r + 1) i ≤ 60) (h2 : 0 ≤ M (r + 1) (i - 1) ∧ M (r + 1) (i - 1) ≤ 60) : Ex 0 mX4_gapBefore b sh M [vr b r, vi i] (some (vi (ab (M (r + 1) i) (M (r + 1) (i - 1))))) M := by
  refine MC_of (ls := [some (vr b r), some (vi i), none]) (by decide) rfl (Nat.le_of_ble_eq_true rfl) ?_
  refine R_aload_n (pc := 0) dX4_gapBefore_0 rfl ?_
  refine R_getR (pc := 1) dX4_gapBefore_1 fl_RX4_9 rfl hr.1 rfl ?_
  refine R_iload_n (pc := 4) dX4_gapBefore_4 rfl ?_
  refine R_iald (pc := 5) dX4_gapBefore_5 hr.2.1 (by omega) (rfl) ?_
  refine R_aload_n (pc := 6) dX4_gapBefore_6 rfl ?_
  refine R_getR (pc := 7) dX4_gapBefore_7 fl_RX4_9 rfl hr.1 rfl ?_
  refine R_iload_n (pc := 10) dX4_gapBefore_10 rfl ?_
  refine R_iconst (pc := 11) dX4_gapBefore_11 ?_
  refine R_isub (pc := 12) dX4_gapBefore_12 ?_
  refine R_iald (pc := 13) dX4_gapBefore_13 hr.2.1 (by omega) (rfl) ?_
  refine R_isub (pc := 14) dX4_gapBefore_14 ?_
  refine R_istore_n (pc := 15) dX4_gapBefore_15 (by decide) rfl rfl ?_
  refine R_iload_n (pc := 16) dX4_gapBefore_16 rfl ?_
  refine R_if_ge (pc := 17) (tgt := 25) dX4_gapBefore_17 (by decide) (by omega) (fun h_17 => ?_) (fun h_17 => ?_)
  · refine R_iload_n (pc := 25) dX4_gapBefore_25 rfl ?_
    refine R_iret (pc := 26) dX4_gapBefore_26 ?_
    exact eqi (by (try simp only [tb, aw, ab]); omega) rfl
  · refine R_iload_n (pc := 20) dX4_gapBefore_20 rfl ?_
    refine R_ineg (pc := 21) dX4_gapBefore_21 ?_
    refine R_goto (pc := 22) (tgt := 26) dX4_gapBefore_22 (by decide) ?_
    refine R_iret (pc := 26) dX4_gapBefore_26 ?_
    exact eqi (by (try simp only [tb, aw, ab]); omega) rfl
