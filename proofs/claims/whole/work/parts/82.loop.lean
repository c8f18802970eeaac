/-- THE LAW'S LOOP -/
theorem law_loop {bS L : Nat} {xs : Nat → Int32} {b : Nat} (hL : L ≤ 384) : ∀ (n : Nat) (i B : Int) (M : Mem), 0 ≤ i → i ≤ (L : Int) + 6 → (L : Int) + 6 - i < n → IC M B → absC M = absM M → 0 ≤ B → B ≤ 20 * i → LW bS L xs b i 18 [] M := by
  intro n
  induction n with
  | zero => intro i B M h0 h1 h2; exact absurd h2 (by omega)
  | succ n ih =>
    intro i B M h0 h1 h2 hI hA hB0 hB1
    refine R_iload_n (pc := 18) dL_law_18 rfl ?_
    refine L_aload (pc := 19) dL_law_19 rfl ?_
    refine L_alen (pc := 20) dL_law_20 ?_
    refine R_bipush (pc := 21) dL_law_21 rfl ?_
    refine R_isub (pc := 23) dL_law_23 ?_
    refine R_cmp_gt (pc := 24) (tgt := 943) dL_law_24 (by decide) (by omega) (fun h3 => ?_) (fun h3 => ?_)
    · refine R_iconst (pc := 943) dL_law_943 ?_
      exact L_end (by omega) (by omega)
    · have hi : 0 ≤ i ∧ i + 6 ≤ (L : Int) := by omega
      have hB : 0 ≤ B ∧ B ≤ 80000 := by omega
      have hgo : Go bS L xs b i B := by
        intro M2 B2 hI2 hA2 hb0 hb1
        refine R_iinc (pc := 937) dL_law_937 rfl (by decide) rfl rfl ?_
        refine R_goto (pc := 940) (tgt := 18) dL_law_940 (by decide) ?_
        exact ih (i + 6) B2 M2 (by omega) (by omega) (by omega) hI2 hA2 hb0 (by omega)
      refine L_aload (pc := 27) dL_law_27 rfl ?_
      refine R_iload_n (pc := 28) dL_law_28 rfl ?_
      refine L_iald (pc := 29) dL_law_29 (by omega) ?_
      refine R_bipush (pc := 30) dL_law_30 rfl ?_
      refine R_and31 (pc := 32) dL_law_32 ?_
      have hw : 0 ≤ scr xs i % 32 ∧ scr xs i % 32 < 32 := ⟨Int.emod_nonneg _ (by omega), Int.emod_lt_of_pos _ (by omega)⟩
      generalize scr xs i % 32 = w at hw ⊢
      by_cases h_0 : w = 0
      · refine R_tabIn (pc := 33) (off := 131) (tgt := 164) dL_law_33 (by omega) (by omega) (by rw [h_0]; rfl) (by decide) ?_
        exact lc_write hL hi hI hA hB hgo
      by_cases h_1 : w = 1
      · refine R_tabIn (pc := 33) (off := 154) (tgt := 187) dL_law_33 (by omega) (by omega) (by rw [h_1]; rfl) (by decide) ?_
        exact lc_wipe hL hi hI hA hB hgo
      by_cases h_2 : w = 2
      · refine R_tabIn (pc := 33) (off := 167) (tgt := 200) dL_law_33 (by omega) (by omega) (by rw [h_2]; rfl) (by decide) ?_
        exact lc_fault hL hi hI hA hB hgo
      by_cases h_3 : w = 3
      · refine R_tabIn (pc := 33) (off := 180) (tgt := 213) dL_law_33 (by omega) (by omega) (by rw [h_3]; rfl) (by decide) ?_
        exact lc_lay hL hi hI hA hB hgo
      by_cases h_4 : w = 4
      · refine R_tabIn (pc := 33) (off := 193) (tgt := 226) dL_law_33 (by omega) (by omega) (by rw [h_4]; rfl) (by decide) ?_
        exact lc_post hL hi hI hA hB hgo
      by_cases h_5 : w = 5
      · refine R_tabIn (pc := 33) (off := 216) (tgt := 249) dL_law_33 (by omega) (by omega) (by rw [h_5]; rfl) (by decide) ?_
        exact lc_walker hL hi hI hA hB hgo
      by_cases h_6 : w = 6
      · refine R_tabIn (pc := 33) (off := 249) (tgt := 282) dL_law_33 (by omega) (by omega) (by rw [h_6]; rfl) (by decide) ?_
        exact lc_thing hL hi hI hA hB hgo
      by_cases h_7 : w = 7
      · refine R_tabIn (pc := 33) (off := 282) (tgt := 315) dL_law_33 (by omega) (by omega) (by rw [h_7]; rfl) (by decide) ?_
        exact lc_day hL hi hI hA hB hgo
      by_cases h_8 : w = 8
      · refine R_tabIn (pc := 33) (off := 315) (tgt := 348) dL_law_33 (by omega) (by omega) (by rw [h_8]; rfl) (by decide) ?_
        exact lc_pass hL hi hI hA hB hgo
      by_cases h_9 : w = 9
      · refine R_tabIn (pc := 33) (off := 338) (tgt := 371) dL_law_33 (by omega) (by omega) (by rw [h_9]; rfl) (by decide) ?_
        exact lc_walk hL hi hI hA hB hgo
      by_cases h_10 : w = 10
      · refine R_tabIn (pc := 33) (off := 371) (tgt := 404) dL_law_33 (by omega) (by omega) (by rw [h_10]; rfl) (by decide) ?_
        exact lc_shut hL hi hI hA hB hgo
      by_cases h_11 : w = 11
      · refine R_tabIn (pc := 33) (off := 420) (tgt := 453) dL_law_33 (by omega) (by omega) (by rw [h_11]; rfl) (by decide) ?_
        exact lc_undo hL hi hI hA hB hgo
      by_cases h_12 : w = 12
      · refine R_tabIn (pc := 33) (off := 433) (tgt := 466) dL_law_33 (by omega) (by omega) (by rw [h_12]; rfl) (by decide) ?_
        exact lc_length hL hi hI hA hB hgo
      by_cases h_13 : w = 13
      · refine R_tabIn (pc := 33) (off := 446) (tgt := 479) dL_law_33 (by omega) (by omega) (by rw [h_13]; rfl) (by decide) ?_
        exact lc_crooks hL hi hI hA hB hgo
      by_cases h_14 : w = 14
      · refine R_tabIn (pc := 33) (off := 469) (tgt := 502) dL_law_33 (by omega) (by omega) (by rw [h_14]; rfl) (by decide) ?_
        exact lc_milestone hL hi hI hA hB hgo
      by_cases h_15 : w = 15
      · refine R_tabIn (pc := 33) (off := 492) (tgt := 525) dL_law_33 (by omega) (by omega) (by rw [h_15]; rfl) (by decide) ?_
        exact lc_behind hL hi hI hA hB hgo
      by_cases h_16 : w = 16
      · refine R_tabIn (pc := 33) (off := 525) (tgt := 558) dL_law_33 (by omega) (by omega) (by rw [h_16]; rfl) (by decide) ?_
        exact lc_door hL hi hI hA hB hgo
      by_cases h_17 : w = 17
      · refine R_tabIn (pc := 33) (off := 568) (tgt := 601) dL_law_33 (by omega) (by omega) (by rw [h_17]; rfl) (by decide) ?_
        exact lc_mile hL hi hI hA hB hgo
      by_cases h_18 : w = 18
      · refine R_tabIn (pc := 33) (off := 591) (tgt := 624) dL_law_33 (by omega) (by omega) (by rw [h_18]; rfl) (by decide) ?_
        exact lc_window hL hi hI hA hB hgo
      by_cases h_19 : w = 19
      · refine R_tabIn (pc := 33) (off := 624) (tgt := 657) dL_law_33 (by omega) (by omega) (by rw [h_19]; rfl) (by decide) ?_
        exact lc_bent hL hi hI hA hB hgo
      by_cases h_20 : w = 20
      · refine R_tabIn (pc := 33) (off := 657) (tgt := 690) dL_law_33 (by omega) (by omega) (by rw [h_20]; rfl) (by decide) ?_
        exact lc_found hL hi hI hA hB hgo
      by_cases h_21 : w = 21
      · refine R_tabIn (pc := 33) (off := 700) (tgt := 733) dL_law_33 (by omega) (by omega) (by rw [h_21]; rfl) (by decide) ?_
        exact lc_forget hL hi hI hA hB hgo
      by_cases h_22 : w = 22
      · refine R_tabIn (pc := 33) (off := 713) (tgt := 746) dL_law_33 (by omega) (by omega) (by rw [h_22]; rfl) (by decide) ?_
        exact lc_looked hL hi hI hA hB hgo
      by_cases h_23 : w = 23
      · refine R_tabIn (pc := 33) (off := 736) (tgt := 769) dL_law_33 (by omega) (by omega) (by rw [h_23]; rfl) (by decide) ?_
        exact lc_fog hL hi hI hA hB hgo
      by_cases h_24 : w = 24
      · refine R_tabIn (pc := 33) (off := 749) (tgt := 782) dL_law_33 (by omega) (by omega) (by rw [h_24]; rfl) (by decide) ?_
        exact lc_parishes hL hi hI hA hB hgo
      by_cases h_25 : w = 25
      · refine R_tabIn (pc := 33) (off := 812) (tgt := 845) dL_law_33 (by omega) (by omega) (by rw [h_25]; rfl) (by decide) ?_
        exact lc_year hL hi hI hA hB hgo
      by_cases h_26 : w = 26
      · refine R_tabIn (pc := 33) (off := 855) (tgt := 888) dL_law_33 (by omega) (by omega) (by rw [h_26]; rfl) (by decide) ?_
        exact lc_keep hL hi hI hA hB hgo
      by_cases h_27 : w = 27
      · refine R_tabIn (pc := 33) (off := 868) (tgt := 901) dL_law_33 (by omega) (by omega) (by rw [h_27]; rfl) (by decide) ?_
        exact lc_back hL hi hI hA hB hgo
      by_cases h_28 : w = 28
      · refine R_tabIn (pc := 33) (off := 881) (tgt := 914) dL_law_33 (by omega) (by omega) (by rw [h_28]; rfl) (by decide) ?_
        exact lc_count hL hi hI hA hB hgo
      refine R_tabOut (pc := 33) (tgt := 937) dL_law_33 (by omega) (by omega) (by decide) ?_
      exact hgo M B hI hA hB0 (by omega)
theorem law_start {bS L : Nat} {xs : Nat → Int32} {b : Nat} (hL : L ≤ 384) : MW yL_law cL_law 4 (some .boolean) room_1 (FLw bS L xs) b 0 0 0 0 [some (.ref bS), none, none, none] [] [] (fun _ _ => 0) := by
  refine N_new (pc := 0) (ci := 7) (n := 0) dL_law_0 nl_RL_7 rfl (Nat.le_of_ble_eq_true rfl) (Nat.le_of_ble_eq_true rfl) ?_
  refine R_dup (pc := 3) dL_law_3 rfl ?_
  refine R_callI (pc := 4) (as := []) (rest := [vr b 0]) (kc := 1) (ks := 13) dL_law_4 si_RL_9 (i_X7 b _ (fun j => fr_e)) rfl rfl (Nat.le_of_ble_eq_true rfl) ⟨Nat.le_of_ble_eq_true rfl, Nat.le_of_ble_eq_true rfl, Nat.le_of_ble_eq_true rfl, Nat.le_of_ble_eq_true rfl⟩ rfl ?_
  rintro _ N1 ⟨rfl, hI1, hA1⟩
  refine R_astore_n (pc := 7) dL_law_7 (by decide) rfl rfl ?_
  refine N_new (pc := 8) (ci := 8) (n := 72) dL_law_8 nl_RL_10 rfl (Nat.le_of_ble_eq_true rfl) (Nat.le_of_ble_eq_true rfl) ?_
  refine R_dup (pc := 11) dL_law_11 rfl ?_
  refine R_callI (pc := 12) (as := []) (rest := [vr b 72]) (kc := 73) (ks := 866) dL_law_12 si_RL_12 (i_X8 b _ (fun j => fr_e)) rfl rfl (Nat.le_of_ble_eq_true rfl) ⟨Nat.le_of_ble_eq_true rfl, Nat.le_of_ble_eq_true rfl, Nat.le_of_ble_eq_true rfl, Nat.le_of_ble_eq_true rfl⟩ rfl ?_
  rintro _ N2 ⟨rfl, hA2, hlo⟩
  refine R_astore_n (pc := 15) dL_law_15 (by decide) rfl rfl ?_
  refine R_iconst (pc := 16) dL_law_16 ?_
  refine R_istore_n (pc := 17) dL_law_17 (by decide) rfl rfl ?_
  obtain ⟨i1, i2⟩ := IC_lo (M2 := N2) hI1 (by omega) (fun c hc => by rw [hlo c hc]; exact fr_o c hc)
  exact law_loop hL 1000 0 0 N2 (by omega) (by omega) (by omega) i1 (by rw [i2, hA1, hA2]) (by omega) (by omega)
