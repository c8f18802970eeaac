/-! THE REFERENCE'S FACE, first part -/
theorem j_passesMany (b : Nat) (sh : Shp) (M : Mem) (hsh : Hm sh) (h : Int) (hh : 0 ≤ h ∧ h + 19 ≤ 304) (hm : WFm (moM M)) (f : Rd) {B : Int} (hf : WFr f B) (n : Int) (hn : 0 ≤ n ∧ B + n ≤ 100000) : Ex 4 mX8_passesMany b sh (putM M h f) [vr b 72, vi h, vi n] none (putM M h (days (moM M) f n.toNat)) := by
  have h16 := hf.2.1
  have em : ∀ g, moM (putM M h g) = moM M := fun g => by
    show moW (putM M h g 73) 0 = _
    rw [pm_c (by omega)]
  have L : ∀ (m k : Nat) (x : Int), x = k → x ≤ n → n - x < m → MW yX8_passesMany cX8_passesMany 4 none (rmD 4 0 0) (FM (EQ none (putM M h (days (moM M) f n.toNat))) b sh 0 0) b sh.length 0 0 2 [some (vr b 72), some (vi h), some (vi n), some (vi x)] [] sh (putM M h (days (moM M) f k)) := by
    intro m
    induction m with
    | zero => intro k x h0 h1 h2; exact absurd h2 (by omega)
    | succ m ih =>
      intro k x h0 h1 h2
      obtain ⟨d1, d2⟩ := days_in hm hf k (by omega)
      have hfg : fogAt (moM M) (days (moM M) f k 16) = 0 ∨ fogAt (moM M) (days (moM M) f k 16) = 1 := hm.2.2.2.2.2.2.2.2.2.2.2.2 _
      have hfo := j_isFog b sh (putM M h (days (moM M) f k)) hsh (by rw [em]; exact hm.2.2.2.2.1) (days (moM M) f k 16) (by omega)
      rw [em] at hfo
      refine R_iload_n (pc := 2) dX8_passesMany_2 rfl ?_
      refine R_iload_n (pc := 3) dX8_passesMany_3 rfl ?_
      refine R_cmp_ge (pc := 4) (tgt := 31) dX8_passesMany_4 (by decide) (by omega) (fun h_4 => ?_) (fun h_4 => ?_)
      · refine R_vret (pc := 31) dX8_passesMany_31 ?_
        exact eqv (by rw [show n.toNat = k by omega])
      · refine R_aload_n (pc := 7) dX8_passesMany_7 rfl ?_
        refine R_iload_n (pc := 8) dX8_passesMany_8 rfl ?_
        refine R_aload_n (pc := 9) dX8_passesMany_9 rfl ?_
        refine R_aload_n (pc := 10) dX8_passesMany_10 rfl ?_
        refine R_getR (pc := 11) dX8_passesMany_11 fl_RX8_13 rfl (hsh _ _ rfl) rfl ?_
        refine R_iload_n (pc := 14) dX8_passesMany_14 rfl ?_
        refine R_bipush (pc := 15) dX8_passesMany_15 rfl ?_
        refine R_iadd (pc := 17) dX8_passesMany_17 ?_
        refine R_iald (pc := 18) dX8_passesMany_18 (hsh _ _ rfl) (by omega) (pm_i (by omega)) ?_
        refine R_V1i (pc := 19) dX8_passesMany_19 sv_RX8_145 (hsh _ _ rfl) (hfo) (Nat.le_of_ble_eq_true rfl) (by decide) ?_
        refine R_V2v (pc := 22) dX8_passesMany_22 sv_RX8_170 (hsh _ _ rfl) (j_passes b sh M hsh h hh hm _ d1 _ hfg) (Nat.le_of_ble_eq_true rfl) (by decide) ?_
        refine R_iinc (pc := 25) dX8_passesMany_25 rfl (by decide) rfl rfl ?_
        refine R_goto (pc := 28) (tgt := 2) dX8_passesMany_28 (by decide) ?_
        exact ih (k + 1) (x + 1) (by omega) (by omega) (by omega)
  refine MC_of (ls := [some (vr b 72), some (vi h), some (vi n), none]) (by decide) rfl (Nat.le_of_ble_eq_true rfl) ?_
  refine R_iconst (pc := 0) dX8_passesMany_0 ?_
  refine R_istore_n (pc := 1) dX8_passesMany_1 (by decide) rfl rfl ?_
  exact L (n.toNat + 1) 0 0 rfl (by omega) (by omega)
theorem j_lengthOf (b : Nat) (sh : Shp) (M : Mem) (hsh : Hm sh) (h : Int) (hh : 0 ≤ h ∧ h + 19 ≤ 304) {N : Int} (hN0 : moM M 0 0 = N) (hN : 5 ≤ N ∧ N ≤ 16) (f : Rd) {B : Int} (hf : WFr f B) : Ex 1 mX8_lengthOf b sh (putM M h f) [vr b 72, vi h] (some (vi (len N f))) (putM M h f) := by
  have e0 : ∀ g, putM M h g 73 0 = N := fun g => ((pm_k (by omega)).trans mM_0).trans hN0
  have L : ∀ (n : Nat) (i : Int), 1 ≤ i → i ≤ N → N - i < n → MW yX8_lengthOf cX8_lengthOf 4 (some .int) (rmD 1 0 0) (FM (EQ (some (vi (len N f))) (putM M h f)) b sh 0 0) b sh.length 0 0 4 [some (vr b 72), some (vi h), some (vi (lnS f (i - 1).toNat)), some (vi i)] [] sh (putM M h f) := by
    intro n
    induction n with
    | zero => intro i h1 h2 h3; exact absurd h3 (by omega)
    | succ n ih =>
      intro i h1 h2 h3
      have g := lnS_in hf (i - 1).toNat (by omega)
      refine R_iload_n (pc := 4) dX8_lengthOf_4 rfl ?_
      refine R_aload_n (pc := 5) dX8_lengthOf_5 rfl ?_
      refine R_getR (pc := 6) dX8_lengthOf_6 fl_RX8_7 rfl (hsh _ _ rfl) rfl ?_
      refine R_iconst (pc := 9) dX8_lengthOf_9 ?_
      refine R_iald (pc := 10) dX8_lengthOf_10 (hsh _ _ rfl) (by omega) (e0 _) ?_
      refine R_cmp_ge (pc := 11) (tgt := 47) dX8_lengthOf_11 (by decide) (by omega) (fun h_11 => ?_) (fun h_11 => ?_)
      · refine R_iload_n (pc := 47) dX8_lengthOf_47 rfl ?_
        refine R_iret (pc := 48) dX8_lengthOf_48 ?_
        have e1 : i = N := by omega
        subst e1
        exact eqi rfl rfl
      · have v1 := hf.1 i (by omega) (by omega)
        have v2 := hf.1 (i - 1) (by omega) (by omega)
        refine R_iload_n (pc := 14) dX8_lengthOf_14 rfl ?_
        refine R_bipush (pc := 15) dX8_lengthOf_15 rfl ?_
        refine R_aload_n (pc := 17) dX8_lengthOf_17 rfl ?_
        refine R_getR (pc := 18) dX8_lengthOf_18 fl_RX8_13 rfl (hsh _ _ rfl) rfl ?_
        refine R_iload_n (pc := 21) dX8_lengthOf_21 rfl ?_
        refine R_iload_n (pc := 22) dX8_lengthOf_22 rfl ?_
        refine R_iadd (pc := 23) dX8_lengthOf_23 ?_
        refine R_iald (pc := 24) dX8_lengthOf_24 (hsh _ _ rfl) (by omega) (pm_i (by omega)) ?_
        refine R_aload_n (pc := 25) dX8_lengthOf_25 rfl ?_
        refine R_getR (pc := 26) dX8_lengthOf_26 fl_RX8_13 rfl (hsh _ _ rfl) rfl ?_
        refine R_iload_n (pc := 29) dX8_lengthOf_29 rfl ?_
        refine R_iload_n (pc := 30) dX8_lengthOf_30 rfl ?_
        refine R_iadd (pc := 31) dX8_lengthOf_31 ?_
        refine R_iconst (pc := 32) dX8_lengthOf_32 ?_
        refine R_isub (pc := 33) dX8_lengthOf_33 ?_
        refine R_iald (pc := 34) dX8_lengthOf_34 (hsh _ _ rfl) (by omega) (pm_j (i := i - 1) (by omega) (by omega)) ?_
        refine R_S2i (pc := 35) dX8_lengthOf_35 ss_RX8_152 (j_apart b sh _ _ _ (by omega) (by omega)) (Nat.le_of_ble_eq_true rfl) (by decide) ?_
        refine R_iadd (pc := 38) dX8_lengthOf_38 ?_
        refine R_iadd (pc := 39) dX8_lengthOf_39 ?_
        refine R_istore_n (pc := 40) dX8_lengthOf_40 (by decide) rfl rfl ?_
        refine R_iinc (pc := 41) dX8_lengthOf_41 rfl (by decide) rfl rfl ?_
        refine R_goto (pc := 44) (tgt := 4) dX8_lengthOf_44 (by decide) ?_
        have hx := ih (i + 1) (by omega) (by omega) (by omega)
        rw [show i + 1 - 1 = i by omega, lnS_s h1] at hx
        exact hx
  refine MC_of (ls := [some (vr b 72), some (vi h), none, none]) (by decide) rfl (Nat.le_of_ble_eq_true rfl) ?_
  refine R_iconst (pc := 0) dX8_lengthOf_0 ?_
  refine R_istore_n (pc := 1) dX8_lengthOf_1 (by decide) rfl rfl ?_
  refine R_iconst (pc := 2) dX8_lengthOf_2 ?_
  refine R_istore_n (pc := 3) dX8_lengthOf_3 (by decide) rfl rfl ?_
  exact L 20 1 (by omega) (by omega) (by omega)
def shM (M : Mem) (n : Int) : Mem := fun c j => if c = 74 ∧ 57 ≤ j ∧ j < 57 + n then M 74 (j + 19) else M c j
def mdM (M : Mem) : Mem := if M 72 2 = 8 then up (putM (up (shM M 133) 72 2 7) (57 + 19 * 7) (roM M 0)) 72 2 8 else up (putM M (57 + 19 * M 72 2) (roM M 0)) 72 2 (M 72 2 + 1)
theorem j_minds (b : Nat) (sh : Shp) (M : Mem) (hsh : Hm sh) (hu : 0 ≤ M 72 2 ∧ M 72 2 ≤ 8) : Ex 1 mX8_minds b sh M [vr b 72] none (mdM M) := by
  unfold mdM
  by_cases h8 : M 72 2 = 8
  · rw [if_pos h8]
    have ero : roM (up (shM M 133) 72 2 7) 0 = roM M 0 := roM_c (fun j a c => by
      rw [up_k (by omega)]
      unfold shM
      rw [if_neg (by omega)])
    have hcp := j_copy b sh (up (shM M 133) 72 2 7) hsh 0 (57 + 19 * 7) (by omega) (by omega) (by omega)
    rw [ero] at hcp
    have L : ∀ (n : Nat) (i : Int), 0 ≤ i → i ≤ 133 → 133 - i < n → MW yX8_minds cX8_minds 2 none (rmD 1 0 0) (FM (EQ none (up (putM (up (shM M 133) 72 2 7) (57 + 19 * 7) (roM M 0)) 72 2 8)) b sh 0 0) b sh.length 0 0 11 [some (vr b 72), some (vi i)] [] sh (shM M i) := by
      intro n
      induction n with
      | zero => intro i h1 h2 h3; exact absurd h3 (by omega)
      | succ n ih =>
        intro i h1 h2 h3
        by_cases hlt : i < 133
        · have ev : shM M i 74 (57 + i + 19) = M 74 (57 + i + 19) := by
            unfold shM
            rw [if_neg (by omega)]
          refine R_rng fun hM => ?_
          have hv := hM 74 (57 + i + 19)
          rw [ev] at hv
          refine R_iload_n (pc := 11) dX8_minds_11 rfl ?_
          refine R_sipush (pc := 12) dX8_minds_12 rfl ?_
          refine R_cmp_ge (pc := 15) (tgt := 45) dX8_minds_15 (by decide) (by omega) (fun h_15 => ?_) (fun h_15 => ?_)
          · exact absurd h_15 (by omega)
          · refine R_aload_n (pc := 18) dX8_minds_18 rfl ?_
            refine R_getR (pc := 19) dX8_minds_19 fl_RX8_13 rfl (hsh _ _ rfl) rfl ?_
            refine R_bipush (pc := 22) dX8_minds_22 rfl ?_
            refine R_iload_n (pc := 24) dX8_minds_24 rfl ?_
            refine R_iadd (pc := 25) dX8_minds_25 ?_
            refine R_aload_n (pc := 26) dX8_minds_26 rfl ?_
            refine R_getR (pc := 27) dX8_minds_27 fl_RX8_13 rfl (hsh _ _ rfl) rfl ?_
            refine R_bipush (pc := 30) dX8_minds_30 rfl ?_
            refine R_iload_n (pc := 32) dX8_minds_32 rfl ?_
            refine R_iadd (pc := 33) dX8_minds_33 ?_
            refine R_bipush (pc := 34) dX8_minds_34 rfl ?_
            refine R_iadd (pc := 36) dX8_minds_36 ?_
            refine R_iald (pc := 37) dX8_minds_37 (hsh _ _ rfl) (by omega) (ev) ?_
            refine R_iast (pc := 38) dX8_minds_38 (hsh _ _ rfl) (by omega) (by omega) ?_
            refine R_iinc (pc := 39) dX8_minds_39 rfl (by decide) rfl rfl ?_
            refine R_goto (pc := 42) (tgt := 11) dX8_minds_42 (by decide) ?_
            refine R_mem ?_ (ih (i + 1) (by omega) (by omega) (by omega))
            funext c j
            unfold up shM
            by_cases h5 : c = 74 ∧ j = 57 + i
            · rw [if_pos h5, if_pos (by omega), h5.2]
            · rw [if_neg h5]
              by_cases h6 : c = 74 ∧ 57 ≤ j ∧ j < 57 + i
              · rw [if_pos h6, if_pos (by omega)]
              · rw [if_neg h6, if_neg (by omega)]
        · have ei : i = 133 := by omega
          subst ei
          have e2 : shM M 133 72 2 = 8 := by
            unfold shM
            rw [if_neg (by omega)]
            exact h8
          have e3 : up (shM M 133) 72 2 (8 - 1) 72 2 = 7 := up_s
          have e4 : putM (up (shM M 133) 72 2 7) (57 + 19 * 7) (roM M 0) 72 2 = 7 := (pm_k (by omega)).trans up_s
          refine R_iload_n (pc := 11) dX8_minds_11 rfl ?_
          refine R_sipush (pc := 12) dX8_minds_12 rfl ?_
          refine R_cmp_ge (pc := 15) (tgt := 45) dX8_minds_15 (by decide) (by omega) (fun h_15 => ?_) (fun h_15 => ?_)
          · refine R_aload_n (pc := 45) dX8_minds_45 rfl ?_
            refine R_dup (pc := 46) dX8_minds_46 rfl ?_
            refine R_getI (pc := 47) (J := 2) dX8_minds_47 fl_RX8_73 rfl rfl (hsh _ _ rfl) (e2) ?_
            refine R_iconst (pc := 50) dX8_minds_50 ?_
            refine R_isub (pc := 51) dX8_minds_51 ?_
            refine R_putI (pc := 52) (J := 2) rfl dX8_minds_52 fl_RX8_73 rfl (fun r h => by cases h; rfl) (hsh _ _ rfl) (by omega) ?_
            refine R_aload_n (pc := 55) dX8_minds_55 rfl ?_
            refine R_iconst (pc := 56) dX8_minds_56 ?_
            refine R_bipush (pc := 57) dX8_minds_57 rfl ?_
            refine R_bipush (pc := 59) dX8_minds_59 rfl ?_
            refine R_aload_n (pc := 61) dX8_minds_61 rfl ?_
            refine R_getI (pc := 62) (J := 2) dX8_minds_62 fl_RX8_73 rfl rfl (hsh _ _ rfl) (e3) ?_
            refine R_imul (pc := 65) dX8_minds_65 ?_
            refine R_iadd (pc := 66) dX8_minds_66 ?_
            refine R_V2v (pc := 67) dX8_minds_67 sv_RX8_174 (hsh _ _ rfl) (hcp) (Nat.le_of_ble_eq_true rfl) (by decide) ?_
            refine R_aload_n (pc := 70) dX8_minds_70 rfl ?_
            refine R_dup (pc := 71) dX8_minds_71 rfl ?_
            refine R_getI (pc := 72) (J := 2) dX8_minds_72 fl_RX8_73 rfl rfl (hsh _ _ rfl) (e4) ?_
            refine R_iconst (pc := 75) dX8_minds_75 ?_
            refine R_iadd (pc := 76) dX8_minds_76 ?_
            refine R_putI (pc := 77) (J := 2) rfl dX8_minds_77 fl_RX8_73 rfl (fun r h => by cases h; rfl) (hsh _ _ rfl) (by omega) ?_
            refine R_vret (pc := 80) dX8_minds_80 ?_
            exact eqv rfl
          · exact absurd h_15 (by omega)
    refine MC_of (ls := [some (vr b 72), none]) (by decide) rfl (Nat.le_of_ble_eq_true rfl) ?_
    refine R_aload_n (pc := 0) dX8_minds_0 rfl ?_
    refine R_getI (pc := 1) (J := 2) dX8_minds_1 fl_RX8_73 rfl rfl (hsh _ _ rfl) (h8) ?_
    refine R_bipush (pc := 4) dX8_minds_4 rfl ?_
    refine R_cmp_ne (pc := 6) (tgt := 55) dX8_minds_6 (by decide) (by omega) (fun h_6 => ?_) (fun h_6 => ?_)
    · exact absurd h_6 (by omega)
    · refine R_iconst (pc := 9) dX8_minds_9 ?_
      refine R_istore_n (pc := 10) dX8_minds_10 (by decide) rfl rfl ?_
      refine R_mem ?_ (L 200 0 (by omega) (by omega) (by omega))
      funext c j
      unfold shM
      rw [if_neg (by omega)]
  · rw [if_neg h8]
    have hcp := j_copy b sh M hsh 0 (57 + 19 * M 72 2) (by omega) (by omega) (by omega)
    refine MC_of (ls := [some (vr b 72), none]) (by decide) rfl (Nat.le_of_ble_eq_true rfl) ?_
    refine R_aload_n (pc := 0) dX8_minds_0 rfl ?_
    refine R_getI (pc := 1) (J := 2) dX8_minds_1 fl_RX8_73 rfl rfl (hsh _ _ rfl) (rfl) ?_
    refine R_bipush (pc := 4) dX8_minds_4 rfl ?_
    refine R_cmp_ne (pc := 6) (tgt := 55) dX8_minds_6 (by decide) (by omega) (fun h_6 => ?_) (fun h_6 => ?_)
    · refine R_aload_n (pc := 55) dX8_minds_55 rfl ?_
      refine R_iconst (pc := 56) dX8_minds_56 ?_
      refine R_bipush (pc := 57) dX8_minds_57 rfl ?_
      refine R_bipush (pc := 59) dX8_minds_59 rfl ?_
      refine R_aload_n (pc := 61) dX8_minds_61 rfl ?_
      refine R_getI (pc := 62) (J := 2) dX8_minds_62 fl_RX8_73 rfl rfl (hsh _ _ rfl) (rfl) ?_
      refine R_imul (pc := 65) dX8_minds_65 ?_
      refine R_iadd (pc := 66) dX8_minds_66 ?_
      refine R_V2v (pc := 67) dX8_minds_67 sv_RX8_174 (hsh _ _ rfl) (hcp) (Nat.le_of_ble_eq_true rfl) (by decide) ?_
      refine R_aload_n (pc := 70) dX8_minds_70 rfl ?_
      refine R_dup (pc := 71) dX8_minds_71 rfl ?_
      refine R_getI (pc := 72) (J := 2) dX8_minds_72 fl_RX8_73 rfl rfl (hsh _ _ rfl) (pm_k (by omega)) ?_
      refine R_iconst (pc := 75) dX8_minds_75 ?_
      refine R_iadd (pc := 76) dX8_minds_76 ?_
      refine R_putI (pc := 77) (J := 2) rfl dX8_minds_77 fl_RX8_73 rfl (fun r h => by cases h; rfl) (hsh _ _ rfl) (by omega) ?_
      refine R_vret (pc := 80) dX8_minds_80 ?_
      exact eqv rfl
    · exact absurd h_6 h8
theorem md_o {M : Mem} (hu : 0 ≤ M 72 2 ∧ M 72 2 ≤ 8) {c : Nat} {j : Int} (h1 : ¬ (c = 74 ∧ 57 ≤ j ∧ j ≤ 208)) (h2 : ¬ (c = 72 ∧ j = 2)) : mdM M c j = M c j := by
  unfold mdM
  split
  · rw [up, if_neg h2]
    unfold putM
    rw [if_neg (by omega), up, if_neg h2]
    unfold shM
    rw [if_neg (by omega)]
  · rw [up, if_neg h2]
    unfold putM
    rw [if_neg (by omega)]
theorem roM_up {M : Mem} {k : Nat} {j x h : Int} (hk : k ≠ 74) : roM (up M k j x) h = roM M h := roM_c (fun i _ _ => by rw [up_k (Ne.symm hk)])
theorem md_un {M : Mem} (hu : 0 ≤ M 72 2 ∧ M 72 2 ≤ 8) : unM (mdM M) = pu (unM M) (roM M 0) := by
  unfold mdM pu unM
  by_cases h8 : M 72 2 = 8
  · rw [if_pos h8, if_neg (by omega), up_s]
    congr 1
    funext k
    unfold mskR
    by_cases hk : k = 7
    · rw [if_pos (by omega), if_pos hk]
      dsimp only
      rw [roM_up (by omega), hk]
      exact ro_pm roM_z
    · rw [if_neg hk]
      dsimp only
      by_cases hk2 : 0 ≤ k ∧ k < 7
      · rw [if_pos (by omega), if_pos hk2, if_pos (by omega), roM_up (by omega), ro_pmo (by omega), roM_up (by omega)]
        funext i
        unfold roM shM
        split
        · rw [if_pos (by omega)]
          congr 1; omega
        · rfl
      · rw [if_neg (by omega), if_neg hk2]
  · rw [if_neg h8, if_pos (by omega), up_s]
    congr 1
    funext k
    unfold mskR
    by_cases hk : k = M 72 2
    · rw [if_pos (by omega), if_pos hk]
      dsimp only
      rw [roM_up (by omega), hk]
      exact ro_pm roM_z
    · rw [if_neg hk]
      dsimp only
      by_cases hk2 : 0 ≤ k ∧ k < M 72 2
      · rw [if_pos (by omega), if_pos hk2, roM_up (by omega), ro_pmo (by omega)]
      · rw [if_neg (by omega), if_neg hk2]
theorem md_k {M : Mem} {B : Int} (hI : IS (absM M) B) : moM (mdM M) = moM M ∧ roM (mdM M) 0 = roM M 0 := by
  have hu : 0 ≤ M 72 2 ∧ M 72 2 ≤ 8 := hI.2.2.2.1.1
  exact ⟨kM_mo hI (fun j _ _ => md_o hu (by omega) (by omega)), roM_c (fun j _ _ => md_o hu (by omega) (by omega))⟩
/-- the state behind minds and a new road -/
theorem md_abs {M : Mem} {B : Int} (hI : IS (absM M) B) {f : Rd} (hf : ∀ j, j < 0 ∨ 18 < j → f j = 0) : absM (putM (mdM M) 0 f) = (M 72 5, txM M, moM M, f, pu (unM M) (roM M 0), keM M, beM M, foM M) ∧ ∀ c, c < 72 → putM (mdM M) 0 f c = M c := by
  have hu : 0 ≤ M 72 2 ∧ M 72 2 ≤ 8 := hI.2.2.2.1.1
  have e : ∀ c j, ¬ (c = 74 ∧ 57 ≤ j ∧ j ≤ 208) → ¬ (c = 72 ∧ j = 2) → ¬ (c = 74 ∧ 0 ≤ j ∧ j ≤ 18) → putM (mdM M) 0 f c j = M c j := fun c j h1 h2 h3 => by
    unfold putM
    rw [if_neg (by omega)]
    exact md_o hu h1 h2
  have ec : ∀ c, c ≠ 72 → c ≠ 74 → putM (mdM M) 0 f c = M c := fun c h1 h2 => funext fun j => e c j (by omega) (by omega) (by omega)
  refine ⟨absM_gen (kM_tx (e _ _ (by omega) (by omega) (by omega)) (ec _ (by omega) (by omega))) (kM_mo hI (fun j _ _ => e _ _ (by omega) (by omega) (by omega))) (ro_pm hf) ?_ (kM_ke hI (e _ _ (by omega) (by omega) (by omega)) (fun j _ _ => e _ _ (by omega) (by omega) (by omega))) (kM_be (e _ _ (by omega) (by omega) (by omega)) (ec _ (by omega) (by omega)) (ec _ (by omega) (by omega))) (kM_fo (e _ _ (by omega) (by omega) (by omega)) (ec _ (by omega) (by omega)) (ec _ (by omega) (by omega)) (ec _ (by omega) (by omega))), fun c hc => ec c (by omega) (by omega)⟩
  show unM (putM (mdM M) 0 f) = pu (unM M) (roM M 0)
  rw [← md_un hu]
  unfold unM
  rw [pm_k (by omega)]
  congr 1
  exact mskR_e (fun k a c => ro_pmo (by omega))
/-! calls that only look -/
theorem j_post (b : Nat) (sh : Shp) (M : Mem) {B : Int} (hsh : Hm sh) (hI : IS (absM M) B) (i : Int) (hi : inR i) : C0 2 mX8_post b sh M [vr b 72, vi i] (QM M (absM M) (a_post (absM M) i)) := by
  have hn : 5 ≤ moM M 0 0 ∧ moM M 0 0 ≤ 16 := hI.1.1
  have ea : a_post (absM M) i = if 0 ≤ i ∧ i ≤ moM M 0 0 - 1 then roM M 0 i else -1 := rfl
  refine MC_of (ls := [some (vr b 72), some (vi i)]) (by decide) rfl (Nat.le_of_ble_eq_true rfl) ?_
  refine R_aload_n (pc := 0) dX8_post_0 rfl ?_
  refine R_iload_n (pc := 1) dX8_post_1 rfl ?_
  refine R_V1i (pc := 2) dX8_post_2 sv_RX8_129 (hsh _ _ rfl) (j_isPost b sh M hsh i hi (by omega)) (Nat.le_of_ble_eq_true rfl) (by decide) ?_
  refine R_if_eq (pc := 5) (tgt := 17) dX8_post_5 (by decide) (by omega) (fun h_5 => ?_) (fun h_5 => ?_)
  · refine R_iconst (pc := 17) dX8_post_17 ?_
    refine R_iret (pc := 18) dX8_post_18 ?_
    exact QM_ro hI FrM_r (by rw [ea]; omega)
  · refine R_aload_n (pc := 8) dX8_post_8 rfl ?_
    refine R_getR (pc := 9) dX8_post_9 fl_RX8_13 rfl (hsh _ _ rfl) rfl ?_
    refine R_iload_n (pc := 12) dX8_post_12 rfl ?_
    refine R_iald (pc := 13) dX8_post_13 (hsh _ _ rfl) (by omega) (roM_j (h := 0) (i := i) (by omega) (by omega)) ?_
    refine R_goto (pc := 14) (tgt := 18) dX8_post_14 (by decide) ?_
    refine R_iret (pc := 18) dX8_post_18 ?_
    exact QM_ro hI FrM_r (by rw [ea]; omega)
theorem j_walker (b : Nat) (sh : Shp) (M : Mem) {B : Int} (hsh : Hm sh) (hI : IS (absM M) B) (w what : Int) (hi : inR w) (hj : inR what) : C0 2 mX8_walker b sh M [vr b 72, vi w, vi what] (QM M (absM M) (a_walker (absM M) w what)) := by
  have hw : 0 ≤ moM M 0 1 ∧ moM M 0 1 ≤ 4 := hI.1.2.1
  have ea : a_walker (absM M) w what = if (0 ≤ w ∧ w ≤ moM M 0 1 - 1) ∧ 0 ≤ what ∧ what ≤ 1 then (if what = 0 then moM M 2 w else moM M 3 w) else -1 := rfl
  refine MC_of (ls := [some (vr b 72), some (vi w), some (vi what)]) (by decide) rfl (Nat.le_of_ble_eq_true rfl) ?_
  refine R_aload_n (pc := 0) dX8_walker_0 rfl ?_
  refine R_iload_n (pc := 1) dX8_walker_1 rfl ?_
  refine R_V1i (pc := 2) dX8_walker_2 sv_RX8_132 (hsh _ _ rfl) (j_isWalker b sh M hsh w hi (by omega)) (Nat.le_of_ble_eq_true rfl) (by decide) ?_
  refine R_if_eq (pc := 5) (tgt := 18) dX8_walker_5 (by decide) (by omega) (fun h_5 => ?_) (fun h_5 => ?_)
  · refine R_iconst (pc := 18) dX8_walker_18 ?_
    refine R_iret (pc := 19) dX8_walker_19 ?_
    exact QM_ro hI FrM_r (by rw [ea]; omega)
  · refine R_iload_n (pc := 8) dX8_walker_8 rfl ?_
    refine R_i2l (pc := 9) dX8_walker_9 (by omega) ?_
    refine R_lconst (pc := 10) dX8_walker_10 (x := 0) rfl ?_
    refine R_lconst (pc := 11) dX8_walker_11 (x := 1) rfl ?_
    refine R_S3i (pc := 12) dX8_walker_12 ss_RX8_69 (j_in b sh M _ _ _ hj (by omega) (by omega)) (Nat.le_of_ble_eq_true rfl) (by decide) ?_
    refine R_if_ne (pc := 15) (tgt := 20) dX8_walker_15 (by decide) (by omega) (fun h_15 => ?_) (fun h_15 => ?_)
    · refine R_aload_n (pc := 20) dX8_walker_20 rfl ?_
      refine R_getR (pc := 21) dX8_walker_21 fl_RX8_7 rfl (hsh _ _ rfl) rfl ?_
      refine R_iload_n (pc := 24) dX8_walker_24 rfl ?_
      refine R_if_ne (pc := 25) (tgt := 35) dX8_walker_25 (by decide) (by omega) (fun h_25 => ?_) (fun h_25 => ?_)
      · refine R_bipush (pc := 35) dX8_walker_35 rfl ?_
        refine R_iload_n (pc := 37) dX8_walker_37 rfl ?_
        refine R_iadd (pc := 38) dX8_walker_38 ?_
        refine R_iald (pc := 39) dX8_walker_39 (hsh _ _ rfl) (by omega) ((by first | exact mM_k (by omega) | exact mM_r (by omega))) ?_
        refine R_iret (pc := 40) dX8_walker_40 ?_
        exact QM_ro hI FrM_r (by rw [ea]; omega)
      · refine R_bipush (pc := 28) dX8_walker_28 rfl ?_
        refine R_iload_n (pc := 30) dX8_walker_30 rfl ?_
        refine R_iadd (pc := 31) dX8_walker_31 ?_
        refine R_goto (pc := 32) (tgt := 39) dX8_walker_32 (by decide) ?_
        refine R_iald (pc := 39) dX8_walker_39 (hsh _ _ rfl) (by omega) ((by first | exact mM_k (by omega) | exact mM_r (by omega))) ?_
        refine R_iret (pc := 40) dX8_walker_40 ?_
        exact QM_ro hI FrM_r (by rw [ea]; omega)
    · refine R_iconst (pc := 18) dX8_walker_18 ?_
      refine R_iret (pc := 19) dX8_walker_19 ?_
      exact QM_ro hI FrM_r (by rw [ea]; omega)
theorem j_thing (b : Nat) (sh : Shp) (M : Mem) {B : Int} (hsh : Hm sh) (hI : IS (absM M) B) (t what : Int) (hi : inR t) (hj : inR what) : C0 2 mX8_thing b sh M [vr b 72, vi t, vi what] (QM M (absM M) (a_thing (absM M) t what)) := by
  have ht : 0 ≤ moM M 0 2 ∧ moM M 0 2 ≤ 6 := hI.1.2.2.1
  have ea : a_thing (absM M) t what = if (0 ≤ t ∧ t ≤ moM M 0 2 - 1) ∧ 0 ≤ what ∧ what ≤ 2 then (if what = 2 then sb (roM M 0 17) t else if what = 0 then moM M 4 t else moM M 5 t) else -1 := rfl
  have h17 : 0 ≤ roM M 0 17 ∧ roM M 0 17 < 64 := hI.2.2.1.2.2.1
  refine MC_of (ls := [some (vr b 72), some (vi t), some (vi what)]) (by decide) rfl (Nat.le_of_ble_eq_true rfl) ?_
  refine R_aload_n (pc := 0) dX8_thing_0 rfl ?_
  refine R_iload_n (pc := 1) dX8_thing_1 rfl ?_
  refine R_V1i (pc := 2) dX8_thing_2 sv_RX8_135 (hsh _ _ rfl) (j_isThing b sh M hsh t hi (by omega)) (Nat.le_of_ble_eq_true rfl) (by decide) ?_
  refine R_if_eq (pc := 5) (tgt := 20) dX8_thing_5 (by decide) (by omega) (fun h_5 => ?_) (fun h_5 => ?_)
  · refine R_iconst (pc := 20) dX8_thing_20 ?_
    refine R_iret (pc := 21) dX8_thing_21 ?_
    exact QM_ro hI FrM_r (by rw [ea]; first | omega | (simp only [sb]; omega))
  · refine R_iload_n (pc := 8) dX8_thing_8 rfl ?_
    refine R_i2l (pc := 9) dX8_thing_9 (by omega) ?_
    refine R_lconst (pc := 10) dX8_thing_10 (x := 0) rfl ?_
    refine R_ldc2 (pc := 11) (x := 2) dX8_thing_11 kl_RX8_138 rfl ?_
    refine R_S3i (pc := 14) dX8_thing_14 ss_RX8_69 (j_in b sh M _ _ _ hj (by omega) (by omega)) (Nat.le_of_ble_eq_true rfl) (by decide) ?_
    refine R_if_ne (pc := 17) (tgt := 22) dX8_thing_17 (by decide) (by omega) (fun h_17 => ?_) (fun h_17 => ?_)
    · refine R_iload_n (pc := 22) dX8_thing_22 rfl ?_
      refine R_if_ne (pc := 23) (tgt := 38) dX8_thing_23 (by decide) (by omega) (fun h_23 => ?_) (fun h_23 => ?_)
      · refine R_iload_n (pc := 38) dX8_thing_38 rfl ?_
        refine R_iconst (pc := 39) dX8_thing_39 ?_
        refine R_cmp_ne (pc := 40) (tgt := 55) dX8_thing_40 (by decide) (by omega) (fun h_40 => ?_) (fun h_40 => ?_)
        · refine R_aload_n (pc := 55) dX8_thing_55 rfl ?_
          refine R_getR (pc := 56) dX8_thing_56 fl_RX8_13 rfl (hsh _ _ rfl) rfl ?_
          refine R_bipush (pc := 59) dX8_thing_59 rfl ?_
          refine R_iald (pc := 61) dX8_thing_61 (hsh _ _ rfl) (by omega) (roM_j (h := 0) (i := 17) (by omega) (by omega)) ?_
          refine R_iload_n (pc := 62) dX8_thing_62 rfl ?_
          refine R_ishr (pc := 63) dX8_thing_63 (by omega) ?_
          refine R_iconst (pc := 64) dX8_thing_64 ?_
          refine R_and1 (pc := 65) dX8_thing_65 ?_
          refine R_iret (pc := 66) dX8_thing_66 ?_
          exact QM_ro hI FrM_r (by rw [ea]; first | omega | (simp only [sb]; omega))
        · refine R_aload_n (pc := 43) dX8_thing_43 rfl ?_
          refine R_getR (pc := 44) dX8_thing_44 fl_RX8_7 rfl (hsh _ _ rfl) rfl ?_
          refine R_bipush (pc := 47) dX8_thing_47 rfl ?_
          refine R_iload_n (pc := 49) dX8_thing_49 rfl ?_
          refine R_iadd (pc := 50) dX8_thing_50 ?_
          refine R_iald (pc := 51) dX8_thing_51 (hsh _ _ rfl) (by omega) (mM_y (by omega)) ?_
          refine R_goto (pc := 52) (tgt := 66) dX8_thing_52 (by decide) ?_
          refine R_iret (pc := 66) dX8_thing_66 ?_
          exact QM_ro hI FrM_r (by rw [ea]; first | omega | (simp only [sb]; omega))
      · refine R_aload_n (pc := 26) dX8_thing_26 rfl ?_
        refine R_getR (pc := 27) dX8_thing_27 fl_RX8_7 rfl (hsh _ _ rfl) rfl ?_
        refine R_bipush (pc := 30) dX8_thing_30 rfl ?_
        refine R_iload_n (pc := 32) dX8_thing_32 rfl ?_
        refine R_iadd (pc := 33) dX8_thing_33 ?_
        refine R_iald (pc := 34) dX8_thing_34 (hsh _ _ rfl) (by omega) (mM_p (by omega)) ?_
        refine R_goto (pc := 35) (tgt := 66) dX8_thing_35 (by decide) ?_
        refine R_iret (pc := 66) dX8_thing_66 ?_
        exact QM_ro hI FrM_r (by rw [ea]; first | omega | (simp only [sb]; omega))
    · refine R_iconst (pc := 20) dX8_thing_20 ?_
      refine R_iret (pc := 21) dX8_thing_21 ?_
      exact QM_ro hI FrM_r (by rw [ea]; first | omega | (simp only [sb]; omega))
theorem j_day (b : Nat) (sh : Shp) (M : Mem) {B : Int} (hsh : Hm sh) (hI : IS (absM M) B) (d what : Int) (hi : inR d) (hj : inR what) : C0 2 mX8_day b sh M [vr b 72, vi d, vi what] (QM M (absM M) (a_day (absM M) d what)) := by
  have ea : a_day (absM M) d what = if (0 ≤ d ∧ d ≤ 199) ∧ 0 ≤ what ∧ what ≤ 1 then (if what = 0 then wkS (moM M) d (moM M 0 3).toNat else fogAt (moM M) d) else -1 := rfl
  have hf : fogAt (moM M) d = 0 ∨ fogAt (moM M) d = 1 := hI.1.2.2.2.2.2.2.2.2.2.2.2.2 (d % 10)
  refine MC_of (ls := [some (vr b 72), some (vi d), some (vi what)]) (by decide) rfl (Nat.le_of_ble_eq_true rfl) ?_
  refine R_iload_n (pc := 0) dX8_day_0 rfl ?_
  refine R_i2l (pc := 1) dX8_day_1 (by omega) ?_
  refine R_lconst (pc := 2) dX8_day_2 (x := 0) rfl ?_
  refine R_ldc2 (pc := 3) (x := 199) dX8_day_3 kl_RX8_140 rfl ?_
  refine R_S3i (pc := 6) dX8_day_6 ss_RX8_69 (j_in b sh M _ _ _ hi (by omega) (by omega)) (Nat.le_of_ble_eq_true rfl) (by decide) ?_
  refine R_if_eq (pc := 9) (tgt := 22) dX8_day_9 (by decide) (by omega) (fun h_9 => ?_) (fun h_9 => ?_)
  · refine R_iconst (pc := 22) dX8_day_22 ?_
    refine R_iret (pc := 23) dX8_day_23 ?_
    exact QM_ro hI FrM_r (by rw [ea]; omega)
  · refine R_iload_n (pc := 12) dX8_day_12 rfl ?_
    refine R_i2l (pc := 13) dX8_day_13 (by omega) ?_
    refine R_lconst (pc := 14) dX8_day_14 (x := 0) rfl ?_
    refine R_lconst (pc := 15) dX8_day_15 (x := 1) rfl ?_
    refine R_S3i (pc := 16) dX8_day_16 ss_RX8_69 (j_in b sh M _ _ _ hj (by omega) (by omega)) (Nat.le_of_ble_eq_true rfl) (by decide) ?_
    refine R_if_ne (pc := 19) (tgt := 24) dX8_day_19 (by decide) (by omega) (fun h_19 => ?_) (fun h_19 => ?_)
    · refine R_iload_n (pc := 24) dX8_day_24 rfl ?_
      refine R_if_ne (pc := 25) (tgt := 36) dX8_day_25 (by decide) (by omega) (fun h_25 => ?_) (fun h_25 => ?_)
      · refine R_aload_n (pc := 36) dX8_day_36 rfl ?_
        refine R_iload_n (pc := 37) dX8_day_37 rfl ?_
        refine R_V1i (pc := 38) dX8_day_38 sv_RX8_145 (hsh _ _ rfl) (j_isFog b sh M hsh hI.1.2.2.2.2.1 d (by omega)) (Nat.le_of_ble_eq_true rfl) (by decide) ?_
        refine R_if_eq (pc := 41) (tgt := 48) dX8_day_41 (by decide) (by omega) (fun h_41 => ?_) (fun h_41 => ?_)
        · refine R_iconst (pc := 48) dX8_day_48 ?_
          refine R_iret (pc := 49) dX8_day_49 ?_
          exact QM_ro hI FrM_r (by rw [ea]; omega)
        · refine R_iconst (pc := 44) dX8_day_44 ?_
          refine R_goto (pc := 45) (tgt := 49) dX8_day_45 (by decide) ?_
          refine R_iret (pc := 49) dX8_day_49 ?_
          exact QM_ro hI FrM_r (by rw [ea]; omega)
      · refine R_aload_n (pc := 28) dX8_day_28 rfl ?_
        refine R_iload_n (pc := 29) dX8_day_29 rfl ?_
        refine R_V1i (pc := 30) dX8_day_30 sv_RX8_142 (hsh _ _ rfl) (j_walksOn b sh M hsh hI.1 d (by omega)) (Nat.le_of_ble_eq_true rfl) (by decide) ?_
        refine R_goto (pc := 33) (tgt := 49) dX8_day_33 (by decide) ?_
        refine R_iret (pc := 49) dX8_day_49 ?_
        exact QM_ro hI FrM_r (by rw [ea]; omega)
    · refine R_iconst (pc := 22) dX8_day_22 ?_
      refine R_iret (pc := 23) dX8_day_23 ?_
      exact QM_ro hI FrM_r (by rw [ea]; omega)
theorem j_length (b : Nat) (sh : Shp) (M : Mem) {B : Int} (hsh : Hm sh) (hI : IS (absM M) B) : C0 2 mX8_length b sh M [vr b 72] (QM M (absM M) (a_length (absM M))) := by
  have h := j_lengthOf b sh M hsh 0 (by omega) rfl hI.1.1 (roM M 0) hI.2.2.1
  rw [pm_self] at h
  refine MC_of (ls := [some (vr b 72)]) (by decide) rfl (Nat.le_of_ble_eq_true rfl) ?_
  refine R_aload_n (pc := 0) dX8_length_0 rfl ?_
  refine R_iconst (pc := 1) dX8_length_1 ?_
  refine R_V1i (pc := 2) dX8_length_2 sv_RX8_189 (hsh _ _ rfl) (h) (Nat.le_of_ble_eq_true rfl) (by decide) ?_
  refine R_iret (pc := 5) dX8_length_5 ?_
  exact QM_ro hI FrM_r rfl
theorem j_milestone (b : Nat) (sh : Shp) (M : Mem) {B : Int} (hsh : Hm sh) (hI : IS (absM M) B) (k : Int) (hj : inR k) : C0 2 mX8_milestone b sh M [vr b 72, vi k] (QM M (absM M) (a_milestone (absM M) k)) := by
  have hn : 5 ≤ moM M 0 0 ∧ moM M 0 0 ≤ 16 := hI.1.1
  have ea : a_milestone (absM M) k = if 1 ≤ k ∧ k ≤ 99 then msn (moM M 0 0) (roM M 0) (20 * k) else -1 := rfl
  have hf : WFr (roM M 0) B := hI.2.2.1
  have L : 1 ≤ k ∧ k ≤ 99 → ∀ (n : Nat) (i : Int), 1 ≤ i → i ≤ moM M 0 0 → moM M 0 0 - i < n → MW yX8_milestone cX8_milestone 5 (some .int) (rmD 2 0 0) (FM (QM M (absM M) (a_milestone (absM M) k)) b sh 0 0) b sh.length 0 0 21 [some (vr b 72), some (vi k), some (vi (lnS (roM M 0) (i - 1).toNat)), some (vi (laS (roM M 0) (20 * k) (i - 1).toNat)), some (vi i)] [] sh (M) := by
    intro hk n
    induction n with
    | zero => intro i h1 h2 h3; exact absurd h3 (by omega)
    | succ n ih =>
      intro i h1 h2 h3
      have g := lnS_in hf (i - 1).toNat (by omega)
      have ls := lnS_s (ro := roM M 0) h1
      have la := laS_s (ro := roM M 0) (far := 20 * k) h1
      refine R_iload (pc := 21) dX8_milestone_21 rfl ?_
      refine R_aload_n (pc := 23) dX8_milestone_23 rfl ?_
      refine R_getR (pc := 24) dX8_milestone_24 fl_RX8_7 rfl (hsh _ _ rfl) rfl ?_
      refine R_iconst (pc := 27) dX8_milestone_27 ?_
      refine R_iald (pc := 28) dX8_milestone_28 (hsh _ _ rfl) (by omega) (mM_0) ?_
      refine R_cmp_ge (pc := 29) (tgt := 78) dX8_milestone_29 (by decide) (by omega) (fun h_29 => ?_) (fun h_29 => ?_)
      · have e1 : i = moM M 0 0 := by omega
        subst e1
        refine R_iload_n (pc := 78) dX8_milestone_78 rfl ?_
        refine R_bipush (pc := 79) dX8_milestone_79 rfl ?_
        refine R_iload_n (pc := 81) dX8_milestone_81 rfl ?_
        refine R_imul (pc := 82) dX8_milestone_82 ?_
        refine R_cmp_ge (pc := 83) (tgt := 91) dX8_milestone_83 (by decide) (by omega) (fun h_83 => ?_) (fun h_83 => ?_)
        · refine R_iload_n (pc := 91) dX8_milestone_91 rfl ?_
          refine R_iret (pc := 92) dX8_milestone_92 ?_
          exact QM_ro hI FrM_r (by rw [ea]; unfold msn len; omega)
        · refine R_bipush (pc := 86) dX8_milestone_86 rfl ?_
          refine R_goto (pc := 88) (tgt := 92) dX8_milestone_88 (by decide) ?_
          refine R_iret (pc := 92) dX8_milestone_92 ?_
          exact QM_ro hI FrM_r (by rw [ea]; unfold msn len; omega)
      · have v1 := hf.1 i (by omega) (by omega)
        have v2 := hf.1 (i - 1) (by omega) (by omega)
        have g' := lnS_in hf i.toNat (by omega)
        refine R_iload_n (pc := 32) dX8_milestone_32 rfl ?_
        refine R_bipush (pc := 33) dX8_milestone_33 rfl ?_
        refine R_aload_n (pc := 35) dX8_milestone_35 rfl ?_
        refine R_getR (pc := 36) dX8_milestone_36 fl_RX8_13 rfl (hsh _ _ rfl) rfl ?_
        refine R_iload (pc := 39) dX8_milestone_39 rfl ?_
        refine R_iald (pc := 41) dX8_milestone_41 (hsh _ _ rfl) (by omega) (roM_j (h := 0) (i := i) (by omega) (by omega)) ?_
        refine R_aload_n (pc := 42) dX8_milestone_42 rfl ?_
        refine R_getR (pc := 43) dX8_milestone_43 fl_RX8_13 rfl (hsh _ _ rfl) rfl ?_
        refine R_iload (pc := 46) dX8_milestone_46 rfl ?_
        refine R_iconst (pc := 48) dX8_milestone_48 ?_
        refine R_isub (pc := 49) dX8_milestone_49 ?_
        refine R_iald (pc := 50) dX8_milestone_50 (hsh _ _ rfl) (by omega) (roM_j (h := 0) (i := i - 1) (by omega) (by omega)) ?_
        refine R_S2i (pc := 51) dX8_milestone_51 ss_RX8_152 (j_apart b sh _ _ _ (by omega) (by omega)) (Nat.le_of_ble_eq_true rfl) (by decide) ?_
        refine R_iadd (pc := 54) dX8_milestone_54 ?_
        refine R_iadd (pc := 55) dX8_milestone_55 ?_
        refine R_istore_n (pc := 56) dX8_milestone_56 (by decide) rfl rfl ?_
        refine R_iload_n (pc := 57) dX8_milestone_57 rfl ?_
        refine R_bipush (pc := 58) dX8_milestone_58 rfl ?_
        refine R_iload_n (pc := 60) dX8_milestone_60 rfl ?_
        refine R_imul (pc := 61) dX8_milestone_61 ?_
        refine R_cmp_gt (pc := 62) (tgt := 70) dX8_milestone_62 (by decide) (by omega) (fun h_62 => ?_) (fun h_62 => ?_)
        · refine R_iload_n (pc := 70) dX8_milestone_70 rfl ?_
          refine R_istore_n (pc := 71) dX8_milestone_71 (by decide) rfl rfl ?_
          refine R_iinc (pc := 72) dX8_milestone_72 rfl (by decide) rfl rfl ?_
          refine R_goto (pc := 75) (tgt := 21) dX8_milestone_75 (by decide) ?_
          have hx := ih (i + 1) (by omega) (by omega) (by omega)
          rw [show i + 1 - 1 = i by omega, la, ls] at hx
          first
            | (rw [if_neg (by omega)] at hx; exact hx)
            | (rw [if_pos (by omega)] at hx; exact hx)
        · refine R_iload (pc := 65) dX8_milestone_65 rfl ?_
          refine R_goto (pc := 67) (tgt := 71) dX8_milestone_67 (by decide) ?_
          refine R_istore_n (pc := 71) dX8_milestone_71 (by decide) rfl rfl ?_
          refine R_iinc (pc := 72) dX8_milestone_72 rfl (by decide) rfl rfl ?_
          refine R_goto (pc := 75) (tgt := 21) dX8_milestone_75 (by decide) ?_
          have hx := ih (i + 1) (by omega) (by omega) (by omega)
          rw [show i + 1 - 1 = i by omega, la, ls] at hx
          first
            | (rw [if_neg (by omega)] at hx; exact hx)
            | (rw [if_pos (by omega)] at hx; exact hx)
  refine MC_of (ls := [some (vr b 72), some (vi k), none, none, none]) (by decide) rfl (Nat.le_of_ble_eq_true rfl) ?_
  refine R_iload_n (pc := 0) dX8_milestone_0 rfl ?_
  refine R_i2l (pc := 1) dX8_milestone_1 (by omega) ?_
  refine R_lconst (pc := 2) dX8_milestone_2 (x := 1) rfl ?_
  refine R_ldc2 (pc := 3) (x := 99) dX8_milestone_3 kl_RX8_192 rfl ?_
  refine R_S3i (pc := 6) dX8_milestone_6 ss_RX8_69 (j_in b sh M _ _ _ hj (by omega) (by omega)) (Nat.le_of_ble_eq_true rfl) (by decide) ?_
  refine R_if_ne (pc := 9) (tgt := 14) dX8_milestone_9 (by decide) (by omega) (fun h_9 => ?_) (fun h_9 => ?_)
  · refine R_iconst (pc := 14) dX8_milestone_14 ?_
    refine R_istore_n (pc := 15) dX8_milestone_15 (by decide) rfl rfl ?_
    refine R_iconst (pc := 16) dX8_milestone_16 ?_
    refine R_istore_n (pc := 17) dX8_milestone_17 (by decide) rfl rfl ?_
    refine R_iconst (pc := 18) dX8_milestone_18 ?_
    refine R_istore (pc := 19) dX8_milestone_19 (by decide) rfl rfl ?_
    exact L (by omega) 20 1 (by omega) (by omega) (by omega)
  · refine R_iconst (pc := 12) dX8_milestone_12 ?_
    refine R_iret (pc := 13) dX8_milestone_13 ?_
    exact QM_ro hI FrM_r (by rw [ea]; omega)
theorem j_crooks (b : Nat) (sh : Shp) (M : Mem) {B : Int} (hsh : Hm sh) (hI : IS (absM M) B) (what : Int) (hj : inR what) : C0 2 mX8_crooks b sh M [vr b 72, vi what] (QM M (absM M) (a_crooks (absM M) what)) := by
  have hn : 5 ≤ moM M 0 0 ∧ moM M 0 0 ≤ 16 := hI.1.1
  have ea : a_crooks (absM M) what = if 0 ≤ what ∧ what ≤ 1 then (if what = 0 then crS (roM M 0) (moM M 0 0 - 2).toNat else knS (roM M 0) (moM M 0 0 - 1).toNat) else -1 := rfl
  have hf : WFr (roM M 0) B := hI.2.2.1
  have L : 0 ≤ what ∧ what ≤ 1 → ∀ (n : Nat) (i c : Int), 1 ≤ i → i ≤ moM M 0 0 → moM M 0 0 - i < n → c = crS (roM M 0) (if i < moM M 0 0 then (i - 1).toNat else (moM M 0 0 - 2).toNat) → MW yX8_crooks cX8_crooks 7 (some .int) (rmD 2 0 0) (FM (QM M (absM M) (a_crooks (absM M) what)) b sh 0 0) b sh.length 0 0 19 [some (vr b 72), some (vi what), some (vi c), some (vi (knS (roM M 0) (i - 1).toNat)), some (vi i), none, none] [] sh (M) := by
    intro hk n
    induction n with
    | zero => intro i c h1 h2 h3; exact absurd h3 (by omega)
    | succ n ih =>
      intro i c h1 h2 h3 hc
      have gk := knS_in (ro := roM M 0) (i - 1).toNat
      have gc := crS_in (ro := roM M 0) (if i < moM M 0 0 then (i - 1).toNat else (moM M 0 0 - 2).toNat)
      rw [← hc] at gc
      by_cases hlt : i < moM M 0 0
      · rw [if_pos hlt] at hc gc
        have v1 := hf.1 i (by omega) (by omega)
        have v2 := hf.1 (i - 1) (by omega) (by omega)
        have ck := knS_s (ro := roM M 0) h1
        have cc := crS_s (ro := roM M 0) h1
        have r0 : M 74 i = roM M 0 i := roM_j (by omega) (by omega)
        have r1 : M 74 (i - 1) = roM M 0 (i - 1) := roM_j (by omega) (by omega)
        have hnext : ∀ (c' k' : Int), c' = crS (roM M 0) (if i + 1 < moM M 0 0 then (i + 1 - 1).toNat else (moM M 0 0 - 2).toNat) → k' = knS (roM M 0) i.toNat → MW yX8_crooks cX8_crooks 7 (some .int) (rmD 2 0 0) (FM (QM M (absM M) (a_crooks (absM M) what)) b sh 0 0) b sh.length 0 0 195 [some (vr b 72), some (vi what), some (vi c'), some (vi k'), some (vi i), none, none] [] sh (M) := by
          intro c' k' e1 e2
          refine R_iinc (pc := 195) dX8_crooks_195 rfl (by decide) rfl rfl ?_
          refine R_goto (pc := 198) (tgt := 19) dX8_crooks_198 (by decide) ?_
          have hx := ih (i + 1) c' (by omega) (by omega) (by omega) e1
          rw [show i + 1 - 1 = i by omega, ← e2] at hx
          exact hx
        by_cases hl2 : i < moM M 0 0 - 1
        · have v3 := hf.1 (i + 1) (by omega) (by omega)
          have r2 : M 74 (i + 1) = roM M 0 (i + 1) := roM_j (by omega) (by omega)
          rw [if_pos (show i + 1 < moM M 0 0 by omega), show i + 1 - 1 = i by omega, cc, ck, ← hc] at hnext
          refine R_iload (pc := 19) dX8_crooks_19 rfl ?_
          refine R_aload_n (pc := 21) dX8_crooks_21 rfl ?_
          refine R_getR (pc := 22) dX8_crooks_22 fl_RX8_7 rfl (hsh _ _ rfl) rfl ?_
          refine R_iconst (pc := 25) dX8_crooks_25 ?_
          refine R_iald (pc := 26) dX8_crooks_26 (hsh _ _ rfl) (by omega) (mM_0) ?_
          refine R_cmp_ge (pc := 27) (tgt := 201) dX8_crooks_27 (by decide) (by omega) (fun h_27 => ?_) (fun h_27 => ?_)
          · exact absurd h_27 (by omega)
          · refine R_iload_n (pc := 30) dX8_crooks_30 rfl ?_
            refine R_aload_n (pc := 31) dX8_crooks_31 rfl ?_
            refine R_getR (pc := 32) dX8_crooks_32 fl_RX8_13 rfl (hsh _ _ rfl) rfl ?_
            refine R_iload (pc := 35) dX8_crooks_35 rfl ?_
            refine R_iald (pc := 37) dX8_crooks_37 (hsh _ _ rfl) (by omega) (r0) ?_
            refine R_aload_n (pc := 38) dX8_crooks_38 rfl ?_
            refine R_getR (pc := 39) dX8_crooks_39 fl_RX8_13 rfl (hsh _ _ rfl) rfl ?_
            refine R_iload (pc := 42) dX8_crooks_42 rfl ?_
            refine R_iconst (pc := 44) dX8_crooks_44 ?_
            refine R_isub (pc := 45) dX8_crooks_45 ?_
            refine R_iald (pc := 46) dX8_crooks_46 (hsh _ _ rfl) (by omega) (r1) ?_
            refine R_S2i (pc := 47) dX8_crooks_47 ss_RX8_152 (j_apart b sh _ _ _ (by omega) (by omega)) (Nat.le_of_ble_eq_true rfl) (by decide) ?_
            refine R_iconst (pc := 50) dX8_crooks_50 ?_
            refine R_cmp_lt (pc := 51) (tgt := 58) dX8_crooks_51 (by decide) (by simp only [ab]; omega) (fun h_51 => ?_) (fun h_51 => ?_)
            · refine R_iconst (pc := 58) dX8_crooks_58 ?_
              refine R_iadd (pc := 59) dX8_crooks_59 ?_
              refine R_istore_n (pc := 60) dX8_crooks_60 (by decide) rfl rfl ?_
              refine R_iload (pc := 61) dX8_crooks_61 rfl ?_
              refine R_aload_n (pc := 63) dX8_crooks_63 rfl ?_
              refine R_getR (pc := 64) dX8_crooks_64 fl_RX8_7 rfl (hsh _ _ rfl) rfl ?_
              refine R_iconst (pc := 67) dX8_crooks_67 ?_
              refine R_iald (pc := 68) dX8_crooks_68 (hsh _ _ rfl) (by omega) (mM_0) ?_
              refine R_iconst (pc := 69) dX8_crooks_69 ?_
              refine R_isub (pc := 70) dX8_crooks_70 ?_
              refine R_cmp_ge (pc := 71) (tgt := 116) dX8_crooks_71 (by decide) (by omega) (fun h_71 => ?_) (fun h_71 => ?_)
              · exact absurd h_71 (by omega)
              · refine R_aload_n (pc := 74) dX8_crooks_74 rfl ?_
                refine R_getR (pc := 75) dX8_crooks_75 fl_RX8_13 rfl (hsh _ _ rfl) rfl ?_
                refine R_iload (pc := 78) dX8_crooks_78 rfl ?_
                refine R_iald (pc := 80) dX8_crooks_80 (hsh _ _ rfl) (by omega) (r0) ?_
                refine R_aload_n (pc := 81) dX8_crooks_81 rfl ?_
                refine R_getR (pc := 82) dX8_crooks_82 fl_RX8_13 rfl (hsh _ _ rfl) rfl ?_
                refine R_iload (pc := 85) dX8_crooks_85 rfl ?_
                refine R_iconst (pc := 87) dX8_crooks_87 ?_
                refine R_isub (pc := 88) dX8_crooks_88 ?_
                refine R_iald (pc := 89) dX8_crooks_89 (hsh _ _ rfl) (by omega) (r1) ?_
                refine R_cmp_le (pc := 90) (tgt := 116) dX8_crooks_90 (by decide) (by omega) (fun h_90 => ?_) (fun h_90 => ?_)
                · refine R_iconst (pc := 116) dX8_crooks_116 ?_
                  refine R_istore (pc := 117) dX8_crooks_117 (by decide) rfl rfl ?_
                  refine R_iload (pc := 119) dX8_crooks_119 rfl ?_
                  refine R_aload_n (pc := 121) dX8_crooks_121 rfl ?_
                  refine R_getR (pc := 122) dX8_crooks_122 fl_RX8_7 rfl (hsh _ _ rfl) rfl ?_
                  refine R_iconst (pc := 125) dX8_crooks_125 ?_
                  refine R_iald (pc := 126) dX8_crooks_126 (hsh _ _ rfl) (by omega) (mM_0) ?_
                  refine R_iconst (pc := 127) dX8_crooks_127 ?_
                  refine R_isub (pc := 128) dX8_crooks_128 ?_
                  refine R_cmp_ge (pc := 129) (tgt := 174) dX8_crooks_129 (by decide) (by omega) (fun h_129 => ?_) (fun h_129 => ?_)
                  · exact absurd h_129 (by omega)
                  · refine R_aload_n (pc := 132) dX8_crooks_132 rfl ?_
                    refine R_getR (pc := 133) dX8_crooks_133 fl_RX8_13 rfl (hsh _ _ rfl) rfl ?_
                    refine R_iload (pc := 136) dX8_crooks_136 rfl ?_
                    refine R_iald (pc := 138) dX8_crooks_138 (hsh _ _ rfl) (by omega) (r0) ?_
                    refine R_aload_n (pc := 139) dX8_crooks_139 rfl ?_
                    refine R_getR (pc := 140) dX8_crooks_140 fl_RX8_13 rfl (hsh _ _ rfl) rfl ?_
                    refine R_iload (pc := 143) dX8_crooks_143 rfl ?_
                    refine R_iconst (pc := 145) dX8_crooks_145 ?_
                    refine R_isub (pc := 146) dX8_crooks_146 ?_
                    refine R_iald (pc := 147) dX8_crooks_147 (hsh _ _ rfl) (by omega) (r1) ?_
                    refine R_cmp_ge (pc := 148) (tgt := 174) dX8_crooks_148 (by decide) (by omega) (fun h_148 => ?_) (fun h_148 => ?_)
                    · refine R_iconst (pc := 174) dX8_crooks_174 ?_
                      refine R_istore (pc := 175) dX8_crooks_175 (by decide) rfl rfl ?_
                      refine R_iload_n (pc := 177) dX8_crooks_177 rfl ?_
                      refine R_iload (pc := 178) dX8_crooks_178 rfl ?_
                      refine R_if_ne (pc := 180) (tgt := 188) dX8_crooks_180 (by decide) (by omega) (fun h => absurd h (by decide)) (fun _ => ?_)
                      refine R_iload (pc := 183) dX8_crooks_183 rfl ?_
                      refine R_if_eq (pc := 185) (tgt := 192) dX8_crooks_185 (by decide) (by omega) (fun _ => ?_) (fun h => absurd h (by decide))
                      refine R_iconst (pc := 192) dX8_crooks_192 ?_
                      refine R_iadd (pc := 193) dX8_crooks_193 ?_
                      refine R_istore_n (pc := 194) dX8_crooks_194 (by decide) rfl rfl ?_
                      refine R_drop 5 rfl ?_
                      refine R_drop 6 rfl ?_
                      exact hnext _ _ (by simp only [crk]; omega) (by simp only [knt]; omega)
                    · refine R_aload_n (pc := 151) dX8_crooks_151 rfl ?_
                      refine R_getR (pc := 152) dX8_crooks_152 fl_RX8_13 rfl (hsh _ _ rfl) rfl ?_
                      refine R_iload (pc := 155) dX8_crooks_155 rfl ?_
                      refine R_iald (pc := 157) dX8_crooks_157 (hsh _ _ rfl) (by omega) (r0) ?_
                      refine R_aload_n (pc := 158) dX8_crooks_158 rfl ?_
                      refine R_getR (pc := 159) dX8_crooks_159 fl_RX8_13 rfl (hsh _ _ rfl) rfl ?_
                      refine R_iload (pc := 162) dX8_crooks_162 rfl ?_
                      refine R_iconst (pc := 164) dX8_crooks_164 ?_
                      refine R_iadd (pc := 165) dX8_crooks_165 ?_
                      refine R_iald (pc := 166) dX8_crooks_166 (hsh _ _ rfl) (by omega) (r2) ?_
                      refine R_cmp_ge (pc := 167) (tgt := 174) dX8_crooks_167 (by decide) (by omega) (fun h_167 => ?_) (fun h_167 => ?_)
                      · refine R_iconst (pc := 174) dX8_crooks_174 ?_
                        refine R_istore (pc := 175) dX8_crooks_175 (by decide) rfl rfl ?_
                        refine R_iload_n (pc := 177) dX8_crooks_177 rfl ?_
                        refine R_iload (pc := 178) dX8_crooks_178 rfl ?_
                        refine R_if_ne (pc := 180) (tgt := 188) dX8_crooks_180 (by decide) (by omega) (fun h => absurd h (by decide)) (fun _ => ?_)
                        refine R_iload (pc := 183) dX8_crooks_183 rfl ?_
                        refine R_if_eq (pc := 185) (tgt := 192) dX8_crooks_185 (by decide) (by omega) (fun _ => ?_) (fun h => absurd h (by decide))
                        refine R_iconst (pc := 192) dX8_crooks_192 ?_
                        refine R_iadd (pc := 193) dX8_crooks_193 ?_
                        refine R_istore_n (pc := 194) dX8_crooks_194 (by decide) rfl rfl ?_
                        refine R_drop 5 rfl ?_
                        refine R_drop 6 rfl ?_
                        exact hnext _ _ (by simp only [crk]; omega) (by simp only [knt]; omega)
                      · refine R_iconst (pc := 170) dX8_crooks_170 ?_
                        refine R_goto (pc := 171) (tgt := 175) dX8_crooks_171 (by decide) ?_
                        refine R_istore (pc := 175) dX8_crooks_175 (by decide) rfl rfl ?_
                        refine R_iload_n (pc := 177) dX8_crooks_177 rfl ?_
                        refine R_iload (pc := 178) dX8_crooks_178 rfl ?_
                        refine R_if_ne (pc := 180) (tgt := 188) dX8_crooks_180 (by decide) (by omega) (fun h => absurd h (by decide)) (fun _ => ?_)
                        refine R_iload (pc := 183) dX8_crooks_183 rfl ?_
                        refine R_if_eq (pc := 185) (tgt := 192) dX8_crooks_185 (by decide) (by omega) (fun h => absurd h (by decide)) (fun _ => ?_)
                        refine R_iconst (pc := 188) dX8_crooks_188 ?_
                        refine R_goto (pc := 189) (tgt := 193) dX8_crooks_189 (by decide) ?_
                        refine R_iadd (pc := 193) dX8_crooks_193 ?_
                        refine R_istore_n (pc := 194) dX8_crooks_194 (by decide) rfl rfl ?_
                        refine R_drop 5 rfl ?_
                        refine R_drop 6 rfl ?_
                        exact hnext _ _ (by simp only [crk]; omega) (by simp only [knt]; omega)
                · refine R_aload_n (pc := 93) dX8_crooks_93 rfl ?_
                  refine R_getR (pc := 94) dX8_crooks_94 fl_RX8_13 rfl (hsh _ _ rfl) rfl ?_
                  refine R_iload (pc := 97) dX8_crooks_97 rfl ?_
                  refine R_iald (pc := 99) dX8_crooks_99 (hsh _ _ rfl) (by omega) (r0) ?_
                  refine R_aload_n (pc := 100) dX8_crooks_100 rfl ?_
                  refine R_getR (pc := 101) dX8_crooks_101 fl_RX8_13 rfl (hsh _ _ rfl) rfl ?_
                  refine R_iload (pc := 104) dX8_crooks_104 rfl ?_
                  refine R_iconst (pc := 106) dX8_crooks_106 ?_
                  refine R_iadd (pc := 107) dX8_crooks_107 ?_
                  refine R_iald (pc := 108) dX8_crooks_108 (hsh _ _ rfl) (by omega) (r2) ?_
                  refine R_cmp_le (pc := 109) (tgt := 116) dX8_crooks_109 (by decide) (by omega) (fun h_109 => ?_) (fun h_109 => ?_)
                  · refine R_iconst (pc := 116) dX8_crooks_116 ?_
                    refine R_istore (pc := 117) dX8_crooks_117 (by decide) rfl rfl ?_
                    refine R_iload (pc := 119) dX8_crooks_119 rfl ?_
                    refine R_aload_n (pc := 121) dX8_crooks_121 rfl ?_
                    refine R_getR (pc := 122) dX8_crooks_122 fl_RX8_7 rfl (hsh _ _ rfl) rfl ?_
                    refine R_iconst (pc := 125) dX8_crooks_125 ?_
                    refine R_iald (pc := 126) dX8_crooks_126 (hsh _ _ rfl) (by omega) (mM_0) ?_
                    refine R_iconst (pc := 127) dX8_crooks_127 ?_
                    refine R_isub (pc := 128) dX8_crooks_128 ?_
                    refine R_cmp_ge (pc := 129) (tgt := 174) dX8_crooks_129 (by decide) (by omega) (fun h_129 => ?_) (fun h_129 => ?_)
                    · exact absurd h_129 (by omega)
                    · refine R_aload_n (pc := 132) dX8_crooks_132 rfl ?_
                      refine R_getR (pc := 133) dX8_crooks_133 fl_RX8_13 rfl (hsh _ _ rfl) rfl ?_
                      refine R_iload (pc := 136) dX8_crooks_136 rfl ?_
                      refine R_iald (pc := 138) dX8_crooks_138 (hsh _ _ rfl) (by omega) (r0) ?_
                      refine R_aload_n (pc := 139) dX8_crooks_139 rfl ?_
                      refine R_getR (pc := 140) dX8_crooks_140 fl_RX8_13 rfl (hsh _ _ rfl) rfl ?_
                      refine R_iload (pc := 143) dX8_crooks_143 rfl ?_
                      refine R_iconst (pc := 145) dX8_crooks_145 ?_
                      refine R_isub (pc := 146) dX8_crooks_146 ?_
                      refine R_iald (pc := 147) dX8_crooks_147 (hsh _ _ rfl) (by omega) (r1) ?_
                      refine R_cmp_ge (pc := 148) (tgt := 174) dX8_crooks_148 (by decide) (by omega) (fun h_148 => ?_) (fun h_148 => ?_)
                      · refine R_iconst (pc := 174) dX8_crooks_174 ?_
                        refine R_istore (pc := 175) dX8_crooks_175 (by decide) rfl rfl ?_
                        refine R_iload_n (pc := 177) dX8_crooks_177 rfl ?_
                        refine R_iload (pc := 178) dX8_crooks_178 rfl ?_
                        refine R_if_ne (pc := 180) (tgt := 188) dX8_crooks_180 (by decide) (by omega) (fun h => absurd h (by decide)) (fun _ => ?_)
                        refine R_iload (pc := 183) dX8_crooks_183 rfl ?_
                        refine R_if_eq (pc := 185) (tgt := 192) dX8_crooks_185 (by decide) (by omega) (fun _ => ?_) (fun h => absurd h (by decide))
                        refine R_iconst (pc := 192) dX8_crooks_192 ?_
                        refine R_iadd (pc := 193) dX8_crooks_193 ?_
                        refine R_istore_n (pc := 194) dX8_crooks_194 (by decide) rfl rfl ?_
                        refine R_drop 5 rfl ?_
                        refine R_drop 6 rfl ?_
                        exact hnext _ _ (by simp only [crk]; omega) (by simp only [knt]; omega)
                      · refine R_aload_n (pc := 151) dX8_crooks_151 rfl ?_
                        refine R_getR (pc := 152) dX8_crooks_152 fl_RX8_13 rfl (hsh _ _ rfl) rfl ?_
                        refine R_iload (pc := 155) dX8_crooks_155 rfl ?_
                        refine R_iald (pc := 157) dX8_crooks_157 (hsh _ _ rfl) (by omega) (r0) ?_
                        refine R_aload_n (pc := 158) dX8_crooks_158 rfl ?_
                        refine R_getR (pc := 159) dX8_crooks_159 fl_RX8_13 rfl (hsh _ _ rfl) rfl ?_
                        refine R_iload (pc := 162) dX8_crooks_162 rfl ?_
                        refine R_iconst (pc := 164) dX8_crooks_164 ?_
                        refine R_iadd (pc := 165) dX8_crooks_165 ?_
                        refine R_iald (pc := 166) dX8_crooks_166 (hsh _ _ rfl) (by omega) (r2) ?_
                        refine R_cmp_ge (pc := 167) (tgt := 174) dX8_crooks_167 (by decide) (by omega) (fun h_167 => ?_) (fun h_167 => ?_)
                        · refine R_iconst (pc := 174) dX8_crooks_174 ?_
                          refine R_istore (pc := 175) dX8_crooks_175 (by decide) rfl rfl ?_
                          refine R_iload_n (pc := 177) dX8_crooks_177 rfl ?_
                          refine R_iload (pc := 178) dX8_crooks_178 rfl ?_
                          refine R_if_ne (pc := 180) (tgt := 188) dX8_crooks_180 (by decide) (by omega) (fun h => absurd h (by decide)) (fun _ => ?_)
                          refine R_iload (pc := 183) dX8_crooks_183 rfl ?_
                          refine R_if_eq (pc := 185) (tgt := 192) dX8_crooks_185 (by decide) (by omega) (fun _ => ?_) (fun h => absurd h (by decide))
                          refine R_iconst (pc := 192) dX8_crooks_192 ?_
                          refine R_iadd (pc := 193) dX8_crooks_193 ?_
                          refine R_istore_n (pc := 194) dX8_crooks_194 (by decide) rfl rfl ?_
                          refine R_drop 5 rfl ?_
                          refine R_drop 6 rfl ?_
                          exact hnext _ _ (by simp only [crk]; omega) (by simp only [knt]; omega)
                        · refine R_iconst (pc := 170) dX8_crooks_170 ?_
                          refine R_goto (pc := 171) (tgt := 175) dX8_crooks_171 (by decide) ?_
                          refine R_istore (pc := 175) dX8_crooks_175 (by decide) rfl rfl ?_
                          refine R_iload_n (pc := 177) dX8_crooks_177 rfl ?_
                          refine R_iload (pc := 178) dX8_crooks_178 rfl ?_
                          refine R_if_ne (pc := 180) (tgt := 188) dX8_crooks_180 (by decide) (by omega) (fun h => absurd h (by decide)) (fun _ => ?_)
                          refine R_iload (pc := 183) dX8_crooks_183 rfl ?_
                          refine R_if_eq (pc := 185) (tgt := 192) dX8_crooks_185 (by decide) (by omega) (fun h => absurd h (by decide)) (fun _ => ?_)
                          refine R_iconst (pc := 188) dX8_crooks_188 ?_
                          refine R_goto (pc := 189) (tgt := 193) dX8_crooks_189 (by decide) ?_
                          refine R_iadd (pc := 193) dX8_crooks_193 ?_
                          refine R_istore_n (pc := 194) dX8_crooks_194 (by decide) rfl rfl ?_
                          refine R_drop 5 rfl ?_
                          refine R_drop 6 rfl ?_
                          exact hnext _ _ (by simp only [crk]; omega) (by simp only [knt]; omega)
                  · refine R_iconst (pc := 112) dX8_crooks_112 ?_
                    refine R_goto (pc := 113) (tgt := 117) dX8_crooks_113 (by decide) ?_
                    refine R_istore (pc := 117) dX8_crooks_117 (by decide) rfl rfl ?_
                    refine R_iload (pc := 119) dX8_crooks_119 rfl ?_
                    refine R_aload_n (pc := 121) dX8_crooks_121 rfl ?_
                    refine R_getR (pc := 122) dX8_crooks_122 fl_RX8_7 rfl (hsh _ _ rfl) rfl ?_
                    refine R_iconst (pc := 125) dX8_crooks_125 ?_
                    refine R_iald (pc := 126) dX8_crooks_126 (hsh _ _ rfl) (by omega) (mM_0) ?_
                    refine R_iconst (pc := 127) dX8_crooks_127 ?_
                    refine R_isub (pc := 128) dX8_crooks_128 ?_
                    refine R_cmp_ge (pc := 129) (tgt := 174) dX8_crooks_129 (by decide) (by omega) (fun h_129 => ?_) (fun h_129 => ?_)
                    · exact absurd h_129 (by omega)
                    · refine R_aload_n (pc := 132) dX8_crooks_132 rfl ?_
                      refine R_getR (pc := 133) dX8_crooks_133 fl_RX8_13 rfl (hsh _ _ rfl) rfl ?_
                      refine R_iload (pc := 136) dX8_crooks_136 rfl ?_
                      refine R_iald (pc := 138) dX8_crooks_138 (hsh _ _ rfl) (by omega) (r0) ?_
                      refine R_aload_n (pc := 139) dX8_crooks_139 rfl ?_
                      refine R_getR (pc := 140) dX8_crooks_140 fl_RX8_13 rfl (hsh _ _ rfl) rfl ?_
                      refine R_iload (pc := 143) dX8_crooks_143 rfl ?_
                      refine R_iconst (pc := 145) dX8_crooks_145 ?_
                      refine R_isub (pc := 146) dX8_crooks_146 ?_
                      refine R_iald (pc := 147) dX8_crooks_147 (hsh _ _ rfl) (by omega) (r1) ?_
                      refine R_cmp_ge (pc := 148) (tgt := 174) dX8_crooks_148 (by decide) (by omega) (fun h_148 => ?_) (fun h_148 => ?_)
                      · refine R_iconst (pc := 174) dX8_crooks_174 ?_
                        refine R_istore (pc := 175) dX8_crooks_175 (by decide) rfl rfl ?_
                        refine R_iload_n (pc := 177) dX8_crooks_177 rfl ?_
                        refine R_iload (pc := 178) dX8_crooks_178 rfl ?_
                        refine R_if_ne (pc := 180) (tgt := 188) dX8_crooks_180 (by decide) (by omega) (fun _ => ?_) (fun h => absurd h (by decide))
                        refine R_iconst (pc := 188) dX8_crooks_188 ?_
                        refine R_goto (pc := 189) (tgt := 193) dX8_crooks_189 (by decide) ?_
                        refine R_iadd (pc := 193) dX8_crooks_193 ?_
                        refine R_istore_n (pc := 194) dX8_crooks_194 (by decide) rfl rfl ?_
                        refine R_drop 5 rfl ?_
                        refine R_drop 6 rfl ?_
                        exact hnext _ _ (by simp only [crk]; omega) (by simp only [knt]; omega)
                      · refine R_aload_n (pc := 151) dX8_crooks_151 rfl ?_
                        refine R_getR (pc := 152) dX8_crooks_152 fl_RX8_13 rfl (hsh _ _ rfl) rfl ?_
                        refine R_iload (pc := 155) dX8_crooks_155 rfl ?_
                        refine R_iald (pc := 157) dX8_crooks_157 (hsh _ _ rfl) (by omega) (r0) ?_
                        refine R_aload_n (pc := 158) dX8_crooks_158 rfl ?_
                        refine R_getR (pc := 159) dX8_crooks_159 fl_RX8_13 rfl (hsh _ _ rfl) rfl ?_
                        refine R_iload (pc := 162) dX8_crooks_162 rfl ?_
                        refine R_iconst (pc := 164) dX8_crooks_164 ?_
                        refine R_iadd (pc := 165) dX8_crooks_165 ?_
                        refine R_iald (pc := 166) dX8_crooks_166 (hsh _ _ rfl) (by omega) (r2) ?_
                        refine R_cmp_ge (pc := 167) (tgt := 174) dX8_crooks_167 (by decide) (by omega) (fun h_167 => ?_) (fun h_167 => ?_)
                        · refine R_iconst (pc := 174) dX8_crooks_174 ?_
                          refine R_istore (pc := 175) dX8_crooks_175 (by decide) rfl rfl ?_
                          refine R_iload_n (pc := 177) dX8_crooks_177 rfl ?_
                          refine R_iload (pc := 178) dX8_crooks_178 rfl ?_
                          refine R_if_ne (pc := 180) (tgt := 188) dX8_crooks_180 (by decide) (by omega) (fun _ => ?_) (fun h => absurd h (by decide))
                          refine R_iconst (pc := 188) dX8_crooks_188 ?_
                          refine R_goto (pc := 189) (tgt := 193) dX8_crooks_189 (by decide) ?_
                          refine R_iadd (pc := 193) dX8_crooks_193 ?_
                          refine R_istore_n (pc := 194) dX8_crooks_194 (by decide) rfl rfl ?_
                          refine R_drop 5 rfl ?_
                          refine R_drop 6 rfl ?_
                          exact hnext _ _ (by simp only [crk]; omega) (by simp only [knt]; omega)
                        · refine R_iconst (pc := 170) dX8_crooks_170 ?_
                          refine R_goto (pc := 171) (tgt := 175) dX8_crooks_171 (by decide) ?_
                          refine R_istore (pc := 175) dX8_crooks_175 (by decide) rfl rfl ?_
                          refine R_iload_n (pc := 177) dX8_crooks_177 rfl ?_
                          refine R_iload (pc := 178) dX8_crooks_178 rfl ?_
                          refine R_if_ne (pc := 180) (tgt := 188) dX8_crooks_180 (by decide) (by omega) (fun _ => ?_) (fun h => absurd h (by decide))
                          refine R_iconst (pc := 188) dX8_crooks_188 ?_
                          refine R_goto (pc := 189) (tgt := 193) dX8_crooks_189 (by decide) ?_
                          refine R_iadd (pc := 193) dX8_crooks_193 ?_
                          refine R_istore_n (pc := 194) dX8_crooks_194 (by decide) rfl rfl ?_
                          refine R_drop 5 rfl ?_
                          refine R_drop 6 rfl ?_
                          exact hnext _ _ (by simp only [crk]; omega) (by simp only [knt]; omega)
            · refine R_iconst (pc := 54) dX8_crooks_54 ?_
              refine R_goto (pc := 55) (tgt := 59) dX8_crooks_55 (by decide) ?_
              refine R_iadd (pc := 59) dX8_crooks_59 ?_
              refine R_istore_n (pc := 60) dX8_crooks_60 (by decide) rfl rfl ?_
              refine R_iload (pc := 61) dX8_crooks_61 rfl ?_
              refine R_aload_n (pc := 63) dX8_crooks_63 rfl ?_
              refine R_getR (pc := 64) dX8_crooks_64 fl_RX8_7 rfl (hsh _ _ rfl) rfl ?_
              refine R_iconst (pc := 67) dX8_crooks_67 ?_
              refine R_iald (pc := 68) dX8_crooks_68 (hsh _ _ rfl) (by omega) (mM_0) ?_
              refine R_iconst (pc := 69) dX8_crooks_69 ?_
              refine R_isub (pc := 70) dX8_crooks_70 ?_
              refine R_cmp_ge (pc := 71) (tgt := 116) dX8_crooks_71 (by decide) (by omega) (fun h_71 => ?_) (fun h_71 => ?_)
              · exact absurd h_71 (by omega)
              · refine R_aload_n (pc := 74) dX8_crooks_74 rfl ?_
                refine R_getR (pc := 75) dX8_crooks_75 fl_RX8_13 rfl (hsh _ _ rfl) rfl ?_
                refine R_iload (pc := 78) dX8_crooks_78 rfl ?_
                refine R_iald (pc := 80) dX8_crooks_80 (hsh _ _ rfl) (by omega) (r0) ?_
                refine R_aload_n (pc := 81) dX8_crooks_81 rfl ?_
                refine R_getR (pc := 82) dX8_crooks_82 fl_RX8_13 rfl (hsh _ _ rfl) rfl ?_
                refine R_iload (pc := 85) dX8_crooks_85 rfl ?_
                refine R_iconst (pc := 87) dX8_crooks_87 ?_
                refine R_isub (pc := 88) dX8_crooks_88 ?_
                refine R_iald (pc := 89) dX8_crooks_89 (hsh _ _ rfl) (by omega) (r1) ?_
                refine R_cmp_le (pc := 90) (tgt := 116) dX8_crooks_90 (by decide) (by omega) (fun h_90 => ?_) (fun h_90 => ?_)
                · refine R_iconst (pc := 116) dX8_crooks_116 ?_
                  refine R_istore (pc := 117) dX8_crooks_117 (by decide) rfl rfl ?_
                  refine R_iload (pc := 119) dX8_crooks_119 rfl ?_
                  refine R_aload_n (pc := 121) dX8_crooks_121 rfl ?_
                  refine R_getR (pc := 122) dX8_crooks_122 fl_RX8_7 rfl (hsh _ _ rfl) rfl ?_
                  refine R_iconst (pc := 125) dX8_crooks_125 ?_
                  refine R_iald (pc := 126) dX8_crooks_126 (hsh _ _ rfl) (by omega) (mM_0) ?_
                  refine R_iconst (pc := 127) dX8_crooks_127 ?_
                  refine R_isub (pc := 128) dX8_crooks_128 ?_
                  refine R_cmp_ge (pc := 129) (tgt := 174) dX8_crooks_129 (by decide) (by omega) (fun h_129 => ?_) (fun h_129 => ?_)
                  · exact absurd h_129 (by omega)
                  · refine R_aload_n (pc := 132) dX8_crooks_132 rfl ?_
                    refine R_getR (pc := 133) dX8_crooks_133 fl_RX8_13 rfl (hsh _ _ rfl) rfl ?_
                    refine R_iload (pc := 136) dX8_crooks_136 rfl ?_
                    refine R_iald (pc := 138) dX8_crooks_138 (hsh _ _ rfl) (by omega) (r0) ?_
                    refine R_aload_n (pc := 139) dX8_crooks_139 rfl ?_
                    refine R_getR (pc := 140) dX8_crooks_140 fl_RX8_13 rfl (hsh _ _ rfl) rfl ?_
                    refine R_iload (pc := 143) dX8_crooks_143 rfl ?_
                    refine R_iconst (pc := 145) dX8_crooks_145 ?_
                    refine R_isub (pc := 146) dX8_crooks_146 ?_
                    refine R_iald (pc := 147) dX8_crooks_147 (hsh _ _ rfl) (by omega) (r1) ?_
                    refine R_cmp_ge (pc := 148) (tgt := 174) dX8_crooks_148 (by decide) (by omega) (fun h_148 => ?_) (fun h_148 => ?_)
                    · refine R_iconst (pc := 174) dX8_crooks_174 ?_
                      refine R_istore (pc := 175) dX8_crooks_175 (by decide) rfl rfl ?_
                      refine R_iload_n (pc := 177) dX8_crooks_177 rfl ?_
                      refine R_iload (pc := 178) dX8_crooks_178 rfl ?_
                      refine R_if_ne (pc := 180) (tgt := 188) dX8_crooks_180 (by decide) (by omega) (fun h => absurd h (by decide)) (fun _ => ?_)
                      refine R_iload (pc := 183) dX8_crooks_183 rfl ?_
                      refine R_if_eq (pc := 185) (tgt := 192) dX8_crooks_185 (by decide) (by omega) (fun _ => ?_) (fun h => absurd h (by decide))
                      refine R_iconst (pc := 192) dX8_crooks_192 ?_
                      refine R_iadd (pc := 193) dX8_crooks_193 ?_
                      refine R_istore_n (pc := 194) dX8_crooks_194 (by decide) rfl rfl ?_
                      refine R_drop 5 rfl ?_
                      refine R_drop 6 rfl ?_
                      exact hnext _ _ (by simp only [crk]; omega) (by simp only [knt]; omega)
                    · refine R_aload_n (pc := 151) dX8_crooks_151 rfl ?_
                      refine R_getR (pc := 152) dX8_crooks_152 fl_RX8_13 rfl (hsh _ _ rfl) rfl ?_
                      refine R_iload (pc := 155) dX8_crooks_155 rfl ?_
                      refine R_iald (pc := 157) dX8_crooks_157 (hsh _ _ rfl) (by omega) (r0) ?_
                      refine R_aload_n (pc := 158) dX8_crooks_158 rfl ?_
                      refine R_getR (pc := 159) dX8_crooks_159 fl_RX8_13 rfl (hsh _ _ rfl) rfl ?_
                      refine R_iload (pc := 162) dX8_crooks_162 rfl ?_
                      refine R_iconst (pc := 164) dX8_crooks_164 ?_
                      refine R_iadd (pc := 165) dX8_crooks_165 ?_
                      refine R_iald (pc := 166) dX8_crooks_166 (hsh _ _ rfl) (by omega) (r2) ?_
                      refine R_cmp_ge (pc := 167) (tgt := 174) dX8_crooks_167 (by decide) (by omega) (fun h_167 => ?_) (fun h_167 => ?_)
                      · refine R_iconst (pc := 174) dX8_crooks_174 ?_
                        refine R_istore (pc := 175) dX8_crooks_175 (by decide) rfl rfl ?_
                        refine R_iload_n (pc := 177) dX8_crooks_177 rfl ?_
                        refine R_iload (pc := 178) dX8_crooks_178 rfl ?_
                        refine R_if_ne (pc := 180) (tgt := 188) dX8_crooks_180 (by decide) (by omega) (fun h => absurd h (by decide)) (fun _ => ?_)
                        refine R_iload (pc := 183) dX8_crooks_183 rfl ?_
                        refine R_if_eq (pc := 185) (tgt := 192) dX8_crooks_185 (by decide) (by omega) (fun _ => ?_) (fun h => absurd h (by decide))
                        refine R_iconst (pc := 192) dX8_crooks_192 ?_
                        refine R_iadd (pc := 193) dX8_crooks_193 ?_
                        refine R_istore_n (pc := 194) dX8_crooks_194 (by decide) rfl rfl ?_
                        refine R_drop 5 rfl ?_
                        refine R_drop 6 rfl ?_
                        exact hnext _ _ (by simp only [crk]; omega) (by simp only [knt]; omega)
                      · refine R_iconst (pc := 170) dX8_crooks_170 ?_
                        refine R_goto (pc := 171) (tgt := 175) dX8_crooks_171 (by decide) ?_
                        refine R_istore (pc := 175) dX8_crooks_175 (by decide) rfl rfl ?_
                        refine R_iload_n (pc := 177) dX8_crooks_177 rfl ?_
                        refine R_iload (pc := 178) dX8_crooks_178 rfl ?_
                        refine R_if_ne (pc := 180) (tgt := 188) dX8_crooks_180 (by decide) (by omega) (fun h => absurd h (by decide)) (fun _ => ?_)
                        refine R_iload (pc := 183) dX8_crooks_183 rfl ?_
                        refine R_if_eq (pc := 185) (tgt := 192) dX8_crooks_185 (by decide) (by omega) (fun h => absurd h (by decide)) (fun _ => ?_)
                        refine R_iconst (pc := 188) dX8_crooks_188 ?_
                        refine R_goto (pc := 189) (tgt := 193) dX8_crooks_189 (by decide) ?_
                        refine R_iadd (pc := 193) dX8_crooks_193 ?_
                        refine R_istore_n (pc := 194) dX8_crooks_194 (by decide) rfl rfl ?_
                        refine R_drop 5 rfl ?_
                        refine R_drop 6 rfl ?_
                        exact hnext _ _ (by simp only [crk]; omega) (by simp only [knt]; omega)
                · refine R_aload_n (pc := 93) dX8_crooks_93 rfl ?_
                  refine R_getR (pc := 94) dX8_crooks_94 fl_RX8_13 rfl (hsh _ _ rfl) rfl ?_
                  refine R_iload (pc := 97) dX8_crooks_97 rfl ?_
                  refine R_iald (pc := 99) dX8_crooks_99 (hsh _ _ rfl) (by omega) (r0) ?_
                  refine R_aload_n (pc := 100) dX8_crooks_100 rfl ?_
                  refine R_getR (pc := 101) dX8_crooks_101 fl_RX8_13 rfl (hsh _ _ rfl) rfl ?_
                  refine R_iload (pc := 104) dX8_crooks_104 rfl ?_
                  refine R_iconst (pc := 106) dX8_crooks_106 ?_
                  refine R_iadd (pc := 107) dX8_crooks_107 ?_
                  refine R_iald (pc := 108) dX8_crooks_108 (hsh _ _ rfl) (by omega) (r2) ?_
                  refine R_cmp_le (pc := 109) (tgt := 116) dX8_crooks_109 (by decide) (by omega) (fun h_109 => ?_) (fun h_109 => ?_)
                  · refine R_iconst (pc := 116) dX8_crooks_116 ?_
                    refine R_istore (pc := 117) dX8_crooks_117 (by decide) rfl rfl ?_
                    refine R_iload (pc := 119) dX8_crooks_119 rfl ?_
                    refine R_aload_n (pc := 121) dX8_crooks_121 rfl ?_
                    refine R_getR (pc := 122) dX8_crooks_122 fl_RX8_7 rfl (hsh _ _ rfl) rfl ?_
                    refine R_iconst (pc := 125) dX8_crooks_125 ?_
                    refine R_iald (pc := 126) dX8_crooks_126 (hsh _ _ rfl) (by omega) (mM_0) ?_
                    refine R_iconst (pc := 127) dX8_crooks_127 ?_
                    refine R_isub (pc := 128) dX8_crooks_128 ?_
                    refine R_cmp_ge (pc := 129) (tgt := 174) dX8_crooks_129 (by decide) (by omega) (fun h_129 => ?_) (fun h_129 => ?_)
                    · exact absurd h_129 (by omega)
                    · refine R_aload_n (pc := 132) dX8_crooks_132 rfl ?_
                      refine R_getR (pc := 133) dX8_crooks_133 fl_RX8_13 rfl (hsh _ _ rfl) rfl ?_
                      refine R_iload (pc := 136) dX8_crooks_136 rfl ?_
                      refine R_iald (pc := 138) dX8_crooks_138 (hsh _ _ rfl) (by omega) (r0) ?_
                      refine R_aload_n (pc := 139) dX8_crooks_139 rfl ?_
                      refine R_getR (pc := 140) dX8_crooks_140 fl_RX8_13 rfl (hsh _ _ rfl) rfl ?_
                      refine R_iload (pc := 143) dX8_crooks_143 rfl ?_
                      refine R_iconst (pc := 145) dX8_crooks_145 ?_
                      refine R_isub (pc := 146) dX8_crooks_146 ?_
                      refine R_iald (pc := 147) dX8_crooks_147 (hsh _ _ rfl) (by omega) (r1) ?_
                      refine R_cmp_ge (pc := 148) (tgt := 174) dX8_crooks_148 (by decide) (by omega) (fun h_148 => ?_) (fun h_148 => ?_)
                      · refine R_iconst (pc := 174) dX8_crooks_174 ?_
                        refine R_istore (pc := 175) dX8_crooks_175 (by decide) rfl rfl ?_
                        refine R_iload_n (pc := 177) dX8_crooks_177 rfl ?_
                        refine R_iload (pc := 178) dX8_crooks_178 rfl ?_
                        refine R_if_ne (pc := 180) (tgt := 188) dX8_crooks_180 (by decide) (by omega) (fun h => absurd h (by decide)) (fun _ => ?_)
                        refine R_iload (pc := 183) dX8_crooks_183 rfl ?_
                        refine R_if_eq (pc := 185) (tgt := 192) dX8_crooks_185 (by decide) (by omega) (fun _ => ?_) (fun h => absurd h (by decide))
                        refine R_iconst (pc := 192) dX8_crooks_192 ?_
                        refine R_iadd (pc := 193) dX8_crooks_193 ?_
                        refine R_istore_n (pc := 194) dX8_crooks_194 (by decide) rfl rfl ?_
                        refine R_drop 5 rfl ?_
                        refine R_drop 6 rfl ?_
                        exact hnext _ _ (by simp only [crk]; omega) (by simp only [knt]; omega)
                      · refine R_aload_n (pc := 151) dX8_crooks_151 rfl ?_
                        refine R_getR (pc := 152) dX8_crooks_152 fl_RX8_13 rfl (hsh _ _ rfl) rfl ?_
                        refine R_iload (pc := 155) dX8_crooks_155 rfl ?_
                        refine R_iald (pc := 157) dX8_crooks_157 (hsh _ _ rfl) (by omega) (r0) ?_
                        refine R_aload_n (pc := 158) dX8_crooks_158 rfl ?_
                        refine R_getR (pc := 159) dX8_crooks_159 fl_RX8_13 rfl (hsh _ _ rfl) rfl ?_
                        refine R_iload (pc := 162) dX8_crooks_162 rfl ?_
                        refine R_iconst (pc := 164) dX8_crooks_164 ?_
                        refine R_iadd (pc := 165) dX8_crooks_165 ?_
                        refine R_iald (pc := 166) dX8_crooks_166 (hsh _ _ rfl) (by omega) (r2) ?_
                        refine R_cmp_ge (pc := 167) (tgt := 174) dX8_crooks_167 (by decide) (by omega) (fun h_167 => ?_) (fun h_167 => ?_)
                        · refine R_iconst (pc := 174) dX8_crooks_174 ?_
                          refine R_istore (pc := 175) dX8_crooks_175 (by decide) rfl rfl ?_
                          refine R_iload_n (pc := 177) dX8_crooks_177 rfl ?_
                          refine R_iload (pc := 178) dX8_crooks_178 rfl ?_
                          refine R_if_ne (pc := 180) (tgt := 188) dX8_crooks_180 (by decide) (by omega) (fun h => absurd h (by decide)) (fun _ => ?_)
                          refine R_iload (pc := 183) dX8_crooks_183 rfl ?_
                          refine R_if_eq (pc := 185) (tgt := 192) dX8_crooks_185 (by decide) (by omega) (fun _ => ?_) (fun h => absurd h (by decide))
                          refine R_iconst (pc := 192) dX8_crooks_192 ?_
                          refine R_iadd (pc := 193) dX8_crooks_193 ?_
                          refine R_istore_n (pc := 194) dX8_crooks_194 (by decide) rfl rfl ?_
                          refine R_drop 5 rfl ?_
                          refine R_drop 6 rfl ?_
                          exact hnext _ _ (by simp only [crk]; omega) (by simp only [knt]; omega)
                        · refine R_iconst (pc := 170) dX8_crooks_170 ?_
                          refine R_goto (pc := 171) (tgt := 175) dX8_crooks_171 (by decide) ?_
                          refine R_istore (pc := 175) dX8_crooks_175 (by decide) rfl rfl ?_
                          refine R_iload_n (pc := 177) dX8_crooks_177 rfl ?_
                          refine R_iload (pc := 178) dX8_crooks_178 rfl ?_
                          refine R_if_ne (pc := 180) (tgt := 188) dX8_crooks_180 (by decide) (by omega) (fun h => absurd h (by decide)) (fun _ => ?_)
                          refine R_iload (pc := 183) dX8_crooks_183 rfl ?_
                          refine R_if_eq (pc := 185) (tgt := 192) dX8_crooks_185 (by decide) (by omega) (fun h => absurd h (by decide)) (fun _ => ?_)
                          refine R_iconst (pc := 188) dX8_crooks_188 ?_
                          refine R_goto (pc := 189) (tgt := 193) dX8_crooks_189 (by decide) ?_
                          refine R_iadd (pc := 193) dX8_crooks_193 ?_
                          refine R_istore_n (pc := 194) dX8_crooks_194 (by decide) rfl rfl ?_
                          refine R_drop 5 rfl ?_
                          refine R_drop 6 rfl ?_
                          exact hnext _ _ (by simp only [crk]; omega) (by simp only [knt]; omega)
                  · refine R_iconst (pc := 112) dX8_crooks_112 ?_
                    refine R_goto (pc := 113) (tgt := 117) dX8_crooks_113 (by decide) ?_
                    refine R_istore (pc := 117) dX8_crooks_117 (by decide) rfl rfl ?_
                    refine R_iload (pc := 119) dX8_crooks_119 rfl ?_
                    refine R_aload_n (pc := 121) dX8_crooks_121 rfl ?_
                    refine R_getR (pc := 122) dX8_crooks_122 fl_RX8_7 rfl (hsh _ _ rfl) rfl ?_
                    refine R_iconst (pc := 125) dX8_crooks_125 ?_
                    refine R_iald (pc := 126) dX8_crooks_126 (hsh _ _ rfl) (by omega) (mM_0) ?_
                    refine R_iconst (pc := 127) dX8_crooks_127 ?_
                    refine R_isub (pc := 128) dX8_crooks_128 ?_
                    refine R_cmp_ge (pc := 129) (tgt := 174) dX8_crooks_129 (by decide) (by omega) (fun h_129 => ?_) (fun h_129 => ?_)
                    · exact absurd h_129 (by omega)
                    · refine R_aload_n (pc := 132) dX8_crooks_132 rfl ?_
                      refine R_getR (pc := 133) dX8_crooks_133 fl_RX8_13 rfl (hsh _ _ rfl) rfl ?_
                      refine R_iload (pc := 136) dX8_crooks_136 rfl ?_
                      refine R_iald (pc := 138) dX8_crooks_138 (hsh _ _ rfl) (by omega) (r0) ?_
                      refine R_aload_n (pc := 139) dX8_crooks_139 rfl ?_
                      refine R_getR (pc := 140) dX8_crooks_140 fl_RX8_13 rfl (hsh _ _ rfl) rfl ?_
                      refine R_iload (pc := 143) dX8_crooks_143 rfl ?_
                      refine R_iconst (pc := 145) dX8_crooks_145 ?_
                      refine R_isub (pc := 146) dX8_crooks_146 ?_
                      refine R_iald (pc := 147) dX8_crooks_147 (hsh _ _ rfl) (by omega) (r1) ?_
                      refine R_cmp_ge (pc := 148) (tgt := 174) dX8_crooks_148 (by decide) (by omega) (fun h_148 => ?_) (fun h_148 => ?_)
                      · refine R_iconst (pc := 174) dX8_crooks_174 ?_
                        refine R_istore (pc := 175) dX8_crooks_175 (by decide) rfl rfl ?_
                        refine R_iload_n (pc := 177) dX8_crooks_177 rfl ?_
                        refine R_iload (pc := 178) dX8_crooks_178 rfl ?_
                        refine R_if_ne (pc := 180) (tgt := 188) dX8_crooks_180 (by decide) (by omega) (fun _ => ?_) (fun h => absurd h (by decide))
                        refine R_iconst (pc := 188) dX8_crooks_188 ?_
                        refine R_goto (pc := 189) (tgt := 193) dX8_crooks_189 (by decide) ?_
                        refine R_iadd (pc := 193) dX8_crooks_193 ?_
                        refine R_istore_n (pc := 194) dX8_crooks_194 (by decide) rfl rfl ?_
                        refine R_drop 5 rfl ?_
                        refine R_drop 6 rfl ?_
                        exact hnext _ _ (by simp only [crk]; omega) (by simp only [knt]; omega)
                      · refine R_aload_n (pc := 151) dX8_crooks_151 rfl ?_
                        refine R_getR (pc := 152) dX8_crooks_152 fl_RX8_13 rfl (hsh _ _ rfl) rfl ?_
                        refine R_iload (pc := 155) dX8_crooks_155 rfl ?_
                        refine R_iald (pc := 157) dX8_crooks_157 (hsh _ _ rfl) (by omega) (r0) ?_
                        refine R_aload_n (pc := 158) dX8_crooks_158 rfl ?_
                        refine R_getR (pc := 159) dX8_crooks_159 fl_RX8_13 rfl (hsh _ _ rfl) rfl ?_
                        refine R_iload (pc := 162) dX8_crooks_162 rfl ?_
                        refine R_iconst (pc := 164) dX8_crooks_164 ?_
                        refine R_iadd (pc := 165) dX8_crooks_165 ?_
                        refine R_iald (pc := 166) dX8_crooks_166 (hsh _ _ rfl) (by omega) (r2) ?_
                        refine R_cmp_ge (pc := 167) (tgt := 174) dX8_crooks_167 (by decide) (by omega) (fun h_167 => ?_) (fun h_167 => ?_)
                        · refine R_iconst (pc := 174) dX8_crooks_174 ?_
                          refine R_istore (pc := 175) dX8_crooks_175 (by decide) rfl rfl ?_
                          refine R_iload_n (pc := 177) dX8_crooks_177 rfl ?_
                          refine R_iload (pc := 178) dX8_crooks_178 rfl ?_
                          refine R_if_ne (pc := 180) (tgt := 188) dX8_crooks_180 (by decide) (by omega) (fun _ => ?_) (fun h => absurd h (by decide))
                          refine R_iconst (pc := 188) dX8_crooks_188 ?_
                          refine R_goto (pc := 189) (tgt := 193) dX8_crooks_189 (by decide) ?_
                          refine R_iadd (pc := 193) dX8_crooks_193 ?_
                          refine R_istore_n (pc := 194) dX8_crooks_194 (by decide) rfl rfl ?_
                          refine R_drop 5 rfl ?_
                          refine R_drop 6 rfl ?_
                          exact hnext _ _ (by simp only [crk]; omega) (by simp only [knt]; omega)
                        · refine R_iconst (pc := 170) dX8_crooks_170 ?_
                          refine R_goto (pc := 171) (tgt := 175) dX8_crooks_171 (by decide) ?_
                          refine R_istore (pc := 175) dX8_crooks_175 (by decide) rfl rfl ?_
                          refine R_iload_n (pc := 177) dX8_crooks_177 rfl ?_
                          refine R_iload (pc := 178) dX8_crooks_178 rfl ?_
                          refine R_if_ne (pc := 180) (tgt := 188) dX8_crooks_180 (by decide) (by omega) (fun _ => ?_) (fun h => absurd h (by decide))
                          refine R_iconst (pc := 188) dX8_crooks_188 ?_
                          refine R_goto (pc := 189) (tgt := 193) dX8_crooks_189 (by decide) ?_
                          refine R_iadd (pc := 193) dX8_crooks_193 ?_
                          refine R_istore_n (pc := 194) dX8_crooks_194 (by decide) rfl rfl ?_
                          refine R_drop 5 rfl ?_
                          refine R_drop 6 rfl ?_
                          exact hnext _ _ (by simp only [crk]; omega) (by simp only [knt]; omega)
        · have e5 : i = moM M 0 0 - 1 := by omega
          rw [if_neg (show ¬ i + 1 < moM M 0 0 by omega), ck, show (moM M 0 0 - 2).toNat = (i - 1).toNat by omega, ← hc] at hnext
          refine R_iload (pc := 19) dX8_crooks_19 rfl ?_
          refine R_aload_n (pc := 21) dX8_crooks_21 rfl ?_
          refine R_getR (pc := 22) dX8_crooks_22 fl_RX8_7 rfl (hsh _ _ rfl) rfl ?_
          refine R_iconst (pc := 25) dX8_crooks_25 ?_
          refine R_iald (pc := 26) dX8_crooks_26 (hsh _ _ rfl) (by omega) (mM_0) ?_
          refine R_cmp_ge (pc := 27) (tgt := 201) dX8_crooks_27 (by decide) (by omega) (fun h_27 => ?_) (fun h_27 => ?_)
          · exact absurd h_27 (by omega)
          · refine R_iload_n (pc := 30) dX8_crooks_30 rfl ?_
            refine R_aload_n (pc := 31) dX8_crooks_31 rfl ?_
            refine R_getR (pc := 32) dX8_crooks_32 fl_RX8_13 rfl (hsh _ _ rfl) rfl ?_
            refine R_iload (pc := 35) dX8_crooks_35 rfl ?_
            refine R_iald (pc := 37) dX8_crooks_37 (hsh _ _ rfl) (by omega) (r0) ?_
            refine R_aload_n (pc := 38) dX8_crooks_38 rfl ?_
            refine R_getR (pc := 39) dX8_crooks_39 fl_RX8_13 rfl (hsh _ _ rfl) rfl ?_
            refine R_iload (pc := 42) dX8_crooks_42 rfl ?_
            refine R_iconst (pc := 44) dX8_crooks_44 ?_
            refine R_isub (pc := 45) dX8_crooks_45 ?_
            refine R_iald (pc := 46) dX8_crooks_46 (hsh _ _ rfl) (by omega) (r1) ?_
            refine R_S2i (pc := 47) dX8_crooks_47 ss_RX8_152 (j_apart b sh _ _ _ (by omega) (by omega)) (Nat.le_of_ble_eq_true rfl) (by decide) ?_
            refine R_iconst (pc := 50) dX8_crooks_50 ?_
            refine R_cmp_lt (pc := 51) (tgt := 58) dX8_crooks_51 (by decide) (by simp only [ab]; omega) (fun h_51 => ?_) (fun h_51 => ?_)
            · refine R_iconst (pc := 58) dX8_crooks_58 ?_
              refine R_iadd (pc := 59) dX8_crooks_59 ?_
              refine R_istore_n (pc := 60) dX8_crooks_60 (by decide) rfl rfl ?_
              refine R_iload (pc := 61) dX8_crooks_61 rfl ?_
              refine R_aload_n (pc := 63) dX8_crooks_63 rfl ?_
              refine R_getR (pc := 64) dX8_crooks_64 fl_RX8_7 rfl (hsh _ _ rfl) rfl ?_
              refine R_iconst (pc := 67) dX8_crooks_67 ?_
              refine R_iald (pc := 68) dX8_crooks_68 (hsh _ _ rfl) (by omega) (mM_0) ?_
              refine R_iconst (pc := 69) dX8_crooks_69 ?_
              refine R_isub (pc := 70) dX8_crooks_70 ?_
              refine R_cmp_ge (pc := 71) (tgt := 116) dX8_crooks_71 (by decide) (by omega) (fun h_71 => ?_) (fun h_71 => ?_)
              · refine R_iconst (pc := 116) dX8_crooks_116 ?_
                refine R_istore (pc := 117) dX8_crooks_117 (by decide) rfl rfl ?_
                refine R_iload (pc := 119) dX8_crooks_119 rfl ?_
                refine R_aload_n (pc := 121) dX8_crooks_121 rfl ?_
                refine R_getR (pc := 122) dX8_crooks_122 fl_RX8_7 rfl (hsh _ _ rfl) rfl ?_
                refine R_iconst (pc := 125) dX8_crooks_125 ?_
                refine R_iald (pc := 126) dX8_crooks_126 (hsh _ _ rfl) (by omega) (mM_0) ?_
                refine R_iconst (pc := 127) dX8_crooks_127 ?_
                refine R_isub (pc := 128) dX8_crooks_128 ?_
                refine R_cmp_ge (pc := 129) (tgt := 174) dX8_crooks_129 (by decide) (by omega) (fun h_129 => ?_) (fun h_129 => ?_)
                · refine R_iconst (pc := 174) dX8_crooks_174 ?_
                  refine R_istore (pc := 175) dX8_crooks_175 (by decide) rfl rfl ?_
                  refine R_iload_n (pc := 177) dX8_crooks_177 rfl ?_
                  refine R_iload (pc := 178) dX8_crooks_178 rfl ?_
                  refine R_if_ne (pc := 180) (tgt := 188) dX8_crooks_180 (by decide) (by omega) (fun h => absurd h (by decide)) (fun _ => ?_)
                  refine R_iload (pc := 183) dX8_crooks_183 rfl ?_
                  refine R_if_eq (pc := 185) (tgt := 192) dX8_crooks_185 (by decide) (by omega) (fun _ => ?_) (fun h => absurd h (by decide))
                  refine R_iconst (pc := 192) dX8_crooks_192 ?_
                  refine R_iadd (pc := 193) dX8_crooks_193 ?_
                  refine R_istore_n (pc := 194) dX8_crooks_194 (by decide) rfl rfl ?_
                  refine R_drop 5 rfl ?_
                  refine R_drop 6 rfl ?_
                  exact hnext _ _ (by omega) (by simp only [knt]; omega)
                · exact absurd h_129 (by omega)
              · exact absurd h_71 (by omega)
            · refine R_iconst (pc := 54) dX8_crooks_54 ?_
              refine R_goto (pc := 55) (tgt := 59) dX8_crooks_55 (by decide) ?_
              refine R_iadd (pc := 59) dX8_crooks_59 ?_
              refine R_istore_n (pc := 60) dX8_crooks_60 (by decide) rfl rfl ?_
              refine R_iload (pc := 61) dX8_crooks_61 rfl ?_
              refine R_aload_n (pc := 63) dX8_crooks_63 rfl ?_
              refine R_getR (pc := 64) dX8_crooks_64 fl_RX8_7 rfl (hsh _ _ rfl) rfl ?_
              refine R_iconst (pc := 67) dX8_crooks_67 ?_
              refine R_iald (pc := 68) dX8_crooks_68 (hsh _ _ rfl) (by omega) (mM_0) ?_
              refine R_iconst (pc := 69) dX8_crooks_69 ?_
              refine R_isub (pc := 70) dX8_crooks_70 ?_
              refine R_cmp_ge (pc := 71) (tgt := 116) dX8_crooks_71 (by decide) (by omega) (fun h_71 => ?_) (fun h_71 => ?_)
              · refine R_iconst (pc := 116) dX8_crooks_116 ?_
                refine R_istore (pc := 117) dX8_crooks_117 (by decide) rfl rfl ?_
                refine R_iload (pc := 119) dX8_crooks_119 rfl ?_
                refine R_aload_n (pc := 121) dX8_crooks_121 rfl ?_
                refine R_getR (pc := 122) dX8_crooks_122 fl_RX8_7 rfl (hsh _ _ rfl) rfl ?_
                refine R_iconst (pc := 125) dX8_crooks_125 ?_
                refine R_iald (pc := 126) dX8_crooks_126 (hsh _ _ rfl) (by omega) (mM_0) ?_
                refine R_iconst (pc := 127) dX8_crooks_127 ?_
                refine R_isub (pc := 128) dX8_crooks_128 ?_
                refine R_cmp_ge (pc := 129) (tgt := 174) dX8_crooks_129 (by decide) (by omega) (fun h_129 => ?_) (fun h_129 => ?_)
                · refine R_iconst (pc := 174) dX8_crooks_174 ?_
                  refine R_istore (pc := 175) dX8_crooks_175 (by decide) rfl rfl ?_
                  refine R_iload_n (pc := 177) dX8_crooks_177 rfl ?_
                  refine R_iload (pc := 178) dX8_crooks_178 rfl ?_
                  refine R_if_ne (pc := 180) (tgt := 188) dX8_crooks_180 (by decide) (by omega) (fun h => absurd h (by decide)) (fun _ => ?_)
                  refine R_iload (pc := 183) dX8_crooks_183 rfl ?_
                  refine R_if_eq (pc := 185) (tgt := 192) dX8_crooks_185 (by decide) (by omega) (fun _ => ?_) (fun h => absurd h (by decide))
                  refine R_iconst (pc := 192) dX8_crooks_192 ?_
                  refine R_iadd (pc := 193) dX8_crooks_193 ?_
                  refine R_istore_n (pc := 194) dX8_crooks_194 (by decide) rfl rfl ?_
                  refine R_drop 5 rfl ?_
                  refine R_drop 6 rfl ?_
                  exact hnext _ _ (by omega) (by simp only [knt]; omega)
                · exact absurd h_129 (by omega)
              · exact absurd h_71 (by omega)
      · rw [if_neg hlt] at hc
        have e1 : i = moM M 0 0 := by omega
        subst e1
        refine R_iload (pc := 19) dX8_crooks_19 rfl ?_
        refine R_aload_n (pc := 21) dX8_crooks_21 rfl ?_
        refine R_getR (pc := 22) dX8_crooks_22 fl_RX8_7 rfl (hsh _ _ rfl) rfl ?_
        refine R_iconst (pc := 25) dX8_crooks_25 ?_
        refine R_iald (pc := 26) dX8_crooks_26 (hsh _ _ rfl) (by omega) (mM_0) ?_
        refine R_cmp_ge (pc := 27) (tgt := 201) dX8_crooks_27 (by decide) (by omega) (fun h_27 => ?_) (fun h_27 => ?_)
        · refine R_iload_n (pc := 201) dX8_crooks_201 rfl ?_
          refine R_if_ne (pc := 202) (tgt := 209) dX8_crooks_202 (by decide) (by omega) (fun h_202 => ?_) (fun h_202 => ?_)
          · refine R_iload_n (pc := 209) dX8_crooks_209 rfl ?_
            refine R_iret (pc := 210) dX8_crooks_210 ?_
            exact QM_ro hI FrM_r (by rw [ea]; omega)
          · refine R_iload_n (pc := 205) dX8_crooks_205 rfl ?_
            refine R_goto (pc := 206) (tgt := 210) dX8_crooks_206 (by decide) ?_
            refine R_iret (pc := 210) dX8_crooks_210 ?_
            exact QM_ro hI FrM_r (by rw [ea]; omega)
        · exact absurd h_27 (by omega)
  refine MC_of (ls := [some (vr b 72), some (vi what), none, none, none, none, none]) (by decide) rfl (Nat.le_of_ble_eq_true rfl) ?_
  refine R_iload_n (pc := 0) dX8_crooks_0 rfl ?_
  refine R_i2l (pc := 1) dX8_crooks_1 (by omega) ?_
  refine R_lconst (pc := 2) dX8_crooks_2 (x := 0) rfl ?_
  refine R_lconst (pc := 3) dX8_crooks_3 (x := 1) rfl ?_
  refine R_S3i (pc := 4) dX8_crooks_4 ss_RX8_69 (j_in b sh M _ _ _ hj (by omega) (by omega)) (Nat.le_of_ble_eq_true rfl) (by decide) ?_
  refine R_if_ne (pc := 7) (tgt := 12) dX8_crooks_7 (by decide) (by omega) (fun h_7 => ?_) (fun h_7 => ?_)
  · refine R_iconst (pc := 12) dX8_crooks_12 ?_
    refine R_istore_n (pc := 13) dX8_crooks_13 (by decide) rfl rfl ?_
    refine R_iconst (pc := 14) dX8_crooks_14 ?_
    refine R_istore_n (pc := 15) dX8_crooks_15 (by decide) rfl rfl ?_
    refine R_iconst (pc := 16) dX8_crooks_16 ?_
    refine R_istore (pc := 17) dX8_crooks_17 (by decide) rfl rfl ?_
    exact L (by omega) 20 1 0 (by omega) (by omega) (by omega) (by rw [if_pos (by omega)]; rfl)
  · refine R_iconst (pc := 10) dX8_crooks_10 ?_
    refine R_iret (pc := 11) dX8_crooks_11 ?_
    exact QM_ro hI FrM_r (by rw [ea]; omega)
theorem mM_pm {M : Mem} {h : Int} {f : Rd} : moM (putM M h f) = moM M := by
  show moW (putM M h f 73) 0 = _
  rw [pm_c (by omega)]
theorem j_behind (b : Nat) (sh : Shp) (M : Mem) {B : Int} (hsh : Hm sh) (hI : IS (absM M) B) (hB : B ≤ 90000) (n i : Int) (hn0 : inR n) (hi : inR i) : C0 5 mX8_behind b sh M [vr b 72, vi n, vi i] (QM M (absM M) (a_behind (absM M) n i)) := by
  have hn : 5 ≤ moM M 0 0 ∧ moM M 0 0 ≤ 16 := hI.1.1
  have ea : a_behind (absM M) n i = if (0 ≤ n ∧ n ≤ 40) ∧ (i = -1 ∨ (0 ≤ i ∧ i ≤ moM M 0 0 - 1)) then (if i = -1 then len (moM M 0 0) (days (moM M) (roM M 0) n.toNat) else days (moM M) (roM M 0) n.toNat i) else -1 := rfl
  refine MC_of (ls := [some (vr b 72), some (vi n), some (vi i)]) (by decide) rfl (Nat.le_of_ble_eq_true rfl) ?_
  refine R_iload_n (pc := 0) dX8_behind_0 rfl ?_
  refine R_i2l (pc := 1) dX8_behind_1 (by omega) ?_
  refine R_lconst (pc := 2) dX8_behind_2 (x := 0) rfl ?_
  refine R_ldc2 (pc := 3) (x := 40) dX8_behind_3 kl_RX8_194 rfl ?_
  refine R_S3i (pc := 6) dX8_behind_6 ss_RX8_69 (j_in b sh M _ _ _ hn0 (by omega) (by omega)) (Nat.le_of_ble_eq_true rfl) (by decide) ?_
  refine R_if_eq (pc := 9) (tgt := 25) dX8_behind_9 (by decide) (by omega) (fun h_9 => ?_) (fun h_9 => ?_)
  · refine R_iconst (pc := 25) dX8_behind_25 ?_
    refine R_iret (pc := 26) dX8_behind_26 ?_
    exact QM_ro hI FrM_r (by rw [ea]; omega)
  · refine R_iload_n (pc := 12) dX8_behind_12 rfl ?_
    refine R_iconst (pc := 13) dX8_behind_13 ?_
    refine R_cmp_eq (pc := 14) (tgt := 27) dX8_behind_14 (by decide) (by omega) (fun h_14 => ?_) (fun h_14 => ?_)
    · refine R_aload_n (pc := 27) dX8_behind_27 rfl ?_
      refine R_iconst (pc := 28) dX8_behind_28 ?_
      refine R_sipush (pc := 29) dX8_behind_29 rfl ?_
      refine R_V2v (pc := 32) dX8_behind_32 sv_RX8_174 (hsh _ _ rfl) (j_copy b sh M hsh 0 209 (by omega) (by omega) (by omega)) (Nat.le_of_ble_eq_true rfl) (by decide) ?_
      refine R_aload_n (pc := 35) dX8_behind_35 rfl ?_
      refine R_sipush (pc := 36) dX8_behind_36 rfl ?_
      refine R_iload_n (pc := 39) dX8_behind_39 rfl ?_
      refine R_V2v (pc := 40) dX8_behind_40 sv_RX8_183 (hsh _ _ rfl) (j_passesMany b sh M hsh 209 (by omega) hI.1 (roM M 0) hI.2.2.1 n (by omega)) (Nat.le_of_ble_eq_true rfl) (by decide) ?_
      have hdy := (days_in hI.1 hI.2.2.1 n.toNat (by omega)).1
      refine R_iload_n (pc := 43) dX8_behind_43 rfl ?_
      refine R_iconst (pc := 44) dX8_behind_44 ?_
      refine R_cmp_ne (pc := 45) (tgt := 58) dX8_behind_45 (by decide) (by omega) (fun h_45 => ?_) (fun h_45 => ?_)
      · refine R_aload_n (pc := 58) dX8_behind_58 rfl ?_
        refine R_getR (pc := 59) dX8_behind_59 fl_RX8_13 rfl (hsh _ _ rfl) rfl ?_
        refine R_sipush (pc := 62) dX8_behind_62 rfl ?_
        refine R_iload_n (pc := 65) dX8_behind_65 rfl ?_
        refine R_iadd (pc := 66) dX8_behind_66 ?_
        refine R_iald (pc := 67) dX8_behind_67 (hsh _ _ rfl) (by omega) (pm_i (by omega)) ?_
        refine R_iret (pc := 68) dX8_behind_68 ?_
        exact QM_ro hI (FrM_pm FrM_r (by omega)) (by rw [ea]; omega)
      · refine R_aload_n (pc := 48) dX8_behind_48 rfl ?_
        refine R_sipush (pc := 49) dX8_behind_49 rfl ?_
        refine R_V1i (pc := 52) dX8_behind_52 sv_RX8_189 (hsh _ _ rfl) (j_lengthOf b sh M hsh 209 (by omega) rfl hn _ hdy) (Nat.le_of_ble_eq_true rfl) (by decide) ?_
        refine R_goto (pc := 55) (tgt := 68) dX8_behind_55 (by decide) ?_
        refine R_iret (pc := 68) dX8_behind_68 ?_
        exact QM_ro hI (FrM_pm FrM_r (by omega)) (by rw [ea]; omega)
    · refine R_aload_n (pc := 17) dX8_behind_17 rfl ?_
      refine R_iload_n (pc := 18) dX8_behind_18 rfl ?_
      refine R_V1i (pc := 19) dX8_behind_19 sv_RX8_129 (hsh _ _ rfl) (j_isPost b sh M hsh i hi (by omega)) (Nat.le_of_ble_eq_true rfl) (by decide) ?_
      refine R_if_ne (pc := 22) (tgt := 27) dX8_behind_22 (by decide) (by omega) (fun h_22 => ?_) (fun h_22 => ?_)
      · refine R_aload_n (pc := 27) dX8_behind_27 rfl ?_
        refine R_iconst (pc := 28) dX8_behind_28 ?_
        refine R_sipush (pc := 29) dX8_behind_29 rfl ?_
        refine R_V2v (pc := 32) dX8_behind_32 sv_RX8_174 (hsh _ _ rfl) (j_copy b sh M hsh 0 209 (by omega) (by omega) (by omega)) (Nat.le_of_ble_eq_true rfl) (by decide) ?_
        refine R_aload_n (pc := 35) dX8_behind_35 rfl ?_
        refine R_sipush (pc := 36) dX8_behind_36 rfl ?_
        refine R_iload_n (pc := 39) dX8_behind_39 rfl ?_
        refine R_V2v (pc := 40) dX8_behind_40 sv_RX8_183 (hsh _ _ rfl) (j_passesMany b sh M hsh 209 (by omega) hI.1 (roM M 0) hI.2.2.1 n (by omega)) (Nat.le_of_ble_eq_true rfl) (by decide) ?_
        have hdy := (days_in hI.1 hI.2.2.1 n.toNat (by omega)).1
        refine R_iload_n (pc := 43) dX8_behind_43 rfl ?_
        refine R_iconst (pc := 44) dX8_behind_44 ?_
        refine R_cmp_ne (pc := 45) (tgt := 58) dX8_behind_45 (by decide) (by omega) (fun h_45 => ?_) (fun h_45 => ?_)
        · refine R_aload_n (pc := 58) dX8_behind_58 rfl ?_
          refine R_getR (pc := 59) dX8_behind_59 fl_RX8_13 rfl (hsh _ _ rfl) rfl ?_
          refine R_sipush (pc := 62) dX8_behind_62 rfl ?_
          refine R_iload_n (pc := 65) dX8_behind_65 rfl ?_
          refine R_iadd (pc := 66) dX8_behind_66 ?_
          refine R_iald (pc := 67) dX8_behind_67 (hsh _ _ rfl) (by omega) (pm_i (by omega)) ?_
          refine R_iret (pc := 68) dX8_behind_68 ?_
          exact QM_ro hI (FrM_pm FrM_r (by omega)) (by rw [ea]; omega)
        · refine R_aload_n (pc := 48) dX8_behind_48 rfl ?_
          refine R_sipush (pc := 49) dX8_behind_49 rfl ?_
          refine R_V1i (pc := 52) dX8_behind_52 sv_RX8_189 (hsh _ _ rfl) (j_lengthOf b sh M hsh 209 (by omega) rfl hn _ hdy) (Nat.le_of_ble_eq_true rfl) (by decide) ?_
          refine R_goto (pc := 55) (tgt := 68) dX8_behind_55 (by decide) ?_
          refine R_iret (pc := 68) dX8_behind_68 ?_
          exact QM_ro hI (FrM_pm FrM_r (by omega)) (by rw [ea]; omega)
      · refine R_iconst (pc := 25) dX8_behind_25 ?_
        refine R_iret (pc := 26) dX8_behind_26 ?_
        exact QM_ro hI FrM_r (by rw [ea]; omega)
theorem j_count (b : Nat) (sh : Shp) (M : Mem) {B : Int} (hsh : Hm sh) (hI : IS (absM M) B) (what : Int) (hj : inR what) : C0 2 mX8_count b sh M [vr b 72, vi what] (QM M (absM M) (a_count (absM M) what)) := by
  have ea : a_count (absM M) what = if what = 0 then moM M 0 0 else if what = 1 then moM M 0 1 else if what = 2 then moM M 0 2 else if what = 3 then roM M 0 16 else if what = 4 then cnt (roM M 0 17) else if what = 5 then M 72 10 else if what = 6 then M 72 13 else if what = 7 then M 72 2 else if what = 8 then M 72 3 else if what = 9 then M 72 5 else if what = 10 then roM M 0 18 else -1 := rfl
  have h17 : 0 ≤ roM M 0 17 ∧ roM M 0 17 < 64 := hI.2.2.1.2.2.1
  refine MC_of (ls := [some (vr b 72), some (vi what)]) (by decide) rfl (Nat.le_of_ble_eq_true rfl) ?_
  refine R_iload_n (pc := 0) dX8_count_0 rfl ?_
  by_cases h_1_0 : what = 0
  · refine R_tabIn (pc := 1) (off := 59) (tgt := 60) dX8_count_1 (by omega) (by omega) (by rw [h_1_0]; rfl) (by decide) ?_
    refine R_aload_n (pc := 60) dX8_count_60 rfl ?_
    refine R_getR (pc := 61) dX8_count_61 fl_RX8_7 rfl (hsh _ _ rfl) rfl ?_
    refine R_iconst (pc := 64) dX8_count_64 ?_
    refine R_iald (pc := 65) dX8_count_65 (hsh _ _ rfl) (by omega) (mM_0) ?_
    refine R_iret (pc := 66) dX8_count_66 ?_
    exact QM_ro hI FrM_r (by rw [ea]; omega)
  by_cases h_1_1 : what = 1
  · refine R_tabIn (off := 66) (tgt := 67) dX8_count_1 (by omega) (by omega) (by rw [h_1_1]; rfl) (by decide) ?_
    refine R_aload_n (pc := 67) dX8_count_67 rfl ?_
    refine R_getR (pc := 68) dX8_count_68 fl_RX8_7 rfl (hsh _ _ rfl) rfl ?_
    refine R_iconst (pc := 71) dX8_count_71 ?_
    refine R_iald (pc := 72) dX8_count_72 (hsh _ _ rfl) (by omega) (mM_1) ?_
    refine R_iret (pc := 73) dX8_count_73 ?_
    exact QM_ro hI FrM_r (by rw [ea]; omega)
  by_cases h_1_2 : what = 2
  · refine R_tabIn (off := 73) (tgt := 74) dX8_count_1 (by omega) (by omega) (by rw [h_1_2]; rfl) (by decide) ?_
    refine R_aload_n (pc := 74) dX8_count_74 rfl ?_
    refine R_getR (pc := 75) dX8_count_75 fl_RX8_7 rfl (hsh _ _ rfl) rfl ?_
    refine R_iconst (pc := 78) dX8_count_78 ?_
    refine R_iald (pc := 79) dX8_count_79 (hsh _ _ rfl) (by omega) (mM_2) ?_
    refine R_iret (pc := 80) dX8_count_80 ?_
    exact QM_ro hI FrM_r (by rw [ea]; omega)
  by_cases h_1_3 : what = 3
  · refine R_tabIn (off := 80) (tgt := 81) dX8_count_1 (by omega) (by omega) (by rw [h_1_3]; rfl) (by decide) ?_
    refine R_aload_n (pc := 81) dX8_count_81 rfl ?_
    refine R_getR (pc := 82) dX8_count_82 fl_RX8_13 rfl (hsh _ _ rfl) rfl ?_
    refine R_bipush (pc := 85) dX8_count_85 rfl ?_
    refine R_iald (pc := 87) dX8_count_87 (hsh _ _ rfl) (by omega) (roM_j (h := 0) (i := 16) (by omega) (by omega)) ?_
    refine R_iret (pc := 88) dX8_count_88 ?_
    exact QM_ro hI FrM_r (by rw [ea]; omega)
  by_cases h_1_4 : what = 4
  · refine R_tabIn (off := 88) (tgt := 89) dX8_count_1 (by omega) (by omega) (by rw [h_1_4]; rfl) (by decide) ?_
    refine R_aload_n (pc := 89) dX8_count_89 rfl ?_
    refine R_getR (pc := 90) dX8_count_90 fl_RX8_13 rfl (hsh _ _ rfl) rfl ?_
    refine R_bipush (pc := 93) dX8_count_93 rfl ?_
    refine R_iald (pc := 95) dX8_count_95 (hsh _ _ rfl) (by omega) (roM_j (h := 0) (i := 17) (by omega) (by omega)) ?_
    refine R_S1i (pc := 96) dX8_count_96 ss_RX8_186 (j_ones b sh M _ h17) (Nat.le_of_ble_eq_true rfl) (by decide) ?_
    refine R_iret (pc := 99) dX8_count_99 ?_
    exact QM_ro hI FrM_r (by rw [ea]; omega)
  by_cases h_1_5 : what = 5
  · refine R_tabIn (off := 99) (tgt := 100) dX8_count_1 (by omega) (by omega) (by rw [h_1_5]; rfl) (by decide) ?_
    refine R_aload_n (pc := 100) dX8_count_100 rfl ?_
    refine R_getI (pc := 101) (J := 10) dX8_count_101 fl_RX8_80 rfl rfl (hsh _ _ rfl) (rfl) ?_
    refine R_iret (pc := 104) dX8_count_104 ?_
    exact QM_ro hI FrM_r (by rw [ea]; omega)
  by_cases h_1_6 : what = 6
  · refine R_tabIn (off := 104) (tgt := 105) dX8_count_1 (by omega) (by omega) (by rw [h_1_6]; rfl) (by decide) ?_
    refine R_aload_n (pc := 105) dX8_count_105 rfl ?_
    refine R_getI (pc := 106) (J := 13) dX8_count_106 fl_RX8_83 rfl rfl (hsh _ _ rfl) (rfl) ?_
    refine R_iret (pc := 109) dX8_count_109 ?_
    exact QM_ro hI FrM_r (by rw [ea]; omega)
  by_cases h_1_7 : what = 7
  · refine R_tabIn (off := 109) (tgt := 110) dX8_count_1 (by omega) (by omega) (by rw [h_1_7]; rfl) (by decide) ?_
    refine R_aload_n (pc := 110) dX8_count_110 rfl ?_
    refine R_getI (pc := 111) (J := 2) dX8_count_111 fl_RX8_73 rfl rfl (hsh _ _ rfl) (rfl) ?_
    refine R_iret (pc := 114) dX8_count_114 ?_
    exact QM_ro hI FrM_r (by rw [ea]; omega)
  by_cases h_1_8 : what = 8
  · refine R_tabIn (off := 114) (tgt := 115) dX8_count_1 (by omega) (by omega) (by rw [h_1_8]; rfl) (by decide) ?_
    refine R_aload_n (pc := 115) dX8_count_115 rfl ?_
    refine R_getI (pc := 116) (J := 3) dX8_count_116 fl_RX8_77 rfl rfl (hsh _ _ rfl) (rfl) ?_
    refine R_iret (pc := 119) dX8_count_119 ?_
    exact QM_ro hI FrM_r (by rw [ea]; omega)
  by_cases h_1_9 : what = 9
  · refine R_tabIn (off := 119) (tgt := 120) dX8_count_1 (by omega) (by omega) (by rw [h_1_9]; rfl) (by decide) ?_
    refine R_aload_n (pc := 120) dX8_count_120 rfl ?_
    refine R_getI (pc := 121) (J := 5) dX8_count_121 fl_RX8_90 rfl rfl (hsh _ _ rfl) (rfl) ?_
    refine R_iret (pc := 124) dX8_count_124 ?_
    exact QM_ro hI FrM_r (by rw [ea]; omega)
  by_cases h_1_10 : what = 10
  · refine R_tabIn (off := 124) (tgt := 125) dX8_count_1 (by omega) (by omega) (by rw [h_1_10]; rfl) (by decide) ?_
    refine R_aload_n (pc := 125) dX8_count_125 rfl ?_
    refine R_getR (pc := 126) dX8_count_126 fl_RX8_13 rfl (hsh _ _ rfl) rfl ?_
    refine R_bipush (pc := 129) dX8_count_129 rfl ?_
    refine R_iald (pc := 131) dX8_count_131 (hsh _ _ rfl) (by omega) (roM_j (h := 0) (i := 18) (by omega) (by omega)) ?_
    refine R_iret (pc := 132) dX8_count_132 ?_
    exact QM_ro hI FrM_r (by rw [ea]; omega)
  refine R_tabOut (tgt := 133) dX8_count_1 (by omega) (by omega) (by decide) ?_
  refine R_iconst (pc := 133) dX8_count_133 ?_
  refine R_iret (pc := 134) dX8_count_134 ?_
  exact QM_ro hI FrM_r (by rw [ea]; omega)
