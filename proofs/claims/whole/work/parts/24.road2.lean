/-! nights, days -/
def stf (f : Rd) (i : Int) : Rd := fun j => if 1 ≤ j ∧ j < i then tw (f j) 30 else f j
theorem stf_1 {f : Rd} : stf f 1 = f := by funext j; unfold stf; rw [if_neg (by omega)]
theorem stf_s {f : Rd} {i : Int} (h : 1 ≤ i) : stf f (i + 1) = uF (stf f i) i (tw (f i) 30) := by
  funext j
  unfold stf uF
  by_cases hj : j = i
  · subst hj; rw [if_pos (by omega), if_pos rfl]
  · rw [if_neg hj]
    show _ = if 1 ≤ j ∧ j < i then tw (f j) 30 else f j
    by_cases h2 : 1 ≤ j ∧ j < i
    · rw [if_pos (by omega), if_pos h2]
    · rw [if_neg (by omega), if_neg h2]
theorem stf_i {f : Rd} {i : Int} : stf f i i = f i := by unfold stf; rw [if_neg (by omega)]
theorem night_a {N : Int} {f : Rd} (h : f 18 = 0) (hN : N ≤ 16) : uF (uF (stf f (N - 1)) 16 (f 16 + 1)) 18 0 = night N f := by
  funext j
  unfold uF night stf
  repeat' split
  all_goals first | rfl | omega | (simp_all; done)
theorem night_w {N : Int} {f : Rd} (h : ¬ f 18 = 0) : uF (uF f 16 (f 16 + 1)) 18 0 = night N f := by
  funext j
  unfold uF night
  repeat' split
  all_goals first | rfl | omega
theorem tb1 {y a : Int} : tb y a 1 = tw y a := by simp only [tb, tw]; omega
theorem k_goNight (b : Nat) (sh : Shp) (M : Mem) (r : Nat) (hr : isRd sh r) (f : Rd) {B : Int} (hf : WFr f B) {N : Int} (hN : M r 0 = N) (hN2 : 5 ≤ N ∧ N ≤ 16) : Ex 1 mX4_goNight b sh (putC M r f) [vr b r] (some (vi (if f 18 = 0 then 1 else 0))) (putC M r (night N f)) := by
  have hw := hf.2.2.2.1
  have hd16 := hf.2.1
  have hB := hf.2.2.2.2.2
  have en : ∀ g, putC M r g r 0 = N := fun g => (pc_n (Or.inl rfl)).trans hN
  have L : f 18 = 0 → ∀ (n : Nat) (i : Int), 1 ≤ i → i ≤ N - 1 → N - 1 - i < n → MW yX4_goNight cX4_goNight 3 (some .boolean) (rmD 1 0 0) (FM (EQ (some (vi (if f 18 = 0 then 1 else 0))) (putC M r (night N f))) b sh 0 0) b sh.length 0 0 19 [some (vr b r), some (vi 1), some (vi i)] [] sh (putC M r (stf f i)) := by
    intro hz n
    induction n with
    | zero => intro i h1 h2 h3; exact absurd h3 (by omega)
    | succ n ih =>
      intro i h1 h2 h3
      refine R_iload_n (pc := 19) dX4_goNight_19 rfl ?_
      refine R_aload_n (pc := 20) dX4_goNight_20 rfl ?_
      refine R_getI (pc := 21) (J := 0) dX4_goNight_21 fl_RX4_21 rfl rfl hr.1 (en _) ?_
      refine R_iconst (pc := 24) dX4_goNight_24 ?_
      refine R_isub (pc := 25) dX4_goNight_25 ?_
      refine R_cmp_ge (pc := 26) (tgt := 53) dX4_goNight_26 (by decide) (by omega) (fun h_26 => ?_) (fun h_26 => ?_)
      · have e1 : i = N - 1 := by omega
        subst e1
        have e16 : stf f (N - 1) 16 = f 16 := by unfold stf; rw [if_neg (by omega)]
        refine R_aload_n (pc := 53) dX4_goNight_53 rfl ?_
        refine R_dup (pc := 54) dX4_goNight_54 rfl ?_
        refine R_getI (pc := 55) (J := 2) dX4_goNight_55 fl_RX4_31 rfl rfl hr.1 (pc_d.trans e16) ?_
        refine R_iconst (pc := 58) dX4_goNight_58 ?_
        refine R_iadd (pc := 59) dX4_goNight_59 ?_
        refine R_putI (pc := 60) (J := 2) rfl dX4_goNight_60 fl_RX4_31 rfl (fun r h => by cases h; rfl) hr.1 (by omega) ?_
        rw [pcu_d]
        refine R_aload_n (pc := 63) dX4_goNight_63 rfl ?_
        refine R_iconst (pc := 64) dX4_goNight_64 ?_
        refine R_putZ (pc := 65) (J := 4) rfl dX4_goNight_65 fl_RX4_37 rfl (fun r h => by cases h; rfl) hr.1 (by omega) ?_
        rw [pcu_w]
        refine R_iload_n (pc := 68) dX4_goNight_68 rfl ?_
        refine R_zret (pc := 69) dX4_goNight_69 (by first | exact Or.inl rfl | exact Or.inr rfl | omega) ?_
        exact eqi (by rw [if_pos hz]) (by rw [night_a hz (by omega)])
      · have hv := hf.1 i (by omega) (by omega)
        refine R_aload_n (pc := 29) dX4_goNight_29 rfl ?_
        refine R_getR (pc := 30) dX4_goNight_30 fl_RX4_9 rfl hr.1 rfl ?_
        refine R_iload_n (pc := 33) dX4_goNight_33 rfl ?_
        refine R_aload_n (pc := 34) dX4_goNight_34 rfl ?_
        refine R_getR (pc := 35) dX4_goNight_35 fl_RX4_9 rfl hr.1 rfl ?_
        refine R_iload_n (pc := 38) dX4_goNight_38 rfl ?_
        refine R_iald (pc := 39) dX4_goNight_39 hr.2.1 (by omega) ((pc_y (by omega)).trans stf_i) ?_
        refine R_bipush (pc := 40) dX4_goNight_40 rfl ?_
        refine R_iconst (pc := 42) dX4_goNight_42 ?_
        refine R_S3i (pc := 43) dX4_goNight_43 ss_RX4_75 (k_toward b sh _ _ _ _ (by omega) (by omega) (by omega)) (Nat.le_of_ble_eq_true rfl) (by decide) ?_
        refine R_iast (pc := 46) dX4_goNight_46 hr.2.1 (by omega) (by simp only [tb]; omega) ?_
        rw [pcu_y (by omega), tb1, ← stf_s h1]
        refine R_iinc dX4_goNight_47 rfl (by decide) rfl rfl ?_
        refine R_goto (tgt := 19) dX4_goNight_50 (by decide) ?_
        exact ih (i + 1) (by omega) (by omega) (by omega)
  refine MC_of (ls := [some (vr b r), none, none]) (by decide) rfl (Nat.le_of_ble_eq_true rfl) ?_
  refine R_aload_n (pc := 0) dX4_goNight_0 rfl ?_
  refine R_getI (pc := 1) (J := 4) dX4_goNight_1 fl_RX4_37 rfl rfl hr.1 (pc_w) ?_
  refine R_if_ne (pc := 4) (tgt := 11) dX4_goNight_4 (by decide) (by omega) (fun h_4 => ?_) (fun h_4 => ?_)
  · refine R_iconst (pc := 11) dX4_goNight_11 ?_
    refine R_istore_n (pc := 12) dX4_goNight_12 (by decide) rfl rfl ?_
    refine R_iload_n (pc := 13) dX4_goNight_13 rfl ?_
    refine R_if_eq (pc := 14) (tgt := 53) dX4_goNight_14 (by decide) (by omega) (fun _ => ?_) (fun h => absurd h (by decide))
    refine R_aload_n (pc := 53) dX4_goNight_53 rfl ?_
    refine R_dup (pc := 54) dX4_goNight_54 rfl ?_
    refine R_getI (pc := 55) (J := 2) dX4_goNight_55 fl_RX4_31 rfl rfl hr.1 (pc_d) ?_
    refine R_iconst (pc := 58) dX4_goNight_58 ?_
    refine R_iadd (pc := 59) dX4_goNight_59 ?_
    refine R_putI (pc := 60) (J := 2) rfl dX4_goNight_60 fl_RX4_31 rfl (fun r h => by cases h; rfl) hr.1 (by omega) ?_
    rw [pcu_d]
    refine R_aload_n (pc := 63) dX4_goNight_63 rfl ?_
    refine R_iconst (pc := 64) dX4_goNight_64 ?_
    refine R_putZ (pc := 65) (J := 4) rfl dX4_goNight_65 fl_RX4_37 rfl (fun r h => by cases h; rfl) hr.1 (by omega) ?_
    rw [pcu_w]
    refine R_iload_n (pc := 68) dX4_goNight_68 rfl ?_
    refine R_zret (pc := 69) dX4_goNight_69 (by first | exact Or.inl rfl | exact Or.inr rfl | omega) ?_
    exact eqi (by rw [if_neg (by omega)]) (by rw [night_w (by omega)])
  · refine R_iconst (pc := 7) dX4_goNight_7 ?_
    refine R_goto (pc := 8) (tgt := 12) dX4_goNight_8 (by decide) ?_
    refine R_istore_n (pc := 12) dX4_goNight_12 (by decide) rfl rfl ?_
    refine R_iload_n (pc := 13) dX4_goNight_13 rfl ?_
    refine R_if_eq (pc := 14) (tgt := 53) dX4_goNight_14 (by decide) (by omega) (fun h => absurd h (by decide)) (fun _ => ?_)
    refine R_iconst (pc := 17) dX4_goNight_17 ?_
    refine R_istore_n (pc := 18) dX4_goNight_18 (by decide) rfl rfl ?_
    have := L (by omega) 20 1 (by omega) (by omega) (by omega)
    rw [stf_1] at this
    exact this
/-! fog -/
theorem k_isFoggy (b : Nat) (sh : Shp) (M : Mem) (hsh : Hc sh) (d : Int) (hd : 0 ≤ d ∧ d ≤ 1000000) (hM : inR (M 5 13)) : Ex 0 mX2_isFoggy b sh M [vr b 5, vi d] (some (vi (fogAt (moC M 5) d))) M := by
  have h01 := sb01 (M 5 13) (d % 10)
  have e : fogAt (moC M 5) d = sb (M 5 13) (d % 10) := by
    simp only [fogAt]
    exact moC_g (by omega)
  rw [e]
  refine MC_of (ls := [some (vr b 5), some (vi d)]) (by decide) rfl (Nat.le_of_ble_eq_true rfl) ?_
  refine R_aload_n (pc := 0) dX2_isFoggy_0 rfl ?_
  refine R_getI (pc := 1) (J := 13) dX2_isFoggy_1 fl_RX2_52 rfl rfl (hsh _ _ rfl) (rfl) ?_
  refine R_iload_n (pc := 4) dX2_isFoggy_4 rfl ?_
  refine R_bipush (pc := 5) dX2_isFoggy_5 rfl ?_
  refine R_irem (pc := 7) dX2_isFoggy_7 (by omega) ?_
  refine R_ishr (pc := 8) dX2_isFoggy_8 (by omega) ?_
  refine R_iconst (pc := 9) dX2_isFoggy_9 ?_
  refine R_and1 (pc := 10) dX2_isFoggy_10 ?_
  refine R_iconst (pc := 11) dX2_isFoggy_11 ?_
  refine R_cmp_ne (pc := 12) (tgt := 19) dX2_isFoggy_12 (by decide) (by omega) (fun h_12 => ?_) (fun h_12 => ?_)
  · refine R_iconst (pc := 19) dX2_isFoggy_19 ?_
    refine R_zret (pc := 20) dX2_isFoggy_20 (by first | exact Or.inl rfl | exact Or.inr rfl | omega) ?_
    exact eqi (by simp only [sb] at h01 ⊢; omega) rfl
  · refine R_iconst (pc := 15) dX2_isFoggy_15 ?_
    refine R_goto (pc := 16) (tgt := 20) dX2_isFoggy_16 (by decide) ?_
    refine R_zret (pc := 20) dX2_isFoggy_20 (by first | exact Or.inl rfl | exact Or.inr rfl | omega) ?_
    exact eqi (by simp only [sb] at h01 ⊢; omega) rfl
def wkS (mo : Mo) (d : Int) : Nat → Int
  | 0 => 0
  | n + 1 => wkS mo d n + (if mo 6 n = d % 10 then 1 else 0)
theorem wkS_in {mo : Mo} {d : Int} : ∀ n : Nat, 0 ≤ wkS mo d n ∧ wkS mo d n ≤ n
  | 0 => by simp [wkS]
  | n + 1 => by
    have := wkS_in (mo := mo) (d := d) n
    unfold wkS
    split <;> omega
theorem k_walksOn (b : Nat) (sh : Shp) (M : Mem) (hsh : Hc sh) (hm : WFm (moC M 5)) (d : Int) (hd : 0 ≤ d ∧ d ≤ 1000000) : Ex 0 mX2_walksOn b sh M [vr b 5, vi d] (some (vi (wkS (moC M 5) d (M 5 8).toNat))) M := by
  obtain ⟨-, -, -, hT, -, -, -, -, -, -, h6, -⟩ := hm
  rw [moC_3] at hT
  have L : ∀ (n : Nat) (i : Int), 0 ≤ i → i ≤ M 5 8 → M 5 8 - i < n → MW yX2_walksOn cX2_walksOn 4 (some .int) (rmD 0 0 0) (FM (EQ (some (vi (wkS (moC M 5) d (M 5 8).toNat))) M) b sh 0 0) b sh.length 0 0 4 [some (vr b 5), some (vi d), some (vi (wkS (moC M 5) d i.toNat)), some (vi i)] [] sh M := by
    intro n
    induction n with
    | zero => intro i h1 h2 h3; exact absurd h3 (by omega)
    | succ n ih =>
      intro i h1 h2 h3
      have hv := h6 i
      have hs : 0 ≤ i → wkS (moC M 5) d (i + 1).toNat = wkS (moC M 5) d i.toNat + (if moC M 5 6 i = d % 10 then 1 else 0) := by
        intro h
        rw [show (i + 1).toNat = i.toNat + 1 by omega]
        show wkS _ _ _ + (if moC M 5 6 ((i.toNat : Nat) : Int) = d % 10 then 1 else 0) = _
        rw [Int.toNat_of_nonneg h]
      refine R_iload_n (pc := 4) dX2_walksOn_4 rfl ?_
      refine R_aload_n (pc := 5) dX2_walksOn_5 rfl ?_
      refine R_getI (pc := 6) (J := 8) dX2_walksOn_6 fl_RX2_46 rfl rfl (hsh _ _ rfl) (rfl) ?_
      refine R_cmp_ge (pc := 9) (tgt := 34) dX2_walksOn_9 (by decide) (by omega) (fun h_9 => ?_) (fun h_9 => ?_)
      · have e1 : i = M 5 8 := by omega
        subst e1
        refine R_iload_n (pc := 34) dX2_walksOn_34 rfl ?_
        refine R_iret (pc := 35) dX2_walksOn_35 ?_
        exact eqi rfl rfl
      · refine R_aload_n (pc := 12) dX2_walksOn_12 rfl ?_
        refine R_getR (pc := 13) dX2_walksOn_13 fl_RX2_27 rfl (hsh _ _ rfl) rfl ?_
        refine R_iload_n (pc := 16) dX2_walksOn_16 rfl ?_
        refine R_iald (pc := 17) dX2_walksOn_17 (hsh _ _ rfl) (by omega) ((moC_d (by omega)).symm) ?_
        refine R_iload_n (pc := 18) dX2_walksOn_18 rfl ?_
        refine R_bipush (pc := 19) dX2_walksOn_19 rfl ?_
        refine R_irem (pc := 21) dX2_walksOn_21 (by omega) ?_
        refine R_cmp_ne (pc := 22) (tgt := 28) dX2_walksOn_22 (by decide) (by omega) (fun h_22 => ?_) (fun h_22 => ?_)
        · refine R_iinc dX2_walksOn_28 rfl (by decide) rfl rfl ?_
          refine R_goto (tgt := 4) dX2_walksOn_31 (by decide) ?_
          have hn := ih (i + 1) (by omega) (by omega) (by omega)
          rw [hs h1] at hn
          first
            | (rw [if_pos h_22] at hn; exact hn)
            | (rw [if_neg h_22, Int.add_zero] at hn; exact hn)
        · refine R_iinc (pc := 25) dX2_walksOn_25 rfl (by decide) rfl rfl ?_
          refine R_iinc dX2_walksOn_28 rfl (by decide) rfl rfl ?_
          refine R_goto (tgt := 4) dX2_walksOn_31 (by decide) ?_
          have hn := ih (i + 1) (by omega) (by omega) (by omega)
          rw [hs h1] at hn
          first
            | (rw [if_pos h_22] at hn; exact hn)
            | (rw [if_neg h_22, Int.add_zero] at hn; exact hn)
  refine MC_of (ls := [some (vr b 5), some (vi d), none, none]) (by decide) rfl (Nat.le_of_ble_eq_true rfl) ?_
  refine R_iconst (pc := 0) dX2_walksOn_0 ?_
  refine R_istore_n (pc := 1) dX2_walksOn_1 (by decide) rfl rfl ?_
  refine R_iconst (pc := 2) dX2_walksOn_2 ?_
  refine R_istore_n (pc := 3) dX2_walksOn_3 (by decide) rfl rfl ?_
  exact L 20 0 (by omega) (by omega) (by omega)
/-! a day, days -/
theorem tdS_s {mo : Mo} {fog : Int} {ro : Rd} {i : Int} (h : 0 ≤ i) : tdS mo fog ro (i + 1).toNat = if mo 6 i = ro 16 % 10 then (if fog = 1 then uF (tdS mo fog ro i.toNat) 18 1 else (bend mo (uF (tdS mo fog ro i.toNat) 18 1) (mo 7 i) (mo 8 i)).1) else tdS mo fog ro i.toNat := by
  rw [show (i + 1).toNat = i.toNat + 1 by omega]
  show (if mo 6 ((i.toNat : Nat) : Int) = ro 16 % 10 then _ else _) = _
  rw [Int.toNat_of_nonneg h]
theorem k_goDay (b : Nat) (sh : Shp) (M : Mem) (r : Nat) (hsh : Hc sh) (hr : isRd sh r) (hm : WFm (moC M 5)) (f : Rd) {B : Int} (hf : WFr f B) (hN : M r 0 = M 5 0) (fog : Int) (hfog : fog = 0 ∨ fog = 1) : Ex 3 mX4_goDay b sh (putC M r f) [vr b r, vr b 5, vi fog] none (putC M r (day (moC M 5) fog f)) := by
  have hm0 := hm
  obtain ⟨hN2, hW, hTh, hT, -, -, -, -, -, -, h6, h7, -⟩ := hm0
  rw [moC_3] at hT h7
  rw [moC_0] at hN2
  rw [moC_1] at hW h7
  rw [moC_2] at hTh h7
  have hr3 := hr.2.2
  have hd16 := hf.2.1
  have hB := hf.2.2.2.2.2
  have L : ∀ (n : Nat) (i : Int), 0 ≤ i → i ≤ M 5 8 → M 5 8 - i < n → MW yX4_goDay cX4_goDay 4 none (rmD 3 0 0) (FM (EQ none (putC M r (day (moC M 5) fog f))) b sh 0 0) b sh.length 0 0 2 [some (vr b r), some (vr b 5), some (vi fog), some (vi i)] [] sh (putC M r (tdS (moC M 5) fog f i.toNat)) := by
    intro n
    induction n with
    | zero => intro i h1 h2 h3; exact absurd h3 (by omega)
    | succ n ih =>
      intro i h1 h2 h3
      obtain ⟨g1, g2, g3⟩ := tdS_in (fog := fog) hm hf i.toNat
      have g4 := WFr_w g1 (x := 1) (by omega)
      have hs := tdS_s (mo := moC M 5) (fog := fog) (ro := f) h1
      have hv := h6 i
      have go : i < M 5 8 → ∀ g, g = tdS (moC M 5) fog f (i + 1).toNat → MW yX4_goDay cX4_goDay 4 none (rmD 3 0 0) (FM (EQ none (putC M r (day (moC M 5) fog f))) b sh 0 0) b sh.length 0 0 53 [some (vr b r), some (vr b 5), some (vi fog), some (vi i)] [] sh (putC M r g) := by
        intro hlt g hg
        subst hg
        refine R_iinc dX4_goDay_53 rfl (by decide) rfl rfl ?_
        refine R_goto (tgt := 2) dX4_goDay_56 (by decide) ?_
        exact ih (i + 1) (by omega) (by omega) (by omega)
      refine R_iload_n (pc := 2) dX4_goDay_2 rfl ?_
      refine R_aload_n (pc := 3) dX4_goDay_3 rfl ?_
      refine R_getI (pc := 4) (J := 8) dX4_goDay_4 fl_RX4_55 rfl rfl (hsh _ _ rfl) (pc_o (by omega) (by omega)) ?_
      refine R_cmp_ge (pc := 7) (tgt := 59) dX4_goDay_7 (by decide) (by omega) (fun h_7 => ?_) (fun h_7 => ?_)
      · have e1 : i = M 5 8 := by omega
        subst e1
        refine R_aload_n (pc := 59) dX4_goDay_59 rfl ?_
        refine R_V0i (pc := 60) dX4_goDay_60 sv_RX4_71 hr.1 (k_goNight b sh M r hr _ g1 hN hN2) (Nat.le_of_ble_eq_true rfl) (by decide) ?_
        refine R_pop (pc := 63) dX4_goDay_63 rfl ?_
        refine R_vret (pc := 64) dX4_goDay_64 ?_
        exact eqv rfl
      · refine R_aload_n (pc := 10) dX4_goDay_10 rfl ?_
        refine R_getR (pc := 11) dX4_goDay_11 fl_RX4_58 rfl (hsh _ _ rfl) rfl ?_
        refine R_iload_n (pc := 14) dX4_goDay_14 rfl ?_
        refine R_iald (pc := 15) dX4_goDay_15 (hsh _ _ rfl) (by omega) ((pc_o (by omega) (by omega)).trans (moC_d (by omega)).symm) ?_
        refine R_aload_n (pc := 16) dX4_goDay_16 rfl ?_
        refine R_getI (pc := 17) (J := 2) dX4_goDay_17 fl_RX4_31 rfl rfl hr.1 (pc_d.trans g2) ?_
        refine R_bipush (pc := 20) dX4_goDay_20 rfl ?_
        refine R_irem (pc := 22) dX4_goDay_22 (by omega) ?_
        refine R_cmp_ne (pc := 23) (tgt := 53) dX4_goDay_23 (by decide) (by omega) (fun h_23 => ?_) (fun h_23 => ?_)
        · refine go (by omega) _ ?_
          rw [hs]
          first
            | (rw [if_pos h_23, if_pos (by omega)])
            | (rw [if_pos h_23, if_neg (by omega)])
            | (rw [if_neg h_23])
        · refine R_aload_n (pc := 26) dX4_goDay_26 rfl ?_
          refine R_iconst (pc := 27) dX4_goDay_27 ?_
          refine R_putZ (pc := 28) (J := 4) rfl dX4_goDay_28 fl_RX4_37 rfl (fun r h => by cases h; rfl) hr.1 (by omega) ?_
          rw [pcu_w]
          refine R_iload_n (pc := 31) dX4_goDay_31 rfl ?_
          refine R_if_ne (pc := 32) (tgt := 53) dX4_goDay_32 (by decide) (by omega) (fun h_32 => ?_) (fun h_32 => ?_)
          · refine go (by omega) _ ?_
            rw [hs]
            first
              | (rw [if_pos h_23, if_pos (by omega)])
              | (rw [if_pos h_23, if_neg (by omega)])
              | (rw [if_neg h_23])
          · have h7i := h7 i (by omega) (by omega)
            refine R_aload_n (pc := 35) dX4_goDay_35 rfl ?_
            refine R_aload_n (pc := 36) dX4_goDay_36 rfl ?_
            refine R_aload_n (pc := 37) dX4_goDay_37 rfl ?_
            refine R_getR (pc := 38) dX4_goDay_38 fl_RX4_61 rfl (hsh _ _ rfl) rfl ?_
            refine R_iload_n (pc := 41) dX4_goDay_41 rfl ?_
            refine R_iald (pc := 42) dX4_goDay_42 (hsh _ _ rfl) (by omega) ((pc_o (by omega) (by omega)).trans (moC_w (by omega)).symm) ?_
            refine R_aload_n (pc := 43) dX4_goDay_43 rfl ?_
            refine R_getR (pc := 44) dX4_goDay_44 fl_RX4_64 rfl (hsh _ _ rfl) rfl ?_
            refine R_iload_n (pc := 47) dX4_goDay_47 rfl ?_
            refine R_iald (pc := 48) dX4_goDay_48 (hsh _ _ rfl) (by omega) ((pc_o (by omega) (by omega)).trans (moC_t (by omega)).symm) ?_
            refine R_V3i (pc := 49) dX4_goDay_49 sv_RX4_67 hr.1 (k_bendBy b sh M r hsh hr hm _ g4 hN _ _ (by omega) (by omega)) (Nat.le_of_ble_eq_true rfl) (by decide) ?_
            refine R_pop (pc := 52) dX4_goDay_52 rfl ?_
            refine go (by omega) _ ?_
            rw [hs]
            first
              | (rw [if_pos h_23, if_pos (by omega)])
              | (rw [if_pos h_23, if_neg (by omega)])
              | (rw [if_neg h_23])
  refine MC_of (ls := [some (vr b r), some (vr b 5), some (vi fog), none]) (by decide) rfl (Nat.le_of_ble_eq_true rfl) ?_
  refine R_iconst (pc := 0) dX4_goDay_0 ?_
  refine R_istore_n (pc := 1) dX4_goDay_1 (by decide) rfl rfl ?_
  exact L 20 0 (by omega) (by omega) (by omega)
