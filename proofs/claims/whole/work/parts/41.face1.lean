/-! THE FACE, first part: what a call answers (a_), what it does (t_) -/
abbrev oP (S : AS) (i : Int) : Prop := 0 ≤ i ∧ i ≤ S.2.2.1 0 0 - 1
abbrev oW (S : AS) (i : Int) : Prop := 0 ≤ i ∧ i ≤ S.2.2.1 0 1 - 1
abbrev oT (S : AS) (i : Int) : Prop := 0 ≤ i ∧ i ≤ S.2.2.1 0 2 - 1
def a_post (S : AS) (i : Int) : Int := if oP S i then S.2.2.2.1 i else -1
def a_walker (S : AS) (w what : Int) : Int := if oW S w ∧ 0 ≤ what ∧ what ≤ 1 then (if what = 0 then S.2.2.1 2 w else S.2.2.1 3 w) else -1
def a_thing (S : AS) (t what : Int) : Int := if oT S t ∧ 0 ≤ what ∧ what ≤ 2 then (if what = 2 then sb (S.2.2.2.1 17) t else if what = 0 then S.2.2.1 4 t else S.2.2.1 5 t) else -1
def a_day (S : AS) (d what : Int) : Int := if (0 ≤ d ∧ d ≤ 199) ∧ 0 ≤ what ∧ what ≤ 1 then (if what = 0 then wkS S.2.2.1 d (S.2.2.1 0 3).toNat else fogAt S.2.2.1 d) else -1
def a_length (S : AS) : Int := len (S.2.2.1 0 0) S.2.2.2.1
def a_crooks (S : AS) (what : Int) : Int := if 0 ≤ what ∧ what ≤ 1 then (if what = 0 then crS S.2.2.2.1 (S.2.2.1 0 0 - 2).toNat else knS S.2.2.2.1 (S.2.2.1 0 0 - 1).toNat) else -1
def a_milestone (S : AS) (k : Int) : Int := if 1 ≤ k ∧ k ≤ 99 then msn (S.2.2.1 0 0) S.2.2.2.1 (20 * k) else -1
def a_behind (S : AS) (n i : Int) : Int := if (0 ≤ n ∧ n ≤ 40) ∧ (i = -1 ∨ oP S i) then (if i = -1 then len (S.2.2.1 0 0) (days S.2.2.1 S.2.2.2.1 n.toNat) else days S.2.2.1 S.2.2.2.1 n.toNat i) else -1
theorem k_isPost (b : Nat) (sh : Shp) (M : Mem) (hsh : Hc sh) (i : Int) (hi : inR i) (hm : 0 ≤ M 5 0 ∧ M 5 0 ≤ 100) : Ex 1 mX7_isPost b sh M [vr b 0, vi i] (some (vi (if 0 ≤ i ∧ i ≤ M 5 0 - 1 then 1 else 0))) M := by
  refine MC_of (ls := [some (vr b 0), some (vi i)]) (by decide) rfl (Nat.le_of_ble_eq_true rfl) ?_
  refine R_iload_n (pc := 0) dX7_isPost_0 rfl ?_
  refine R_iconst (pc := 1) dX7_isPost_1 ?_
  refine R_aload_n (pc := 2) dX7_isPost_2 rfl ?_
  refine R_getR (pc := 3) dX7_isPost_3 fl_RX7_28 rfl (hsh _ _ rfl) rfl ?_
  refine R_getI (pc := 6) (J := 0) dX7_isPost_6 fl_RX7_118 rfl rfl (hsh _ _ rfl) (rfl) ?_
  refine R_iconst (pc := 9) dX7_isPost_9 ?_
  refine R_isub (pc := 10) dX7_isPost_10 ?_
  refine R_S3i (pc := 11) dX7_isPost_11 ss_RX7_108 (k_within b sh _ _ _ _ hi (by omega) (by omega)) (Nat.le_of_ble_eq_true rfl) (by decide) ?_
  refine R_zret (pc := 14) dX7_isPost_14 (by first | exact Or.inl rfl | exact Or.inr rfl | omega) ?_
  exact eqi rfl rfl
theorem k_isWalker (b : Nat) (sh : Shp) (M : Mem) (hsh : Hc sh) (i : Int) (hi : inR i) (hm : 0 ≤ M 5 2 ∧ M 5 2 ≤ 100) : Ex 1 mX7_isWalker b sh M [vr b 0, vi i] (some (vi (if 0 ≤ i ∧ i ≤ M 5 2 - 1 then 1 else 0))) M := by
  refine MC_of (ls := [some (vr b 0), some (vi i)]) (by decide) rfl (Nat.le_of_ble_eq_true rfl) ?_
  refine R_iload_n (pc := 0) dX7_isWalker_0 rfl ?_
  refine R_iconst (pc := 1) dX7_isWalker_1 ?_
  refine R_aload_n (pc := 2) dX7_isWalker_2 rfl ?_
  refine R_getR (pc := 3) dX7_isWalker_3 fl_RX7_28 rfl (hsh _ _ rfl) rfl ?_
  refine R_getI (pc := 6) (J := 2) dX7_isWalker_6 fl_RX7_216 rfl rfl (hsh _ _ rfl) (rfl) ?_
  refine R_iconst (pc := 9) dX7_isWalker_9 ?_
  refine R_isub (pc := 10) dX7_isWalker_10 ?_
  refine R_S3i (pc := 11) dX7_isWalker_11 ss_RX7_108 (k_within b sh _ _ _ _ hi (by omega) (by omega)) (Nat.le_of_ble_eq_true rfl) (by decide) ?_
  refine R_zret (pc := 14) dX7_isWalker_14 (by first | exact Or.inl rfl | exact Or.inr rfl | omega) ?_
  exact eqi rfl rfl
theorem k_isThing (b : Nat) (sh : Shp) (M : Mem) (hsh : Hc sh) (i : Int) (hi : inR i) (hm : 0 ≤ M 5 5 ∧ M 5 5 ≤ 100) : Ex 1 mX7_isThing b sh M [vr b 0, vi i] (some (vi (if 0 ≤ i ∧ i ≤ M 5 5 - 1 then 1 else 0))) M := by
  refine MC_of (ls := [some (vr b 0), some (vi i)]) (by decide) rfl (Nat.le_of_ble_eq_true rfl) ?_
  refine R_iload_n (pc := 0) dX7_isThing_0 rfl ?_
  refine R_iconst (pc := 1) dX7_isThing_1 ?_
  refine R_aload_n (pc := 2) dX7_isThing_2 rfl ?_
  refine R_getR (pc := 3) dX7_isThing_3 fl_RX7_28 rfl (hsh _ _ rfl) rfl ?_
  refine R_getI (pc := 6) (J := 5) dX7_isThing_6 fl_RX7_206 rfl rfl (hsh _ _ rfl) (rfl) ?_
  refine R_iconst (pc := 9) dX7_isThing_9 ?_
  refine R_isub (pc := 10) dX7_isThing_10 ?_
  refine R_S3i (pc := 11) dX7_isThing_11 ss_RX7_108 (k_within b sh _ _ _ _ hi (by omega) (by omega)) (Nat.le_of_ble_eq_true rfl) (by decide) ?_
  refine R_zret (pc := 14) dX7_isThing_14 (by first | exact Or.inl rfl | exact Or.inr rfl | omega) ?_
  exact eqi rfl rfl
theorem IC_n {M : Mem} {B : Int} (hI : IC M B) : (5 ≤ M 5 0 ∧ M 5 0 ≤ 16) ∧ (0 ≤ M 5 2 ∧ M 5 2 ≤ 4) ∧ (0 ≤ M 5 5 ∧ M 5 5 ≤ 6) ∧ (0 ≤ M 5 8 ∧ M 5 8 ≤ 8) := ⟨hI.1.1, hI.1.2.1, hI.1.2.2.1, hI.1.2.2.2.1⟩
theorem ro_y {M : Mem} {r : Nat} {i : Int} (h : 0 ≤ i ∧ i < 16) : M (r + 1) i = roC M r i := by unfold roC; rw [if_pos h]
theorem k_post (b : Nat) (sh : Shp) (M : Mem) {B : Int} (hsh : Hc sh) (hI : IC M B) (i : Int) (hi : inR i) : C0 2 mX7_post b sh M [vr b 0, vi i] (QS M B (absC M) (a_post (absC M) i)) := by
  obtain ⟨hn, hw, ht, hd⟩ := IC_n hI
  have ea : a_post (absC M) i = if 0 ≤ i ∧ i ≤ M 5 0 - 1 then roC M 23 i else -1 := rfl
  refine MC_of (ls := [some (vr b 0), some (vi i)]) (by decide) rfl (Nat.le_of_ble_eq_true rfl) ?_
  refine R_aload_n (pc := 0) dX7_post_0 rfl ?_
  refine R_iload_n (pc := 1) dX7_post_1 rfl ?_
  refine R_V1i (pc := 2) dX7_post_2 sv_RX7_121 (hsh _ _ rfl) (k_isPost b sh M hsh i hi (by omega)) (Nat.le_of_ble_eq_true rfl) (by decide) ?_
  refine R_if_eq (pc := 5) (tgt := 20) dX7_post_5 (by decide) (by omega) (fun h_5 => ?_) (fun h_5 => ?_)
  · refine R_iconst (pc := 20) dX7_post_20 ?_
    refine R_iret (pc := 21) dX7_post_21 ?_
    exact QS_ro hI FrC_r (by rw [ea]; omega)
  · refine R_aload_n (pc := 8) dX7_post_8 rfl ?_
    refine R_getR (pc := 9) dX7_post_9 fl_RX7_38 rfl (hsh _ _ rfl) rfl ?_
    refine R_getR (pc := 12) dX7_post_12 fl_RX7_124 rfl (hsh _ _ rfl) rfl ?_
    refine R_iload_n (pc := 15) dX7_post_15 rfl ?_
    refine R_iald (pc := 16) dX7_post_16 (hsh _ _ rfl) (by omega) (ro_y (r := 23) (by omega)) ?_
    refine R_goto (pc := 17) (tgt := 21) dX7_post_17 (by decide) ?_
    refine R_iret (pc := 21) dX7_post_21 ?_
    exact QS_ro hI FrC_r (by rw [ea]; omega)
theorem k_walker (b : Nat) (sh : Shp) (M : Mem) {B : Int} (hsh : Hc sh) (hI : IC M B) (w what : Int) (hi : inR w) (hj : inR what) : C0 2 mX7_walker b sh M [vr b 0, vi w, vi what] (QS M B (absC M) (a_walker (absC M) w what)) := by
  obtain ⟨hn, hw, ht, hd⟩ := IC_n hI
  have ea : a_walker (absC M) w what = if (0 ≤ w ∧ w ≤ M 5 2 - 1) ∧ 0 ≤ what ∧ what ≤ 1 then (if what = 0 then moC M 5 2 w else moC M 5 3 w) else -1 := rfl
  refine MC_of (ls := [some (vr b 0), some (vi w), some (vi what)]) (by decide) rfl (Nat.le_of_ble_eq_true rfl) ?_
  refine R_aload_n (pc := 0) dX7_walker_0 rfl ?_
  refine R_iload_n (pc := 1) dX7_walker_1 rfl ?_
  refine R_V1i (pc := 2) dX7_walker_2 sv_RX7_127 (hsh _ _ rfl) (k_isWalker b sh M hsh w hi (by omega)) (Nat.le_of_ble_eq_true rfl) (by decide) ?_
  refine R_if_eq (pc := 5) (tgt := 17) dX7_walker_5 (by decide) (by omega) (fun h_5 => ?_) (fun h_5 => ?_)
  · refine R_iconst (pc := 17) dX7_walker_17 ?_
    refine R_iret (pc := 18) dX7_walker_18 ?_
    exact QS_ro hI FrC_r (by rw [ea]; omega)
  · refine R_iload_n (pc := 8) dX7_walker_8 rfl ?_
    refine R_iconst (pc := 9) dX7_walker_9 ?_
    refine R_iconst (pc := 10) dX7_walker_10 ?_
    refine R_S3i (pc := 11) dX7_walker_11 ss_RX7_108 (k_within b sh _ _ _ _ hj (by omega) (by omega)) (Nat.le_of_ble_eq_true rfl) (by decide) ?_
    refine R_if_ne (pc := 14) (tgt := 19) dX7_walker_14 (by decide) (by omega) (fun h_14 => ?_) (fun h_14 => ?_)
    · refine R_iload_n (pc := 19) dX7_walker_19 rfl ?_
      refine R_if_ne (pc := 20) (tgt := 35) dX7_walker_20 (by decide) (by omega) (fun h_20 => ?_) (fun h_20 => ?_)
      · refine R_aload_n (pc := 35) dX7_walker_35 rfl ?_
        refine R_getR (pc := 36) dX7_walker_36 fl_RX7_28 rfl (hsh _ _ rfl) rfl ?_
        refine R_getR (pc := 39) dX7_walker_39 fl_RX7_133 rfl (hsh _ _ rfl) rfl ?_
        refine R_iload_n (pc := 42) dX7_walker_42 rfl ?_
        refine R_iald (pc := 43) dX7_walker_43 (hsh _ _ rfl) (by omega) ((moC_r (by omega)).symm) ?_
        refine R_iret (pc := 44) dX7_walker_44 ?_
        exact QS_ro hI FrC_r (by rw [ea]; omega)
      · refine R_aload_n (pc := 23) dX7_walker_23 rfl ?_
        refine R_getR (pc := 24) dX7_walker_24 fl_RX7_28 rfl (hsh _ _ rfl) rfl ?_
        refine R_getR (pc := 27) dX7_walker_27 fl_RX7_130 rfl (hsh _ _ rfl) rfl ?_
        refine R_iload_n (pc := 30) dX7_walker_30 rfl ?_
        refine R_iald (pc := 31) dX7_walker_31 (hsh _ _ rfl) (by omega) ((moC_k (by omega)).symm) ?_
        refine R_goto (pc := 32) (tgt := 44) dX7_walker_32 (by decide) ?_
        refine R_iret (pc := 44) dX7_walker_44 ?_
        exact QS_ro hI FrC_r (by rw [ea]; omega)
    · refine R_iconst (pc := 17) dX7_walker_17 ?_
      refine R_iret (pc := 18) dX7_walker_18 ?_
      exact QS_ro hI FrC_r (by rw [ea]; omega)
theorem k_thing (b : Nat) (sh : Shp) (M : Mem) {B : Int} (hsh : Hc sh) (hI : IC M B) (t what : Int) (hi : inR t) (hj : inR what) : C0 2 mX7_thing b sh M [vr b 0, vi t, vi what] (QS M B (absC M) (a_thing (absC M) t what)) := by
  obtain ⟨hn, hw, ht, hd⟩ := IC_n hI
  have ea : a_thing (absC M) t what = if (0 ≤ t ∧ t ≤ M 5 5 - 1) ∧ 0 ≤ what ∧ what ≤ 2 then (if what = 2 then sb (roC M 23 17) t else if what = 0 then moC M 5 4 t else moC M 5 5 t) else -1 := rfl
  have hsd : (0 ≤ t ∧ t < 10) → Ex 0 mX4_isShut b sh M [vr b 23, vi t] (some (vi (sb (roC M 23 17) t))) M := fun h => by
    have := k_isShut b sh M 23 (rd_of hsh (by decide)) (roC M 23) hI.2.2.1.1.2.2.1 t h
    rw [pc_self] at this
    exact this
  have h01 := sb01 (roC M 23 17) t
  refine MC_of (ls := [some (vr b 0), some (vi t), some (vi what)]) (by decide) rfl (Nat.le_of_ble_eq_true rfl) ?_
  refine R_aload_n (pc := 0) dX7_thing_0 rfl ?_
  refine R_iload_n (pc := 1) dX7_thing_1 rfl ?_
  refine R_V1i (pc := 2) dX7_thing_2 sv_RX7_136 (hsh _ _ rfl) (k_isThing b sh M hsh t hi (by omega)) (Nat.le_of_ble_eq_true rfl) (by decide) ?_
  refine R_if_eq (pc := 5) (tgt := 17) dX7_thing_5 (by decide) (by omega) (fun h_5 => ?_) (fun h_5 => ?_)
  · refine R_iconst (pc := 17) dX7_thing_17 ?_
    refine R_iret (pc := 18) dX7_thing_18 ?_
    exact QS_ro hI FrC_r (by rw [ea]; omega)
  · refine R_iload_n (pc := 8) dX7_thing_8 rfl ?_
    refine R_iconst (pc := 9) dX7_thing_9 ?_
    refine R_iconst (pc := 10) dX7_thing_10 ?_
    refine R_S3i (pc := 11) dX7_thing_11 ss_RX7_108 (k_within b sh _ _ _ _ hj (by omega) (by omega)) (Nat.le_of_ble_eq_true rfl) (by decide) ?_
    refine R_if_ne (pc := 14) (tgt := 19) dX7_thing_14 (by decide) (by omega) (fun h_14 => ?_) (fun h_14 => ?_)
    · refine R_iload_n (pc := 19) dX7_thing_19 rfl ?_
      refine R_iconst (pc := 20) dX7_thing_20 ?_
      refine R_cmp_ne (pc := 21) (tgt := 41) dX7_thing_21 (by decide) (by omega) (fun h_21 => ?_) (fun h_21 => ?_)
      · refine R_iload_n (pc := 41) dX7_thing_41 rfl ?_
        refine R_if_ne (pc := 42) (tgt := 57) dX7_thing_42 (by decide) (by omega) (fun h_42 => ?_) (fun h_42 => ?_)
        · refine R_aload_n (pc := 57) dX7_thing_57 rfl ?_
          refine R_getR (pc := 58) dX7_thing_58 fl_RX7_28 rfl (hsh _ _ rfl) rfl ?_
          refine R_getR (pc := 61) dX7_thing_61 fl_RX7_145 rfl (hsh _ _ rfl) rfl ?_
          refine R_iload_n (pc := 64) dX7_thing_64 rfl ?_
          refine R_iald (pc := 65) dX7_thing_65 (hsh _ _ rfl) (by omega) ((moC_y (by omega)).symm) ?_
          refine R_iret (pc := 66) dX7_thing_66 ?_
          exact QS_ro hI FrC_r (by rw [ea]; omega)
        · refine R_aload_n (pc := 45) dX7_thing_45 rfl ?_
          refine R_getR (pc := 46) dX7_thing_46 fl_RX7_28 rfl (hsh _ _ rfl) rfl ?_
          refine R_getR (pc := 49) dX7_thing_49 fl_RX7_142 rfl (hsh _ _ rfl) rfl ?_
          refine R_iload_n (pc := 52) dX7_thing_52 rfl ?_
          refine R_iald (pc := 53) dX7_thing_53 (hsh _ _ rfl) (by omega) ((moC_p (by omega)).symm) ?_
          refine R_goto (pc := 54) (tgt := 66) dX7_thing_54 (by decide) ?_
          refine R_iret (pc := 66) dX7_thing_66 ?_
          exact QS_ro hI FrC_r (by rw [ea]; omega)
      · refine R_aload_n (pc := 24) dX7_thing_24 rfl ?_
        refine R_getR (pc := 25) dX7_thing_25 fl_RX7_38 rfl (hsh _ _ rfl) rfl ?_
        refine R_iload_n (pc := 28) dX7_thing_28 rfl ?_
        refine R_V1i (pc := 29) dX7_thing_29 sv_RX7_139 (hsh _ _ rfl) (hsd (by omega)) (Nat.le_of_ble_eq_true rfl) (by decide) ?_
        refine R_if_eq (pc := 32) (tgt := 39) dX7_thing_32 (by decide) (by omega) (fun h_32 => ?_) (fun h_32 => ?_)
        · refine R_iconst (pc := 39) dX7_thing_39 ?_
          refine R_iret (pc := 40) dX7_thing_40 ?_
          exact QS_ro hI FrC_r (by rw [ea]; omega)
        · refine R_iconst (pc := 35) dX7_thing_35 ?_
          refine R_goto (pc := 36) (tgt := 40) dX7_thing_36 (by decide) ?_
          refine R_iret (pc := 40) dX7_thing_40 ?_
          exact QS_ro hI FrC_r (by rw [ea]; omega)
    · refine R_iconst (pc := 17) dX7_thing_17 ?_
      refine R_iret (pc := 18) dX7_thing_18 ?_
      exact QS_ro hI FrC_r (by rw [ea]; omega)
theorem k_day (b : Nat) (sh : Shp) (M : Mem) {B : Int} (hsh : Hc sh) (hI : IC M B) (d what : Int) (hi : inR d) (hj : inR what) : C0 2 mX7_day b sh M [vr b 0, vi d, vi what] (QS M B (absC M) (a_day (absC M) d what)) := by
  obtain ⟨hn, hw, ht, hd⟩ := IC_n hI
  have ea : a_day (absC M) d what = if (0 ≤ d ∧ d ≤ 199) ∧ 0 ≤ what ∧ what ≤ 1 then (if what = 0 then wkS (moC M 5) d (M 5 8).toNat else fogAt (moC M 5) d) else -1 := rfl
  have hf : fogAt (moC M 5) d = 0 ∨ fogAt (moC M 5) d = 1 := hI.1.2.2.2.2.2.2.2.2.2.2.2.2 (d % 10)
  refine MC_of (ls := [some (vr b 0), some (vi d), some (vi what)]) (by decide) rfl (Nat.le_of_ble_eq_true rfl) ?_
  refine R_rng fun hM => ?_
  refine R_iload_n (pc := 0) dX7_day_0 rfl ?_
  refine R_iconst (pc := 1) dX7_day_1 ?_
  refine R_sipush (pc := 2) dX7_day_2 rfl ?_
  refine R_S3i (pc := 5) dX7_day_5 ss_RX7_108 (k_within b sh _ _ _ _ hi (by omega) (by omega)) (Nat.le_of_ble_eq_true rfl) (by decide) ?_
  refine R_if_eq (pc := 8) (tgt := 20) dX7_day_8 (by decide) (by omega) (fun h_8 => ?_) (fun h_8 => ?_)
  · refine R_iconst (pc := 20) dX7_day_20 ?_
    refine R_iret (pc := 21) dX7_day_21 ?_
    exact QS_ro hI FrC_r (by rw [ea]; omega)
  · refine R_iload_n (pc := 11) dX7_day_11 rfl ?_
    refine R_iconst (pc := 12) dX7_day_12 ?_
    refine R_iconst (pc := 13) dX7_day_13 ?_
    refine R_S3i (pc := 14) dX7_day_14 ss_RX7_108 (k_within b sh _ _ _ _ hj (by omega) (by omega)) (Nat.le_of_ble_eq_true rfl) (by decide) ?_
    refine R_if_ne (pc := 17) (tgt := 22) dX7_day_17 (by decide) (by omega) (fun h_17 => ?_) (fun h_17 => ?_)
    · refine R_iload_n (pc := 22) dX7_day_22 rfl ?_
      refine R_if_ne (pc := 23) (tgt := 35) dX7_day_23 (by decide) (by omega) (fun h_23 => ?_) (fun h_23 => ?_)
      · refine R_aload_n (pc := 35) dX7_day_35 rfl ?_
        refine R_getR (pc := 36) dX7_day_36 fl_RX7_28 rfl (hsh _ _ rfl) rfl ?_
        refine R_iload_n (pc := 39) dX7_day_39 rfl ?_
        refine R_V1i (pc := 40) dX7_day_40 sv_RX7_152 (hsh _ _ rfl) (k_isFoggy b sh M hsh d (by omega) (hM 5 13)) (Nat.le_of_ble_eq_true rfl) (by decide) ?_
        refine R_if_eq (pc := 43) (tgt := 50) dX7_day_43 (by decide) (by omega) (fun h_43 => ?_) (fun h_43 => ?_)
        · refine R_iconst (pc := 50) dX7_day_50 ?_
          refine R_iret (pc := 51) dX7_day_51 ?_
          exact QS_ro hI FrC_r (by rw [ea]; omega)
        · refine R_iconst (pc := 46) dX7_day_46 ?_
          refine R_goto (pc := 47) (tgt := 51) dX7_day_47 (by decide) ?_
          refine R_iret (pc := 51) dX7_day_51 ?_
          exact QS_ro hI FrC_r (by rw [ea]; omega)
      · refine R_aload_n (pc := 26) dX7_day_26 rfl ?_
        refine R_getR (pc := 27) dX7_day_27 fl_RX7_28 rfl (hsh _ _ rfl) rfl ?_
        refine R_iload_n (pc := 30) dX7_day_30 rfl ?_
        refine R_V1i (pc := 31) dX7_day_31 sv_RX7_148 (hsh _ _ rfl) (k_walksOn b sh M hsh hI.1 d (by omega)) (Nat.le_of_ble_eq_true rfl) (by decide) ?_
        refine R_iret (pc := 34) dX7_day_34 ?_
        exact QS_ro hI FrC_r (by rw [ea]; omega)
    · refine R_iconst (pc := 20) dX7_day_20 ?_
      refine R_iret (pc := 21) dX7_day_21 ?_
      exact QS_ro hI FrC_r (by rw [ea]; omega)
theorem k_length (b : Nat) (sh : Shp) (M : Mem) {B : Int} (hsh : Hc sh) (hI : IC M B) : C0 2 mX7_length b sh M [vr b 0] (QS M B (absC M) (a_length (absC M))) := by
  have h := k_reckonLong b sh M 23 (rd_of hsh (by decide)) (roC M 23) hI.2.2.1.1 hI.2.2.1.2 hI.1.1
  rw [pc_self] at h
  refine MC_of (ls := [some (vr b 0)]) (by decide) rfl (Nat.le_of_ble_eq_true rfl) ?_
  refine R_aload_n (pc := 0) dX7_length_0 rfl ?_
  refine R_getR (pc := 1) dX7_length_1 fl_RX7_38 rfl (hsh _ _ rfl) rfl ?_
  refine R_V0i (pc := 4) dX7_length_4 sv_RX7_181 (hsh _ _ rfl) (h) (Nat.le_of_ble_eq_true rfl) (by decide) ?_
  refine R_iret (pc := 7) dX7_length_7 ?_
  exact QS_ro hI FrC_r rfl
theorem k_crooks (b : Nat) (sh : Shp) (M : Mem) {B : Int} (hsh : Hc sh) (hI : IC M B) (what : Int) (hj : inR what) : C0 2 mX7_crooks b sh M [vr b 0, vi what] (QS M B (absC M) (a_crooks (absC M) what)) := by
  have h1 := k_reckonCrooks b sh M 23 (rd_of hsh (by decide)) (roC M 23) hI.2.2.1.1 hI.2.2.1.2 hI.1.1
  rw [pc_self] at h1
  have h2 := k_reckonKnots b sh M 23 (rd_of hsh (by decide)) (roC M 23) hI.2.2.1.1 hI.2.2.1.2 hI.1.1
  rw [pc_self] at h2
  have ea : a_crooks (absC M) what = if 0 ≤ what ∧ what ≤ 1 then (if what = 0 then crS (roC M 23) (M 5 0 - 2).toNat else knS (roC M 23) (M 5 0 - 1).toNat) else -1 := rfl
  refine MC_of (ls := [some (vr b 0), some (vi what)]) (by decide) rfl (Nat.le_of_ble_eq_true rfl) ?_
  refine R_iload_n (pc := 0) dX7_crooks_0 rfl ?_
  refine R_iconst (pc := 1) dX7_crooks_1 ?_
  refine R_iconst (pc := 2) dX7_crooks_2 ?_
  refine R_S3i (pc := 3) dX7_crooks_3 ss_RX7_108 (k_within b sh _ _ _ _ hj (by omega) (by omega)) (Nat.le_of_ble_eq_true rfl) (by decide) ?_
  refine R_if_ne (pc := 6) (tgt := 11) dX7_crooks_6 (by decide) (by omega) (fun h_6 => ?_) (fun h_6 => ?_)
  · refine R_iload_n (pc := 11) dX7_crooks_11 rfl ?_
    refine R_if_ne (pc := 12) (tgt := 25) dX7_crooks_12 (by decide) (by omega) (fun h_12 => ?_) (fun h_12 => ?_)
    · refine R_aload_n (pc := 25) dX7_crooks_25 rfl ?_
      refine R_getR (pc := 26) dX7_crooks_26 fl_RX7_38 rfl (hsh _ _ rfl) rfl ?_
      refine R_V0i (pc := 29) dX7_crooks_29 sv_RX7_187 (hsh _ _ rfl) (h2) (Nat.le_of_ble_eq_true rfl) (by decide) ?_
      refine R_iret (pc := 32) dX7_crooks_32 ?_
      exact QS_ro hI FrC_r (by rw [ea]; omega)
    · refine R_aload_n (pc := 15) dX7_crooks_15 rfl ?_
      refine R_getR (pc := 16) dX7_crooks_16 fl_RX7_38 rfl (hsh _ _ rfl) rfl ?_
      refine R_V0i (pc := 19) dX7_crooks_19 sv_RX7_184 (hsh _ _ rfl) (h1) (Nat.le_of_ble_eq_true rfl) (by decide) ?_
      refine R_goto (pc := 22) (tgt := 32) dX7_crooks_22 (by decide) ?_
      refine R_iret (pc := 32) dX7_crooks_32 ?_
      exact QS_ro hI FrC_r (by rw [ea]; omega)
  · refine R_iconst (pc := 9) dX7_crooks_9 ?_
    refine R_iret (pc := 10) dX7_crooks_10 ?_
    exact QS_ro hI FrC_r (by rw [ea]; omega)
theorem k_milestone (b : Nat) (sh : Shp) (M : Mem) {B : Int} (hsh : Hc sh) (hI : IC M B) (k : Int) (hj : inR k) : C0 2 mX7_milestone b sh M [vr b 0, vi k] (QS M B (absC M) (a_milestone (absC M) k)) := by
  have ea : a_milestone (absC M) k = if 1 ≤ k ∧ k ≤ 99 then msn (M 5 0) (roC M 23) (20 * k) else -1 := rfl
  have h1 : 1 ≤ k ∧ k ≤ 99 → Ex 1 mX4_postAhead b sh M [vr b 23, vi (20 * k)] (some (vi (msn (M 5 0) (roC M 23) (20 * k)))) M := fun hk => by
    have := k_postAhead b sh M 23 (rd_of hsh (by decide)) (roC M 23) hI.2.2.1.1 hI.2.2.1.2 hI.1.1 (20 * k) (by omega)
    rw [pc_self] at this
    exact this
  refine MC_of (ls := [some (vr b 0), some (vi k)]) (by decide) rfl (Nat.le_of_ble_eq_true rfl) ?_
  refine R_iload_n (pc := 0) dX7_milestone_0 rfl ?_
  refine R_iconst (pc := 1) dX7_milestone_1 ?_
  refine R_bipush (pc := 2) dX7_milestone_2 rfl ?_
  refine R_S3i (pc := 4) dX7_milestone_4 ss_RX7_108 (k_within b sh _ _ _ _ hj (by omega) (by omega)) (Nat.le_of_ble_eq_true rfl) (by decide) ?_
  refine R_if_ne (pc := 7) (tgt := 12) dX7_milestone_7 (by decide) (by omega) (fun h_7 => ?_) (fun h_7 => ?_)
  · refine R_aload_n (pc := 12) dX7_milestone_12 rfl ?_
    refine R_getR (pc := 13) dX7_milestone_13 fl_RX7_38 rfl (hsh _ _ rfl) rfl ?_
    refine R_bipush (pc := 16) dX7_milestone_16 rfl ?_
    refine R_iload_n (pc := 18) dX7_milestone_18 rfl ?_
    refine R_imul (pc := 19) dX7_milestone_19 ?_
    refine R_V1i (pc := 20) dX7_milestone_20 sv_RX7_190 (hsh _ _ rfl) (h1 (by omega)) (Nat.le_of_ble_eq_true rfl) (by decide) ?_
    refine R_iret (pc := 23) dX7_milestone_23 ?_
    exact QS_ro hI FrC_r (by rw [ea]; omega)
  · refine R_iconst (pc := 10) dX7_milestone_10 ?_
    refine R_iret (pc := 11) dX7_milestone_11 ?_
    exact QS_ro hI FrC_r (by rw [ea]; omega)
/-- the trial road made like the road that is now -/
def tr0 (M : Mem) : Mem := up M 25 0 (M 5 0)
theorem tr_h {M : Mem} {B : Int} (hI : IC M B) : moC (tr0 M) 5 = moC M 5 ∧ tr0 M 25 0 = tr0 M 5 0 ∧ FrC M (tr0 M) ∧ (∀ c, c ≠ 25 → tr0 M c = M c) := by
  have e : ∀ c, c ≠ 25 → tr0 M c = M c := fun c hc => up_o c hc
  exact ⟨moC_c (fun c _ hc => e c (by omega)), by rw [e 5 (by omega)]; exact up_s, FrC_up FrC_r (by unfold SC; omega), e⟩
theorem k_trial (b : Nat) (sh : Shp) (M N : Mem) {B : Int} (hsh : Hc sh) (hI : IC M B) (hF : FrC M N) (hN : ∀ k j, inR (N k j)) : Ex 1 mX4_copyFrom b sh N [vr b 25, vr b 23] none (putC (tr0 N) 25 (roC M 23)) := by
  have e23 := hF 23 (by unfold SC; omega)
  have e24 := hF 24 (by unfold SC; omega)
  have e5 := hF 5 (by unfold SC; omega)
  have h := k_copyFrom b sh N 25 23 (rd_of hsh (by decide)) (rd_of hsh (by decide)) (by omega) hN (by rw [e23]; have := hI.2.2.1.1.2.2.2.1; simpa [roC] using this)
  rw [roC_c e23 e24, e23, hI.2.2.1.2, ← e5] at h
  exact h
theorem k_behind (b : Nat) (sh : Shp) (M : Mem) {B : Int} (hsh : Hc sh) (hI : IC M B) (hB : B ≤ 90000) (n i : Int) (hn0 : inR n) (hi : inR i) : C0 5 mX7_behind b sh M [vr b 0, vi n, vi i] (QS M B (absC M) (a_behind (absC M) n i)) := by
  obtain ⟨hn, hw, ht, hd⟩ := IC_n hI
  have ea : a_behind (absC M) n i = if (0 ≤ n ∧ n ≤ 40) ∧ (i = -1 ∨ (0 ≤ i ∧ i ≤ M 5 0 - 1)) then (if i = -1 then len (M 5 0) (days (moC M 5) (roC M 23) n.toNat) else days (moC M 5) (roC M 23) n.toNat i) else -1 := rfl
  obtain ⟨t1, t2, t3, t4⟩ := tr_h hI
  have h25 : isRd sh 25 := rd_of hsh (by decide)
  refine MC_of (ls := [some (vr b 0), some (vi n), some (vi i)]) (by decide) rfl (Nat.le_of_ble_eq_true rfl) ?_
  refine R_rng fun hM => ?_
  have hM5 := hM 5 13
  refine R_iload_n (pc := 0) dX7_behind_0 rfl ?_
  refine R_iconst (pc := 1) dX7_behind_1 ?_
  refine R_bipush (pc := 2) dX7_behind_2 rfl ?_
  refine R_S3i (pc := 4) dX7_behind_4 ss_RX7_108 (k_within b sh _ _ _ _ hn0 (by omega) (by omega)) (Nat.le_of_ble_eq_true rfl) (by decide) ?_
  refine R_if_eq (pc := 7) (tgt := 23) dX7_behind_7 (by decide) (by omega) (fun h_7 => ?_) (fun h_7 => ?_)
  · refine R_iconst (pc := 23) dX7_behind_23 ?_
    refine R_iret (pc := 24) dX7_behind_24 ?_
    exact QS_ro hI FrC_r (by rw [ea]; omega)
  · refine R_iload_n (pc := 10) dX7_behind_10 rfl ?_
    refine R_iconst (pc := 11) dX7_behind_11 ?_
    refine R_cmp_eq (pc := 12) (tgt := 25) dX7_behind_12 (by decide) (by omega) (fun h_12 => ?_) (fun h_12 => ?_)
    · refine R_aload_n (pc := 25) dX7_behind_25 rfl ?_
      refine R_getR (pc := 26) dX7_behind_26 fl_RX7_42 rfl (hsh _ _ rfl) rfl ?_
      refine R_aload_n (pc := 29) dX7_behind_29 rfl ?_
      refine R_getR (pc := 30) dX7_behind_30 fl_RX7_38 rfl (hsh _ _ rfl) rfl ?_
      refine R_V1v (pc := 33) dX7_behind_33 sv_RX7_193 (hsh _ _ rfl) (k_trial b sh M M hsh hI FrC_r hM) (Nat.le_of_ble_eq_true rfl) (by decide) ?_
      refine R_aload_n (pc := 36) dX7_behind_36 rfl ?_
      refine R_getR (pc := 37) dX7_behind_37 fl_RX7_42 rfl (hsh _ _ rfl) rfl ?_
      refine R_aload_n (pc := 40) dX7_behind_40 rfl ?_
      refine R_getR (pc := 41) dX7_behind_41 fl_RX7_28 rfl (hsh _ _ rfl) rfl ?_
      refine R_iload_n (pc := 44) dX7_behind_44 rfl ?_
      refine R_V2 (pc := 45) dX7_behind_45 sv_RX7_159 (k_goDays b sh (tr0 M) 25 hsh h25 (by rw [t1]; exact hI.1) (by rw [t4 5 (by omega)]; exact hM5) (roC M 23) hI.2.2.1.1 t2 n (by omega)) (hsh _ _ rfl) (Nat.le_of_ble_eq_true rfl) (by decide) (fun v_45 M_45 hq_45 => ?_)
      obtain ⟨rfl, rfl⟩ := hq_45
      rw [t1]
      have hdy := (days_in hI.1 hI.2.2.1.1 n.toNat (by omega)).1
      refine R_iload_n (pc := 48) dX7_behind_48 rfl ?_
      refine R_iconst (pc := 49) dX7_behind_49 ?_
      refine R_cmp_ne (pc := 50) (tgt := 63) dX7_behind_50 (by decide) (by omega) (fun h_50 => ?_) (fun h_50 => ?_)
      · refine R_aload_n (pc := 63) dX7_behind_63 rfl ?_
        refine R_getR (pc := 64) dX7_behind_64 fl_RX7_42 rfl (hsh _ _ rfl) rfl ?_
        refine R_getR (pc := 67) dX7_behind_67 fl_RX7_124 rfl (hsh _ _ rfl) rfl ?_
        refine R_iload_n (pc := 70) dX7_behind_70 rfl ?_
        refine R_iald (pc := 71) dX7_behind_71 (hsh _ _ rfl) (by omega) (pc_y (r := 25) (by omega)) ?_
        refine R_iret (pc := 72) dX7_behind_72 ?_
        exact QS_ro hI (FrC_pc t3) (by rw [ea]; omega)
      · refine R_aload_n (pc := 53) dX7_behind_53 rfl ?_
        refine R_getR (pc := 54) dX7_behind_54 fl_RX7_42 rfl (hsh _ _ rfl) rfl ?_
        refine R_V0i (pc := 57) dX7_behind_57 sv_RX7_181 (hsh _ _ rfl) (k_reckonLong b sh (tr0 M) 25 h25 _ hdy (t2.trans (by rw [t4 5 (by omega)])) (by omega)) (Nat.le_of_ble_eq_true rfl) (by decide) ?_
        refine R_goto (pc := 60) (tgt := 72) dX7_behind_60 (by decide) ?_
        refine R_iret (pc := 72) dX7_behind_72 ?_
        exact QS_ro hI (FrC_pc t3) (by rw [ea]; omega)
    · refine R_aload_n (pc := 15) dX7_behind_15 rfl ?_
      refine R_iload_n (pc := 16) dX7_behind_16 rfl ?_
      refine R_V1i (pc := 17) dX7_behind_17 sv_RX7_121 (hsh _ _ rfl) (k_isPost b sh M hsh i hi (by omega)) (Nat.le_of_ble_eq_true rfl) (by decide) ?_
      refine R_if_ne (pc := 20) (tgt := 25) dX7_behind_20 (by decide) (by omega) (fun h_20 => ?_) (fun h_20 => ?_)
      · refine R_aload_n (pc := 25) dX7_behind_25 rfl ?_
        refine R_getR (pc := 26) dX7_behind_26 fl_RX7_42 rfl (hsh _ _ rfl) rfl ?_
        refine R_aload_n (pc := 29) dX7_behind_29 rfl ?_
        refine R_getR (pc := 30) dX7_behind_30 fl_RX7_38 rfl (hsh _ _ rfl) rfl ?_
        refine R_V1v (pc := 33) dX7_behind_33 sv_RX7_193 (hsh _ _ rfl) (k_trial b sh M M hsh hI FrC_r hM) (Nat.le_of_ble_eq_true rfl) (by decide) ?_
        refine R_aload_n (pc := 36) dX7_behind_36 rfl ?_
        refine R_getR (pc := 37) dX7_behind_37 fl_RX7_42 rfl (hsh _ _ rfl) rfl ?_
        refine R_aload_n (pc := 40) dX7_behind_40 rfl ?_
        refine R_getR (pc := 41) dX7_behind_41 fl_RX7_28 rfl (hsh _ _ rfl) rfl ?_
        refine R_iload_n (pc := 44) dX7_behind_44 rfl ?_
        refine R_V2 (pc := 45) dX7_behind_45 sv_RX7_159 (k_goDays b sh (tr0 M) 25 hsh h25 (by rw [t1]; exact hI.1) (by rw [t4 5 (by omega)]; exact hM5) (roC M 23) hI.2.2.1.1 t2 n (by omega)) (hsh _ _ rfl) (Nat.le_of_ble_eq_true rfl) (by decide) (fun v_45 M_45 hq_45 => ?_)
        obtain ⟨rfl, rfl⟩ := hq_45
        rw [t1]
        have hdy := (days_in hI.1 hI.2.2.1.1 n.toNat (by omega)).1
        refine R_iload_n (pc := 48) dX7_behind_48 rfl ?_
        refine R_iconst (pc := 49) dX7_behind_49 ?_
        refine R_cmp_ne (pc := 50) (tgt := 63) dX7_behind_50 (by decide) (by omega) (fun h_50 => ?_) (fun h_50 => ?_)
        · refine R_aload_n (pc := 63) dX7_behind_63 rfl ?_
          refine R_getR (pc := 64) dX7_behind_64 fl_RX7_42 rfl (hsh _ _ rfl) rfl ?_
          refine R_getR (pc := 67) dX7_behind_67 fl_RX7_124 rfl (hsh _ _ rfl) rfl ?_
          refine R_iload_n (pc := 70) dX7_behind_70 rfl ?_
          refine R_iald (pc := 71) dX7_behind_71 (hsh _ _ rfl) (by omega) (pc_y (r := 25) (by omega)) ?_
          refine R_iret (pc := 72) dX7_behind_72 ?_
          exact QS_ro hI (FrC_pc t3) (by rw [ea]; omega)
        · refine R_aload_n (pc := 53) dX7_behind_53 rfl ?_
          refine R_getR (pc := 54) dX7_behind_54 fl_RX7_42 rfl (hsh _ _ rfl) rfl ?_
          refine R_V0i (pc := 57) dX7_behind_57 sv_RX7_181 (hsh _ _ rfl) (k_reckonLong b sh (tr0 M) 25 h25 _ hdy (t2.trans (by rw [t4 5 (by omega)])) (by omega)) (Nat.le_of_ble_eq_true rfl) (by decide) ?_
          refine R_goto (pc := 60) (tgt := 72) dX7_behind_60 (by decide) ?_
          refine R_iret (pc := 72) dX7_behind_72 ?_
          exact QS_ro hI (FrC_pc t3) (by rw [ea]; omega)
      · refine R_iconst (pc := 23) dX7_behind_23 ?_
        refine R_iret (pc := 24) dX7_behind_24 ?_
        exact QS_ro hI FrC_r (by rw [ea]; omega)
