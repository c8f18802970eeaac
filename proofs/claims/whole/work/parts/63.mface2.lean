/-! the reference's face, second part: what changes -/
theorem j_write (b : Nat) (sh : Shp) (M : Mem) {B : Int} (hsh : Hm sh) (hI : IS (absM M) B) (c : Int) (hc : inR c) : C0 2 mX8_write b sh M [vr b 72, vi c] (QM M (nx_write (absM M) c) (a_write (absM M) c)) := by
  have hz : 0 ≤ M 72 5 ∧ M 72 5 ≤ 200 := hI.2.1
  have ea : a_write (absM M) c = if 32 ≤ c ∧ c ≤ 126 then (if M 72 5 < 200 then M 72 5 + 1 else -3) else -1 := rfl
  have et : nx_write (absM M) c = if (32 ≤ c ∧ c ≤ 126) ∧ M 72 5 < 200 then (M 72 5 + 1, uF (txM M) (M 72 5) c, moM M, roM M 0, unM M, keM M, beM M, foM M) else absM M := rfl
  rw [et, ea]
  refine MC_of (ls := [some (vr b 72), some (vi c)]) (by decide) rfl (Nat.le_of_ble_eq_true rfl) ?_
  refine R_iload_n (pc := 0) dX8_write_0 rfl ?_
  refine R_i2l (pc := 1) dX8_write_1 (by omega) ?_
  refine R_ldc2 (pc := 2) (x := 32) dX8_write_2 kl_RX8_86 rfl ?_
  refine R_ldc2 (pc := 5) (x := 126) dX8_write_5 kl_RX8_88 rfl ?_
  refine R_S3i (pc := 8) dX8_write_8 ss_RX8_69 (j_in b sh M _ _ _ hc (by omega) (by omega)) (Nat.le_of_ble_eq_true rfl) (by decide) ?_
  refine R_if_ne (pc := 11) (tgt := 16) dX8_write_11 (by decide) (by omega) (fun h_11 => ?_) (fun h_11 => ?_)
  · refine R_aload_n (pc := 16) dX8_write_16 rfl ?_
    refine R_getI (pc := 17) (J := 5) dX8_write_17 fl_RX8_90 rfl rfl (hsh _ _ rfl) (rfl) ?_
    refine R_sipush (pc := 20) dX8_write_20 rfl ?_
    refine R_cmp_ne (pc := 23) (tgt := 29) dX8_write_23 (by decide) (by omega) (fun h_23 => ?_) (fun h_23 => ?_)
    · refine R_aload_n (pc := 29) dX8_write_29 rfl ?_
      refine R_getR (pc := 30) dX8_write_30 fl_RX8_16 rfl (hsh _ _ rfl) rfl ?_
      refine R_aload_n (pc := 33) dX8_write_33 rfl ?_
      refine R_getI (pc := 34) (J := 5) dX8_write_34 fl_RX8_90 rfl rfl (hsh _ _ rfl) (rfl) ?_
      refine R_iload_n (pc := 37) dX8_write_37 rfl ?_
      refine R_iast (pc := 38) dX8_write_38 (hsh _ _ rfl) (by omega) (by omega) ?_
      refine R_aload_n (pc := 39) dX8_write_39 rfl ?_
      refine R_dup (pc := 40) dX8_write_40 rfl ?_
      refine R_getI (pc := 41) (J := 5) dX8_write_41 fl_RX8_90 rfl rfl (hsh _ _ rfl) (up_k (by omega)) ?_
      refine R_iconst (pc := 44) dX8_write_44 ?_
      refine R_iadd (pc := 45) dX8_write_45 ?_
      refine R_putI (pc := 46) (J := 5) rfl dX8_write_46 fl_RX8_90 rfl (fun r h => by cases h; rfl) (hsh _ _ rfl) (by omega) ?_
      refine R_aload_n (pc := 49) dX8_write_49 rfl ?_
      refine R_getI (pc := 50) (J := 5) dX8_write_50 fl_RX8_90 rfl rfl (hsh _ _ rfl) (up_s) ?_
      refine R_iret (pc := 53) dX8_write_53 ?_
      rw [if_pos (by omega), if_pos (by omega), if_pos (by omega)]
      have e : ∀ q j, ¬ (q = 75 ∧ j = M 72 5) → ¬ (q = 72 ∧ j = 5) → up (up M 75 (M 72 5) c) 72 5 (M 72 5 + 1) q j = M q j := fun q j h1 h2 => by rw [up, if_neg h2, up, if_neg h1]
      have ec : ∀ q, q ≠ 75 → q ≠ 72 → up (up M 75 (M 72 5) c) 72 5 (M 72 5 + 1) q = M q := fun q h1 h2 => funext fun j => e q j (by omega) (by omega)
      have e5 : up (up M 75 (M 72 5) c) 72 5 (M 72 5 + 1) 72 5 = M 72 5 + 1 := up_s
      refine ⟨rfl, absM_gen ⟨e5, ?_⟩ (kM_mo hI (fun j _ _ => e _ _ (by omega) (by omega))) (roM_c (fun j _ _ => e _ _ (by omega) (by omega))) (kM_un hI (e _ _ (by omega) (by omega)) (fun j _ _ => e _ _ (by omega) (by omega))) (kM_ke hI (e _ _ (by omega) (by omega)) (fun j _ _ => e _ _ (by omega) (by omega))) (kM_be (e _ _ (by omega) (by omega)) (ec _ (by omega) (by omega)) (ec _ (by omega) (by omega))) (kM_fo (e _ _ (by omega) (by omega)) (ec _ (by omega) (by omega)) (ec _ (by omega) (by omega)) (ec _ (by omega) (by omega))), fun q hq => ec q (by omega) (by omega)⟩
      funext j
      show txM _ j = uF (txM M) (M 72 5) c j
      unfold txM uF
      rw [e5, up_k (by omega)]
      by_cases hj : j = M 72 5
      · rw [if_pos (by omega), if_pos hj, hj, up_s]
      · rw [if_neg hj, up_j hj]
        by_cases hj2 : 0 ≤ j ∧ j < M 72 5
        · rw [if_pos (by omega)]; exact (if_pos hj2).symm
        · rw [if_neg (by omega)]; exact (if_neg hj2).symm
    · refine R_bipush (pc := 26) dX8_write_26 rfl ?_
      refine R_iret (pc := 28) dX8_write_28 ?_
      rw [if_neg (by omega)]
      exact QM_ro hI FrM_r (by omega)
  · refine R_iconst (pc := 14) dX8_write_14 ?_
    refine R_iret (pc := 15) dX8_write_15 ?_
    rw [if_neg (by omega)]
    exact QM_ro hI FrM_r (by omega)
theorem j_wipe (b : Nat) (sh : Shp) (M : Mem) {B : Int} (hsh : Hm sh) (hI : IS (absM M) B) : C0 0 mX8_wipe b sh M [vr b 72] (QM M (nx_wipe (absM M)) (absM M).1) := by
  refine MC_of (ls := [some (vr b 72), none]) (by decide) rfl (Nat.le_of_ble_eq_true rfl) ?_
  refine R_aload_n (pc := 0) dX8_wipe_0 rfl ?_
  refine R_getI (pc := 1) (J := 5) dX8_wipe_1 fl_RX8_90 rfl rfl (hsh _ _ rfl) (rfl) ?_
  refine R_istore_n (pc := 4) dX8_wipe_4 (by decide) rfl rfl ?_
  refine R_aload_n (pc := 5) dX8_wipe_5 rfl ?_
  refine R_iconst (pc := 6) dX8_wipe_6 ?_
  refine R_putI (pc := 7) (J := 5) rfl dX8_wipe_7 fl_RX8_90 rfl (fun r h => by cases h; rfl) (hsh _ _ rfl) (by omega) ?_
  refine R_iload_n (pc := 10) dX8_wipe_10 rfl ?_
  refine R_iret (pc := 11) dX8_wipe_11 ?_
  have e : ∀ q j, ¬ (q = 72 ∧ j = 5) → up M 72 5 0 q j = M q j := fun q j h2 => by rw [up, if_neg h2]
  have ec : ∀ q, q ≠ 72 → up M 72 5 0 q = M q := fun q h2 => funext fun j => e q j (by omega)
  have e5 : up M 72 5 0 72 5 = 0 := up_s
  refine ⟨rfl, absM_gen ⟨e5, ?_⟩ (kM_mo hI (fun j _ _ => e _ _ (by omega))) (roM_c (fun j _ _ => e _ _ (by omega))) (kM_un hI (e _ _ (by omega)) (fun j _ _ => e _ _ (by omega))) (kM_ke hI (e _ _ (by omega)) (fun j _ _ => e _ _ (by omega))) (kM_be (e _ _ (by omega)) (ec _ (by omega)) (ec _ (by omega))) (kM_fo (e _ _ (by omega)) (ec _ (by omega)) (ec _ (by omega)) (ec _ (by omega))), fun q hq => ec q (by omega)⟩
  funext j
  show txM _ j = 0
  unfold txM
  rw [e5, if_neg (by omega)]
theorem md_self {M : Mem} {B : Int} (hI : IS (absM M) B) : mdM M = putM (mdM M) 0 (roM M 0) := by
  rw [← (md_k hI).2, pm_self]
theorem j_pass (b : Nat) (sh : Shp) (M : Mem) {B : Int} (hsh : Hm sh) (hI : IS (absM M) B) (hB : B ≤ 90000) (n : Int) (hn : inR n) : C0 5 mX8_pass b sh M [vr b 72, vi n] (QM M (nx_pass (absM M) n) (a_pass (absM M) n)) := by
  have ea : a_pass (absM M) n = if 1 ≤ n ∧ n ≤ 20 then days (moM M) (roM M 0) n.toNat 16 else -1 := rfl
  have et : nx_pass (absM M) n = if 1 ≤ n ∧ n ≤ 20 then (M 72 5, txM M, moM M, days (moM M) (roM M 0) n.toNat, pu (unM M) (roM M 0), keM M, beM M, foM M) else absM M := rfl
  have hmd := j_minds b sh M hsh hI.2.2.2.1.1
  rw [md_self hI] at hmd
  obtain ⟨p1, p2⟩ := md_k hI
  refine MC_of (ls := [some (vr b 72), some (vi n)]) (by decide) rfl (Nat.le_of_ble_eq_true rfl) ?_
  refine R_iload_n (pc := 0) dX8_pass_0 rfl ?_
  refine R_i2l (pc := 1) dX8_pass_1 (by omega) ?_
  refine R_lconst (pc := 2) dX8_pass_2 (x := 1) rfl ?_
  refine R_ldc2 (pc := 3) (x := 20) dX8_pass_3 kl_RX8_178 rfl ?_
  refine R_S3i (pc := 6) dX8_pass_6 ss_RX8_69 (j_in b sh _ _ _ _ hn (by omega) (by omega)) (Nat.le_of_ble_eq_true rfl) (by decide) ?_
  refine R_if_ne (pc := 9) (tgt := 14) dX8_pass_9 (by decide) (by omega) (fun h_9 => ?_) (fun h_9 => ?_)
  · refine R_aload_n (pc := 14) dX8_pass_14 rfl ?_
    refine R_V0v (pc := 15) dX8_pass_15 sv_RX8_180 (hsh _ _ rfl) (hmd) (Nat.le_of_ble_eq_true rfl) (by decide) ?_
    refine R_aload_n (pc := 18) dX8_pass_18 rfl ?_
    refine R_iconst (pc := 19) dX8_pass_19 ?_
    refine R_iload_n (pc := 20) dX8_pass_20 rfl ?_
    refine R_V2v (pc := 21) dX8_pass_21 sv_RX8_183 (hsh _ _ rfl) (j_passesMany b sh (mdM M) hsh 0 (by omega) (by rw [p1]; exact hI.1) (roM M 0) hI.2.2.1 n (by omega)) (Nat.le_of_ble_eq_true rfl) (by decide) ?_
    rw [p1]
    obtain ⟨d1, d2⟩ := days_in hI.1 hI.2.2.1 n.toNat (by omega)
    refine R_aload_n (pc := 24) dX8_pass_24 rfl ?_
    refine R_getR (pc := 25) dX8_pass_25 fl_RX8_13 rfl (hsh _ _ rfl) rfl ?_
    refine R_bipush (pc := 28) dX8_pass_28 rfl ?_
    refine R_iald (pc := 30) dX8_pass_30 (hsh _ _ rfl) (by omega) (pm_z (by omega)) ?_
    refine R_iret (pc := 31) dX8_pass_31 ?_
    obtain ⟨i1, i2⟩ := md_abs hI d1.2.2.2.2.1
    rw [et, ea, if_pos (by omega), if_pos (by omega)]
    exact ⟨rfl, i1, i2⟩
  · refine R_iconst (pc := 12) dX8_pass_12 ?_
    refine R_iret (pc := 13) dX8_pass_13 ?_
    rw [et, ea, if_neg (by omega), if_neg (by omega)]
    exact QM_ro hI FrM_r rfl
theorem j_walk (b : Nat) (sh : Shp) (M : Mem) {B : Int} (hsh : Hm sh) (hI : IS (absM M) B) (hB : B ≤ 90000) (w t : Int) (hi : inR w) (hj : inR t) : C0 5 mX8_walk b sh M [vr b 72, vi w, vi t] (QM M (nx_walk (absM M) w t) (a_walk (absM M) w t)) := by
  have hw : 0 ≤ moM M 0 1 ∧ moM M 0 1 ≤ 4 := hI.1.2.1
  have ht : 0 ≤ moM M 0 2 ∧ moM M 0 2 ≤ 6 := hI.1.2.2.1
  have ea : a_walk (absM M) w t = if (0 ≤ w ∧ w ≤ moM M 0 1 - 1) ∧ 0 ≤ t ∧ t ≤ moM M 0 2 - 1 then (wlk (moM M) (fogAt (moM M) (roM M 0 16)) (roM M 0) w t).2 else -1 := rfl
  have et : nx_walk (absM M) w t = if (0 ≤ w ∧ w ≤ moM M 0 1 - 1) ∧ 0 ≤ t ∧ t ≤ moM M 0 2 - 1 then (M 72 5, txM M, moM M, (wlk (moM M) (fogAt (moM M) (roM M 0 16)) (roM M 0) w t).1, pu (unM M) (roM M 0), keM M, beM M, foM M) else absM M := rfl
  have hmd := j_minds b sh M hsh hI.2.2.2.1.1
  rw [md_self hI] at hmd
  obtain ⟨p1, p2⟩ := md_k hI
  have h16 : 0 ≤ roM M 0 16 ∧ roM M 0 16 ≤ B := hI.2.2.1.2.1
  have hww : WFr (uF (roM M 0) 18 1) B := WFr_w hI.2.2.1 (by omega)
  have hfg : fogAt (moM M) (roM M 0 16) = 0 ∨ fogAt (moM M) (roM M 0 16) = 1 := hI.1.2.2.2.2.2.2.2.2.2.2.2.2 _
  have hfo := j_isFog b sh (putM (mdM M) 0 (uF (roM M 0) 18 1)) hsh (by rw [mM_pm, p1]; exact hI.1.2.2.2.2.1) (roM M 0 16) (by omega)
  rw [mM_pm, p1] at hfo
  refine MC_of (ls := [some (vr b 72), some (vi w), some (vi t)]) (by decide) rfl (Nat.le_of_ble_eq_true rfl) ?_
  refine R_aload_n (pc := 0) dX8_walk_0 rfl ?_
  refine R_iload_n (pc := 1) dX8_walk_1 rfl ?_
  refine R_V1i (pc := 2) dX8_walk_2 sv_RX8_132 (hsh _ _ rfl) (j_isWalker b sh M hsh w hi (by omega)) (Nat.le_of_ble_eq_true rfl) (by decide) ?_
  refine R_if_eq (pc := 5) (tgt := 16) dX8_walk_5 (by decide) (by omega) (fun h_5 => ?_) (fun h_5 => ?_)
  · refine R_iconst (pc := 16) dX8_walk_16 ?_
    refine R_iret (pc := 17) dX8_walk_17 ?_
    rw [et, ea, if_neg (by omega), if_neg (by omega)]
    exact QM_ro hI FrM_r rfl
  · refine R_aload_n (pc := 8) dX8_walk_8 rfl ?_
    refine R_iload_n (pc := 9) dX8_walk_9 rfl ?_
    refine R_V1i (pc := 10) dX8_walk_10 sv_RX8_135 (hsh _ _ rfl) (j_isThing b sh M hsh t hj (by omega)) (Nat.le_of_ble_eq_true rfl) (by decide) ?_
    refine R_if_ne (pc := 13) (tgt := 18) dX8_walk_13 (by decide) (by omega) (fun h_13 => ?_) (fun h_13 => ?_)
    · refine R_aload_n (pc := 18) dX8_walk_18 rfl ?_
      refine R_V0v (pc := 19) dX8_walk_19 sv_RX8_180 (hsh _ _ rfl) (hmd) (Nat.le_of_ble_eq_true rfl) (by decide) ?_
      refine R_aload_n (pc := 22) dX8_walk_22 rfl ?_
      refine R_getR (pc := 23) dX8_walk_23 fl_RX8_13 rfl (hsh _ _ rfl) rfl ?_
      refine R_bipush (pc := 26) dX8_walk_26 rfl ?_
      refine R_iconst (pc := 28) dX8_walk_28 ?_
      refine R_iast (pc := 29) dX8_walk_29 (hsh _ _ rfl) (by omega) (by omega) ?_
      rw [pmu (i := 18) (by omega) (by omega)]
      refine R_aload_n (pc := 30) dX8_walk_30 rfl ?_
      refine R_aload_n (pc := 31) dX8_walk_31 rfl ?_
      refine R_getR (pc := 32) dX8_walk_32 fl_RX8_13 rfl (hsh _ _ rfl) rfl ?_
      refine R_bipush (pc := 35) dX8_walk_35 rfl ?_
      refine R_iald (pc := 37) dX8_walk_37 (hsh _ _ rfl) (by omega) ((pm_z (by omega)).trans (uF_n (by omega))) ?_
      refine R_V1i (pc := 38) dX8_walk_38 sv_RX8_145 (hsh _ _ rfl) (hfo) (Nat.le_of_ble_eq_true rfl) (by decide) ?_
      refine R_if_eq (pc := 41) (tgt := 48) dX8_walk_41 (by decide) (by omega) (fun h_41 => ?_) (fun h_41 => ?_)
      · refine R_aload_n (pc := 48) dX8_walk_48 rfl ?_
        refine R_iconst (pc := 49) dX8_walk_49 ?_
        refine R_iload_n (pc := 50) dX8_walk_50 rfl ?_
        refine R_iload_n (pc := 51) dX8_walk_51 rfl ?_
        refine R_V3i (pc := 52) dX8_walk_52 sv_RX8_162 (hsh _ _ rfl) (j_bends b sh (mdM M) hsh 0 (by omega) (by rw [p1]; exact hI.1) _ hww w t (by rw [p1]; omega) (by rw [p1]; omega)) (Nat.le_of_ble_eq_true rfl) (by decide) ?_
        refine R_iret (pc := 55) dX8_walk_55 ?_
        first
          | (obtain ⟨i1, i2⟩ := md_abs hI hww.2.2.2.2.1
             rw [et, ea, if_pos (by omega), if_pos (by omega), wlk, if_pos (by omega)]
             exact ⟨rfl, i1, i2⟩)
          | (rw [p1]
             obtain ⟨i1, i2⟩ := md_abs hI (bend_in (k := w) (t := t) hI.1 hww).1.2.2.2.2.1
             rw [et, ea, if_pos (by omega), if_pos (by omega), wlk, if_neg (by omega)]
             exact ⟨rfl, i1, i2⟩)
      · refine R_iconst (pc := 44) dX8_walk_44 ?_
        refine R_goto (pc := 45) (tgt := 55) dX8_walk_45 (by decide) ?_
        refine R_iret (pc := 55) dX8_walk_55 ?_
        first
          | (obtain ⟨i1, i2⟩ := md_abs hI hww.2.2.2.2.1
             rw [et, ea, if_pos (by omega), if_pos (by omega), wlk, if_pos (by omega)]
             exact ⟨rfl, i1, i2⟩)
          | (rw [p1]
             obtain ⟨i1, i2⟩ := md_abs hI (bend_in (k := w) (t := t) hI.1 hww).1.2.2.2.2.1
             rw [et, ea, if_pos (by omega), if_pos (by omega), wlk, if_neg (by omega)]
             exact ⟨rfl, i1, i2⟩)
    · refine R_iconst (pc := 16) dX8_walk_16 ?_
      refine R_iret (pc := 17) dX8_walk_17 ?_
      rw [et, ea, if_neg (by omega), if_neg (by omega)]
      exact QM_ro hI FrM_r rfl
theorem j_shut (b : Nat) (sh : Shp) (M : Mem) {B : Int} (hsh : Hm sh) (hI : IS (absM M) B) (t z : Int) (hi : inR t) (hz : z = 0 ∨ z = 1) : C0 5 mX8_shut b sh M [vr b 72, vi t, vi z] (QM M (nx_shut (absM M) t z) (a_shut (absM M) t z)) := by
  have ht : 0 ≤ moM M 0 2 ∧ moM M 0 2 ≤ 6 := hI.1.2.2.1
  have ea : a_shut (absM M) t z = if 0 ≤ t ∧ t ≤ moM M 0 2 - 1 then (if sb (roM M 0 17) t = z then -2 else cnt (xr (roM M 0 17) t)) else -1 := rfl
  have et : nx_shut (absM M) t z = if (0 ≤ t ∧ t ≤ moM M 0 2 - 1) ∧ ¬ sb (roM M 0 17) t = z then (M 72 5, txM M, moM M, uF (roM M 0) 17 (xr (roM M 0 17) t), pu (unM M) (roM M 0), keM M, beM M, foM M) else absM M := rfl
  have hmd := j_minds b sh M hsh hI.2.2.2.1.1
  rw [md_self hI] at hmd
  have h17 : 0 ≤ roM M 0 17 ∧ roM M 0 17 < 64 := hI.2.2.1.2.2.1
  have h01 := sb01 (roM M 0 17) t
  refine MC_of (ls := [some (vr b 72), some (vi t), some (vi z)]) (by decide) rfl (Nat.le_of_ble_eq_true rfl) ?_
  refine R_aload_n (pc := 0) dX8_shut_0 rfl ?_
  refine R_iload_n (pc := 1) dX8_shut_1 rfl ?_
  refine R_V1i (pc := 2) dX8_shut_2 sv_RX8_135 (hsh _ _ rfl) (j_isThing b sh M hsh t hi (by omega)) (Nat.le_of_ble_eq_true rfl) (by decide) ?_
  refine R_if_ne (pc := 5) (tgt := 10) dX8_shut_5 (by decide) (by omega) (fun h_5 => ?_) (fun h_5 => ?_)
  · refine R_aload_n (pc := 10) dX8_shut_10 rfl ?_
    refine R_getR (pc := 11) dX8_shut_11 fl_RX8_13 rfl (hsh _ _ rfl) rfl ?_
    refine R_bipush (pc := 14) dX8_shut_14 rfl ?_
    refine R_iald (pc := 16) dX8_shut_16 (hsh _ _ rfl) (by omega) (roM_j (h := 0) (i := 17) (by omega) (by omega)) ?_
    refine R_iload_n (pc := 17) dX8_shut_17 rfl ?_
    refine R_S2i (pc := 18) dX8_shut_18 ss_RX8_155 (j_has b sh M _ _ h17 (by omega)) (Nat.le_of_ble_eq_true rfl) (by decide) ?_
    refine R_iload_n (pc := 21) dX8_shut_21 rfl ?_
    refine R_cmp_ne (pc := 22) (tgt := 28) dX8_shut_22 (by decide) (by omega) (fun h_22 => ?_) (fun h_22 => ?_)
    · refine R_aload_n (pc := 28) dX8_shut_28 rfl ?_
      refine R_V0v (pc := 29) dX8_shut_29 sv_RX8_180 (hsh _ _ rfl) (hmd) (Nat.le_of_ble_eq_true rfl) (by decide) ?_
      have hx := xr_in h17 (t := t) (by omega)
      have hp := pow_le10 (v := t) (by omega)
      have hws := WFr_s hI.2.2.1 hx
      refine R_aload_n (pc := 32) dX8_shut_32 rfl ?_
      refine R_getR (pc := 33) dX8_shut_33 fl_RX8_13 rfl (hsh _ _ rfl) rfl ?_
      refine R_bipush (pc := 36) dX8_shut_36 rfl ?_
      refine R_dup2 (pc := 38) dX8_shut_38 rfl rfl ?_
      refine R_iald (pc := 39) dX8_shut_39 (hsh _ _ rfl) (by omega) (pm_z (by omega)) ?_
      refine R_iconst (pc := 40) dX8_shut_40 ?_
      refine R_iload_n (pc := 41) dX8_shut_41 rfl ?_
      refine R_ishl (pc := 42) dX8_shut_42 (by omega) ?_
      refine R_ixor (pc := 43) dX8_shut_43 (by omega) ?_
      refine R_iast (pc := 44) dX8_shut_44 (hsh _ _ rfl) (by unfold xr at hx; omega) (by unfold xr at hx; omega) ?_
      rw [pmu (i := 17) (by omega) (by omega)]
      refine R_aload_n (pc := 45) dX8_shut_45 rfl ?_
      refine R_getR (pc := 46) dX8_shut_46 fl_RX8_13 rfl (hsh _ _ rfl) rfl ?_
      refine R_bipush (pc := 49) dX8_shut_49 rfl ?_
      refine R_iald (pc := 51) dX8_shut_51 (hsh _ _ rfl) (by omega) ((show _ = xr (roM M 0 17) t from (pm_z (by omega)).trans uF_s)) ?_
      refine R_S1i (pc := 52) dX8_shut_52 ss_RX8_186 (j_ones b sh _ _ hx) (Nat.le_of_ble_eq_true rfl) (by decide) ?_
      refine R_iret (pc := 55) dX8_shut_55 ?_
      obtain ⟨i1, i2⟩ := md_abs hI hws.2.2.2.2.1
      rw [et, ea, if_pos ⟨by omega, h_22⟩, if_pos (by omega), if_neg h_22]
      exact ⟨rfl, i1, i2⟩
    · refine R_bipush (pc := 25) dX8_shut_25 rfl ?_
      refine R_iret (pc := 27) dX8_shut_27 ?_
      rw [et, ea, if_neg (fun q => q.2 h_22), if_pos (by omega), if_pos h_22]
      exact QM_ro hI FrM_r rfl
  · refine R_iconst (pc := 8) dX8_shut_8 ?_
    refine R_iret (pc := 9) dX8_shut_9 ?_
    rw [et, ea, if_neg (by omega), if_neg (by omega)]
    exact QM_ro hI FrM_r rfl
theorem po_un {M M' : Mem} (hu : 0 ≤ M 72 2 ∧ M 72 2 ≤ 8) (e : M' 72 2 = M 72 2 - 1) (e2 : ∀ j, 57 ≤ j → j ≤ 208 → M' 74 j = M 74 j) : unM M' = po (unM M) := by
  unfold po unM
  rw [e, mskR_m (by omega), mskR_e (fun k a c => roM_c (fun j b d => e2 j (by omega) (by omega)))]
theorem po_ke {M M' : Mem} (hu : 0 ≤ M 72 3 ∧ M 72 3 ≤ 2) (e : M' 72 3 = M 72 3 - 1) (e2 : ∀ j, 19 ≤ j → j ≤ 56 → M' 74 j = M 74 j) : keM M' = po (keM M) := by
  unfold po keM
  rw [e, mskR_m (by omega), mskR_e (fun k a c => roM_c (fun j b d => e2 j (by omega) (by omega)))]
theorem j_undo (b : Nat) (sh : Shp) (M : Mem) {B : Int} (hsh : Hm sh) (hI : IS (absM M) B) : C0 1 mX8_undo b sh M [vr b 72] (QM M (nx_undo (absM M)) (a_undo (absM M))) := by
  have hu : 0 ≤ M 72 2 ∧ M 72 2 ≤ 8 := hI.2.2.2.1.1
  have ea : a_undo (absM M) = if 1 ≤ M 72 2 then M 72 2 - 1 else -2 := rfl
  have et : nx_undo (absM M) = if 1 ≤ M 72 2 then (M 72 5, txM M, moM M, mskR (M 72 2) (fun k => roM M (57 + 19 * k)) (M 72 2 - 1), po (unM M), keM M, beM M, foM M) else absM M := rfl
  rw [et, ea]
  refine MC_of (ls := [some (vr b 72)]) (by decide) rfl (Nat.le_of_ble_eq_true rfl) ?_
  refine R_aload_n (pc := 0) dX8_undo_0 rfl ?_
  refine R_getI (pc := 1) (J := 2) dX8_undo_1 fl_RX8_73 rfl rfl (hsh _ _ rfl) (rfl) ?_
  refine R_if_ne (pc := 4) (tgt := 10) dX8_undo_4 (by decide) (by omega) (fun h_4 => ?_) (fun h_4 => ?_)
  · refine R_aload_n (pc := 10) dX8_undo_10 rfl ?_
    refine R_dup (pc := 11) dX8_undo_11 rfl ?_
    refine R_getI (pc := 12) (J := 2) dX8_undo_12 fl_RX8_73 rfl rfl (hsh _ _ rfl) (rfl) ?_
    refine R_iconst (pc := 15) dX8_undo_15 ?_
    refine R_isub (pc := 16) dX8_undo_16 ?_
    refine R_putI (pc := 17) (J := 2) rfl dX8_undo_17 fl_RX8_73 rfl (fun r h => by cases h; rfl) (hsh _ _ rfl) (by omega) ?_
    refine R_aload_n (pc := 20) dX8_undo_20 rfl ?_
    refine R_bipush (pc := 21) dX8_undo_21 rfl ?_
    refine R_bipush (pc := 23) dX8_undo_23 rfl ?_
    refine R_aload_n (pc := 25) dX8_undo_25 rfl ?_
    refine R_getI (pc := 26) (J := 2) dX8_undo_26 fl_RX8_73 rfl rfl (hsh _ _ rfl) (up_s) ?_
    refine R_imul (pc := 29) dX8_undo_29 ?_
    refine R_iadd (pc := 30) dX8_undo_30 ?_
    refine R_iconst (pc := 31) dX8_undo_31 ?_
    refine R_V2v (pc := 32) dX8_undo_32 sv_RX8_174 (hsh _ _ rfl) (j_copy b sh (up M 72 2 (M 72 2 - 1)) hsh (57 + 19 * (M 72 2 - 1)) 0 (by omega) (by omega) (by omega)) (Nat.le_of_ble_eq_true rfl) (by decide) ?_
    rw [roM_up (by omega)]
    refine R_aload_n (pc := 35) dX8_undo_35 rfl ?_
    refine R_getI (pc := 36) (J := 2) dX8_undo_36 fl_RX8_73 rfl rfl (hsh _ _ rfl) ((pm_k (by omega)).trans up_s) ?_
    refine R_iret (pc := 39) dX8_undo_39 ?_
    rw [if_pos (by omega), if_pos (by omega), mskR_i (by omega)]
    have e : ∀ q j, ¬ (q = 74 ∧ 0 ≤ j ∧ j ≤ 18) → ¬ (q = 72 ∧ j = 2) → putM (up M 72 2 (M 72 2 - 1)) 0 (roM M (57 + 19 * (M 72 2 - 1))) q j = M q j := fun q j h1 h2 => by
      unfold putM
      rw [if_neg (by omega), up, if_neg h2]
    have ec : ∀ q, q ≠ 72 → q ≠ 74 → putM (up M 72 2 (M 72 2 - 1)) 0 (roM M (57 + 19 * (M 72 2 - 1))) q = M q := fun q h1 h2 => funext fun j => e q j (by omega) (by omega)
    exact ⟨rfl, absM_gen (kM_tx (e _ _ (by omega) (by omega)) (ec _ (by omega) (by omega))) (kM_mo hI (fun j _ _ => e _ _ (by omega) (by omega))) (ro_pm roM_z) (po_un hu ((pm_k (by omega)).trans up_s) (fun j _ _ => e _ _ (by omega) (by omega))) (kM_ke hI (e _ _ (by omega) (by omega)) (fun j _ _ => e _ _ (by omega) (by omega))) (kM_be (e _ _ (by omega) (by omega)) (ec _ (by omega) (by omega)) (ec _ (by omega) (by omega))) (kM_fo (e _ _ (by omega) (by omega)) (ec _ (by omega) (by omega)) (ec _ (by omega) (by omega)) (ec _ (by omega) (by omega))), fun q hq => ec q (by omega) (by omega)⟩
  · refine R_bipush (pc := 7) dX8_undo_7 rfl ?_
    refine R_iret (pc := 9) dX8_undo_9 ?_
    rw [if_neg (by omega), if_neg (by omega)]
    exact QM_ro hI FrM_r rfl
theorem j_back (b : Nat) (sh : Shp) (M : Mem) {B : Int} (hsh : Hm sh) (hI : IS (absM M) B) : C0 1 mX8_back b sh M [vr b 72] (QM M (nx_back (absM M)) (a_back (absM M))) := by
  have hu : 0 ≤ M 72 3 ∧ M 72 3 ≤ 2 := hI.2.2.2.2.1.1
  have ea : a_back (absM M) = if 1 ≤ M 72 3 then M 72 3 - 1 else -2 := rfl
  have et : nx_back (absM M) = if 1 ≤ M 72 3 then (M 72 5, txM M, moM M, mskR (M 72 3) (fun k => roM M (19 + 19 * k)) (M 72 3 - 1), (0, zR), po (keM M), beM M, foM M) else absM M := rfl
  rw [et, ea]
  refine MC_of (ls := [some (vr b 72)]) (by decide) rfl (Nat.le_of_ble_eq_true rfl) ?_
  refine R_aload_n (pc := 0) dX8_back_0 rfl ?_
  refine R_getI (pc := 1) (J := 3) dX8_back_1 fl_RX8_77 rfl rfl (hsh _ _ rfl) (rfl) ?_
  refine R_if_ne (pc := 4) (tgt := 10) dX8_back_4 (by decide) (by omega) (fun h_4 => ?_) (fun h_4 => ?_)
  · refine R_aload_n (pc := 10) dX8_back_10 rfl ?_
    refine R_dup (pc := 11) dX8_back_11 rfl ?_
    refine R_getI (pc := 12) (J := 3) dX8_back_12 fl_RX8_77 rfl rfl (hsh _ _ rfl) (rfl) ?_
    refine R_iconst (pc := 15) dX8_back_15 ?_
    refine R_isub (pc := 16) dX8_back_16 ?_
    refine R_putI (pc := 17) (J := 3) rfl dX8_back_17 fl_RX8_77 rfl (fun r h => by cases h; rfl) (hsh _ _ rfl) (by omega) ?_
    refine R_aload_n (pc := 20) dX8_back_20 rfl ?_
    refine R_bipush (pc := 21) dX8_back_21 rfl ?_
    refine R_bipush (pc := 23) dX8_back_23 rfl ?_
    refine R_aload_n (pc := 25) dX8_back_25 rfl ?_
    refine R_getI (pc := 26) (J := 3) dX8_back_26 fl_RX8_77 rfl rfl (hsh _ _ rfl) (up_s) ?_
    refine R_imul (pc := 29) dX8_back_29 ?_
    refine R_iadd (pc := 30) dX8_back_30 ?_
    refine R_iconst (pc := 31) dX8_back_31 ?_
    refine R_V2v (pc := 32) dX8_back_32 sv_RX8_174 (hsh _ _ rfl) (j_copy b sh (up M 72 3 (M 72 3 - 1)) hsh (19 + 19 * (M 72 3 - 1)) 0 (by omega) (by omega) (by omega)) (Nat.le_of_ble_eq_true rfl) (by decide) ?_
    rw [roM_up (by omega)]
    refine R_aload_n (pc := 35) dX8_back_35 rfl ?_
    refine R_iconst (pc := 36) dX8_back_36 ?_
    refine R_putI (pc := 37) (J := 2) rfl dX8_back_37 fl_RX8_73 rfl (fun r h => by cases h; rfl) (hsh _ _ rfl) (by omega) ?_
    refine R_aload_n (pc := 40) dX8_back_40 rfl ?_
    refine R_getI (pc := 41) (J := 3) dX8_back_41 fl_RX8_77 rfl rfl (hsh _ _ rfl) ((up_j (by omega)).trans ((pm_k (by omega)).trans up_s)) ?_
    refine R_iret (pc := 44) dX8_back_44 ?_
    rw [if_pos (by omega), if_pos (by omega), mskR_i (by omega)]
    have e : ∀ q j, ¬ (q = 74 ∧ 0 ≤ j ∧ j ≤ 18) → ¬ (q = 72 ∧ j = 2) → ¬ (q = 72 ∧ j = 3) → up (putM (up M 72 3 (M 72 3 - 1)) 0 (roM M (19 + 19 * (M 72 3 - 1)))) 72 2 0 q j = M q j := fun q j h1 h2 h3 => by
      rw [up, if_neg h2]
      unfold putM
      rw [if_neg (by omega), up, if_neg h3]
    have ec : ∀ q, q ≠ 72 → q ≠ 74 → up (putM (up M 72 3 (M 72 3 - 1)) 0 (roM M (19 + 19 * (M 72 3 - 1)))) 72 2 0 q = M q := fun q h1 h2 => funext fun j => e q j (by omega) (by omega) (by omega)
    exact ⟨rfl, absM_gen (kM_tx (e _ _ (by omega) (by omega) (by omega)) (ec _ (by omega) (by omega))) (kM_mo hI (fun j _ _ => e _ _ (by omega) (by omega) (by omega))) ((roM_up (by omega)).trans (ro_pm roM_z)) (by unfold unM; rw [up_s, mskR_0]) (po_ke hu ((up_j (by omega)).trans ((pm_k (by omega)).trans up_s)) (fun j _ _ => e _ _ (by omega) (by omega) (by omega))) (kM_be (e _ _ (by omega) (by omega) (by omega)) (ec _ (by omega) (by omega)) (ec _ (by omega) (by omega))) (kM_fo (e _ _ (by omega) (by omega) (by omega)) (ec _ (by omega) (by omega)) (ec _ (by omega) (by omega)) (ec _ (by omega) (by omega))), fun q hq => ec q (by omega) (by omega)⟩
  · refine R_bipush (pc := 7) dX8_back_7 rfl ?_
    refine R_iret (pc := 9) dX8_back_9 ?_
    rw [if_neg (by omega), if_neg (by omega)]
    exact QM_ro hI FrM_r rfl
theorem j_keep (b : Nat) (sh : Shp) (M : Mem) {B : Int} (hsh : Hm sh) (hI : IS (absM M) B) : C0 1 mX8_keep b sh M [vr b 72] (QM M (nx_keep (absM M)) (a_keep (absM M))) := by
  have hu : 0 ≤ M 72 3 ∧ M 72 3 ≤ 2 := hI.2.2.2.2.1.1
  have ea : a_keep (absM M) = if M 72 3 < 2 then M 72 3 + 1 else -3 := rfl
  have et : nx_keep (absM M) = if M 72 3 < 2 then (M 72 5, txM M, moM M, roM M 0, unM M, ad (keM M) (roM M 0), beM M, foM M) else absM M := rfl
  rw [et, ea]
  refine MC_of (ls := [some (vr b 72)]) (by decide) rfl (Nat.le_of_ble_eq_true rfl) ?_
  refine R_aload_n (pc := 0) dX8_keep_0 rfl ?_
  refine R_getI (pc := 1) (J := 3) dX8_keep_1 fl_RX8_77 rfl rfl (hsh _ _ rfl) (rfl) ?_
  refine R_iconst (pc := 4) dX8_keep_4 ?_
  refine R_cmp_ne (pc := 5) (tgt := 11) dX8_keep_5 (by decide) (by omega) (fun h_5 => ?_) (fun h_5 => ?_)
  · refine R_aload_n (pc := 11) dX8_keep_11 rfl ?_
    refine R_iconst (pc := 12) dX8_keep_12 ?_
    refine R_bipush (pc := 13) dX8_keep_13 rfl ?_
    refine R_bipush (pc := 15) dX8_keep_15 rfl ?_
    refine R_aload_n (pc := 17) dX8_keep_17 rfl ?_
    refine R_getI (pc := 18) (J := 3) dX8_keep_18 fl_RX8_77 rfl rfl (hsh _ _ rfl) (rfl) ?_
    refine R_imul (pc := 21) dX8_keep_21 ?_
    refine R_iadd (pc := 22) dX8_keep_22 ?_
    refine R_V2v (pc := 23) dX8_keep_23 sv_RX8_174 (hsh _ _ rfl) (j_copy b sh M hsh 0 (19 + 19 * M 72 3) (by omega) (by omega) (by omega)) (Nat.le_of_ble_eq_true rfl) (by decide) ?_
    refine R_aload_n (pc := 26) dX8_keep_26 rfl ?_
    refine R_dup (pc := 27) dX8_keep_27 rfl ?_
    refine R_getI (pc := 28) (J := 3) dX8_keep_28 fl_RX8_77 rfl rfl (hsh _ _ rfl) (pm_k (by omega)) ?_
    refine R_iconst (pc := 31) dX8_keep_31 ?_
    refine R_iadd (pc := 32) dX8_keep_32 ?_
    refine R_putI (pc := 33) (J := 3) rfl dX8_keep_33 fl_RX8_77 rfl (fun r h => by cases h; rfl) (hsh _ _ rfl) (by omega) ?_
    refine R_aload_n (pc := 36) dX8_keep_36 rfl ?_
    refine R_getI (pc := 37) (J := 3) dX8_keep_37 fl_RX8_77 rfl rfl (hsh _ _ rfl) (up_s) ?_
    refine R_iret (pc := 40) dX8_keep_40 ?_
    rw [if_pos (by omega), if_pos (by omega)]
    have e : ∀ q j, ¬ (q = 74 ∧ 19 ≤ j ∧ j ≤ 56) → ¬ (q = 72 ∧ j = 3) → up (putM M (19 + 19 * M 72 3) (roM M 0)) 72 3 (M 72 3 + 1) q j = M q j := fun q j h1 h2 => by
      rw [up, if_neg h2]
      unfold putM
      rw [if_neg (by omega)]
    have ec : ∀ q, q ≠ 72 → q ≠ 74 → up (putM M (19 + 19 * M 72 3) (roM M 0)) 72 3 (M 72 3 + 1) q = M q := fun q h1 h2 => funext fun j => e q j (by omega) (by omega)
    refine ⟨rfl, absM_gen (kM_tx (e _ _ (by omega) (by omega)) (ec _ (by omega) (by omega))) (kM_mo hI (fun j _ _ => e _ _ (by omega) (by omega))) (roM_c (fun j _ _ => e _ _ (by omega) (by omega))) (kM_un hI (e _ _ (by omega) (by omega)) (fun j _ _ => e _ _ (by omega) (by omega))) ?_ (kM_be (e _ _ (by omega) (by omega)) (ec _ (by omega) (by omega)) (ec _ (by omega) (by omega))) (kM_fo (e _ _ (by omega) (by omega)) (ec _ (by omega) (by omega)) (ec _ (by omega) (by omega)) (ec _ (by omega) (by omega))), fun q hq => ec q (by omega) (by omega)⟩
    show keM _ = ad (keM M) (roM M 0)
    unfold ad keM
    rw [up_s]
    congr 1
    funext k
    unfold mskR
    by_cases hk : k = M 72 3
    · rw [if_pos (by omega), if_pos hk]
      dsimp only
      rw [roM_up (by omega), hk]
      exact ro_pm roM_z
    · rw [if_neg hk]
      dsimp only
      by_cases hk2 : 0 ≤ k ∧ k < M 72 3
      · rw [if_pos (by omega), if_pos hk2, roM_up (by omega), ro_pmo (by omega)]
      · rw [if_neg (by omega), if_neg hk2]
  · refine R_bipush (pc := 8) dX8_keep_8 rfl ?_
    refine R_iret (pc := 10) dX8_keep_10 ?_
    rw [if_neg (by omega), if_neg (by omega)]
    exact QM_ro hI FrM_r rfl
theorem up_row {M : Mem} {k : Nat} {j x : Int} : up M k j x k = uF (M k) j x := by
  funext i
  unfold up uF
  by_cases h : i = j
  · rw [if_pos ⟨rfl, h⟩, if_pos h]
  · rw [if_neg (fun q => h q.2), if_neg h]
theorem j_bent (b : Nat) (sh : Shp) (M : Mem) {B : Int} (hsh : Hm sh) (hI : IS (absM M) B) (i y : Int) (hi : inR i) (hy : inR y) : C0 2 mX8_bent b sh M [vr b 72, vi i, vi y] (QM M (nx_bent (absM M) i y) (a_bent (absM M) i y)) := by
  have hn : 5 ≤ moM M 0 0 ∧ moM M 0 0 ≤ 16 := hI.1.1
  have hs : 0 ≤ M 72 10 ∧ M 72 10 ≤ 6 := hI.2.2.2.2.2.1.1
  have ea : a_bent (absM M) i y = if (0 ≤ i ∧ i ≤ moM M 0 0 - 1) ∧ 0 ≤ y ∧ y ≤ 60 then (if M 72 10 < 6 then M 72 10 + 1 else -3) else -1 := rfl
  have et : nx_bent (absM M) i y = if ((0 ≤ i ∧ i ≤ moM M 0 0 - 1) ∧ 0 ≤ y ∧ y ≤ 60) ∧ M 72 10 < 6 then (M 72 5, txM M, moM M, roM M 0, unM M, keM M, (M 72 10 + 1, uF (msk (M 72 10) (M 78)) (M 72 10) i, uF (msk (M 72 10) (M 79)) (M 72 10) y), foM M) else absM M := rfl
  rw [et, ea]
  refine MC_of (ls := [some (vr b 72), some (vi i), some (vi y)]) (by decide) rfl (Nat.le_of_ble_eq_true rfl) ?_
  refine R_aload_n (pc := 0) dX8_bent_0 rfl ?_
  refine R_iload_n (pc := 1) dX8_bent_1 rfl ?_
  refine R_V1i (pc := 2) dX8_bent_2 sv_RX8_129 (hsh _ _ rfl) (j_isPost b sh M hsh i hi (by omega)) (Nat.le_of_ble_eq_true rfl) (by decide) ?_
  refine R_if_eq (pc := 5) (tgt := 15) dX8_bent_5 (by decide) (by omega) (fun h_5 => ?_) (fun h_5 => ?_)
  · refine R_iconst (pc := 15) dX8_bent_15 ?_
    refine R_iret (pc := 16) dX8_bent_16 ?_
    rw [if_neg (by omega)]
    exact QM_ro hI FrM_r (by omega)
  · refine R_iload_n (pc := 8) dX8_bent_8 rfl ?_
    refine R_S1i (pc := 9) dX8_bent_9 ss_RX8_206 (j_isYard b sh M y hy) (Nat.le_of_ble_eq_true rfl) (by decide) ?_
    refine R_if_ne (pc := 12) (tgt := 17) dX8_bent_12 (by decide) (by omega) (fun h_12 => ?_) (fun h_12 => ?_)
    · refine R_aload_n (pc := 17) dX8_bent_17 rfl ?_
      refine R_getI (pc := 18) (J := 10) dX8_bent_18 fl_RX8_80 rfl rfl (hsh _ _ rfl) (rfl) ?_
      refine R_bipush (pc := 21) dX8_bent_21 rfl ?_
      refine R_cmp_ne (pc := 23) (tgt := 29) dX8_bent_23 (by decide) (by omega) (fun h_23 => ?_) (fun h_23 => ?_)
      · refine R_aload_n (pc := 29) dX8_bent_29 rfl ?_
        refine R_getR (pc := 30) dX8_bent_30 fl_RX8_25 rfl (hsh _ _ rfl) rfl ?_
        refine R_aload_n (pc := 33) dX8_bent_33 rfl ?_
        refine R_getI (pc := 34) (J := 10) dX8_bent_34 fl_RX8_80 rfl rfl (hsh _ _ rfl) (rfl) ?_
        refine R_iload_n (pc := 37) dX8_bent_37 rfl ?_
        refine R_iast (pc := 38) dX8_bent_38 (hsh _ _ rfl) (by omega) (by omega) ?_
        refine R_aload_n (pc := 39) dX8_bent_39 rfl ?_
        refine R_getR (pc := 40) dX8_bent_40 fl_RX8_28 rfl (hsh _ _ rfl) rfl ?_
        refine R_aload_n (pc := 43) dX8_bent_43 rfl ?_
        refine R_getI (pc := 44) (J := 10) dX8_bent_44 fl_RX8_80 rfl rfl (hsh _ _ rfl) (up_k (by omega)) ?_
        refine R_iload_n (pc := 47) dX8_bent_47 rfl ?_
        refine R_iast (pc := 48) dX8_bent_48 (hsh _ _ rfl) (by omega) (by omega) ?_
        refine R_aload_n (pc := 49) dX8_bent_49 rfl ?_
        refine R_dup (pc := 50) dX8_bent_50 rfl ?_
        refine R_getI (pc := 51) (J := 10) dX8_bent_51 fl_RX8_80 rfl rfl (hsh _ _ rfl) ((up_k (by omega)).trans (up_k (by omega))) ?_
        refine R_iconst (pc := 54) dX8_bent_54 ?_
        refine R_iadd (pc := 55) dX8_bent_55 ?_
        refine R_putI (pc := 56) (J := 10) rfl dX8_bent_56 fl_RX8_80 rfl (fun r h => by cases h; rfl) (hsh _ _ rfl) (by omega) ?_
        refine R_aload_n (pc := 59) dX8_bent_59 rfl ?_
        refine R_getI (pc := 60) (J := 10) dX8_bent_60 fl_RX8_80 rfl rfl (hsh _ _ rfl) (up_s) ?_
        refine R_iret (pc := 63) dX8_bent_63 ?_
        rw [if_pos (by omega), if_pos (by omega), if_pos (by omega)]
        have e : ∀ q j, q ≠ 78 → q ≠ 79 → ¬ (q = 72 ∧ j = 10) → up (up (up M 78 (M 72 10) i) 79 (M 72 10) y) 72 10 (M 72 10 + 1) q j = M q j := fun q j h1 h2 h3 => by rw [up, if_neg h3, up_k h2, up_k h1]
        have ec : ∀ q, q ≠ 78 → q ≠ 79 → q ≠ 72 → up (up (up M 78 (M 72 10) i) 79 (M 72 10) y) 72 10 (M 72 10 + 1) q = M q := fun q h1 h2 h3 => funext fun j => e q j h1 h2 (by omega)
        refine ⟨rfl, absM_gen (kM_tx (e _ _ (by omega) (by omega) (by omega)) (ec _ (by omega) (by omega) (by omega))) (kM_mo hI (fun j _ _ => e _ _ (by omega) (by omega) (by omega))) (roM_c (fun j _ _ => e _ _ (by omega) (by omega) (by omega))) (kM_un hI (e _ _ (by omega) (by omega) (by omega)) (fun j _ _ => e _ _ (by omega) (by omega) (by omega))) (kM_ke hI (e _ _ (by omega) (by omega) (by omega)) (fun j _ _ => e _ _ (by omega) (by omega) (by omega))) ?_ (kM_fo (e _ _ (by omega) (by omega) (by omega)) (ec _ (by omega) (by omega) (by omega)) (ec _ (by omega) (by omega) (by omega)) (ec _ (by omega) (by omega) (by omega))), fun q hq => ec q (by omega) (by omega) (by omega)⟩
        unfold beM
        rw [up_s, up_o 78 (by omega), up_o 78 (by omega), up_row, up_o 79 (by omega), up_row, up_o 79 (by omega), msk_u hs.1, msk_u hs.1]
      · refine R_bipush (pc := 26) dX8_bent_26 rfl ?_
        refine R_iret (pc := 28) dX8_bent_28 ?_
        rw [if_neg (by omega)]
        exact QM_ro hI FrM_r (by omega)
    · refine R_iconst (pc := 15) dX8_bent_15 ?_
      refine R_iret (pc := 16) dX8_bent_16 ?_
      rw [if_neg (by omega)]
      exact QM_ro hI FrM_r (by omega)
theorem j_found (b : Nat) (sh : Shp) (M : Mem) {B : Int} (hsh : Hm sh) (hI : IS (absM M) B) (i t y : Int) (hi : inR i) (ht : inR t) (hy : inR y) : C0 2 mX8_found b sh M [vr b 72, vi i, vi t, vi y] (QM M (nx_found (absM M) i t y) (a_found (absM M) i t y)) := by
  have hn : 5 ≤ moM M 0 0 ∧ moM M 0 0 ≤ 16 := hI.1.1
  have hs : 0 ≤ M 72 13 ∧ M 72 13 ≤ 6 := hI.2.2.2.2.2.2.1
  have ea : a_found (absM M) i t y = if (0 ≤ i ∧ i ≤ moM M 0 0 - 1) ∧ (1 ≤ t ∧ t ≤ 10) ∧ 0 ≤ y ∧ y ≤ 60 then (if M 72 13 < 6 then M 72 13 + 1 else -3) else -1 := rfl
  have et : nx_found (absM M) i t y = if ((0 ≤ i ∧ i ≤ moM M 0 0 - 1) ∧ (1 ≤ t ∧ t ≤ 10) ∧ 0 ≤ y ∧ y ≤ 60) ∧ M 72 13 < 6 then (M 72 5, txM M, moM M, roM M 0, unM M, keM M, beM M, (M 72 13 + 1, uF (msk (M 72 13) (M 80)) (M 72 13) i, uF (msk (M 72 13) (M 81)) (M 72 13) t, uF (msk (M 72 13) (M 82)) (M 72 13) y)) else absM M := rfl
  rw [et, ea]
  refine MC_of (ls := [some (vr b 72), some (vi i), some (vi t), some (vi y)]) (by decide) rfl (Nat.le_of_ble_eq_true rfl) ?_
  refine R_aload_n (pc := 0) dX8_found_0 rfl ?_
  refine R_iload_n (pc := 1) dX8_found_1 rfl ?_
  refine R_V1i (pc := 2) dX8_found_2 sv_RX8_129 (hsh _ _ rfl) (j_isPost b sh M hsh i hi (by omega)) (Nat.le_of_ble_eq_true rfl) (by decide) ?_
  refine R_if_eq (pc := 5) (tgt := 27) dX8_found_5 (by decide) (by omega) (fun h_5 => ?_) (fun h_5 => ?_)
  · refine R_iconst (pc := 27) dX8_found_27 ?_
    refine R_iret (pc := 28) dX8_found_28 ?_
    rw [if_neg (by omega)]
    exact QM_ro hI FrM_r (by omega)
  · refine R_iload_n (pc := 8) dX8_found_8 rfl ?_
    refine R_i2l (pc := 9) dX8_found_9 (by omega) ?_
    refine R_lconst (pc := 10) dX8_found_10 (x := 1) rfl ?_
    refine R_ldc2 (pc := 11) (x := 10) dX8_found_11 kl_RX8_216 rfl ?_
    refine R_S3i (pc := 14) dX8_found_14 ss_RX8_69 (j_in b sh M _ _ _ ht (by omega) (by omega)) (Nat.le_of_ble_eq_true rfl) (by decide) ?_
    refine R_if_eq (pc := 17) (tgt := 27) dX8_found_17 (by decide) (by omega) (fun h_17 => ?_) (fun h_17 => ?_)
    · refine R_iconst (pc := 27) dX8_found_27 ?_
      refine R_iret (pc := 28) dX8_found_28 ?_
      rw [if_neg (by omega)]
      exact QM_ro hI FrM_r (by omega)
    · refine R_iload_n (pc := 20) dX8_found_20 rfl ?_
      refine R_S1i (pc := 21) dX8_found_21 ss_RX8_206 (j_isYard b sh M y hy) (Nat.le_of_ble_eq_true rfl) (by decide) ?_
      refine R_if_ne (pc := 24) (tgt := 29) dX8_found_24 (by decide) (by omega) (fun h_24 => ?_) (fun h_24 => ?_)
      · refine R_aload_n (pc := 29) dX8_found_29 rfl ?_
        refine R_getI (pc := 30) (J := 13) dX8_found_30 fl_RX8_83 rfl rfl (hsh _ _ rfl) (rfl) ?_
        refine R_bipush (pc := 33) dX8_found_33 rfl ?_
        refine R_cmp_ne (pc := 35) (tgt := 41) dX8_found_35 (by decide) (by omega) (fun h_35 => ?_) (fun h_35 => ?_)
        · refine R_aload_n (pc := 41) dX8_found_41 rfl ?_
          refine R_getR (pc := 42) dX8_found_42 fl_RX8_31 rfl (hsh _ _ rfl) rfl ?_
          refine R_aload_n (pc := 45) dX8_found_45 rfl ?_
          refine R_getI (pc := 46) (J := 13) dX8_found_46 fl_RX8_83 rfl rfl (hsh _ _ rfl) (rfl) ?_
          refine R_iload_n (pc := 49) dX8_found_49 rfl ?_
          refine R_iast (pc := 50) dX8_found_50 (hsh _ _ rfl) (by omega) (by omega) ?_
          refine R_aload_n (pc := 51) dX8_found_51 rfl ?_
          refine R_getR (pc := 52) dX8_found_52 fl_RX8_34 rfl (hsh _ _ rfl) rfl ?_
          refine R_aload_n (pc := 55) dX8_found_55 rfl ?_
          refine R_getI (pc := 56) (J := 13) dX8_found_56 fl_RX8_83 rfl rfl (hsh _ _ rfl) (up_k (by omega)) ?_
          refine R_iload_n (pc := 59) dX8_found_59 rfl ?_
          refine R_iast (pc := 60) dX8_found_60 (hsh _ _ rfl) (by omega) (by omega) ?_
          refine R_aload_n (pc := 61) dX8_found_61 rfl ?_
          refine R_getR (pc := 62) dX8_found_62 fl_RX8_37 rfl (hsh _ _ rfl) rfl ?_
          refine R_aload_n (pc := 65) dX8_found_65 rfl ?_
          refine R_getI (pc := 66) (J := 13) dX8_found_66 fl_RX8_83 rfl rfl (hsh _ _ rfl) ((up_k (by omega)).trans (up_k (by omega))) ?_
          refine R_iload_n (pc := 69) dX8_found_69 rfl ?_
          refine R_iast (pc := 70) dX8_found_70 (hsh _ _ rfl) (by omega) (by omega) ?_
          refine R_aload_n (pc := 71) dX8_found_71 rfl ?_
          refine R_dup (pc := 72) dX8_found_72 rfl ?_
          refine R_getI (pc := 73) (J := 13) dX8_found_73 fl_RX8_83 rfl rfl (hsh _ _ rfl) ((up_k (by omega)).trans ((up_k (by omega)).trans (up_k (by omega)))) ?_
          refine R_iconst (pc := 76) dX8_found_76 ?_
          refine R_iadd (pc := 77) dX8_found_77 ?_
          refine R_putI (pc := 78) (J := 13) rfl dX8_found_78 fl_RX8_83 rfl (fun r h => by cases h; rfl) (hsh _ _ rfl) (by omega) ?_
          refine R_aload_n (pc := 81) dX8_found_81 rfl ?_
          refine R_getI (pc := 82) (J := 13) dX8_found_82 fl_RX8_83 rfl rfl (hsh _ _ rfl) (up_s) ?_
          refine R_iret (pc := 85) dX8_found_85 ?_
          rw [if_pos (by omega), if_pos (by omega), if_pos (by omega)]
          have e : ∀ q j, q ≠ 80 → q ≠ 81 → q ≠ 82 → ¬ (q = 72 ∧ j = 13) → up (up (up (up M 80 (M 72 13) i) 81 (M 72 13) t) 82 (M 72 13) y) 72 13 (M 72 13 + 1) q j = M q j := fun q j h1 h2 h3 h4 => by rw [up, if_neg h4, up_k h3, up_k h2, up_k h1]
          have ec : ∀ q, q ≠ 80 → q ≠ 81 → q ≠ 82 → q ≠ 72 → up (up (up (up M 80 (M 72 13) i) 81 (M 72 13) t) 82 (M 72 13) y) 72 13 (M 72 13 + 1) q = M q := fun q h1 h2 h3 h4 => funext fun j => e q j h1 h2 h3 (by omega)
          refine ⟨rfl, absM_gen (kM_tx (e _ _ (by omega) (by omega) (by omega) (by omega)) (ec _ (by omega) (by omega) (by omega) (by omega))) (kM_mo hI (fun j _ _ => e _ _ (by omega) (by omega) (by omega) (by omega))) (roM_c (fun j _ _ => e _ _ (by omega) (by omega) (by omega) (by omega))) (kM_un hI (e _ _ (by omega) (by omega) (by omega) (by omega)) (fun j _ _ => e _ _ (by omega) (by omega) (by omega) (by omega))) (kM_ke hI (e _ _ (by omega) (by omega) (by omega) (by omega)) (fun j _ _ => e _ _ (by omega) (by omega) (by omega) (by omega))) (kM_be (e _ _ (by omega) (by omega) (by omega) (by omega)) (ec _ (by omega) (by omega) (by omega) (by omega)) (ec _ (by omega) (by omega) (by omega) (by omega))) ?_, fun q hq => ec q (by omega) (by omega) (by omega) (by omega)⟩
          unfold foM
          rw [up_s, up_o 80 (by omega), up_o 80 (by omega), up_o 80 (by omega), up_row, up_o 81 (by omega), up_o 81 (by omega), up_row, up_o 81 (by omega), up_o 82 (by omega), up_row, up_o 82 (by omega), up_o 82 (by omega), msk_u hs.1, msk_u hs.1, msk_u hs.1]
        · refine R_bipush (pc := 38) dX8_found_38 rfl ?_
          refine R_iret (pc := 40) dX8_found_40 ?_
          rw [if_neg (by omega)]
          exact QM_ro hI FrM_r (by omega)
      · refine R_iconst (pc := 27) dX8_found_27 ?_
        refine R_iret (pc := 28) dX8_found_28 ?_
        rw [if_neg (by omega)]
        exact QM_ro hI FrM_r (by omega)
theorem j_forget (b : Nat) (sh : Shp) (M : Mem) {B : Int} (hsh : Hm sh) (hI : IS (absM M) B) : C0 0 mX8_forget b sh M [vr b 72] (QM M (nx_forget (absM M)) (a_forget (absM M))) := by
  have h1 : 0 ≤ M 72 10 ∧ M 72 10 ≤ 6 := hI.2.2.2.2.2.1.1
  have h2 : 0 ≤ M 72 13 ∧ M 72 13 ≤ 6 := hI.2.2.2.2.2.2.1
  refine MC_of (ls := [some (vr b 72), none]) (by decide) rfl (Nat.le_of_ble_eq_true rfl) ?_
  refine R_aload_n (pc := 0) dX8_forget_0 rfl ?_
  refine R_getI (pc := 1) (J := 10) dX8_forget_1 fl_RX8_80 rfl rfl (hsh _ _ rfl) (rfl) ?_
  refine R_aload_n (pc := 4) dX8_forget_4 rfl ?_
  refine R_getI (pc := 5) (J := 13) dX8_forget_5 fl_RX8_83 rfl rfl (hsh _ _ rfl) (rfl) ?_
  refine R_iadd (pc := 8) dX8_forget_8 ?_
  refine R_istore_n (pc := 9) dX8_forget_9 (by decide) rfl rfl ?_
  refine R_aload_n (pc := 10) dX8_forget_10 rfl ?_
  refine R_iconst (pc := 11) dX8_forget_11 ?_
  refine R_putI (pc := 12) (J := 10) rfl dX8_forget_12 fl_RX8_80 rfl (fun r h => by cases h; rfl) (hsh _ _ rfl) (by omega) ?_
  refine R_aload_n (pc := 15) dX8_forget_15 rfl ?_
  refine R_iconst (pc := 16) dX8_forget_16 ?_
  refine R_putI (pc := 17) (J := 13) rfl dX8_forget_17 fl_RX8_83 rfl (fun r h => by cases h; rfl) (hsh _ _ rfl) (by omega) ?_
  refine R_iload_n (pc := 20) dX8_forget_20 rfl ?_
  refine R_iret (pc := 21) dX8_forget_21 ?_
  have e : ∀ q j, ¬ (q = 72 ∧ j = 10) → ¬ (q = 72 ∧ j = 13) → up (up M 72 10 0) 72 13 0 q j = M q j := fun q j h3 h4 => by rw [up, if_neg h4, up, if_neg h3]
  have ec : ∀ q, q ≠ 72 → up (up M 72 10 0) 72 13 0 q = M q := fun q h3 => funext fun j => e q j (by omega) (by omega)
  exact ⟨rfl, absM_gen (kM_tx (e _ _ (by omega) (by omega)) (ec _ (by omega))) (kM_mo hI (fun j _ _ => e _ _ (by omega) (by omega))) (roM_c (fun j _ _ => e _ _ (by omega) (by omega))) (kM_un hI (e _ _ (by omega) (by omega)) (fun j _ _ => e _ _ (by omega) (by omega))) (kM_ke hI (e _ _ (by omega) (by omega)) (fun j _ _ => e _ _ (by omega) (by omega))) (by unfold beM; rw [up_j (by omega), up_s, msk_0, msk_0]; rfl) (by unfold foM; rw [up_s, msk_0, msk_0, msk_0]; rfl), fun q hq => ec q (by omega)⟩
