/-! the face, last part: year, count -/
def drw (z k : Int) : Int := (7919 * z + 6151 * k + 1) * (7919 * z + 6151 * k + 1) % 65521 / 8
theorem drw_in (z k : Int) : 0 ≤ drw z k ∧ drw z k ≤ 8190 := by
  unfold drw
  have h1 := Int.emod_nonneg ((7919 * z + 6151 * k + 1) * (7919 * z + 6151 * k + 1)) (b := 65521) (by omega)
  have h2 := Int.emod_lt_of_pos ((7919 * z + 6151 * k + 1) * (7919 * z + 6151 * k + 1)) (b := 65521) (by omega)
  omega
theorem k_drawOf (b : Nat) (sh : Shp) (M : Mem) (z k : Int) (hz : 0 ≤ z ∧ z ≤ 9999) (hk : 0 ≤ k ∧ k ≤ 60) : Ex 0 mX7_drawOf b sh M [vi z, vi k] (some (vi (drw z k))) M := by
  have hx : 0 ≤ 7919 * z + 6151 * k + 1 ∧ 7919 * z + 6151 * k + 1 ≤ 80000000 := by omega
  have hxx : 0 ≤ (7919 * z + 6151 * k + 1) * (7919 * z + 6151 * k + 1) ∧ (7919 * z + 6151 * k + 1) * (7919 * z + 6151 * k + 1) ≤ 80000000 * 80000000 := ⟨Int.mul_nonneg hx.1 hx.1, Int.mul_le_mul hx.2 hx.2 hx.1 (by omega)⟩
  refine MC_of (ls := [some (vi z), some (vi k), none, none]) (by decide) rfl (Nat.le_of_ble_eq_true rfl) ?_
  refine R_ldc2 (pc := 0) (x := 7919) dX7_drawOf_0 kl_RX7_262 rfl ?_
  refine R_iload_n (pc := 3) dX7_drawOf_3 rfl ?_
  refine R_i2l (pc := 4) dX7_drawOf_4 (by omega) ?_
  refine R_lmul (pc := 5) dX7_drawOf_5 ?_
  refine R_ldc2 (pc := 6) (x := 6151) dX7_drawOf_6 kl_RX7_264 rfl ?_
  refine R_iload_n (pc := 9) dX7_drawOf_9 rfl ?_
  refine R_i2l (pc := 10) dX7_drawOf_10 (by omega) ?_
  refine R_lmul (pc := 11) dX7_drawOf_11 ?_
  refine R_ladd (pc := 12) dX7_drawOf_12 ?_
  refine R_lconst (pc := 13) dX7_drawOf_13 (x := 1) rfl ?_
  refine R_ladd (pc := 14) dX7_drawOf_14 ?_
  refine R_lstore_n (pc := 15) dX7_drawOf_15 (by decide) rfl rfl ?_
  refine R_lload_n (pc := 16) dX7_drawOf_16 rfl ?_
  refine R_lload_n (pc := 17) dX7_drawOf_17 rfl ?_
  refine R_lmul (pc := 18) dX7_drawOf_18 ?_
  refine R_ldc2 (pc := 19) (x := 65521) dX7_drawOf_19 kl_RX7_266 rfl ?_
  refine R_lrem (pc := 22) dX7_drawOf_22 (by omega) ?_
  refine R_ldc2 (pc := 23) (x := 8) dX7_drawOf_23 kl_RX7_268 rfl ?_
  refine R_ldiv (pc := 26) dX7_drawOf_26 (by omega) ?_
  refine R_l2i (pc := 27) dX7_drawOf_27 ?_
  refine R_iret (pc := 28) dX7_drawOf_28 ?_
  exact eqi rfl rfl
/-- a day of the year by its draw: the walk -/
def wdr (mo : Mo) (x : Int) (ro : Rd) : Rd := if x % (mo 0 1 + 1) < mo 0 1 ∧ 0 < mo 0 2 then (wlk mo (if x / 64 % 4 = 0 then 1 else 0) ro (x % (mo 0 1 + 1)) (x / 8 % mo 0 2)).1 else ro
theorem k_walkByDraw (b : Nat) (sh : Shp) (M : Mem) (hsh : Hc sh) (hm : WFm (moC M 5)) (f : Rd) {B : Int} (hf : WFr f B) (hN : M 25 0 = M 5 0) (x : Int) (hx : 0 ≤ x ∧ x ≤ 10000) : Ex 4 mX7_walkByDraw b sh (putC M 25 f) [vr b 0, vi x] none (putC M 25 (wdr (moC M 5) x f)) := by
  have h25 : isRd sh 25 := rd_of hsh (by decide)
  have hW : 0 ≤ M 5 2 ∧ M 5 2 ≤ 4 := hm.2.1
  have hT : 0 ≤ M 5 5 ∧ M 5 5 ≤ 6 := hm.2.2.1
  have e5 : ∀ j, putC M 25 f 5 j = M 5 j := fun j => pc_o (by omega) (by omega)
  have ew : wdr (moC M 5) x f = if x % (M 5 2 + 1) < M 5 2 ∧ 0 < M 5 5 then (wlk (moC M 5) (if x / 64 % 4 = 0 then 1 else 0) f (x % (M 5 2 + 1)) (x / 8 % M 5 5)).1 else f := rfl
  have r1 : 0 ≤ x % (M 5 2 + 1) := Int.emod_nonneg _ (by omega)
  have r2 : x % (M 5 2 + 1) < M 5 2 + 1 := Int.emod_lt_of_pos _ (by omega)
  refine MC_of (ls := [some (vr b 0), some (vi x), none, none]) (by decide) rfl (Nat.le_of_ble_eq_true rfl) ?_
  refine R_iload_n (pc := 0) dX7_walkByDraw_0 rfl ?_
  refine R_aload_n (pc := 1) dX7_walkByDraw_1 rfl ?_
  refine R_getR (pc := 2) dX7_walkByDraw_2 fl_RX7_28 rfl (hsh _ _ rfl) rfl ?_
  refine R_getI (pc := 5) (J := 2) dX7_walkByDraw_5 fl_RX7_216 rfl rfl (hsh _ _ rfl) (e5 2) ?_
  refine R_iconst (pc := 8) dX7_walkByDraw_8 ?_
  refine R_iadd (pc := 9) dX7_walkByDraw_9 ?_
  refine R_irem (pc := 10) dX7_walkByDraw_10 (by omega) ?_
  refine R_istore_n (pc := 11) dX7_walkByDraw_11 (by decide) rfl rfl ?_
  refine R_iload_n (pc := 12) dX7_walkByDraw_12 rfl ?_
  refine R_aload_n (pc := 13) dX7_walkByDraw_13 rfl ?_
  refine R_getR (pc := 14) dX7_walkByDraw_14 fl_RX7_28 rfl (hsh _ _ rfl) rfl ?_
  refine R_getI (pc := 17) (J := 2) dX7_walkByDraw_17 fl_RX7_216 rfl rfl (hsh _ _ rfl) (e5 2) ?_
  refine R_cmp_ge (pc := 20) (tgt := 74) dX7_walkByDraw_20 (by decide) (by omega) (fun h_20 => ?_) (fun h_20 => ?_)
  · refine R_vret (pc := 74) dX7_walkByDraw_74 ?_
    first
      | (refine eqv ?_; rw [ew, if_neg (by omega)])
      | (refine eqv ?_; rw [ew, if_pos (by omega), if_pos (by omega)])
      | (refine eqv ?_; rw [ew, if_pos (by omega), if_neg (by omega)])
  · refine R_aload_n (pc := 23) dX7_walkByDraw_23 rfl ?_
    refine R_getR (pc := 24) dX7_walkByDraw_24 fl_RX7_28 rfl (hsh _ _ rfl) rfl ?_
    refine R_getI (pc := 27) (J := 5) dX7_walkByDraw_27 fl_RX7_206 rfl rfl (hsh _ _ rfl) (e5 5) ?_
    refine R_if_le (pc := 30) (tgt := 74) dX7_walkByDraw_30 (by decide) (by omega) (fun h_30 => ?_) (fun h_30 => ?_)
    · refine R_vret (pc := 74) dX7_walkByDraw_74 ?_
      first
        | (refine eqv ?_; rw [ew, if_neg (by omega)])
        | (refine eqv ?_; rw [ew, if_pos (by omega), if_pos (by omega)])
        | (refine eqv ?_; rw [ew, if_pos (by omega), if_neg (by omega)])
    · have r3 : 0 ≤ x / 8 % M 5 5 := Int.emod_nonneg _ (by omega)
      have r4 : x / 8 % M 5 5 < M 5 5 := Int.emod_lt_of_pos _ (by omega)
      refine R_iload_n (pc := 33) dX7_walkByDraw_33 rfl ?_
      refine R_bipush (pc := 34) dX7_walkByDraw_34 rfl ?_
      refine R_idiv (pc := 36) dX7_walkByDraw_36 (by omega) ?_
      refine R_aload_n (pc := 37) dX7_walkByDraw_37 rfl ?_
      refine R_getR (pc := 38) dX7_walkByDraw_38 fl_RX7_28 rfl (hsh _ _ rfl) rfl ?_
      refine R_getI (pc := 41) (J := 5) dX7_walkByDraw_41 fl_RX7_206 rfl rfl (hsh _ _ rfl) (e5 5) ?_
      refine R_irem (pc := 44) dX7_walkByDraw_44 (by omega) ?_
      refine R_istore_n (pc := 45) dX7_walkByDraw_45 (by decide) rfl rfl ?_
      refine R_aload_n (pc := 46) dX7_walkByDraw_46 rfl ?_
      refine R_getR (pc := 47) dX7_walkByDraw_47 fl_RX7_42 rfl (hsh _ _ rfl) rfl ?_
      refine R_aload_n (pc := 50) dX7_walkByDraw_50 rfl ?_
      refine R_getR (pc := 51) dX7_walkByDraw_51 fl_RX7_28 rfl (hsh _ _ rfl) rfl ?_
      refine R_iload_n (pc := 54) dX7_walkByDraw_54 rfl ?_
      refine R_iload_n (pc := 55) dX7_walkByDraw_55 rfl ?_
      refine R_iload_n (pc := 56) dX7_walkByDraw_56 rfl ?_
      refine R_bipush (pc := 57) dX7_walkByDraw_57 rfl ?_
      refine R_idiv (pc := 59) dX7_walkByDraw_59 (by omega) ?_
      refine R_iconst (pc := 60) dX7_walkByDraw_60 ?_
      refine R_irem (pc := 61) dX7_walkByDraw_61 (by omega) ?_
      refine R_if_ne (pc := 62) (tgt := 69) dX7_walkByDraw_62 (by decide) (by omega) (fun h_62 => ?_) (fun h_62 => ?_)
      · refine R_iconst (pc := 69) dX7_walkByDraw_69 ?_
        refine R_V4i (pc := 70) dX7_walkByDraw_70 sv_RX7_166 (hsh _ _ rfl) (k_takeWalk b sh M 25 hsh h25 hm f hf hN _ _ _ (by omega) (by omega) (by omega)) (Nat.le_of_ble_eq_true rfl) (by decide) ?_
        refine R_pop (pc := 73) dX7_walkByDraw_73 rfl ?_
        refine R_vret (pc := 74) dX7_walkByDraw_74 ?_
        first
          | (refine eqv ?_; rw [ew, if_neg (by omega)])
          | (refine eqv ?_; rw [ew, if_pos (by omega), if_pos (by omega)])
          | (refine eqv ?_; rw [ew, if_pos (by omega), if_neg (by omega)])
      · refine R_iconst (pc := 65) dX7_walkByDraw_65 ?_
        refine R_goto (pc := 66) (tgt := 70) dX7_walkByDraw_66 (by decide) ?_
        refine R_V4i (pc := 70) dX7_walkByDraw_70 sv_RX7_166 (hsh _ _ rfl) (k_takeWalk b sh M 25 hsh h25 hm f hf hN _ _ _ (by omega) (by omega) (by omega)) (Nat.le_of_ble_eq_true rfl) (by decide) ?_
        refine R_pop (pc := 73) dX7_walkByDraw_73 rfl ?_
        refine R_vret (pc := 74) dX7_walkByDraw_74 ?_
        first
          | (refine eqv ?_; rw [ew, if_neg (by omega)])
          | (refine eqv ?_; rw [ew, if_pos (by omega), if_pos (by omega)])
          | (refine eqv ?_; rw [ew, if_pos (by omega), if_neg (by omega)])
theorem wdr_in {mo : Mo} {ro : Rd} {x B : Int} (hm : WFm mo) (hw : WFr ro B) : WFr (wdr mo x ro) B := by
  unfold wdr
  split
  · exact wlk_in hm hw
  · exact hw
/-- the year's road and the nights it straightened -/
def yrS (mo : Mo) (z : Int) (ro : Rd) : Nat → Rd × Int
  | 0 => (ro, 0)
  | k + 1 => (night (mo 0 0) (wdr mo (drw z k) (yrS mo z ro k).1), (yrS mo z ro k).2 + if wdr mo (drw z k) (yrS mo z ro k).1 18 = 0 then 1 else 0)
theorem yrS_in {mo : Mo} {z : Int} {ro : Rd} {B : Int} (hm : WFm mo) (hw : WFr ro B) : ∀ k : Nat, B + k ≤ 100000 → WFr (yrS mo z ro k).1 (B + k) ∧ 0 ≤ (yrS mo z ro k).2 ∧ (yrS mo z ro k).2 ≤ k
  | 0, _ => ⟨by simpa [yrS] using hw, Int.le_refl _, Int.le_refl _⟩
  | k + 1, h => by
    obtain ⟨h1, h2, h3⟩ := yrS_in (z := z) hm hw k (by omega)
    have e : B + ((k + 1 : Nat) : Int) = B + k + 1 := by omega
    rw [e]
    refine ⟨night_in (wdr_in hm h1) hm.1 (by omega), ?_, ?_⟩
    · show 0 ≤ _ + _; split <;> omega
    · show _ + _ ≤ _; split <;> omega
def a_year (S : AS) (z n what : Int) : Int := if (0 ≤ z ∧ z ≤ 9999) ∧ (1 ≤ n ∧ n ≤ 60) ∧ 0 ≤ what ∧ what ≤ 1 then (if what = 0 then len (S.2.2.1 0 0) (yrS S.2.2.1 z S.2.2.2.1 n.toNat).1 else (yrS S.2.2.1 z S.2.2.2.1 n.toNat).2) else -1
theorem k_year (b : Nat) (sh : Shp) (M : Mem) {B : Int} (hsh : Hc sh) (hI : IC M B) (hB : B ≤ 90000) (z n what : Int) (hz : inR z) (hn0 : inR n) (hj : inR what) : C0 5 mX7_year b sh M [vr b 0, vi z, vi n, vi what] (QS M B (absC M) (a_year (absC M) z n what)) := by
  obtain ⟨hn, hw, ht, hd⟩ := IC_n hI
  have ea : a_year (absC M) z n what = if (0 ≤ z ∧ z ≤ 9999) ∧ (1 ≤ n ∧ n ≤ 60) ∧ 0 ≤ what ∧ what ≤ 1 then (if what = 0 then len (M 5 0) (yrS (moC M 5) z (roC M 23) n.toNat).1 else (yrS (moC M 5) z (roC M 23) n.toNat).2) else -1 := rfl
  obtain ⟨t1, t2, t3, t4⟩ := tr_h hI
  have h25 : isRd sh 25 := rd_of hsh (by decide)
  have hN5 : tr0 M 25 0 = M 5 0 := t2.trans (by rw [t4 5 (by omega)])
  have L : (0 ≤ z ∧ z ≤ 9999) ∧ (1 ≤ n ∧ n ≤ 60) ∧ 0 ≤ what ∧ what ≤ 1 → ∀ (m k : Nat) (x : Int), x = k → x ≤ n → n - x < m → MW yX7_year cX7_year 6 (some .int) (rmD 5 0 0) (FM (QS M B (absC M) (a_year (absC M) z n what)) b sh 0 0) b sh.length 0 0 49 [some (vr b 0), some (vi z), some (vi n), some (vi what), some (vi (yrS (moC M 5) z (roC M 23) k).2), some (vi x)] [] sh (putC (tr0 M) 25 (yrS (moC M 5) z (roC M 23) k).1) := by
    intro hargs m
    induction m with
    | zero => intro k x h0 h1 h2; exact absurd h2 (by omega)
    | succ m ih =>
      intro k x h0 h1 h2
      have hy := yrS_in (z := z) hI.1 hI.2.2.1.1 k (by omega)
      by_cases hk : x < n
      · have hwd := wdr_in (x := drw z x) hI.1 hy.1
        have hwb := k_walkByDraw b sh (tr0 M) hsh (by rw [t1]; exact hI.1) _ hy.1 t2 (drw z x) (by have := drw_in z x; omega)
        rw [t1] at hwb
        have hng := k_goNight b sh (tr0 M) 25 h25 _ hwd hN5 hn
        have hst : yrS (moC M 5) z (roC M 23) (k + 1) = (night (M 5 0) (wdr (moC M 5) (drw z k) (yrS (moC M 5) z (roC M 23) k).1), (yrS (moC M 5) z (roC M 23) k).2 + if wdr (moC M 5) (drw z k) (yrS (moC M 5) z (roC M 23) k).1 18 = 0 then 1 else 0) := rfl
        rw [← h0] at hst
        have hx := ih (k + 1) (x + 1) (by omega) (by omega) (by omega)
        rw [hst] at hx
        dsimp only at hx
        refine R_iload (pc := 49) dX7_year_49 rfl ?_
        refine R_iload_n (pc := 51) dX7_year_51 rfl ?_
        refine R_cmp_ge (pc := 52) (tgt := 84) dX7_year_52 (by decide) (by omega) (fun h_52 => ?_) (fun h_52 => ?_)
        · exact absurd h_52 (by omega)
        · refine R_aload_n (pc := 55) dX7_year_55 rfl ?_
          refine R_iload_n (pc := 56) dX7_year_56 rfl ?_
          refine R_iload (pc := 57) dX7_year_57 rfl ?_
          refine R_S2i (pc := 59) dX7_year_59 ss_RX7_233 (k_drawOf b sh _ z x (by omega) (by omega)) (Nat.le_of_ble_eq_true rfl) (by decide) ?_
          refine R_V1v (pc := 62) dX7_year_62 sv_RX7_236 (hsh _ _ rfl) (hwb) (Nat.le_of_ble_eq_true rfl) (by decide) ?_
          refine R_aload_n (pc := 65) dX7_year_65 rfl ?_
          refine R_getR (pc := 66) dX7_year_66 fl_RX7_42 rfl (hsh _ _ rfl) rfl ?_
          refine R_V0i (pc := 69) dX7_year_69 sv_RX7_239 (hsh _ _ rfl) (hng) (Nat.le_of_ble_eq_true rfl) (by decide) ?_
          refine R_if_eq (pc := 72) (tgt := 78) dX7_year_72 (by decide) (by split <;> omega) (fun h_72 => ?_) (fun h_72 => ?_)
          · refine R_iinc (pc := 78) dX7_year_78 rfl (by decide) rfl rfl ?_
            refine R_goto (pc := 81) (tgt := 49) dX7_year_81 (by decide) ?_
            first
              | (rw [if_pos (by omega)] at hx; exact hx)
              | (rw [if_neg (by omega), Int.add_zero] at hx; exact hx)
          · refine R_iinc (pc := 75) dX7_year_75 rfl (by decide) rfl rfl ?_
            refine R_iinc (pc := 78) dX7_year_78 rfl (by decide) rfl rfl ?_
            refine R_goto (pc := 81) (tgt := 49) dX7_year_81 (by decide) ?_
            first
              | (rw [if_pos (by omega)] at hx; exact hx)
              | (rw [if_neg (by omega), Int.add_zero] at hx; exact hx)
      · have e1 : n.toNat = k := by omega
        refine R_iload (pc := 49) dX7_year_49 rfl ?_
        refine R_iload_n (pc := 51) dX7_year_51 rfl ?_
        refine R_cmp_ge (pc := 52) (tgt := 84) dX7_year_52 (by decide) (by omega) (fun h_52 => ?_) (fun h_52 => ?_)
        · refine R_iload_n (pc := 84) dX7_year_84 rfl ?_
          refine R_if_ne (pc := 85) (tgt := 98) dX7_year_85 (by decide) (by omega) (fun h_85 => ?_) (fun h_85 => ?_)
          · refine R_iload (pc := 98) dX7_year_98 rfl ?_
            refine R_iret (pc := 100) dX7_year_100 ?_
            exact QS_ro hI (FrC_pc t3) (by rw [ea, e1]; omega)
          · refine R_aload_n (pc := 88) dX7_year_88 rfl ?_
            refine R_getR (pc := 89) dX7_year_89 fl_RX7_42 rfl (hsh _ _ rfl) rfl ?_
            refine R_V0i (pc := 92) dX7_year_92 sv_RX7_181 (hsh _ _ rfl) (k_reckonLong b sh (tr0 M) 25 h25 _ hy.1 hN5 (by omega)) (Nat.le_of_ble_eq_true rfl) (by decide) ?_
            refine R_goto (pc := 95) (tgt := 100) dX7_year_95 (by decide) ?_
            refine R_iret (pc := 100) dX7_year_100 ?_
            exact QS_ro hI (FrC_pc t3) (by rw [ea, e1]; omega)
        · exact absurd h_52 (by omega)
  refine MC_of (ls := [some (vr b 0), some (vi z), some (vi n), some (vi what), none, none]) (by decide) rfl (Nat.le_of_ble_eq_true rfl) ?_
  refine R_rng fun hM => ?_
  refine R_iload_n (pc := 0) dX7_year_0 rfl ?_
  refine R_iconst (pc := 1) dX7_year_1 ?_
  refine R_sipush (pc := 2) dX7_year_2 rfl ?_
  refine R_S3i (pc := 5) dX7_year_5 ss_RX7_108 (k_within b sh _ _ _ _ hz (by omega) (by omega)) (Nat.le_of_ble_eq_true rfl) (by decide) ?_
  refine R_if_eq (pc := 8) (tgt := 30) dX7_year_8 (by decide) (by omega) (fun h_8 => ?_) (fun h_8 => ?_)
  · refine R_iconst (pc := 30) dX7_year_30 ?_
    refine R_iret (pc := 31) dX7_year_31 ?_
    exact QS_ro hI FrC_r (by rw [ea]; omega)
  · refine R_iload_n (pc := 11) dX7_year_11 rfl ?_
    refine R_iconst (pc := 12) dX7_year_12 ?_
    refine R_bipush (pc := 13) dX7_year_13 rfl ?_
    refine R_S3i (pc := 15) dX7_year_15 ss_RX7_108 (k_within b sh _ _ _ _ hn0 (by omega) (by omega)) (Nat.le_of_ble_eq_true rfl) (by decide) ?_
    refine R_if_eq (pc := 18) (tgt := 30) dX7_year_18 (by decide) (by omega) (fun h_18 => ?_) (fun h_18 => ?_)
    · refine R_iconst (pc := 30) dX7_year_30 ?_
      refine R_iret (pc := 31) dX7_year_31 ?_
      exact QS_ro hI FrC_r (by rw [ea]; omega)
    · refine R_iload_n (pc := 21) dX7_year_21 rfl ?_
      refine R_iconst (pc := 22) dX7_year_22 ?_
      refine R_iconst (pc := 23) dX7_year_23 ?_
      refine R_S3i (pc := 24) dX7_year_24 ss_RX7_108 (k_within b sh _ _ _ _ hj (by omega) (by omega)) (Nat.le_of_ble_eq_true rfl) (by decide) ?_
      refine R_if_ne (pc := 27) (tgt := 32) dX7_year_27 (by decide) (by omega) (fun h_27 => ?_) (fun h_27 => ?_)
      · refine R_aload_n (pc := 32) dX7_year_32 rfl ?_
        refine R_getR (pc := 33) dX7_year_33 fl_RX7_42 rfl (hsh _ _ rfl) rfl ?_
        refine R_aload_n (pc := 36) dX7_year_36 rfl ?_
        refine R_getR (pc := 37) dX7_year_37 fl_RX7_38 rfl (hsh _ _ rfl) rfl ?_
        refine R_V1v (pc := 40) dX7_year_40 sv_RX7_193 (hsh _ _ rfl) (k_trial b sh M M hsh hI FrC_r hM) (Nat.le_of_ble_eq_true rfl) (by decide) ?_
        refine R_iconst (pc := 43) dX7_year_43 ?_
        refine R_istore (pc := 44) dX7_year_44 (by decide) rfl rfl ?_
        refine R_iconst (pc := 46) dX7_year_46 ?_
        refine R_istore (pc := 47) dX7_year_47 (by decide) rfl rfl ?_
        exact L (by omega) 100 0 0 rfl (by omega) (by omega)
      · refine R_iconst (pc := 30) dX7_year_30 ?_
        refine R_iret (pc := 31) dX7_year_31 ?_
        exact QS_ro hI FrC_r (by rw [ea]; omega)
def a_count (S : AS) (what : Int) : Int := if what = 0 then S.2.2.1 0 0 else if what = 1 then S.2.2.1 0 1 else if what = 2 then S.2.2.1 0 2 else if what = 3 then S.2.2.2.1 16 else if what = 4 then cnt (S.2.2.2.1 17) else if what = 5 then S.2.2.2.2.2.2.1.1 else if what = 6 then S.2.2.2.2.2.2.2.1 else if what = 7 then S.2.2.2.2.1.1 else if what = 8 then S.2.2.2.2.2.1.1 else if what = 9 then S.1 else if what = 10 then S.2.2.2.1 18 else -1
theorem k_count (b : Nat) (sh : Shp) (M : Mem) {B : Int} (hsh : Hc sh) (hI : IC M B) (what : Int) (hj : inR what) : C0 2 mX7_count b sh M [vr b 0, vi what] (QS M B (absC M) (a_count (absC M) what)) := by
  have ea : a_count (absC M) what = if what = 0 then M 5 0 else if what = 1 then M 5 2 else if what = 2 then M 5 5 else if what = 3 then roC M 23 16 else if what = 4 then cnt (roC M 23 17) else if what = 5 then M 51 3 else if what = 6 then M 55 3 else if what = 7 then M 27 1 else if what = 8 then M 45 1 else if what = 9 then M 1 1 else if what = 10 then roC M 23 18 else -1 := rfl
  have hs := k_shutWindows b sh M 23 (rd_of hsh (by decide)) (roC M 23) hI.2.2.1.1
  rw [pc_self] at hs
  have h18 := hI.2.2.1.1.2.2.2.1
  refine MC_of (ls := [some (vr b 0), some (vi what)]) (by decide) rfl (Nat.le_of_ble_eq_true rfl) ?_
  refine R_iload_n (pc := 0) dX7_count_0 rfl ?_
  by_cases h_1_0 : what = 0
  · refine R_tabIn (pc := 1) (off := 59) (tgt := 60) dX7_count_1 (by omega) (by omega) (by rw [h_1_0]; rfl) (by decide) ?_
    refine R_aload_n (pc := 60) dX7_count_60 rfl ?_
    refine R_getR (pc := 61) dX7_count_61 fl_RX7_28 rfl (hsh _ _ rfl) rfl ?_
    refine R_getI (pc := 64) (J := 0) dX7_count_64 fl_RX7_118 rfl rfl (hsh _ _ rfl) (rfl) ?_
    refine R_iret (pc := 67) dX7_count_67 ?_
    exact QS_ro hI FrC_r (by rw [ea]; omega)
  by_cases h_1_1 : what = 1
  · refine R_tabIn (off := 67) (tgt := 68) dX7_count_1 (by omega) (by omega) (by rw [h_1_1]; rfl) (by decide) ?_
    refine R_aload_n (pc := 68) dX7_count_68 rfl ?_
    refine R_getR (pc := 69) dX7_count_69 fl_RX7_28 rfl (hsh _ _ rfl) rfl ?_
    refine R_getI (pc := 72) (J := 2) dX7_count_72 fl_RX7_216 rfl rfl (hsh _ _ rfl) (rfl) ?_
    refine R_iret (pc := 75) dX7_count_75 ?_
    exact QS_ro hI FrC_r (by rw [ea]; omega)
  by_cases h_1_2 : what = 2
  · refine R_tabIn (off := 75) (tgt := 76) dX7_count_1 (by omega) (by omega) (by rw [h_1_2]; rfl) (by decide) ?_
    refine R_aload_n (pc := 76) dX7_count_76 rfl ?_
    refine R_getR (pc := 77) dX7_count_77 fl_RX7_28 rfl (hsh _ _ rfl) rfl ?_
    refine R_getI (pc := 80) (J := 5) dX7_count_80 fl_RX7_206 rfl rfl (hsh _ _ rfl) (rfl) ?_
    refine R_iret (pc := 83) dX7_count_83 ?_
    exact QS_ro hI FrC_r (by rw [ea]; omega)
  by_cases h_1_3 : what = 3
  · refine R_tabIn (off := 83) (tgt := 84) dX7_count_1 (by omega) (by omega) (by rw [h_1_3]; rfl) (by decide) ?_
    refine R_aload_n (pc := 84) dX7_count_84 rfl ?_
    refine R_getR (pc := 85) dX7_count_85 fl_RX7_38 rfl (hsh _ _ rfl) rfl ?_
    refine R_getI (pc := 88) (J := 2) dX7_count_88 fl_RX7_163 rfl rfl (hsh _ _ rfl) (ro_d (r := 23)) ?_
    refine R_iret (pc := 91) dX7_count_91 ?_
    exact QS_ro hI FrC_r (by rw [ea]; omega)
  by_cases h_1_4 : what = 4
  · refine R_tabIn (off := 91) (tgt := 92) dX7_count_1 (by omega) (by omega) (by rw [h_1_4]; rfl) (by decide) ?_
    refine R_aload_n (pc := 92) dX7_count_92 rfl ?_
    refine R_getR (pc := 93) dX7_count_93 fl_RX7_38 rfl (hsh _ _ rfl) rfl ?_
    refine R_V0i (pc := 96) dX7_count_96 sv_RX7_173 (hsh _ _ rfl) (hs) (Nat.le_of_ble_eq_true rfl) (by decide) ?_
    refine R_iret (pc := 99) dX7_count_99 ?_
    exact QS_ro hI FrC_r (by rw [ea]; omega)
  by_cases h_1_5 : what = 5
  · refine R_tabIn (off := 99) (tgt := 100) dX7_count_1 (by omega) (by omega) (by rw [h_1_5]; rfl) (by decide) ?_
    refine R_aload_n (pc := 100) dX7_count_100 rfl ?_
    refine R_getR (pc := 101) dX7_count_101 fl_RX7_60 rfl (hsh _ _ rfl) rfl ?_
    refine R_getI (pc := 104) (J := 3) dX7_count_104 fl_RX7_215 rfl rfl (hsh _ _ rfl) (rfl) ?_
    refine R_iret (pc := 107) dX7_count_107 ?_
    exact QS_ro hI FrC_r (by rw [ea]; omega)
  by_cases h_1_6 : what = 6
  · refine R_tabIn (off := 107) (tgt := 108) dX7_count_1 (by omega) (by omega) (by rw [h_1_6]; rfl) (by decide) ?_
    refine R_aload_n (pc := 108) dX7_count_108 rfl ?_
    refine R_getR (pc := 109) dX7_count_109 fl_RX7_64 rfl (hsh _ _ rfl) rfl ?_
    refine R_getI (pc := 112) (J := 3) dX7_count_112 fl_RX7_215 rfl rfl (hsh _ _ rfl) (rfl) ?_
    refine R_iret (pc := 115) dX7_count_115 ?_
    exact QS_ro hI FrC_r (by rw [ea]; omega)
  by_cases h_1_7 : what = 7
  · refine R_tabIn (off := 115) (tgt := 116) dX7_count_1 (by omega) (by omega) (by rw [h_1_7]; rfl) (by decide) ?_
    refine R_aload_n (pc := 116) dX7_count_116 rfl ?_
    refine R_getR (pc := 117) dX7_count_117 fl_RX7_50 rfl (hsh _ _ rfl) rfl ?_
    refine R_getI (pc := 120) (J := 1) dX7_count_120 fl_RX7_180 rfl rfl (hsh _ _ rfl) (rfl) ?_
    refine R_iret (pc := 123) dX7_count_123 ?_
    exact QS_ro hI FrC_r (by rw [ea]; omega)
  by_cases h_1_8 : what = 8
  · refine R_tabIn (off := 123) (tgt := 124) dX7_count_1 (by omega) (by omega) (by rw [h_1_8]; rfl) (by decide) ?_
    refine R_aload_n (pc := 124) dX7_count_124 rfl ?_
    refine R_getR (pc := 125) dX7_count_125 fl_RX7_54 rfl (hsh _ _ rfl) rfl ?_
    refine R_getI (pc := 128) (J := 1) dX7_count_128 fl_RX7_180 rfl rfl (hsh _ _ rfl) (rfl) ?_
    refine R_iret (pc := 131) dX7_count_131 ?_
    exact QS_ro hI FrC_r (by rw [ea]; omega)
  by_cases h_1_9 : what = 9
  · refine R_tabIn (off := 131) (tgt := 132) dX7_count_1 (by omega) (by omega) (by rw [h_1_9]; rfl) (by decide) ?_
    refine R_aload_n (pc := 132) dX7_count_132 rfl ?_
    refine R_getR (pc := 133) dX7_count_133 fl_RX7_10 rfl (hsh _ _ rfl) rfl ?_
    refine R_getI (pc := 136) (J := 1) dX7_count_136 fl_RX7_112 rfl rfl (hsh _ _ rfl) (rfl) ?_
    refine R_iret (pc := 139) dX7_count_139 ?_
    exact QS_ro hI FrC_r (by rw [ea]; omega)
  by_cases h_1_10 : what = 10
  · refine R_tabIn (off := 139) (tgt := 140) dX7_count_1 (by omega) (by omega) (by rw [h_1_10]; rfl) (by decide) ?_
    refine R_aload_n (pc := 140) dX7_count_140 rfl ?_
    refine R_getR (pc := 141) dX7_count_141 fl_RX7_38 rfl (hsh _ _ rfl) rfl ?_
    refine R_getI (pc := 144) (J := 4) dX7_count_144 fl_RX7_246 rfl rfl (hsh _ _ rfl) (ro_w (r := 23)) ?_
    refine R_if_eq (pc := 147) (tgt := 154) dX7_count_147 (by decide) (by omega) (fun h_147 => ?_) (fun h_147 => ?_)
    · refine R_iconst (pc := 154) dX7_count_154 ?_
      refine R_iret (pc := 155) dX7_count_155 ?_
      exact QS_ro hI FrC_r (by rw [ea]; omega)
    · refine R_iconst (pc := 150) dX7_count_150 ?_
      refine R_goto (pc := 151) (tgt := 155) dX7_count_151 (by decide) ?_
      refine R_iret (pc := 155) dX7_count_155 ?_
      exact QS_ro hI FrC_r (by rw [ea]; omega)
  refine R_tabOut (tgt := 156) dX7_count_1 (by omega) (by omega) (by decide) ?_
  refine R_iconst (pc := 156) dX7_count_156 ?_
  refine R_iret (pc := 157) dX7_count_157 ?_
  exact QS_ro hI FrC_r (by rw [ea]; omega)
