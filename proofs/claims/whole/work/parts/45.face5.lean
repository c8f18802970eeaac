/-! the face, fifth part: window, looked, fog -/
theorem len_in {ro : Rd} {B N : Int} (hw : WFr ro B) (hN : 5 ≤ N ∧ N ≤ 16) : 0 ≤ len N ro ∧ len N ro ≤ 1050 := by
  have := lnS_in hw (N - 1).toNat (by omega)
  unfold len
  omega
/-- the window whose shutting leaves the road least long: how long, which; of the first of the row -/
def wnS (mo : Mo) (ro : Rd) (n : Nat) : Nat → Int × Int
  | 0 => (len (mo 0 0) (days mo ro n), -4)
  | t + 1 => if sb (ro 17) t = 0 ∧ len (mo 0 0) (days mo (uF ro 17 (xr (ro 17) t)) n) < (wnS mo ro n t).1 then (len (mo 0 0) (days mo (uF ro 17 (xr (ro 17) t)) n), (t : Int)) else wnS mo ro n t
theorem wnS_s {mo : Mo} {ro : Rd} {n : Nat} {t : Int} (h : 0 ≤ t) : wnS mo ro n (t + 1).toNat = if sb (ro 17) t = 0 ∧ len (mo 0 0) (days mo (uF ro 17 (xr (ro 17) t)) n) < (wnS mo ro n t.toNat).1 then (len (mo 0 0) (days mo (uF ro 17 (xr (ro 17) t)) n), t) else wnS mo ro n t.toNat := by
  rw [show (t + 1).toNat = t.toNat + 1 by omega]
  show (if sb (ro 17) ((t.toNat : Nat) : Int) = 0 ∧ len (mo 0 0) (days mo (uF ro 17 (xr (ro 17) ((t.toNat : Nat) : Int))) n) < (wnS mo ro n t.toNat).1 then (len (mo 0 0) (days mo (uF ro 17 (xr (ro 17) ((t.toNat : Nat) : Int))) n), ((t.toNat : Nat) : Int)) else wnS mo ro n t.toNat) = _
  rw [Int.toNat_of_nonneg h]
theorem wnS_in {mo : Mo} {ro : Rd} {n : Nat} {B : Int} (hm : WFm mo) (hw : WFr ro B) (hB : B + n ≤ 100000) : ∀ t : Nat, t ≤ 6 → (0 ≤ (wnS mo ro n t).1 ∧ (wnS mo ro n t).1 ≤ 1050) ∧ ((wnS mo ro n t).2 = -4 ∨ (0 ≤ (wnS mo ro n t).2 ∧ (wnS mo ro n t).2 < t))
  | 0, _ => ⟨len_in (days_in hm hw n hB).1 hm.1, Or.inl rfl⟩
  | t + 1, ht => by
    obtain ⟨h1, h2⟩ := wnS_in hm hw hB t (by omega)
    unfold wnS
    split
    · have hx := xr_in hw.2.2.1 (t := (t : Int)) (by omega)
      exact ⟨len_in (days_in hm (WFr_s hw hx) n hB).1 hm.1, Or.inr ⟨by show (0 : Int) ≤ t; omega, by show (t : Int) < _; omega⟩⟩
    · exact ⟨h1, by omega⟩
def a_window (S : AS) (n what : Int) : Int := if (1 ≤ n ∧ n ≤ 20) ∧ 0 ≤ what ∧ what ≤ 1 then (if what = 0 ∨ (wnS S.2.2.1 S.2.2.2.1 n.toNat (S.2.2.1 0 2).toNat).2 = -4 then (wnS S.2.2.1 S.2.2.2.1 n.toNat (S.2.2.1 0 2).toNat).2 else (wnS S.2.2.1 S.2.2.2.1 n.toNat (S.2.2.1 0 2).toNat).1) else -1
/-- a helper's end: a number, the scratch cells at will -/
def QH (M : Mem) (X : Int) : Option Value → Mem → Prop := fun v M' => v = some (vi X) ∧ FrC M M'
theorem fr_k {M N : Mem} {B : Int} (hI : IC M B) (hF : FrC M N) : IC N B ∧ moC N 5 = moC M 5 ∧ roC N 23 = roC M 23 ∧ N 5 = M 5 := by
  obtain ⟨h1, h2, -⟩ := IC_fr hI hF
  exact ⟨h1, congrArg (fun S : AS => S.2.2.1) h2, congrArg (fun S : AS => S.2.2.2.1) h2, hF 5 (by unfold SC; omega)⟩
theorem k_longIfShut (b : Nat) (sh : Shp) (M : Mem) {B : Int} (hsh : Hc sh) (hI : IC M B) (hB : B ≤ 90000) (t n : Int) (ht : 0 ≤ t ∧ t < 6) (hn : 1 ≤ n ∧ n ≤ 20) : C0 5 mX7_longIfShut b sh M [vr b 0, vi t, vi n] (QH M (len (M 5 0) (days (moC M 5) (uF (roC M 23) 17 (xr (roC M 23 17) t)) n.toNat))) := by
  obtain ⟨hN, -⟩ := IC_n hI
  obtain ⟨t1, t2, t3, t4⟩ := tr_h hI
  have h25 : isRd sh 25 := rd_of hsh (by decide)
  have hws := WFr_s hI.2.2.1.1 (xr_in hI.2.2.1.1.2.2.1 ht)
  refine MC_of (ls := [some (vr b 0), some (vi t), some (vi n)]) (by decide) rfl (Nat.le_of_ble_eq_true rfl) ?_
  refine R_rng fun hM => ?_
  have hM5 := hM 5 13
  refine R_aload_n (pc := 0) dX7_longIfShut_0 rfl ?_
  refine R_getR (pc := 1) dX7_longIfShut_1 fl_RX7_42 rfl (hsh _ _ rfl) rfl ?_
  refine R_aload_n (pc := 4) dX7_longIfShut_4 rfl ?_
  refine R_getR (pc := 5) dX7_longIfShut_5 fl_RX7_38 rfl (hsh _ _ rfl) rfl ?_
  refine R_V1v (pc := 8) dX7_longIfShut_8 sv_RX7_193 (hsh _ _ rfl) (k_trial b sh M M hsh hI FrC_r hM) (Nat.le_of_ble_eq_true rfl) (by decide) ?_
  refine R_aload_n (pc := 11) dX7_longIfShut_11 rfl ?_
  refine R_getR (pc := 12) dX7_longIfShut_12 fl_RX7_42 rfl (hsh _ _ rfl) rfl ?_
  refine R_iload_n (pc := 15) dX7_longIfShut_15 rfl ?_
  refine R_V1v (pc := 16) dX7_longIfShut_16 sv_RX7_170 (hsh _ _ rfl) (k_turnWindow b sh (tr0 M) 25 h25 (roC M 23) hI.2.2.1.1 t ht) (Nat.le_of_ble_eq_true rfl) (by decide) ?_
  refine R_aload_n (pc := 19) dX7_longIfShut_19 rfl ?_
  refine R_getR (pc := 20) dX7_longIfShut_20 fl_RX7_42 rfl (hsh _ _ rfl) rfl ?_
  refine R_aload_n (pc := 23) dX7_longIfShut_23 rfl ?_
  refine R_getR (pc := 24) dX7_longIfShut_24 fl_RX7_28 rfl (hsh _ _ rfl) rfl ?_
  refine R_iload_n (pc := 27) dX7_longIfShut_27 rfl ?_
  refine R_V2 (pc := 28) dX7_longIfShut_28 sv_RX7_159 (k_goDays b sh (tr0 M) 25 hsh h25 (by rw [t1]; exact hI.1) (by rw [t4 5 (by omega)]; exact hM5) _ hws t2 n (by omega)) (hsh _ _ rfl) (Nat.le_of_ble_eq_true rfl) (by decide) (fun v_28 M_28 hq_28 => ?_)
  obtain ⟨rfl, rfl⟩ := hq_28
  rw [t1]
  have hdy := (days_in hI.1 hws n.toNat (by omega)).1
  refine R_aload_n (pc := 31) dX7_longIfShut_31 rfl ?_
  refine R_getR (pc := 32) dX7_longIfShut_32 fl_RX7_42 rfl (hsh _ _ rfl) rfl ?_
  refine R_V0i (pc := 35) dX7_longIfShut_35 sv_RX7_181 (hsh _ _ rfl) (k_reckonLong b sh (tr0 M) 25 h25 _ hdy (t2.trans (by rw [t4 5 (by omega)])) (by omega)) (Nat.le_of_ble_eq_true rfl) (by decide) ?_
  refine R_iret (pc := 38) dX7_longIfShut_38 ?_
  exact ⟨rfl, FrC_pc t3⟩
theorem k_window (b : Nat) (sh : Shp) (M : Mem) {B : Int} (hsh : Hc sh) (hI : IC M B) (hB : B ≤ 90000) (n what : Int) (hn0 : inR n) (hj : inR what) : C0 6 mX7_window b sh M [vr b 0, vi n, vi what] (QS M B (absC M) (a_window (absC M) n what)) := by
  obtain ⟨hn, hw, ht, hd⟩ := IC_n hI
  have ea : a_window (absC M) n what = if (1 ≤ n ∧ n ≤ 20) ∧ 0 ≤ what ∧ what ≤ 1 then (if what = 0 ∨ (wnS (moC M 5) (roC M 23) n.toNat (M 5 5).toNat).2 = -4 then (wnS (moC M 5) (roC M 23) n.toNat (M 5 5).toNat).2 else (wnS (moC M 5) (roC M 23) n.toNat (M 5 5).toNat).1) else -1 := rfl
  obtain ⟨t1, t2, t3, t4⟩ := tr_h hI
  have h25 : isRd sh 25 := rd_of hsh (by decide)
  have h23 : isRd sh 23 := rd_of hsh (by decide)
  have L : (1 ≤ n ∧ n ≤ 20) ∧ 0 ≤ what ∧ what ≤ 1 → ∀ (m : Nat) (t : Int) (N : Mem), 0 ≤ t → t ≤ M 5 5 → M 5 5 - t < m → FrC M N → MW yX7_window cX7_window 7 (some .int) (rmD 6 0 0) (FM (QS M B (absC M) (a_window (absC M) n what)) b sh 0 0) b sh.length 0 0 59 [some (vr b 0), some (vi n), some (vi what), some (vi (wnS (moC M 5) (roC M 23) n.toNat t.toNat).1), some (vi (wnS (moC M 5) (roC M 23) n.toNat t.toNat).2), some (vi t), none] [] sh (N) := by
    intro hargs m
    induction m with
    | zero => intro t N h1 h2 h3; exact absurd h3 (by omega)
    | succ m ih =>
      intro t N h1 h2 h3 hF
      obtain ⟨k1, k2, k3, k4⟩ := fr_k hI hF
      have hwn := wnS_in hI.1 hI.2.2.1.1 (n := n.toNat) (by omega) t.toNat (by omega)
      have hws := wnS_s (mo := moC M 5) (ro := roC M 23) (n := n.toNat) h1
      have hsd : t < 10 → Ex 0 mX4_isShut b sh N [vr b 23, vi t] (some (vi (sb (roC M 23 17) t))) N := fun h => by
        have := k_isShut b sh N 23 h23 (roC N 23) k1.2.2.1.1.2.2.1 t ⟨h1, h⟩
        rw [pc_self, k3] at this
        exact this
      have h01 := sb01 (roC M 23 17) t
      have hli : t < 6 → C0 5 mX7_longIfShut b sh N [vr b 0, vi t, vi n] (QH N (len (M 5 0) (days (moC M 5) (uF (roC M 23) 17 (xr (roC M 23 17) t)) n.toNat))) := fun h => by
        have := k_longIfShut b sh N hsh k1 hB t n ⟨h1, h⟩ hargs.1
        rw [k2, k3, k4] at this
        exact this
      have hl6 : t < 6 → 0 ≤ len (M 5 0) (days (moC M 5) (uF (roC M 23) 17 (xr (roC M 23 17) t)) n.toNat) ∧ len (M 5 0) (days (moC M 5) (uF (roC M 23) 17 (xr (roC M 23 17) t)) n.toNat) ≤ 1050 := fun h => len_in (days_in hI.1 (WFr_s hI.2.2.1.1 (xr_in hI.2.2.1.1.2.2.1 ⟨h1, h⟩)) n.toNat (by omega)).1 hn
      rw [moC_0] at hws
      have hnext : ∀ (N' : Mem) (l c : Int), FrC M N' → t < M 5 5 → (l, c) = wnS (moC M 5) (roC M 23) n.toNat (t + 1).toNat → MW yX7_window cX7_window 7 (some .int) (rmD 6 0 0) (FM (QS M B (absC M) (a_window (absC M) n what)) b sh 0 0) b sh.length 0 0 105 [some (vr b 0), some (vi n), some (vi what), some (vi l), some (vi c), some (vi t), none] [] sh (N') := by
        intro N' l c hF' hlt he
        refine R_iinc (pc := 105) dX7_window_105 rfl (by decide) rfl rfl ?_
        refine R_goto (pc := 108) (tgt := 59) dX7_window_108 (by decide) ?_
        have hx := ih (t + 1) N' (by omega) (by omega) (by omega) hF'
        rw [← he] at hx
        exact hx
      refine R_iload (pc := 59) dX7_window_59 rfl ?_
      refine R_aload_n (pc := 61) dX7_window_61 rfl ?_
      refine R_getR (pc := 62) dX7_window_62 fl_RX7_28 rfl (hsh _ _ rfl) rfl ?_
      refine R_getI (pc := 65) (J := 5) dX7_window_65 fl_RX7_206 rfl rfl (hsh _ _ rfl) ((show N 5 5 = M 5 5 by rw [k4])) ?_
      refine R_cmp_ge (pc := 68) (tgt := 111) dX7_window_68 (by decide) (by omega) (fun h_68 => ?_) (fun h_68 => ?_)
      · have e1 : t = M 5 5 := by omega
        subst e1
        refine R_iload_n (pc := 111) dX7_window_111 rfl ?_
        refine R_if_eq (pc := 112) (tgt := 122) dX7_window_112 (by decide) (by omega) (fun h_112 => ?_) (fun h_112 => ?_)
        · refine R_iload (pc := 122) dX7_window_122 rfl ?_
          refine R_goto (pc := 124) (tgt := 128) dX7_window_124 (by decide) ?_
          refine R_iret (pc := 128) dX7_window_128 ?_
          exact QS_ro hI hF (by rw [ea]; omega)
        · refine R_iload (pc := 115) dX7_window_115 rfl ?_
          refine R_bipush (pc := 117) dX7_window_117 rfl ?_
          refine R_cmp_ne (pc := 119) (tgt := 127) dX7_window_119 (by decide) (by omega) (fun h_119 => ?_) (fun h_119 => ?_)
          · refine R_iload_n (pc := 127) dX7_window_127 rfl ?_
            refine R_iret (pc := 128) dX7_window_128 ?_
            exact QS_ro hI hF (by rw [ea]; omega)
          · refine R_iload (pc := 122) dX7_window_122 rfl ?_
            refine R_goto (pc := 124) (tgt := 128) dX7_window_124 (by decide) ?_
            refine R_iret (pc := 128) dX7_window_128 ?_
            exact QS_ro hI hF (by rw [ea]; omega)
      · refine R_aload_n (pc := 71) dX7_window_71 rfl ?_
        refine R_getR (pc := 72) dX7_window_72 fl_RX7_38 rfl (hsh _ _ rfl) rfl ?_
        refine R_iload (pc := 75) dX7_window_75 rfl ?_
        refine R_V1i (pc := 77) dX7_window_77 sv_RX7_139 (hsh _ _ rfl) (hsd (by omega)) (Nat.le_of_ble_eq_true rfl) (by decide) ?_
        refine R_if_ne (pc := 80) (tgt := 105) dX7_window_80 (by decide) (by omega) (fun h_80 => ?_) (fun h_80 => ?_)
        · exact hnext N _ _ hF (by omega) (by rw [hws, if_neg (by omega)])
        · refine R_aload_n (pc := 83) dX7_window_83 rfl ?_
          refine R_iload (pc := 84) dX7_window_84 rfl ?_
          refine R_iload_n (pc := 86) dX7_window_86 rfl ?_
          refine R_V2 (pc := 87) dX7_window_87 sv_RX7_209 (hli (by omega)) (hsh _ _ rfl) (Nat.le_of_ble_eq_true rfl) (by decide) (fun v_87 M_87 hq_87 => ?_)
          obtain ⟨rfl, hF2⟩ := hq_87
          have hl := hl6 (by omega)
          refine R_istore (pc := 90) dX7_window_90 (by decide) rfl rfl ?_
          refine R_iload (pc := 92) dX7_window_92 rfl ?_
          refine R_iload_n (pc := 94) dX7_window_94 rfl ?_
          refine R_cmp_ge (pc := 95) (tgt := 105) dX7_window_95 (by decide) (by omega) (fun h_95 => ?_) (fun h_95 => ?_)
          · refine R_drop 6 rfl ?_
            exact hnext _ _ _ (FrC_t hF hF2) (by omega) (by rw [hws, if_neg (by omega)])
          · refine R_iload (pc := 98) dX7_window_98 rfl ?_
            refine R_istore_n (pc := 100) dX7_window_100 (by decide) rfl rfl ?_
            refine R_iload (pc := 101) dX7_window_101 rfl ?_
            refine R_istore (pc := 103) dX7_window_103 (by decide) rfl rfl ?_
            refine R_drop 6 rfl ?_
            exact hnext _ _ _ (FrC_t hF hF2) (by omega) (by rw [hws, if_pos (by omega)])
  refine MC_of (ls := [some (vr b 0), some (vi n), some (vi what), none, none, none, none]) (by decide) rfl (Nat.le_of_ble_eq_true rfl) ?_
  refine R_rng fun hM => ?_
  have hM5 := hM 5 13
  refine R_iload_n (pc := 0) dX7_window_0 rfl ?_
  refine R_iconst (pc := 1) dX7_window_1 ?_
  refine R_bipush (pc := 2) dX7_window_2 rfl ?_
  refine R_S3i (pc := 4) dX7_window_4 ss_RX7_108 (k_within b sh _ _ _ _ hn0 (by omega) (by omega)) (Nat.le_of_ble_eq_true rfl) (by decide) ?_
  refine R_if_eq (pc := 7) (tgt := 19) dX7_window_7 (by decide) (by omega) (fun h_7 => ?_) (fun h_7 => ?_)
  · refine R_iconst (pc := 19) dX7_window_19 ?_
    refine R_iret (pc := 20) dX7_window_20 ?_
    exact QS_ro hI FrC_r (by rw [ea]; omega)
  · refine R_iload_n (pc := 10) dX7_window_10 rfl ?_
    refine R_iconst (pc := 11) dX7_window_11 ?_
    refine R_iconst (pc := 12) dX7_window_12 ?_
    refine R_S3i (pc := 13) dX7_window_13 ss_RX7_108 (k_within b sh _ _ _ _ hj (by omega) (by omega)) (Nat.le_of_ble_eq_true rfl) (by decide) ?_
    refine R_if_ne (pc := 16) (tgt := 21) dX7_window_16 (by decide) (by omega) (fun h_16 => ?_) (fun h_16 => ?_)
    · refine R_aload_n (pc := 21) dX7_window_21 rfl ?_
      refine R_getR (pc := 22) dX7_window_22 fl_RX7_42 rfl (hsh _ _ rfl) rfl ?_
      refine R_aload_n (pc := 25) dX7_window_25 rfl ?_
      refine R_getR (pc := 26) dX7_window_26 fl_RX7_38 rfl (hsh _ _ rfl) rfl ?_
      refine R_V1v (pc := 29) dX7_window_29 sv_RX7_193 (hsh _ _ rfl) (k_trial b sh M M hsh hI FrC_r hM) (Nat.le_of_ble_eq_true rfl) (by decide) ?_
      refine R_aload_n (pc := 32) dX7_window_32 rfl ?_
      refine R_getR (pc := 33) dX7_window_33 fl_RX7_42 rfl (hsh _ _ rfl) rfl ?_
      refine R_aload_n (pc := 36) dX7_window_36 rfl ?_
      refine R_getR (pc := 37) dX7_window_37 fl_RX7_28 rfl (hsh _ _ rfl) rfl ?_
      refine R_iload_n (pc := 40) dX7_window_40 rfl ?_
      refine R_V2 (pc := 41) dX7_window_41 sv_RX7_159 (k_goDays b sh (tr0 M) 25 hsh h25 (by rw [t1]; exact hI.1) (by rw [t4 5 (by omega)]; exact hM5) (roC M 23) hI.2.2.1.1 t2 n (by omega)) (hsh _ _ rfl) (Nat.le_of_ble_eq_true rfl) (by decide) (fun v_41 M_41 hq_41 => ?_)
      obtain ⟨rfl, rfl⟩ := hq_41
      rw [t1]
      have hdy := (days_in hI.1 hI.2.2.1.1 n.toNat (by omega)).1
      refine R_aload_n (pc := 44) dX7_window_44 rfl ?_
      refine R_getR (pc := 45) dX7_window_45 fl_RX7_42 rfl (hsh _ _ rfl) rfl ?_
      refine R_V0i (pc := 48) dX7_window_48 sv_RX7_181 (hsh _ _ rfl) (k_reckonLong b sh (tr0 M) 25 h25 _ hdy (t2.trans (by rw [t4 5 (by omega)])) (by omega)) (Nat.le_of_ble_eq_true rfl) (by decide) ?_
      refine R_istore_n (pc := 51) dX7_window_51 (by decide) rfl rfl ?_
      refine R_bipush (pc := 52) dX7_window_52 rfl ?_
      refine R_istore (pc := 54) dX7_window_54 (by decide) rfl rfl ?_
      refine R_iconst (pc := 56) dX7_window_56 ?_
      refine R_istore (pc := 57) dX7_window_57 (by decide) rfl rfl ?_
      exact L (by omega) 20 0 _ (by omega) (by omega) (by omega) (FrC_pc t3)
    · refine R_iconst (pc := 19) dX7_window_19 ?_
      refine R_iret (pc := 20) dX7_window_20 ?_
      exact QS_ro hI FrC_r (by rw [ea]; omega)
/-! who has looked -/
/-- how many of the first n codes fit, and the first of them as two figures -/
def lkS (P : Int → Int) (T : Int) : Nat → Int × Int
  | 0 => (0, -4)
  | c + 1 => if P c = 1 then ((lkS P T c).1 + 1, if (lkS P T c).1 = 0 then 10 * ((c : Int) / T) + (c : Int) % T else (lkS P T c).2) else lkS P T c
theorem lkS_s {P : Int → Int} {T c : Int} (h : 0 ≤ c) : lkS P T (c + 1).toNat = if P c = 1 then ((lkS P T c.toNat).1 + 1, if (lkS P T c.toNat).1 = 0 then 10 * (c / T) + c % T else (lkS P T c.toNat).2) else lkS P T c.toNat := by
  rw [show (c + 1).toNat = c.toNat + 1 by omega]
  show (if P ((c.toNat : Nat) : Int) = 1 then ((lkS P T c.toNat).1 + 1, if (lkS P T c.toNat).1 = 0 then 10 * (((c.toNat : Nat) : Int) / T) + ((c.toNat : Nat) : Int) % T else (lkS P T c.toNat).2) else lkS P T c.toNat) = _
  rw [Int.toNat_of_nonneg h]
theorem lkS_in {P : Int → Int} {T : Int} : ∀ n : Nat, 0 ≤ (lkS P T n).1 ∧ (lkS P T n).1 ≤ n
  | 0 => by show (0 : Int) ≤ 0 ∧ (0 : Int) ≤ _; omega
  | n + 1 => by
    have := lkS_in (P := P) (T := T) n
    unfold lkS
    split
    · show 0 ≤ _ + 1 ∧ _ + 1 ≤ _; omega
    · omega
theorem hld_e {cp ct ct' cy f : Rd} {time : Int} : ∀ n : Nat, (∀ k : Int, 0 ≤ k → k < n → ct k = ct' k) → hld cp ct cy f time n = hld cp ct' cy f time n
  | 0, _ => rfl
  | n + 1, h => by
    unfold hld
    rw [hld_e n (fun k a c => h k a (by omega)), h n (by omega) (by omega)]
def fitB (S : AS) (c : Int) : Int := hld S.2.2.2.2.2.2.1.2.1 (fun _ => 1) S.2.2.2.2.2.2.1.2.2 (stp S.2.2.1 S.2.2.2.1 c) 1 S.2.2.2.2.2.2.1.1.toNat
def a_looked (S : AS) (what : Int) : Int := if 0 ≤ what ∧ what ≤ 1 then (if what = 0 then (lkS (fitB S) (S.2.2.1 0 2) (nAll S.2.2.1).toNat).1 else (lkS (fitB S) (S.2.2.1 0 2) (nAll S.2.2.1).toNat).2) else -1
theorem cd_dm {w t T : Int} (h0 : 0 ≤ t) (h1 : t < T) : (w * T + t) / T = w ∧ (w * T + t) % T = t := by
  constructor
  · rw [Int.add_comm, Int.add_mul_ediv_right _ _ (by omega), Int.ediv_eq_zero_of_lt h0 h1]; omega
  · rw [Int.add_comm, Int.add_mul_emod_self_right, Int.emod_eq_of_lt h0 h1]
theorem k_fitsBent (b : Nat) (sh : Shp) (M : Mem) {B : Int} (hsh : Hc sh) (hI : IC M B) (w t : Int) (hw : 0 ≤ w ∧ w < M 5 2) (ht : 0 ≤ t ∧ t < M 5 5) : C0 3 mX7_fitsBent b sh M [vr b 0, vi w, vi t] (QH M (fitB (absC M) (w * M 5 5 + t))) := by
  obtain ⟨t1, t2, t3, t4⟩ := tr_h hI
  have h25 : isRd sh 25 := rd_of hsh (by decide)
  have hb := bend_in (k := w) (t := t) hI.1 hI.2.2.1.1
  have hcl : ClOK (tr0 M) 51 := by
    have := hI.2.2.2.2.2.1.1
    unfold ClOK at this ⊢
    rw [t4 51 (by omega), t4 (51 + 1) (by omega), t4 (51 + 2) (by omega), t4 (51 + 3) (by omega)]
    exact this
  have hh := k_holdOn b sh (tr0 M) 51 25 (cl_of hsh (Or.inl rfl)) h25 (by omega) hcl (bend (moC M 5) (roC M 23) w t).1 hb.1 1 (by omega)
  have ec : ∀ a, a ≤ 3 → clC (tr0 M) 51 a = clC M 51 a := fun a ha => by unfold clC; rw [t4 51 (by omega), t4 (51 + a) (by omega)]
  have he : hld (clC (tr0 M) 51 1) (clC (tr0 M) 51 2) (clC (tr0 M) 51 3) (bend (moC M 5) (roC M 23) w t).1 1 (tr0 M 51 3).toNat = fitB (absC M) (w * M 5 5 + t) := by
    have hs := hI.2.2.2.2.2.1.1.1
    rw [ec 1 (by omega), ec 2 (by omega), ec 3 (by omega), t4 51 (by omega)]
    show _ = hld (clC M 51 1) (fun _ => 1) (clC M 51 3) (bend (moC M 5) (roC M 23) ((w * M 5 5 + t) / M 5 5) ((w * M 5 5 + t) % M 5 5)).1 1 (M 51 3).toNat
    rw [(cd_dm ht.1 ht.2).1, (cd_dm ht.1 ht.2).2]
    refine hld_e _ (fun k k0 k1 => ?_)
    rw [clC_i (by omega)]
    exact hI.2.2.2.2.2.1.2 k k0 (by omega)
  have h01 : fitB (absC M) (w * M 5 5 + t) = 0 ∨ fitB (absC M) (w * M 5 5 + t) = 1 := hld01 _
  rw [he] at hh
  refine MC_of (ls := [some (vr b 0), some (vi w), some (vi t)]) (by decide) rfl (Nat.le_of_ble_eq_true rfl) ?_
  refine R_rng fun hM => ?_
  refine R_aload_n (pc := 0) dX7_fitsBent_0 rfl ?_
  refine R_getR (pc := 1) dX7_fitsBent_1 fl_RX7_42 rfl (hsh _ _ rfl) rfl ?_
  refine R_aload_n (pc := 4) dX7_fitsBent_4 rfl ?_
  refine R_getR (pc := 5) dX7_fitsBent_5 fl_RX7_38 rfl (hsh _ _ rfl) rfl ?_
  refine R_V1v (pc := 8) dX7_fitsBent_8 sv_RX7_193 (hsh _ _ rfl) (k_trial b sh M M hsh hI FrC_r hM) (Nat.le_of_ble_eq_true rfl) (by decide) ?_
  refine R_aload_n (pc := 11) dX7_fitsBent_11 rfl ?_
  refine R_getR (pc := 12) dX7_fitsBent_12 fl_RX7_42 rfl (hsh _ _ rfl) rfl ?_
  refine R_aload_n (pc := 15) dX7_fitsBent_15 rfl ?_
  refine R_getR (pc := 16) dX7_fitsBent_16 fl_RX7_28 rfl (hsh _ _ rfl) rfl ?_
  refine R_iload_n (pc := 19) dX7_fitsBent_19 rfl ?_
  refine R_iload_n (pc := 20) dX7_fitsBent_20 rfl ?_
  refine R_V3i (pc := 21) dX7_fitsBent_21 sv_RX7_250 (hsh _ _ rfl) (k_bendBy b sh (tr0 M) 25 hsh h25 (by rw [t1]; exact hI.1) (roC M 23) hI.2.2.1.1 t2 w t (by rw [t4 5 (by omega)]; exact hw) (by rw [t4 5 (by omega)]; exact ht)) (Nat.le_of_ble_eq_true rfl) (by decide) ?_
  rw [t1]
  refine R_pop (pc := 24) dX7_fitsBent_24 rfl ?_
  refine R_aload_n (pc := 25) dX7_fitsBent_25 rfl ?_
  refine R_getR (pc := 26) dX7_fitsBent_26 fl_RX7_60 rfl (hsh _ _ rfl) rfl ?_
  refine R_aload_n (pc := 29) dX7_fitsBent_29 rfl ?_
  refine R_getR (pc := 30) dX7_fitsBent_30 fl_RX7_42 rfl (hsh _ _ rfl) rfl ?_
  refine R_iconst (pc := 33) dX7_fitsBent_33 ?_
  refine R_V2i (pc := 34) dX7_fitsBent_34 sv_RX7_254 (hsh _ _ rfl) (hh) (Nat.le_of_ble_eq_true rfl) (by decide) ?_
  refine R_zret (pc := 37) dX7_fitsBent_37 (by first | exact Or.inl rfl | exact Or.inr rfl | omega) ?_
  exact ⟨rfl, FrC_pc t3⟩
theorem k_looked (b : Nat) (sh : Shp) (M : Mem) {B : Int} (hsh : Hc sh) (hI : IC M B) (what : Int) (hj : inR what) : C0 4 mX7_looked b sh M [vr b 0, vi what] (QS M B (absC M) (a_looked (absC M) what)) := by
  obtain ⟨hn, hw, ht, hd⟩ := IC_n hI
  have ea : a_looked (absC M) what = if 0 ≤ what ∧ what ≤ 1 then (if what = 0 then (lkS (fitB (absC M)) (M 5 5) (M 5 2 * M 5 5).toNat).1 else (lkS (fitB (absC M)) (M 5 5) (M 5 2 * M 5 5).toNat).2) else -1 := rfl
  have hA := nAll_in hI.1
  have hA2 : nAll (moC M 5) = M 5 2 * M 5 5 := rfl
  have LO : 0 ≤ what ∧ what ≤ 1 → ∀ (n : Nat) (w : Int) (N : Mem), 0 ≤ w → w ≤ M 5 2 → M 5 2 - w < n → FrC M N → MW yX7_looked cX7_looked 6 (some .int) (rmD 4 0 0) (FM (QS M B (absC M) (a_looked (absC M) what)) b sh 0 0) b sh.length 0 0 19 [some (vr b 0), some (vi what), some (vi (lkS (fitB (absC M)) (M 5 5) (w * M 5 5).toNat).1), some (vi (lkS (fitB (absC M)) (M 5 5) (w * M 5 5).toNat).2), some (vi w), none] [] sh (N) := by
    intro harg n
    induction n with
    | zero => intro w N h1 h2 h3; exact absurd h3 (by omega)
    | succ n ihO =>
      intro w N h1 h2 h3 hF
      have k4 : N 5 = M 5 := hF 5 (by unfold SC; omega)
      by_cases hwl : w < M 5 2
      · have hwT : (w + 1) * M 5 5 = w * M 5 5 + M 5 5 := by rw [Int.add_mul, Int.one_mul]
        have hwA : (w + 1) * M 5 5 ≤ M 5 2 * M 5 5 := Int.mul_le_mul_of_nonneg_right (by omega) ht.1
        have hw0 : 0 ≤ w * M 5 5 := Int.mul_nonneg h1 ht.1
        have LI : ∀ (n2 : Nat) (t : Int) (N : Mem), 0 ≤ t → t ≤ M 5 5 → M 5 5 - t < n2 → FrC M N → MW yX7_looked cX7_looked 6 (some .int) (rmD 4 0 0) (FM (QS M B (absC M) (a_looked (absC M) what)) b sh 0 0) b sh.length 0 0 34 [some (vr b 0), some (vi what), some (vi (lkS (fitB (absC M)) (M 5 5) (w * M 5 5 + t).toNat).1), some (vi (lkS (fitB (absC M)) (M 5 5) (w * M 5 5 + t).toNat).2), some (vi w), some (vi t)] [] sh (N) := by
          intro n2
          induction n2 with
          | zero => intro t N h1 h2 h3; exact absurd h3 (by omega)
          | succ n2 ihI =>
            intro t N t1 t2 t3 hF
            obtain ⟨g1, g2, -⟩ := IC_fr hI hF
            have k4 : N 5 = M 5 := hF 5 (by unfold SC; omega)
            have hin := lkS_in (P := fitB (absC M)) (T := M 5 5) (w * M 5 5 + t).toNat
            by_cases htl : t < M 5 5
            · have hst := lkS_s (P := fitB (absC M)) (T := M 5 5) (c := w * M 5 5 + t) (by omega)
              rw [(cd_dm t1 htl).1, (cd_dm t1 htl).2] at hst
              have hfb := k_fitsBent b sh N hsh g1 w t (by rw [k4]; omega) (by rw [k4]; omega)
              rw [g2, k4] at hfb
              have h01 : fitB (absC M) (w * M 5 5 + t) = 0 ∨ fitB (absC M) (w * M 5 5 + t) = 1 := hld01 _
              have hnext : ∀ (N' : Mem) (l c : Int), FrC M N' → (l, c) = lkS (fitB (absC M)) (M 5 5) (w * M 5 5 + t + 1).toNat → MW yX7_looked cX7_looked 6 (some .int) (rmD 4 0 0) (FM (QS M B (absC M) (a_looked (absC M) what)) b sh 0 0) b sh.length 0 0 77 [some (vr b 0), some (vi what), some (vi l), some (vi c), some (vi w), some (vi t)] [] sh (N') := by
                intro N' l c hF' he
                refine R_iinc (pc := 77) dX7_looked_77 rfl (by decide) rfl rfl ?_
                refine R_goto (pc := 80) (tgt := 34) dX7_looked_80 (by decide) ?_
                have hx := ihI (t + 1) N' (by omega) (by omega) (by omega) hF'
                rw [show w * M 5 5 + (t + 1) = w * M 5 5 + t + 1 by omega, ← he] at hx
                exact hx
              refine R_iload (pc := 34) dX7_looked_34 rfl ?_
              refine R_aload_n (pc := 36) dX7_looked_36 rfl ?_
              refine R_getR (pc := 37) dX7_looked_37 fl_RX7_28 rfl (hsh _ _ rfl) rfl ?_
              refine R_getI (pc := 40) (J := 5) dX7_looked_40 fl_RX7_206 rfl rfl (hsh _ _ rfl) ((show N 5 5 = M 5 5 by rw [k4])) ?_
              refine R_cmp_ge (pc := 43) (tgt := 83) dX7_looked_43 (by decide) (by omega) (fun h_43 => ?_) (fun h_43 => ?_)
              · exact absurd h_43 (by omega)
              · refine R_aload_n (pc := 46) dX7_looked_46 rfl ?_
                refine R_iload (pc := 47) dX7_looked_47 rfl ?_
                refine R_iload (pc := 49) dX7_looked_49 rfl ?_
                refine R_V2 (pc := 51) dX7_looked_51 sv_RX7_219 (hfb) (hsh _ _ rfl) (Nat.le_of_ble_eq_true rfl) (by decide) (fun v_51 M_51 hq_51 => ?_)
                obtain ⟨rfl, hF2⟩ := hq_51
                refine R_if_eq (pc := 54) (tgt := 77) dX7_looked_54 (by decide) (by omega) (fun h_54 => ?_) (fun h_54 => ?_)
                · exact hnext _ _ _ (FrC_t hF hF2) (by rw [hst, if_neg (by omega)])
                · refine R_iload_n (pc := 57) dX7_looked_57 rfl ?_
                  refine R_if_ne (pc := 58) (tgt := 72) dX7_looked_58 (by decide) (by omega) (fun h_58 => ?_) (fun h_58 => ?_)
                  · refine R_iload_n (pc := 72) dX7_looked_72 rfl ?_
                    refine R_istore_n (pc := 73) dX7_looked_73 (by decide) rfl rfl ?_
                    refine R_iinc (pc := 74) dX7_looked_74 rfl (by decide) rfl rfl ?_
                    first
                      | exact hnext _ _ _ (FrC_t hF hF2) (by rw [hst, if_pos (by omega), if_neg h_58])
                      | exact hnext _ _ _ (FrC_t hF hF2) (by rw [hst, if_pos (by omega), if_pos h_58])
                  · refine R_bipush (pc := 61) dX7_looked_61 rfl ?_
                    refine R_iload (pc := 63) dX7_looked_63 rfl ?_
                    refine R_imul (pc := 65) dX7_looked_65 ?_
                    refine R_iload (pc := 66) dX7_looked_66 rfl ?_
                    refine R_iadd (pc := 68) dX7_looked_68 ?_
                    refine R_goto (pc := 69) (tgt := 73) dX7_looked_69 (by decide) ?_
                    refine R_istore_n (pc := 73) dX7_looked_73 (by decide) rfl rfl ?_
                    refine R_iinc (pc := 74) dX7_looked_74 rfl (by decide) rfl rfl ?_
                    first
                      | exact hnext _ _ _ (FrC_t hF hF2) (by rw [hst, if_pos (by omega), if_neg h_58])
                      | exact hnext _ _ _ (FrC_t hF hF2) (by rw [hst, if_pos (by omega), if_pos h_58])
            · have et : t = M 5 5 := by omega
              refine R_iload (pc := 34) dX7_looked_34 rfl ?_
              refine R_aload_n (pc := 36) dX7_looked_36 rfl ?_
              refine R_getR (pc := 37) dX7_looked_37 fl_RX7_28 rfl (hsh _ _ rfl) rfl ?_
              refine R_getI (pc := 40) (J := 5) dX7_looked_40 fl_RX7_206 rfl rfl (hsh _ _ rfl) ((show N 5 5 = M 5 5 by rw [k4])) ?_
              refine R_cmp_ge (pc := 43) (tgt := 83) dX7_looked_43 (by decide) (by omega) (fun h_43 => ?_) (fun h_43 => ?_)
              · refine R_iinc (pc := 83) dX7_looked_83 rfl (by decide) rfl rfl ?_
                refine R_goto (pc := 86) (tgt := 19) dX7_looked_86 (by decide) ?_
                refine R_drop 5 rfl ?_
                have hx := ihO (w + 1) N (by omega) (by omega) (by omega) hF
                rw [hwT] at hx
                subst et
                exact hx
              · exact absurd h_43 (by omega)
        refine R_iload (pc := 19) dX7_looked_19 rfl ?_
        refine R_aload_n (pc := 21) dX7_looked_21 rfl ?_
        refine R_getR (pc := 22) dX7_looked_22 fl_RX7_28 rfl (hsh _ _ rfl) rfl ?_
        refine R_getI (pc := 25) (J := 2) dX7_looked_25 fl_RX7_216 rfl rfl (hsh _ _ rfl) ((show N 5 2 = M 5 2 by rw [k4])) ?_
        refine R_cmp_ge (pc := 28) (tgt := 89) dX7_looked_28 (by decide) (by omega) (fun h_28 => ?_) (fun h_28 => ?_)
        · exact absurd h_28 (by omega)
        · refine R_iconst (pc := 31) dX7_looked_31 ?_
          refine R_istore (pc := 32) dX7_looked_32 (by decide) rfl rfl ?_
          have hx := LI 20 0 N (by omega) (by omega) (by omega) hF
          rw [Int.add_zero] at hx
          exact hx
      · have ew : w = M 5 2 := by omega
        subst ew
        refine R_iload (pc := 19) dX7_looked_19 rfl ?_
        refine R_aload_n (pc := 21) dX7_looked_21 rfl ?_
        refine R_getR (pc := 22) dX7_looked_22 fl_RX7_28 rfl (hsh _ _ rfl) rfl ?_
        refine R_getI (pc := 25) (J := 2) dX7_looked_25 fl_RX7_216 rfl rfl (hsh _ _ rfl) ((show N 5 2 = M 5 2 by rw [k4])) ?_
        refine R_cmp_ge (pc := 28) (tgt := 89) dX7_looked_28 (by decide) (by omega) (fun h_28 => ?_) (fun h_28 => ?_)
        · refine R_iload_n (pc := 89) dX7_looked_89 rfl ?_
          refine R_if_ne (pc := 90) (tgt := 97) dX7_looked_90 (by decide) (by omega) (fun h_90 => ?_) (fun h_90 => ?_)
          · refine R_iload_n (pc := 97) dX7_looked_97 rfl ?_
            refine R_iret (pc := 98) dX7_looked_98 ?_
            exact QS_ro hI hF (by rw [ea]; omega)
          · refine R_iload_n (pc := 93) dX7_looked_93 rfl ?_
            refine R_goto (pc := 94) (tgt := 98) dX7_looked_94 (by decide) ?_
            refine R_iret (pc := 98) dX7_looked_98 ?_
            exact QS_ro hI hF (by rw [ea]; omega)
        · exact absurd h_28 (by omega)
  refine MC_of (ls := [some (vr b 0), some (vi what), none, none, none, none]) (by decide) rfl (Nat.le_of_ble_eq_true rfl) ?_
  refine R_iload_n (pc := 0) dX7_looked_0 rfl ?_
  refine R_iconst (pc := 1) dX7_looked_1 ?_
  refine R_iconst (pc := 2) dX7_looked_2 ?_
  refine R_S3i (pc := 3) dX7_looked_3 ss_RX7_108 (k_within b sh _ _ _ _ hj (by omega) (by omega)) (Nat.le_of_ble_eq_true rfl) (by decide) ?_
  refine R_if_ne (pc := 6) (tgt := 11) dX7_looked_6 (by decide) (by omega) (fun h_6 => ?_) (fun h_6 => ?_)
  · refine R_iconst (pc := 11) dX7_looked_11 ?_
    refine R_istore_n (pc := 12) dX7_looked_12 (by decide) rfl rfl ?_
    refine R_bipush (pc := 13) dX7_looked_13 rfl ?_
    refine R_istore_n (pc := 15) dX7_looked_15 (by decide) rfl rfl ?_
    refine R_iconst (pc := 16) dX7_looked_16 ?_
    refine R_istore (pc := 17) dX7_looked_17 (by decide) rfl rfl ?_
    have hx := LO (by omega) 20 0 M (by omega) (by omega) (by omega) FrC_r
    rw [Int.zero_mul] at hx
    exact hx
  · refine R_iconst (pc := 9) dX7_looked_9 ?_
    refine R_iret (pc := 10) dX7_looked_10 ?_
    exact QS_ro hI FrC_r (by rw [ea]; omega)
