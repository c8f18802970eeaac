theorem k_goDays (b : Nat) (sh : Shp) (M : Mem) (r : Nat) (hsh : Hc sh) (hr : isRd sh r) (hm : WFm (moC M 5)) (hM : inR (M 5 13)) (f : Rd) {B : Int} (hf : WFr f B) (hN : M r 0 = M 5 0) (n : Int) (hn : 0 ≤ n ∧ B + n ≤ 100000) : Ex 4 mX4_goDays b sh (putC M r f) [vr b r, vr b 5, vi n] none (putC M r (days (moC M 5) f n.toNat)) := by
  have hr3 := hr.2.2
  have hd16 := hf.2.1
  have L : ∀ (k : Nat) (i : Int), 0 ≤ i → i ≤ n → n - i < k → MW yX4_goDays cX4_goDays 4 none (rmD 4 0 0) (FM (EQ none (putC M r (days (moC M 5) f n.toNat))) b sh 0 0) b sh.length 0 0 2 [some (vr b r), some (vr b 5), some (vi n), some (vi i)] [] sh (putC M r (days (moC M 5) f i.toNat)) := by
    intro k
    induction k with
    | zero => intro i h1 h2 h3; exact absurd h3 (by omega)
    | succ k ih =>
      intro i h1 h2 h3
      obtain ⟨g1, g2⟩ := days_in (mo := moC M 5) hm hf i.toNat (by omega)
      have hfog := hm.2.2.2.2.2.2.2.2.2.2.2.2 (days (moC M 5) f i.toNat 16 % 10)
      have e5 : ∀ g : Rd, moC (putC M r g) 5 = moC M 5 := fun g => moC_pc (by omega) (by omega)
      refine R_iload_n (pc := 2) dX4_goDays_2 rfl ?_
      refine R_iload_n (pc := 3) dX4_goDays_3 rfl ?_
      refine R_cmp_ge (pc := 4) (tgt := 26) dX4_goDays_4 (by decide) (by omega) (fun h_4 => ?_) (fun h_4 => ?_)
      · have e1 : i = n := by omega
        subst e1
        refine R_vret (pc := 26) dX4_goDays_26 ?_
        exact eqv rfl
      · refine R_aload_n (pc := 7) dX4_goDays_7 rfl ?_
        refine R_aload_n (pc := 8) dX4_goDays_8 rfl ?_
        refine R_aload_n (pc := 9) dX4_goDays_9 rfl ?_
        refine R_aload_n (pc := 10) dX4_goDays_10 rfl ?_
        refine R_getI (pc := 11) (J := 2) dX4_goDays_11 fl_RX4_31 rfl rfl hr.1 (pc_d) ?_
        refine R_V1i (pc := 14) dX4_goDays_14 sv_RX4_47 (hsh _ _ rfl) (k_isFoggy b sh _ hsh _ (by omega) (by rw [pc_o (by omega) (by omega)]; exact hM)) (Nat.le_of_ble_eq_true rfl) (by decide) ?_
        rw [e5]
        refine R_V2v (pc := 17) dX4_goDays_17 sv_RX4_51 hr.1 (k_goDay b sh M r hsh hr hm _ g1 hN _ hfog) (Nat.le_of_ble_eq_true rfl) (by decide) ?_
        refine R_iinc dX4_goDays_20 rfl (by decide) rfl rfl ?_
        refine R_goto (tgt := 2) dX4_goDays_23 (by decide) ?_
        have hx := ih (i + 1) (by omega) (by omega) (by omega)
        rw [show (i + 1).toNat = i.toNat + 1 by omega] at hx
        exact hx
  refine MC_of (ls := [some (vr b r), some (vr b 5), some (vi n), none]) (by decide) rfl (Nat.le_of_ble_eq_true rfl) ?_
  refine R_iconst (pc := 0) dX4_goDays_0 ?_
  refine R_istore_n (pc := 1) dX4_goDays_1 (by decide) rfl rfl ?_
  exact L (n + 1).toNat 0 (by omega) (by omega) (by omega)
/-- a walk besides -/
def wlk (mo : Mo) (fog : Int) (ro : Rd) (k t : Int) : Rd × Int := if fog = 1 then (uF ro 18 1, 0) else bend mo (uF ro 18 1) k t
theorem k_takeWalk (b : Nat) (sh : Shp) (M : Mem) (r : Nat) (hsh : Hc sh) (hr : isRd sh r) (hm : WFm (moC M 5)) (f : Rd) {B : Int} (hf : WFr f B) (hN : M r 0 = M 5 0) (w t fog : Int) (hw : 0 ≤ w ∧ w < M 5 2) (ht : 0 ≤ t ∧ t < M 5 5) (hfog : fog = 0 ∨ fog = 1) : Ex 3 mX4_takeWalk b sh (putC M r f) [vr b r, vr b 5, vi w, vi t, vi fog] (some (vi (wlk (moC M 5) fog f w t).2)) (putC M r (wlk (moC M 5) fog f w t).1) := by
  refine MC_of (ls := [some (vr b r), some (vr b 5), some (vi w), some (vi t), some (vi fog)]) (by decide) rfl (Nat.le_of_ble_eq_true rfl) ?_
  refine R_aload_n (pc := 0) dX4_takeWalk_0 rfl ?_
  refine R_iconst (pc := 1) dX4_takeWalk_1 ?_
  refine R_putZ (pc := 2) (J := 4) rfl dX4_takeWalk_2 fl_RX4_37 rfl (fun r h => by cases h; rfl) hr.1 (by omega) ?_
  rw [pcu_w]
  refine R_iload (pc := 5) dX4_takeWalk_5 rfl ?_
  refine R_if_eq (pc := 7) (tgt := 14) dX4_takeWalk_7 (by decide) (by omega) (fun h_7 => ?_) (fun h_7 => ?_)
  · refine R_aload_n (pc := 14) dX4_takeWalk_14 rfl ?_
    refine R_aload_n (pc := 15) dX4_takeWalk_15 rfl ?_
    refine R_iload_n (pc := 16) dX4_takeWalk_16 rfl ?_
    refine R_iload_n (pc := 17) dX4_takeWalk_17 rfl ?_
    refine R_V3i (pc := 18) dX4_takeWalk_18 sv_RX4_67 hr.1 (k_bendBy b sh M r hsh hr hm _ (WFr_w hf (x := 1) (by omega)) hN _ _ hw ht) (Nat.le_of_ble_eq_true rfl) (by decide) ?_
    refine R_iret (pc := 21) dX4_takeWalk_21 ?_
    first
      | exact eqi (by rw [wlk, if_pos (by omega)]) (by rw [wlk, if_pos (by omega)])
      | exact eqi (by rw [wlk, if_neg (by omega)]) (by rw [wlk, if_neg (by omega)])
  · refine R_iconst (pc := 10) dX4_takeWalk_10 ?_
    refine R_goto (pc := 11) (tgt := 21) dX4_takeWalk_11 (by decide) ?_
    refine R_iret (pc := 21) dX4_takeWalk_21 ?_
    first
      | exact eqi (by rw [wlk, if_pos (by omega)]) (by rw [wlk, if_pos (by omega)])
      | exact eqi (by rw [wlk, if_neg (by omega)]) (by rw [wlk, if_neg (by omega)])
def xr (x t : Int) : Int := ((x.toNat ^^^ ((2 : Int) ^ t.toNat).toNat : Nat) : Int)
theorem xr_in {x t : Int} (hx : 0 ≤ x ∧ x < 64) (ht : 0 ≤ t ∧ t < 6) : 0 ≤ xr x t ∧ xr x t < 64 := by
  have h : ∀ (a : Fin 64) (c : Fin 6), (a.val ^^^ ((2 : Int) ^ c.val).toNat) < 64 := by decide +kernel
  have := h ⟨x.toNat, by omega⟩ ⟨t.toNat, by omega⟩
  simp only at this
  unfold xr
  omega
theorem k_turnWindow (b : Nat) (sh : Shp) (M : Mem) (r : Nat) (hr : isRd sh r) (f : Rd) {B : Int} (hf : WFr f B) (t : Int) (ht : 0 ≤ t ∧ t < 6) : Ex 0 mX4_turnWindow b sh (putC M r f) [vr b r, vi t] none (putC M r (uF f 17 (xr (f 17) t))) := by
  have h17 := hf.2.2.1
  have hp := pow_le10 (v := t) (by omega)
  have hx := xr_in h17 ht
  refine MC_of (ls := [some (vr b r), some (vi t)]) (by decide) rfl (Nat.le_of_ble_eq_true rfl) ?_
  refine R_aload_n (pc := 0) dX4_turnWindow_0 rfl ?_
  refine R_dup (pc := 1) dX4_turnWindow_1 rfl ?_
  refine R_getI (pc := 2) (J := 3) dX4_turnWindow_2 fl_RX4_34 rfl rfl hr.1 (pc_s) ?_
  refine R_iconst (pc := 5) dX4_turnWindow_5 ?_
  refine R_iload_n (pc := 6) dX4_turnWindow_6 rfl ?_
  refine R_ishl (pc := 7) dX4_turnWindow_7 (by omega) ?_
  refine R_ixor (pc := 8) dX4_turnWindow_8 (by omega) ?_
  refine R_putI (pc := 9) (J := 3) rfl dX4_turnWindow_9 fl_RX4_34 rfl (fun r h => by cases h; rfl) hr.1 (by unfold xr at hx; omega) ?_
  refine R_vret (pc := 12) dX4_turnWindow_12 ?_
  exact eqv pcu_s
theorem k_shutWindows (b : Nat) (sh : Shp) (M : Mem) (r : Nat) (hr : isRd sh r) (f : Rd) {B : Int} (hf : WFr f B) : Ex 1 mX4_shutWindows b sh (putC M r f) [vr b r] (some (vi (cnt (f 17)))) (putC M r f) := by
  have h17 := hf.2.2.1
  refine MC_of (ls := [some (vr b r)]) (by decide) rfl (Nat.le_of_ble_eq_true rfl) ?_
  refine R_aload_n (pc := 0) dX4_shutWindows_0 rfl ?_
  refine R_getI (pc := 1) (J := 3) dX4_shutWindows_1 fl_RX4_34 rfl rfl hr.1 (pc_s) ?_
  refine R_S1i (pc := 4) dX4_shutWindows_4 ss_RX4_41 (k_bitCount b sh _ _ h17) (Nat.le_of_ble_eq_true rfl) (by decide) ?_
  refine R_iret (pc := 7) dX4_shutWindows_7 ?_
  exact eqi rfl rfl
theorem lnS_s {ro : Rd} {i : Int} (h : 1 ≤ i) : lnS ro i.toNat = lnS ro (i - 1).toNat + (10 + ab (ro i) (ro (i - 1))) := by
  rw [show i.toNat = (i - 1).toNat + 1 by omega]
  show lnS ro _ + (10 + ab (ro ((((i - 1).toNat : Nat) : Int) + 1)) (ro (((i - 1).toNat : Nat) : Int))) = _
  rw [Int.toNat_of_nonneg (by omega), show i - 1 + 1 = i by omega]
theorem k_reckonLong (b : Nat) (sh : Shp) (M : Mem) (r : Nat) (hr : isRd sh r) (f : Rd) {B : Int} (hf : WFr f B) {N : Int} (hN : M r 0 = N) (hN2 : 5 ≤ N ∧ N ≤ 16) : Ex 1 mX4_reckonLong b sh (putC M r f) [vr b r] (some (vi (len N f))) (putC M r f) := by
  have en : ∀ g, putC M r g r 0 = N := fun g => (pc_n (Or.inl rfl)).trans hN
  have L : ∀ (n : Nat) (i : Int), 1 ≤ i → i ≤ N → N - i < n → MW yX4_reckonLong cX4_reckonLong 3 (some .int) (rmD 1 0 0) (FM (EQ (some (vi (len N f))) (putC M r f)) b sh 0 0) b sh.length 0 0 4 [some (vr b r), some (vi (lnS f (i - 1).toNat)), some (vi i)] [] sh (putC M r f) := by
    intro n
    induction n with
    | zero => intro i h1 h2 h3; exact absurd h3 (by omega)
    | succ n ih =>
      intro i h1 h2 h3
      have g := lnS_in hf (i - 1).toNat (by omega)
      refine R_iload_n (pc := 4) dX4_reckonLong_4 rfl ?_
      refine R_aload_n (pc := 5) dX4_reckonLong_5 rfl ?_
      refine R_getI (pc := 6) (J := 0) dX4_reckonLong_6 fl_RX4_21 rfl rfl hr.1 (en _) ?_
      refine R_cmp_ge (pc := 9) (tgt := 29) dX4_reckonLong_9 (by decide) (by omega) (fun h_9 => ?_) (fun h_9 => ?_)
      · have e1 : i = N := by omega
        subst e1
        refine R_iload_n (pc := 29) dX4_reckonLong_29 rfl ?_
        refine R_iret (pc := 30) dX4_reckonLong_30 ?_
        exact eqi rfl rfl
      · refine R_iload_n (pc := 12) dX4_reckonLong_12 rfl ?_
        refine R_bipush (pc := 13) dX4_reckonLong_13 rfl ?_
        refine R_aload_n (pc := 15) dX4_reckonLong_15 rfl ?_
        refine R_iload_n (pc := 16) dX4_reckonLong_16 rfl ?_
        refine R_V1i (pc := 17) dX4_reckonLong_17 sv_RX4_112 hr.1 (k_gap b sh M r hr f hf i (by omega)) (Nat.le_of_ble_eq_true rfl) (by decide) ?_
        refine R_iadd (pc := 20) dX4_reckonLong_20 ?_
        refine R_iadd (pc := 21) dX4_reckonLong_21 ?_
        refine R_istore_n (pc := 22) dX4_reckonLong_22 (by decide) rfl rfl ?_
        refine R_iinc dX4_reckonLong_23 rfl (by decide) rfl rfl ?_
        refine R_goto (tgt := 4) dX4_reckonLong_26 (by decide) ?_
        have hx := ih (i + 1) (by omega) (by omega) (by omega)
        rw [show i + 1 - 1 = i by omega, lnS_s h1] at hx
        exact hx
  refine MC_of (ls := [some (vr b r), none, none]) (by decide) rfl (Nat.le_of_ble_eq_true rfl) ?_
  refine R_iconst (pc := 0) dX4_reckonLong_0 ?_
  refine R_istore_n (pc := 1) dX4_reckonLong_1 (by decide) rfl rfl ?_
  refine R_iconst (pc := 2) dX4_reckonLong_2 ?_
  refine R_istore_n (pc := 3) dX4_reckonLong_3 (by decide) rfl rfl ?_
  exact L 20 1 (by omega) (by omega) (by omega)
abbrev crk (ro : Rd) (i : Int) : Int := if (ro (i - 1) < ro i ∧ ro (i + 1) < ro i) ∨ (ro i < ro (i - 1) ∧ ro i < ro (i + 1)) then 1 else 0
def crS (ro : Rd) : Nat → Int
  | 0 => 0
  | n + 1 => crS ro n + crk ro ((n : Int) + 1)
theorem crS_s {ro : Rd} {i : Int} (h : 1 ≤ i) : crS ro i.toNat = crS ro (i - 1).toNat + crk ro i := by
  rw [show i.toNat = (i - 1).toNat + 1 by omega]
  show crS ro _ + crk ro ((((i - 1).toNat : Nat) : Int) + 1) = _
  rw [Int.toNat_of_nonneg (by omega), show i - 1 + 1 = i by omega]
theorem crS_in {ro : Rd} : ∀ n : Nat, 0 ≤ crS ro n ∧ crS ro n ≤ n
  | 0 => by simp [crS]
  | n + 1 => by
    have := crS_in (ro := ro) n
    unfold crS
    simp only [crk]
    split <;> omega
theorem k_reckonCrooks (b : Nat) (sh : Shp) (M : Mem) (r : Nat) (hr : isRd sh r) (f : Rd) {B : Int} (hf : WFr f B) {N : Int} (hN : M r 0 = N) (hN2 : 5 ≤ N ∧ N ≤ 16) : Ex 1 mX4_reckonCrooks b sh (putC M r f) [vr b r] (some (vi (crS f (N - 2).toNat))) (putC M r f) := by
  have en : ∀ g, putC M r g r 0 = N := fun g => (pc_n (Or.inl rfl)).trans hN
  have L : ∀ (n : Nat) (i : Int), 1 ≤ i → i ≤ N - 1 → N - 1 - i < n → MW yX4_reckonCrooks cX4_reckonCrooks 5 (some .int) (rmD 1 0 0) (FM (EQ (some (vi (crS f (N - 2).toNat))) (putC M r f)) b sh 0 0) b sh.length 0 0 4 [some (vr b r), some (vi (crS f (i - 1).toNat)), some (vi i), none, none] [] sh (putC M r f) := by
    intro n
    induction n with
    | zero => intro i h1 h2 h3; exact absurd h3 (by omega)
    | succ n ih =>
      intro i h1 h2 h3
      have g := crS_in (ro := f) (i - 1).toNat
      refine R_iload_n (pc := 4) dX4_reckonCrooks_4 rfl ?_
      refine R_aload_n (pc := 5) dX4_reckonCrooks_5 rfl ?_
      refine R_getI (pc := 6) (J := 0) dX4_reckonCrooks_6 fl_RX4_21 rfl rfl hr.1 (en _) ?_
      refine R_iconst (pc := 9) dX4_reckonCrooks_9 ?_
      refine R_isub (pc := 10) dX4_reckonCrooks_10 ?_
      refine R_cmp_ge (pc := 11) (tgt := 70) dX4_reckonCrooks_11 (by decide) (by omega) (fun h_11 => ?_) (fun h_11 => ?_)
      · have e1 : i = N - 1 := by omega
        subst e1
        rw [show N - 1 - 1 = N - 2 by omega]
        refine R_iload_n (pc := 70) dX4_reckonCrooks_70 rfl ?_
        refine R_iret (pc := 71) dX4_reckonCrooks_71 ?_
        exact eqi rfl rfl
      · have v1 := hf.1 i (by omega) (by omega)
        have v2 := hf.1 (i - 1) (by omega) (by omega)
        have v3 := hf.1 (i + 1) (by omega) (by omega)
        refine R_aload_n (pc := 14) dX4_reckonCrooks_14 rfl ?_
        refine R_getR (pc := 15) dX4_reckonCrooks_15 fl_RX4_9 rfl hr.1 rfl ?_
        refine R_iload_n (pc := 18) dX4_reckonCrooks_18 rfl ?_
        refine R_iald (pc := 19) dX4_reckonCrooks_19 hr.2.1 (by omega) (pc_y (by omega)) ?_
        refine R_aload_n (pc := 20) dX4_reckonCrooks_20 rfl ?_
        refine R_getR (pc := 21) dX4_reckonCrooks_21 fl_RX4_9 rfl hr.1 rfl ?_
        refine R_iload_n (pc := 24) dX4_reckonCrooks_24 rfl ?_
        refine R_iconst (pc := 25) dX4_reckonCrooks_25 ?_
        refine R_isub (pc := 26) dX4_reckonCrooks_26 ?_
        refine R_iald (pc := 27) dX4_reckonCrooks_27 hr.2.1 (by omega) (pc_y (by omega)) ?_
        refine R_S2i (pc := 28) dX4_reckonCrooks_28 ss_RX4_115 (k_compare b sh _ _ _ (by omega) (by omega)) (Nat.le_of_ble_eq_true rfl) (by decide) ?_
        refine R_istore_n (pc := 31) dX4_reckonCrooks_31 (by decide) rfl rfl ?_
        refine R_aload_n (pc := 32) dX4_reckonCrooks_32 rfl ?_
        refine R_getR (pc := 33) dX4_reckonCrooks_33 fl_RX4_9 rfl hr.1 rfl ?_
        refine R_iload_n (pc := 36) dX4_reckonCrooks_36 rfl ?_
        refine R_iald (pc := 37) dX4_reckonCrooks_37 hr.2.1 (by omega) (pc_y (by omega)) ?_
        refine R_aload_n (pc := 38) dX4_reckonCrooks_38 rfl ?_
        refine R_getR (pc := 39) dX4_reckonCrooks_39 fl_RX4_9 rfl hr.1 rfl ?_
        refine R_iload_n (pc := 42) dX4_reckonCrooks_42 rfl ?_
        refine R_iconst (pc := 43) dX4_reckonCrooks_43 ?_
        refine R_iadd (pc := 44) dX4_reckonCrooks_44 ?_
        refine R_iald (pc := 45) dX4_reckonCrooks_45 hr.2.1 (by omega) (pc_y (by omega)) ?_
        refine R_S2i (pc := 46) dX4_reckonCrooks_46 ss_RX4_115 (k_compare b sh _ _ _ (by omega) (by omega)) (Nat.le_of_ble_eq_true rfl) (by decide) ?_
        refine R_istore (pc := 49) dX4_reckonCrooks_49 (by decide) rfl rfl ?_
        refine R_iload_n (pc := 51) dX4_reckonCrooks_51 rfl ?_
        refine R_if_eq (pc := 52) (tgt := 64) dX4_reckonCrooks_52 (by decide) (by omega) (fun h_52 => ?_) (fun h_52 => ?_)
        · refine R_iinc dX4_reckonCrooks_64 rfl (by decide) rfl rfl ?_
          refine R_goto (tgt := 4) dX4_reckonCrooks_67 (by decide) ?_
          refine R_drop 3 rfl ?_
          refine R_drop 4 rfl ?_
          have hx := ih (i + 1) (by omega) (by omega) (by omega)
          rw [show i + 1 - 1 = i by omega, crS_s h1] at hx
          first
            | (rw [show crk f i = 0 by simp only [crk]; omega, Int.add_zero] at hx; exact hx)
            | (rw [show crk f i = 1 by simp only [crk]; omega] at hx; exact hx)
        · refine R_iload_n (pc := 55) dX4_reckonCrooks_55 rfl ?_
          refine R_iload (pc := 56) dX4_reckonCrooks_56 rfl ?_
          refine R_cmp_ne (pc := 58) (tgt := 64) dX4_reckonCrooks_58 (by decide) (by omega) (fun h_58 => ?_) (fun h_58 => ?_)
          · refine R_iinc dX4_reckonCrooks_64 rfl (by decide) rfl rfl ?_
            refine R_goto (tgt := 4) dX4_reckonCrooks_67 (by decide) ?_
            refine R_drop 3 rfl ?_
            refine R_drop 4 rfl ?_
            have hx := ih (i + 1) (by omega) (by omega) (by omega)
            rw [show i + 1 - 1 = i by omega, crS_s h1] at hx
            first
              | (rw [show crk f i = 0 by simp only [crk]; omega, Int.add_zero] at hx; exact hx)
              | (rw [show crk f i = 1 by simp only [crk]; omega] at hx; exact hx)
          · refine R_iinc (pc := 61) dX4_reckonCrooks_61 rfl (by decide) rfl rfl ?_
            refine R_iinc dX4_reckonCrooks_64 rfl (by decide) rfl rfl ?_
            refine R_goto (tgt := 4) dX4_reckonCrooks_67 (by decide) ?_
            refine R_drop 3 rfl ?_
            refine R_drop 4 rfl ?_
            have hx := ih (i + 1) (by omega) (by omega) (by omega)
            rw [show i + 1 - 1 = i by omega, crS_s h1] at hx
            first
              | (rw [show crk f i = 0 by simp only [crk]; omega, Int.add_zero] at hx; exact hx)
              | (rw [show crk f i = 1 by simp only [crk]; omega] at hx; exact hx)
  refine MC_of (ls := [some (vr b r), none, none, none, none]) (by decide) rfl (Nat.le_of_ble_eq_true rfl) ?_
  refine R_iconst (pc := 0) dX4_reckonCrooks_0 ?_
  refine R_istore_n (pc := 1) dX4_reckonCrooks_1 (by decide) rfl rfl ?_
  refine R_iconst (pc := 2) dX4_reckonCrooks_2 ?_
  refine R_istore_n (pc := 3) dX4_reckonCrooks_3 (by decide) rfl rfl ?_
  exact L 20 1 (by omega) (by omega) (by omega)
abbrev knt (ro : Rd) (i : Int) : Int := if 4 ≤ ab (ro i) (ro (i - 1)) then 1 else 0
def knS (ro : Rd) : Nat → Int
  | 0 => 0
  | n + 1 => knS ro n + knt ro ((n : Int) + 1)
theorem knS_s {ro : Rd} {i : Int} (h : 1 ≤ i) : knS ro i.toNat = knS ro (i - 1).toNat + knt ro i := by
  rw [show i.toNat = (i - 1).toNat + 1 by omega]
  show knS ro _ + knt ro ((((i - 1).toNat : Nat) : Int) + 1) = _
  rw [Int.toNat_of_nonneg (by omega), show i - 1 + 1 = i by omega]
theorem knS_in {ro : Rd} : ∀ n : Nat, 0 ≤ knS ro n ∧ knS ro n ≤ n
  | 0 => by simp [knS]
  | n + 1 => by
    have := knS_in (ro := ro) n
    unfold knS
    simp only [knt]
    split <;> omega
theorem k_reckonKnots (b : Nat) (sh : Shp) (M : Mem) (r : Nat) (hr : isRd sh r) (f : Rd) {B : Int} (hf : WFr f B) {N : Int} (hN : M r 0 = N) (hN2 : 5 ≤ N ∧ N ≤ 16) : Ex 1 mX4_reckonKnots b sh (putC M r f) [vr b r] (some (vi (knS f (N - 1).toNat))) (putC M r f) := by
  have en : ∀ g, putC M r g r 0 = N := fun g => (pc_n (Or.inl rfl)).trans hN
  have L : ∀ (n : Nat) (i : Int), 1 ≤ i → i ≤ N → N - i < n → MW yX4_reckonKnots cX4_reckonKnots 3 (some .int) (rmD 1 0 0) (FM (EQ (some (vi (knS f (N - 1).toNat))) (putC M r f)) b sh 0 0) b sh.length 0 0 4 [some (vr b r), some (vi (knS f (i - 1).toNat)), some (vi i)] [] sh (putC M r f) := by
    intro n
    induction n with
    | zero => intro i h1 h2 h3; exact absurd h3 (by omega)
    | succ n ih =>
      intro i h1 h2 h3
      have g := knS_in (ro := f) (i - 1).toNat
      refine R_iload_n (pc := 4) dX4_reckonKnots_4 rfl ?_
      refine R_aload_n (pc := 5) dX4_reckonKnots_5 rfl ?_
      refine R_getI (pc := 6) (J := 0) dX4_reckonKnots_6 fl_RX4_21 rfl rfl hr.1 (en _) ?_
      refine R_cmp_ge (pc := 9) (tgt := 30) dX4_reckonKnots_9 (by decide) (by omega) (fun h_9 => ?_) (fun h_9 => ?_)
      · have e1 : i = N := by omega
        subst e1
        refine R_iload_n (pc := 30) dX4_reckonKnots_30 rfl ?_
        refine R_iret (pc := 31) dX4_reckonKnots_31 ?_
        exact eqi rfl rfl
      · have v1 := hf.1 i (by omega) (by omega)
        have v2 := hf.1 (i - 1) (by omega) (by omega)
        refine R_aload_n (pc := 12) dX4_reckonKnots_12 rfl ?_
        refine R_iload_n (pc := 13) dX4_reckonKnots_13 rfl ?_
        refine R_V1i (pc := 14) dX4_reckonKnots_14 sv_RX4_112 hr.1 (k_gap b sh M r hr f hf i (by omega)) (Nat.le_of_ble_eq_true rfl) (by decide) ?_
        refine R_iconst (pc := 17) dX4_reckonKnots_17 ?_
        refine R_cmp_lt (pc := 18) (tgt := 24) dX4_reckonKnots_18 (by decide) (by simp only [ab]; omega) (fun h_18 => ?_) (fun h_18 => ?_)
        · refine R_iinc dX4_reckonKnots_24 rfl (by decide) rfl rfl ?_
          refine R_goto (tgt := 4) dX4_reckonKnots_27 (by decide) ?_
          have hx := ih (i + 1) (by omega) (by omega) (by omega)
          rw [show i + 1 - 1 = i by omega, knS_s h1] at hx
          first
            | (rw [show knt f i = 0 by simp only [knt]; omega, Int.add_zero] at hx; exact hx)
            | (rw [show knt f i = 1 by simp only [knt]; omega] at hx; exact hx)
        · refine R_iinc (pc := 21) dX4_reckonKnots_21 rfl (by decide) rfl rfl ?_
          refine R_iinc dX4_reckonKnots_24 rfl (by decide) rfl rfl ?_
          refine R_goto (tgt := 4) dX4_reckonKnots_27 (by decide) ?_
          have hx := ih (i + 1) (by omega) (by omega) (by omega)
          rw [show i + 1 - 1 = i by omega, knS_s h1] at hx
          first
            | (rw [show knt f i = 0 by simp only [knt]; omega, Int.add_zero] at hx; exact hx)
            | (rw [show knt f i = 1 by simp only [knt]; omega] at hx; exact hx)
  refine MC_of (ls := [some (vr b r), none, none]) (by decide) rfl (Nat.le_of_ble_eq_true rfl) ?_
  refine R_iconst (pc := 0) dX4_reckonKnots_0 ?_
  refine R_istore_n (pc := 1) dX4_reckonKnots_1 (by decide) rfl rfl ?_
  refine R_iconst (pc := 2) dX4_reckonKnots_2 ?_
  refine R_istore_n (pc := 3) dX4_reckonKnots_3 (by decide) rfl rfl ?_
  exact L 20 1 (by omega) (by omega) (by omega)
/-- the last of the posts 1 to n that is no farther along -/
def laS (ro : Rd) (far : Int) : Nat → Int
  | 0 => 0
  | n + 1 => if lnS ro (n + 1) ≤ far then (n : Int) + 1 else laS ro far n
theorem laS_s {ro : Rd} {far i : Int} (h : 1 ≤ i) : laS ro far i.toNat = if lnS ro i.toNat ≤ far then i else laS ro far (i - 1).toNat := by
  rw [show i.toNat = (i - 1).toNat + 1 by omega]
  show (if _ then (((i - 1).toNat : Nat) : Int) + 1 else _) = _
  rw [show (((i - 1).toNat : Nat) : Int) + 1 = i by omega]
def msn (N : Int) (ro : Rd) (far : Int) : Int := if len N ro < far then -4 else laS ro far (N - 1).toNat
theorem k_postAhead (b : Nat) (sh : Shp) (M : Mem) (r : Nat) (hr : isRd sh r) (f : Rd) {B : Int} (hf : WFr f B) {N : Int} (hN : M r 0 = N) (hN2 : 5 ≤ N ∧ N ≤ 16) (far : Int) (hfar : 0 ≤ far ∧ far ≤ 100000) : Ex 1 mX4_postAhead b sh (putC M r f) [vr b r, vi far] (some (vi (msn N f far))) (putC M r f) := by
  have en : ∀ g, putC M r g r 0 = N := fun g => (pc_n (Or.inl rfl)).trans hN
  have L : ∀ (n : Nat) (i : Int), 1 ≤ i → i ≤ N → N - i < n → MW yX4_postAhead cX4_postAhead 5 (some .int) (rmD 1 0 0) (FM (EQ (some (vi (msn N f far))) (putC M r f)) b sh 0 0) b sh.length 0 0 7 [some (vr b r), some (vi far), some (vi (lnS f (i - 1).toNat)), some (vi (laS f far (i - 1).toNat)), some (vi i)] [] sh (putC M r f) := by
    intro n
    induction n with
    | zero => intro i h1 h2 h3; exact absurd h3 (by omega)
    | succ n ih =>
      intro i h1 h2 h3
      have g := lnS_in hf (i - 1).toNat (by omega)
      have ls := lnS_s (ro := f) h1
      have la := laS_s (ro := f) (far := far) h1
      refine R_iload (pc := 7) dX4_postAhead_7 rfl ?_
      refine R_aload_n (pc := 9) dX4_postAhead_9 rfl ?_
      refine R_getI (pc := 10) (J := 0) dX4_postAhead_10 fl_RX4_21 rfl rfl hr.1 (en _) ?_
      refine R_cmp_ge (pc := 13) (tgt := 42) dX4_postAhead_13 (by decide) (by omega) (fun h_13 => ?_) (fun h_13 => ?_)
      · have e1 : i = N := by omega
        subst e1
        refine R_iload_n (pc := 42) dX4_postAhead_42 rfl ?_
        refine R_iload_n (pc := 43) dX4_postAhead_43 rfl ?_
        refine R_cmp_ge (pc := 44) (tgt := 52) dX4_postAhead_44 (by decide) (by omega) (fun h_44 => ?_) (fun h_44 => ?_)
        · refine R_iload_n (pc := 52) dX4_postAhead_52 rfl ?_
          refine R_iret (pc := 53) dX4_postAhead_53 ?_
          exact eqi (by unfold msn len; omega) rfl
        · refine R_bipush (pc := 47) dX4_postAhead_47 rfl ?_
          refine R_goto (pc := 49) (tgt := 53) dX4_postAhead_49 (by decide) ?_
          refine R_iret (pc := 53) dX4_postAhead_53 ?_
          exact eqi (by unfold msn len; omega) rfl
      · have g' := lnS_in hf i.toNat (by omega)
        refine R_iload_n (pc := 16) dX4_postAhead_16 rfl ?_
        refine R_bipush (pc := 17) dX4_postAhead_17 rfl ?_
        refine R_aload_n (pc := 19) dX4_postAhead_19 rfl ?_
        refine R_iload (pc := 20) dX4_postAhead_20 rfl ?_
        refine R_V1i (pc := 22) dX4_postAhead_22 sv_RX4_112 hr.1 (k_gap b sh M r hr f hf i (by omega)) (Nat.le_of_ble_eq_true rfl) (by decide) ?_
        refine R_iadd (pc := 25) dX4_postAhead_25 ?_
        refine R_iadd (pc := 26) dX4_postAhead_26 ?_
        refine R_istore_n (pc := 27) dX4_postAhead_27 (by decide) rfl rfl ?_
        refine R_iload_n (pc := 28) dX4_postAhead_28 rfl ?_
        refine R_iload_n (pc := 29) dX4_postAhead_29 rfl ?_
        refine R_cmp_gt (pc := 30) (tgt := 36) dX4_postAhead_30 (by decide) (by omega) (fun h_30 => ?_) (fun h_30 => ?_)
        · refine R_iinc dX4_postAhead_36 rfl (by decide) rfl rfl ?_
          refine R_goto (tgt := 7) dX4_postAhead_39 (by decide) ?_
          have hx := ih (i + 1) (by omega) (by omega) (by omega)
          rw [show i + 1 - 1 = i by omega, la, ls] at hx
          first
            | (rw [if_neg (by omega)] at hx; exact hx)
            | (rw [if_pos (by omega)] at hx; exact hx)
        · refine R_iload (pc := 33) dX4_postAhead_33 rfl ?_
          refine R_istore_n (pc := 35) dX4_postAhead_35 (by decide) rfl rfl ?_
          refine R_iinc dX4_postAhead_36 rfl (by decide) rfl rfl ?_
          refine R_goto (tgt := 7) dX4_postAhead_39 (by decide) ?_
          have hx := ih (i + 1) (by omega) (by omega) (by omega)
          rw [show i + 1 - 1 = i by omega, la, ls] at hx
          first
            | (rw [if_neg (by omega)] at hx; exact hx)
            | (rw [if_pos (by omega)] at hx; exact hx)
  refine MC_of (ls := [some (vr b r), some (vi far), none, none, none]) (by decide) rfl (Nat.le_of_ble_eq_true rfl) ?_
  refine R_iconst (pc := 0) dX4_postAhead_0 ?_
  refine R_istore_n (pc := 1) dX4_postAhead_1 (by decide) rfl rfl ?_
  refine R_iconst (pc := 2) dX4_postAhead_2 ?_
  refine R_istore_n (pc := 3) dX4_postAhead_3 (by decide) rfl rfl ?_
  refine R_iconst (pc := 4) dX4_postAhead_4 ?_
  refine R_istore (pc := 5) dX4_postAhead_5 (by decide) rfl rfl ?_
  exact L 20 1 (by omega) (by omega) (by omega)
def ymix (y g : Rd) : Rd := fun j => if 0 ≤ j ∧ j < 16 then y j else g j
theorem acp {M N : Mem} {r c : Nat} (h : ∀ k j, ¬ (k = r + 1 ∧ 0 ≤ j ∧ j < 16) → N k j = M k j ∨ (k = r ∧ j = 0)) (hc : ∀ j, N c j = M c j) : (fun k j => if k = r + 1 ∧ 0 ≤ j ∧ j < 0 + 16 then N c (0 + (j - 0)) else N k j) = putC N r (ymix (M c) (roC M r)) := by
  funext k j
  unfold putC ymix
  by_cases h1 : k = r + 1 ∧ 0 ≤ j ∧ j < 0 + 16
  · rw [if_pos h1, if_pos (by omega), if_pos (by omega), show (0 : Int) + (j - 0) = j by omega, hc]
  · rw [if_neg h1, if_neg (by omega)]
    have h2 := h k j (by omega)
    split
    · rename_i h3; obtain ⟨rfl, rfl⟩ := h3
      rw [h2.resolve_right (by omega)]; simp [roC]
    · split
      · rename_i h3; obtain ⟨rfl, rfl⟩ := h3
        rw [h2.resolve_right (by omega)]; simp [roC]
      · split
        · rename_i h3; obtain ⟨rfl, rfl⟩ := h3
          rw [h2.resolve_right (by omega)]; simp [roC]
        · rfl
theorem k_copyFrom (b : Nat) (sh : Shp) (M : Mem) (r o : Nat) (hr : isRd sh r) (ho : isRd sh o) (hne : r + 1 < o ∨ o + 1 < r) (hM : ∀ k j, inR (M k j)) (hw : M o 4 = 0 ∨ M o 4 = 1) : Ex 1 mX4_copyFrom b sh M [vr b r, vr b o] none (putC (up M r 0 (M o 0)) r (roC M o)) := by
  have h4 := hM o 0
  have h5 := hM o 2
  have h6 := hM o 3
  have eo : ∀ g k j, k ≠ r → k ≠ r + 1 → putC (up M r 0 (M o 0)) r g k j = M k j := fun g k j h1 h2 => by rw [pc_o h1 h2, up_k h1]
  refine MC_of (ls := [some (vr b r), some (vr b o)]) (by decide) rfl (Nat.le_of_ble_eq_true rfl) ?_
  refine R_aload_n (pc := 0) dX4_copyFrom_0 rfl ?_
  refine R_aload_n (pc := 1) dX4_copyFrom_1 rfl ?_
  refine R_getI (pc := 2) (J := 0) dX4_copyFrom_2 fl_RX4_21 rfl rfl ho.1 (rfl) ?_
  refine R_putI (pc := 5) (J := 0) rfl dX4_copyFrom_5 fl_RX4_21 rfl (fun r h => by cases h; rfl) hr.1 (by omega) ?_
  refine R_aload_n (pc := 8) dX4_copyFrom_8 rfl ?_
  refine R_getR (pc := 9) dX4_copyFrom_9 fl_RX4_9 rfl ho.1 rfl ?_
  refine R_iconst (pc := 12) dX4_copyFrom_12 ?_
  refine R_aload_n (pc := 13) dX4_copyFrom_13 rfl ?_
  refine R_getR (pc := 14) dX4_copyFrom_14 fl_RX4_9 rfl hr.1 rfl ?_
  refine R_iconst (pc := 17) dX4_copyFrom_17 ?_
  refine R_bipush (pc := 18) dX4_copyFrom_18 rfl ?_
  refine R_acopy (pc := 20) dX4_copyFrom_20 al_RX4_25 nat_acopy sm_acopy iz_sys ho.2.1 hr.2.1 (by omega) (Nat.le_of_ble_eq_true rfl) (by decide) rfl ?_
  rw [acp (M := M) (fun k j hk => by by_cases h0 : k = r ∧ j = 0
                                     · exact Or.inr h0
                                     · exact Or.inl (by unfold up; rw [if_neg h0])) (fun j => up_k (by omega))]
  refine R_aload_n (pc := 23) dX4_copyFrom_23 rfl ?_
  refine R_aload_n (pc := 24) dX4_copyFrom_24 rfl ?_
  refine R_getI (pc := 25) (J := 2) dX4_copyFrom_25 fl_RX4_31 rfl rfl ho.1 (eo _ _ _ (by omega) (by omega)) ?_
  refine R_putI (pc := 28) (J := 2) rfl dX4_copyFrom_28 fl_RX4_31 rfl (fun r h => by cases h; rfl) hr.1 (by omega) ?_
  rw [pcu_d]
  refine R_aload_n (pc := 31) dX4_copyFrom_31 rfl ?_
  refine R_aload_n (pc := 32) dX4_copyFrom_32 rfl ?_
  refine R_getI (pc := 33) (J := 3) dX4_copyFrom_33 fl_RX4_34 rfl rfl ho.1 (eo _ _ _ (by omega) (by omega)) ?_
  refine R_putI (pc := 36) (J := 3) rfl dX4_copyFrom_36 fl_RX4_34 rfl (fun r h => by cases h; rfl) hr.1 (by omega) ?_
  rw [pcu_s]
  refine R_aload_n (pc := 39) dX4_copyFrom_39 rfl ?_
  refine R_aload_n (pc := 40) dX4_copyFrom_40 rfl ?_
  refine R_getI (pc := 41) (J := 4) dX4_copyFrom_41 fl_RX4_37 rfl rfl ho.1 (eo _ _ _ (by omega) (by omega)) ?_
  refine R_putZ (pc := 44) (J := 4) rfl dX4_copyFrom_44 fl_RX4_37 rfl (fun r h => by cases h; rfl) hr.1 (by omega) ?_
  rw [pcu_w]
  refine R_vret (pc := 47) dX4_copyFrom_47 ?_
  refine eqv ?_
  congr 1
  funext j
  simp only [uF, ymix, roC]
  repeat' split
  all_goals first | rfl | omega
def strt (mo : Mo) : Rd := fun j => if 0 ≤ j ∧ j < 16 then mo 1 j else 0
theorem k_startOn (b : Nat) (sh : Shp) (M : Mem) (r : Nat) (hsh : Hc sh) (hr : isRd sh r) (hM : ∀ k j, inR (M k j)) : Ex 1 mX4_startOn b sh M [vr b r, vr b 5] none (putC (up M r 0 (M 5 0)) r (strt (moC M 5))) := by
  have h4 := hM 5 0
  have hr3 := hr.2.2
  refine MC_of (ls := [some (vr b r), some (vr b 5)]) (by decide) rfl (Nat.le_of_ble_eq_true rfl) ?_
  refine R_aload_n (pc := 0) dX4_startOn_0 rfl ?_
  refine R_aload_n (pc := 1) dX4_startOn_1 rfl ?_
  refine R_getI (pc := 2) (J := 0) dX4_startOn_2 fl_RX4_15 rfl rfl (hsh _ _ rfl) (rfl) ?_
  refine R_putI (pc := 5) (J := 0) rfl dX4_startOn_5 fl_RX4_21 rfl (fun r h => by cases h; rfl) hr.1 (by omega) ?_
  refine R_aload_n (pc := 8) dX4_startOn_8 rfl ?_
  refine R_getR (pc := 9) dX4_startOn_9 fl_RX4_22 rfl (hsh _ _ rfl) rfl ?_
  refine R_iconst (pc := 12) dX4_startOn_12 ?_
  refine R_aload_n (pc := 13) dX4_startOn_13 rfl ?_
  refine R_getR (pc := 14) dX4_startOn_14 fl_RX4_9 rfl hr.1 rfl ?_
  refine R_iconst (pc := 17) dX4_startOn_17 ?_
  refine R_bipush (pc := 18) dX4_startOn_18 rfl ?_
  refine R_acopy (pc := 20) dX4_startOn_20 al_RX4_25 nat_acopy sm_acopy iz_sys (hsh 6 _ rfl) hr.2.1 (by omega) (Nat.le_of_ble_eq_true rfl) (by decide) rfl ?_
  rw [acp (M := M) (fun k j hk => by by_cases h0 : k = r ∧ j = 0
                                     · exact Or.inr h0
                                     · exact Or.inl (by unfold up; rw [if_neg h0])) (fun j => up_k (by omega))]
  refine R_aload_n (pc := 23) dX4_startOn_23 rfl ?_
  refine R_iconst (pc := 24) dX4_startOn_24 ?_
  refine R_putI (pc := 25) (J := 2) rfl dX4_startOn_25 fl_RX4_31 rfl (fun r h => by cases h; rfl) hr.1 (by omega) ?_
  rw [pcu_d]
  refine R_aload_n (pc := 28) dX4_startOn_28 rfl ?_
  refine R_iconst (pc := 29) dX4_startOn_29 ?_
  refine R_putI (pc := 30) (J := 3) rfl dX4_startOn_30 fl_RX4_34 rfl (fun r h => by cases h; rfl) hr.1 (by omega) ?_
  rw [pcu_s]
  refine R_aload_n (pc := 33) dX4_startOn_33 rfl ?_
  refine R_iconst (pc := 34) dX4_startOn_34 ?_
  refine R_putZ (pc := 35) (J := 4) rfl dX4_startOn_35 fl_RX4_37 rfl (fun r h => by cases h; rfl) hr.1 (by omega) ?_
  rw [pcu_w]
  refine R_vret (pc := 38) dX4_startOn_38 ?_
  refine eqv ?_
  congr 1
  funext j
  simp only [uF, ymix, strt]
  by_cases hj : 0 ≤ j ∧ j < 16
  · rw [if_neg (by omega), if_neg (by omega), if_neg (by omega), if_pos hj, if_pos hj, moC_f hj]
  · rw [if_neg hj, if_neg hj]
    simp only [roC]
    repeat' split
    all_goals first | rfl | omega
