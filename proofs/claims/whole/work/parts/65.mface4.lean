/-! the reference's face, fourth part: fog, parishes, year -/
theorem j_fog (b : Nat) (sh : Shp) (M : Mem) {B : Int} (hsh : Hm sh) (hI : IS (absM M) B) (hB : B ≤ 90000) : C0 5 mX8_fog b sh M [vr b 72] (QM M (absM M) (a_fog (absM M))) := by
  have hm : WFm (moM M) := hI.1
  have hr : WFr (roM M 0) B := hI.2.2.1
  have hs : 0 ≤ M 72 13 ∧ M 72 13 ≤ 6 := hI.2.2.2.2.2.2.1
  have ef : ∀ d, fitF (absM M) d = ffS (moM M) (roM M 0) (msk (M 72 13) (M 80)) (msk (M 72 13) (M 81)) (msk (M 72 13) (M 82)) (M 72 13).toNat d 10 := fun d => rfl
  have LO : ∀ (n k : Nat) (d : Int) (N : Mem), d = k → k ≤ 10 → 10 - k < n → FrM M N → MW yX8_fog cX8_fog 6 (some .int) (rmD 5 0 0) (FM (QM M (absM M) (a_fog (absM M))) b sh 0 0) b sh.length 0 0 4 [some (vr b 72), some (vi (bts (fitF (absM M)) k)), some (vi d), none, none, none] [] sh (N) := by
    intro n
    induction n with
    | zero => intro k d N h0 h1 h2; exact absurd h2 (by omega)
    | succ n ihO =>
      intro k d N h0 h1 h2 hF
      obtain ⟨k1, k2, k3, k4⟩ := frm_k hI hF
      have hbt := bts_in (P := fitF (absM M)) k (by omega)
      by_cases hk : k < 10
      · have hst : bts (fitF (absM M)) (k + 1) = if fitF (absM M) k = 1 then (((bts (fitF (absM M)) k).toNat ||| ((2 : Int) ^ k).toNat : Nat) : Int) else bts (fitF (absM M)) k := rfl
        rw [← h0] at hst
        have hp := pow_le10 (v := d) (by omega)
        have h01d : fitF (absM M) d = 0 ∨ fitF (absM M) d = 1 := ff01 _
        have hcp := j_copy b sh N hsh 0 209 (by omega) (by omega) (by omega)
        rw [k4] at hcp
        have LT : ∀ (m u : Nat) (t : Int), t = u + 1 → u ≤ 10 → 10 - u < m → MW yX8_fog cX8_fog 6 (some .int) (rmD 5 0 0) (FM (QM M (absM M) (a_fog (absM M))) b sh 0 0) b sh.length 0 0 23 [some (vr b 72), some (vi (bts (fitF (absM M)) k)), some (vi d), some (vi (ffS (moM M) (roM M 0) (msk (M 72 13) (M 80)) (msk (M 72 13) (M 81)) (msk (M 72 13) (M 82)) (M 72 13).toNat d u)), some (vi t), none] [] sh (putM N 209 (ffR (moM M) (roM M 0) d u)) := by
          intro m
          induction m with
          | zero => intro u t g0 g1 g2; exact absurd g2 (by omega)
          | succ m ihT =>
            intro u t g0 g1 g2
            have hwu := ffR_in (d := d) hm hr u (by omega)
            have hf01 := ff01 (mo := moM M) (ro := roM M 0) (cp := msk (M 72 13) (M 80)) (ct := msk (M 72 13) (M 81)) (cy := msk (M 72 13) (M 82)) (n := (M 72 13).toNat) (d := d) u
            by_cases hu : u < 10
            · have hwu1 := ffR_in (d := d) hm hr (u + 1) (by omega)
              have hday : ∀ fog : Int, fog = (if (u : Int) = d then 1 else 0) → Ex 3 mX8_passes b sh (putM N 209 (ffR (moM M) (roM M 0) d u)) [vr b 72, vi 209, vi fog] none (putM N 209 (ffR (moM M) (roM M 0) d (u + 1))) := fun fog hf => by
                have := j_passes b sh N hsh 209 (by omega) (by rw [k3]; exact hm) (ffR (moM M) (roM M 0) d u) hwu fog (by rw [hf]; split <;> omega)
                rw [k3, hf] at this
                rw [hf]
                exact this
              generalize hP : putM N 209 (ffR (moM M) (roM M 0) d (u + 1)) = P at hday
              have hFP : FrM M P := by rw [← hP]; exact FrM_pm hF (by omega)
              have eP : ∀ q j, ¬ SM q j → P q j = M q j := hFP
              have e13 : P 72 13 = M 72 13 := eP _ _ (by unfold SM; omega)
              have hfs : ffS (moM M) (roM M 0) (msk (M 72 13) (M 80)) (msk (M 72 13) (M 81)) (msk (M 72 13) (M 82)) (M 72 13).toNat d (u + 1) = if ffS (moM M) (roM M 0) (msk (M 72 13) (M 80)) (msk (M 72 13) (M 81)) (msk (M 72 13) (M 82)) (M 72 13).toNat d u = 1 ∧ hld (msk (M 72 13) (M 80)) (msk (M 72 13) (M 81)) (msk (M 72 13) (M 82)) (ffR (moM M) (roM M 0) d (u + 1)) ((u : Int) + 1) (M 72 13).toNat = 1 then 1 else 0 := rfl
              rw [← g0] at hfs
              have LI : ∀ (n2 : Nat) (q z : Int), 0 ≤ q → q ≤ M 72 13 → M 72 13 - q < n2 → z = (if ffS (moM M) (roM M 0) (msk (M 72 13) (M 80)) (msk (M 72 13) (M 81)) (msk (M 72 13) (M 82)) (M 72 13).toNat d u = 1 ∧ hld (msk (M 72 13) (M 80)) (msk (M 72 13) (M 81)) (msk (M 72 13) (M 82)) (ffR (moM M) (roM M 0) d (u + 1)) t q.toNat = 1 then 1 else 0) → MW yX8_fog cX8_fog 6 (some .int) (rmD 5 0 0) (FM (QM M (absM M) (a_fog (absM M))) b sh 0 0) b sh.length 0 0 53 [some (vr b 72), some (vi (bts (fitF (absM M)) k)), some (vi d), some (vi z), some (vi t), some (vi q)] [] sh (P) := by
                intro n2
                induction n2 with
                | zero => intro q z a1 a2 a3; exact absurd a3 (by omega)
                | succ n2 ihI =>
                  intro q z a1 a2 a3 hz
                  by_cases hql : q < M 72 13
                  · have hs1 := hld_s (cp := msk (M 72 13) (M 80)) (ct := msk (M 72 13) (M 81)) (cy := msk (M 72 13) (M 82)) (f := ffR (moM M) (roM M 0) d (u + 1)) (time := t) a1
                    rw [msk_i ⟨a1, hql⟩, msk_i ⟨a1, hql⟩, msk_i ⟨a1, hql⟩] at hs1
                    have hpo : 0 ≤ M 80 q ∧ M 80 q ≤ 15 := by
                      have := hI.2.2.2.2.2.2.2 q a1 hql
                      have e : (absM M).2.2.2.2.2.2.2.2.1 q = M 80 q := msk_i ⟨a1, hql⟩
                      rw [e] at this
                      exact this
                    have hh01 := hld01 (cp := msk (M 72 13) (M 80)) (ct := msk (M 72 13) (M 81)) (cy := msk (M 72 13) (M 82)) (f := ffR (moM M) (roM M 0) d (u + 1)) (time := t) q.toNat
                    have hfv := hwu1.1 (M 80 q) (by omega) (by omega)
                    have hnx : ∀ z', z' = (if z = 1 ∧ (M 81 q = t → ffR (moM M) (roM M 0) d (u + 1) (M 80 q) = M 82 q) then 1 else 0) → MW yX8_fog cX8_fog 6 (some .int) (rmD 5 0 0) (FM (QM M (absM M) (a_fog (absM M))) b sh 0 0) b sh.length 0 0 110 [some (vr b 72), some (vi (bts (fitF (absM M)) k)), some (vi d), some (vi z'), some (vi t), some (vi q)] [] sh (P) := by
                      intro z' hz'
                      refine R_iinc (pc := 110) dX8_fog_110 rfl (by decide) rfl rfl ?_
                      refine R_goto (pc := 113) (tgt := 53) dX8_fog_113 (by decide) ?_
                      refine ihI (q + 1) z' (by omega) (by omega) (by omega) ?_
                      rw [hz', hs1, hz]
                      by_cases p1 : ffS (moM M) (roM M 0) (msk (M 72 13) (M 80)) (msk (M 72 13) (M 81)) (msk (M 72 13) (M 82)) (M 72 13).toNat d u = 1
                      · by_cases p2 : hld (msk (M 72 13) (M 80)) (msk (M 72 13) (M 81)) (msk (M 72 13) (M 82)) (ffR (moM M) (roM M 0) d (u + 1)) t q.toNat = 1
                        · by_cases p3 : M 81 q = t → ffR (moM M) (roM M 0) d (u + 1) (M 80 q) = M 82 q
                          · simp [p1, p2, p3]
                          · simp [p1, p2, p3]
                        · simp [p1, p2]
                      · simp [p1]
                    have hz01 : z = 0 ∨ z = 1 := by rw [hz]; split <;> omega
                    refine R_rng fun hPr => ?_
                    have hyv := hPr 82 q
                    rw [eP 82 q (by unfold SM; omega)] at hyv
                    have hdv := hPr 81 q
                    rw [eP 81 q (by unfold SM; omega)] at hdv
                    refine R_iload (pc := 53) dX8_fog_53 rfl ?_
                    refine R_aload_n (pc := 55) dX8_fog_55 rfl ?_
                    refine R_getI (pc := 56) (J := 13) dX8_fog_56 fl_RX8_83 rfl rfl (hsh _ _ rfl) (e13) ?_
                    refine R_cmp_ge (pc := 59) (tgt := 116) dX8_fog_59 (by decide) (by omega) (fun h_59 => ?_) (fun h_59 => ?_)
                    · exact absurd h_59 (by omega)
                    · refine R_iload_n (pc := 62) dX8_fog_62 rfl ?_
                      refine R_if_eq (pc := 63) (tgt := 108) dX8_fog_63 (by decide) (by omega) (fun h_63 => ?_) (fun h_63 => ?_)
                      · refine R_iconst (pc := 108) dX8_fog_108 ?_
                        refine R_istore_n (pc := 109) dX8_fog_109 (by decide) rfl rfl ?_
                        exact hnx _ (by omega)
                      · refine R_aload_n (pc := 66) dX8_fog_66 rfl ?_
                        refine R_getR (pc := 67) dX8_fog_67 fl_RX8_34 rfl (hsh _ _ rfl) rfl ?_
                        refine R_iload (pc := 70) dX8_fog_70 rfl ?_
                        refine R_iald (pc := 72) dX8_fog_72 (hsh _ _ rfl) (by omega) (eP 81 q (by unfold SM; omega)) ?_
                        refine R_iload (pc := 73) dX8_fog_73 rfl ?_
                        refine R_cmp_ne (pc := 75) (tgt := 104) dX8_fog_75 (by decide) (by omega) (fun h_75 => ?_) (fun h_75 => ?_)
                        · refine R_iconst (pc := 104) dX8_fog_104 ?_
                          refine R_goto (pc := 105) (tgt := 109) dX8_fog_105 (by decide) ?_
                          refine R_istore_n (pc := 109) dX8_fog_109 (by decide) rfl rfl ?_
                          exact hnx _ (by omega)
                        · refine R_aload_n (pc := 78) dX8_fog_78 rfl ?_
                          refine R_getR (pc := 79) dX8_fog_79 fl_RX8_13 rfl (hsh _ _ rfl) rfl ?_
                          refine R_sipush (pc := 82) dX8_fog_82 rfl ?_
                          refine R_aload_n (pc := 85) dX8_fog_85 rfl ?_
                          refine R_getR (pc := 86) dX8_fog_86 fl_RX8_31 rfl (hsh _ _ rfl) rfl ?_
                          refine R_iload (pc := 89) dX8_fog_89 rfl ?_
                          refine R_iald (pc := 91) dX8_fog_91 (hsh _ _ rfl) (by omega) (eP 80 q (by unfold SM; omega)) ?_
                          refine R_iadd (pc := 92) dX8_fog_92 ?_
                          refine R_iald (pc := 93) dX8_fog_93 (hsh _ _ rfl) (by omega) ((show P 74 (209 + M 80 q) = ffR (moM M) (roM M 0) d (u + 1) (M 80 q) by rw [← hP]; exact pm_i (by omega))) ?_
                          refine R_aload_n (pc := 94) dX8_fog_94 rfl ?_
                          refine R_getR (pc := 95) dX8_fog_95 fl_RX8_37 rfl (hsh _ _ rfl) rfl ?_
                          refine R_iload (pc := 98) dX8_fog_98 rfl ?_
                          refine R_iald (pc := 100) dX8_fog_100 (hsh _ _ rfl) (by omega) (eP 82 q (by unfold SM; omega)) ?_
                          refine R_cmp_ne (pc := 101) (tgt := 108) dX8_fog_101 (by decide) (by omega) (fun h_101 => ?_) (fun h_101 => ?_)
                          · refine R_iconst (pc := 108) dX8_fog_108 ?_
                            refine R_istore_n (pc := 109) dX8_fog_109 (by decide) rfl rfl ?_
                            exact hnx _ (by omega)
                          · refine R_iconst (pc := 104) dX8_fog_104 ?_
                            refine R_goto (pc := 105) (tgt := 109) dX8_fog_105 (by decide) ?_
                            refine R_istore_n (pc := 109) dX8_fog_109 (by decide) rfl rfl ?_
                            exact hnx _ (by omega)
                  · have eq : q = M 72 13 := by omega
                    subst eq
                    rw [← hfs] at hz
                    subst hz
                    refine R_iload (pc := 53) dX8_fog_53 rfl ?_
                    refine R_aload_n (pc := 55) dX8_fog_55 rfl ?_
                    refine R_getI (pc := 56) (J := 13) dX8_fog_56 fl_RX8_83 rfl rfl (hsh _ _ rfl) (e13) ?_
                    refine R_cmp_ge (pc := 59) (tgt := 116) dX8_fog_59 (by decide) (by omega) (fun h_59 => ?_) (fun h_59 => ?_)
                    · refine R_iinc (pc := 116) dX8_fog_116 rfl (by decide) rfl rfl ?_
                      refine R_goto (pc := 119) (tgt := 23) dX8_fog_119 (by decide) ?_
                      refine R_drop 5 rfl ?_
                      have hx := ihT (u + 1) (t + 1) (by omega) (by omega) (by omega)
                      rw [hP] at hx
                      exact hx
                    · exact absurd h_59 (by omega)
              refine R_iload (pc := 23) dX8_fog_23 rfl ?_
              refine R_bipush (pc := 25) dX8_fog_25 rfl ?_
              refine R_cmp_gt (pc := 27) (tgt := 122) dX8_fog_27 (by decide) (by omega) (fun h_27 => ?_) (fun h_27 => ?_)
              · exact absurd h_27 (by omega)
              · refine R_aload_n (pc := 30) dX8_fog_30 rfl ?_
                refine R_sipush (pc := 31) dX8_fog_31 rfl ?_
                refine R_iload (pc := 34) dX8_fog_34 rfl ?_
                refine R_iload_n (pc := 36) dX8_fog_36 rfl ?_
                refine R_iconst (pc := 37) dX8_fog_37 ?_
                refine R_iadd (pc := 38) dX8_fog_38 ?_
                refine R_cmp_ne (pc := 39) (tgt := 46) dX8_fog_39 (by decide) (by omega) (fun h_39 => ?_) (fun h_39 => ?_)
                · refine R_iconst (pc := 46) dX8_fog_46 ?_
                  refine R_V2v (pc := 47) dX8_fog_47 sv_RX8_170 (hsh _ _ rfl) (hday _ (by first | rw [if_pos (by omega)] | rw [if_neg (by omega)])) (Nat.le_of_ble_eq_true rfl) (by decide) ?_
                  refine R_iconst (pc := 50) dX8_fog_50 ?_
                  refine R_istore (pc := 51) dX8_fog_51 (by decide) rfl rfl ?_
                  exact LI 20 0 _ (by omega) (by omega) (by omega) (by rcases hf01 with e | e <;> rw [e] <;> rfl)
                · refine R_iconst (pc := 42) dX8_fog_42 ?_
                  refine R_goto (pc := 43) (tgt := 47) dX8_fog_43 (by decide) ?_
                  refine R_V2v (pc := 47) dX8_fog_47 sv_RX8_170 (hsh _ _ rfl) (hday _ (by first | rw [if_pos (by omega)] | rw [if_neg (by omega)])) (Nat.le_of_ble_eq_true rfl) (by decide) ?_
                  refine R_iconst (pc := 50) dX8_fog_50 ?_
                  refine R_istore (pc := 51) dX8_fog_51 (by decide) rfl rfl ?_
                  exact LI 20 0 _ (by omega) (by omega) (by omega) (by rcases hf01 with e | e <;> rw [e] <;> rfl)
            · have eu : u = 10 := by omega
              subst eu
              rw [← ef]
              have hnext : ∀ (l : Int), l = bts (fitF (absM M)) (k + 1) → MW yX8_fog cX8_fog 6 (some .int) (rmD 5 0 0) (FM (QM M (absM M) (a_fog (absM M))) b sh 0 0) b sh.length 0 0 136 [some (vr b 72), some (vi l), some (vi d), none, none, none] [] sh (putM N 209 (ffR (moM M) (roM M 0) d 10)) := by
                intro l he
                refine R_iinc (pc := 136) dX8_fog_136 rfl (by decide) rfl rfl ?_
                refine R_goto (pc := 139) (tgt := 4) dX8_fog_139 (by decide) ?_
                have hx := ihO (k + 1) (d + 1) (putM N 209 (ffR (moM M) (roM M 0) d 10)) (by omega) (by omega) (by omega) (FrM_pm hF (by omega))
                rw [← he] at hx
                exact hx
              refine R_iload (pc := 23) dX8_fog_23 rfl ?_
              refine R_bipush (pc := 25) dX8_fog_25 rfl ?_
              refine R_cmp_gt (pc := 27) (tgt := 122) dX8_fog_27 (by decide) (by omega) (fun h_27 => ?_) (fun h_27 => ?_)
              · refine R_iload_n (pc := 122) dX8_fog_122 rfl ?_
                refine R_iload_n (pc := 123) dX8_fog_123 rfl ?_
                refine R_if_eq (pc := 124) (tgt := 133) dX8_fog_124 (by decide) (by omega) (fun h_124 => ?_) (fun h_124 => ?_)
                · refine R_iconst (pc := 133) dX8_fog_133 ?_
                  refine R_ior (pc := 134) dX8_fog_134 (by omega) ?_
                  refine R_istore_n (pc := 135) dX8_fog_135 (by decide) rfl rfl ?_
                  refine R_drop 3 rfl ?_
                  refine R_drop 4 rfl ?_
                  first
                    | exact hnext _ (by rw [hst, if_pos (by omega), show d.toNat = k by omega])
                    | exact hnext _ (by rw [hst, if_neg (by omega)]; show (((bts (fitF (absM M)) k).toNat ||| 0 : Nat) : Int) = _; rw [Nat.or_zero]; omega)
                · refine R_iconst (pc := 127) dX8_fog_127 ?_
                  refine R_iload_n (pc := 128) dX8_fog_128 rfl ?_
                  refine R_ishl (pc := 129) dX8_fog_129 (by omega) ?_
                  refine R_goto (pc := 130) (tgt := 134) dX8_fog_130 (by decide) ?_
                  refine R_ior (pc := 134) dX8_fog_134 (by omega) ?_
                  refine R_istore_n (pc := 135) dX8_fog_135 (by decide) rfl rfl ?_
                  refine R_drop 3 rfl ?_
                  refine R_drop 4 rfl ?_
                  first
                    | exact hnext _ (by rw [hst, if_pos (by omega), show d.toNat = k by omega])
                    | exact hnext _ (by rw [hst, if_neg (by omega)]; show (((bts (fitF (absM M)) k).toNat ||| 0 : Nat) : Int) = _; rw [Nat.or_zero]; omega)
              · exact absurd h_27 (by omega)
        refine R_iload_n (pc := 4) dX8_fog_4 rfl ?_
        refine R_bipush (pc := 5) dX8_fog_5 rfl ?_
        refine R_cmp_ge (pc := 7) (tgt := 142) dX8_fog_7 (by decide) (by omega) (fun h_7 => ?_) (fun h_7 => ?_)
        · exact absurd h_7 (by omega)
        · refine R_iconst (pc := 10) dX8_fog_10 ?_
          refine R_istore_n (pc := 11) dX8_fog_11 (by decide) rfl rfl ?_
          refine R_aload_n (pc := 12) dX8_fog_12 rfl ?_
          refine R_iconst (pc := 13) dX8_fog_13 ?_
          refine R_sipush (pc := 14) dX8_fog_14 rfl ?_
          refine R_V2v (pc := 17) dX8_fog_17 sv_RX8_174 (hsh _ _ rfl) (hcp) (Nat.le_of_ble_eq_true rfl) (by decide) ?_
          refine R_iconst (pc := 20) dX8_fog_20 ?_
          refine R_istore (pc := 21) dX8_fog_21 (by decide) rfl rfl ?_
          exact LT 20 0 1 (by omega) (by omega) (by omega)
      · have ek : k = 10 := by omega
        subst ek
        refine R_iload_n (pc := 4) dX8_fog_4 rfl ?_
        refine R_bipush (pc := 5) dX8_fog_5 rfl ?_
        refine R_cmp_ge (pc := 7) (tgt := 142) dX8_fog_7 (by decide) (by omega) (fun h_7 => ?_) (fun h_7 => ?_)
        · refine R_iload_n (pc := 142) dX8_fog_142 rfl ?_
          refine R_iret (pc := 143) dX8_fog_143 ?_
          exact QM_ro hI hF rfl
        · exact absurd h_7 (by omega)
  refine MC_of (ls := [some (vr b 72), none, none, none, none, none]) (by decide) rfl (Nat.le_of_ble_eq_true rfl) ?_
  refine R_iconst (pc := 0) dX8_fog_0 ?_
  refine R_istore_n (pc := 1) dX8_fog_1 (by decide) rfl rfl ?_
  refine R_iconst (pc := 2) dX8_fog_2 ?_
  refine R_istore_n (pc := 3) dX8_fog_3 (by decide) rfl rfl ?_
  exact LO 20 0 0 M rfl (by omega) (by omega) FrM_r
