/-! the reference's face, third part: window, looked, fog -/
theorem frm_k {M N : Mem} {B : Int} (hI : IS (absM M) B) (hF : FrM M N) : absM N = absM M ∧ IS (absM N) B ∧ moM N = moM M ∧ roM N 0 = roM M 0 := by
  obtain ⟨h1, -⟩ := absM_fr hI hF
  exact ⟨h1, by rw [h1]; exact hI, congrArg (fun S : AS => S.2.2.1) h1, congrArg (fun S : AS => S.2.2.2.1) h1⟩
theorem j_walksMany (b : Nat) (sh : Shp) (M : Mem) (hsh : Hm sh) : Ex 0 mX8_walksMany b sh M [vr b 72] (some (vi (nAll (moM M)))) M := by
  refine MC_of (ls := [some (vr b 72)]) (by decide) rfl (Nat.le_of_ble_eq_true rfl) ?_
  refine R_aload_n (pc := 0) dX8_walksMany_0 rfl ?_
  refine R_getR (pc := 1) dX8_walksMany_1 fl_RX8_7 rfl (hsh _ _ rfl) rfl ?_
  refine R_iconst (pc := 4) dX8_walksMany_4 ?_
  refine R_iald (pc := 5) dX8_walksMany_5 (hsh _ _ rfl) (by omega) (mM_1) ?_
  refine R_aload_n (pc := 6) dX8_walksMany_6 rfl ?_
  refine R_getR (pc := 7) dX8_walksMany_7 fl_RX8_7 rfl (hsh _ _ rfl) rfl ?_
  refine R_iconst (pc := 10) dX8_walksMany_10 ?_
  refine R_iald (pc := 11) dX8_walksMany_11 (hsh _ _ rfl) (by omega) (mM_2) ?_
  refine R_imul (pc := 12) dX8_walksMany_12 ?_
  refine R_iret (pc := 13) dX8_walksMany_13 ?_
  exact eqi rfl rfl
theorem cd_in {mo : Mo} {c : Int} (hm : WFm mo) (h0 : 0 ≤ c) (h1 : c < nAll mo) : 0 < mo 0 2 ∧ (0 ≤ c / mo 0 2 ∧ c / mo 0 2 < mo 0 1) ∧ (0 ≤ c % mo 0 2 ∧ c % mo 0 2 < mo 0 2) := by
  have hT := hm.2.2.1
  have hT1 : 0 < mo 0 2 := by
    rcases (show mo 0 2 = 0 ∨ 0 < mo 0 2 by omega) with h | h
    · have : nAll mo = 0 := by show mo 0 1 * mo 0 2 = 0; rw [h, Int.mul_zero]
      omega
    · exact h
  exact ⟨hT1, ⟨Int.ediv_nonneg h0 (by omega), Int.ediv_lt_of_lt_mul hT1 h1⟩, Int.emod_nonneg _ (by omega), Int.emod_lt_of_pos _ hT1⟩
theorem j_tries (b : Nat) (sh : Shp) (M : Mem) (hsh : Hm sh) (hm : WFm (moM M)) (p q c : Int) (hp : 0 ≤ p ∧ p + 19 ≤ 304) (hq : 0 ≤ q ∧ q + 19 ≤ 304) (hpq : p + 18 < q ∨ q + 18 < p) {B : Int} (hf : WFr (roM M p) B) (hc : 0 ≤ c ∧ c < nAll (moM M)) : Ex 3 mX8_tries b sh M [vr b 72, vi p, vi q, vi c] none (putM M q (stp (moM M) (roM M p) c)) := by
  obtain ⟨hT, hw, ht⟩ := cd_in hm hc.1 hc.2
  have hA := nAll_in hm
  have e2 : putM M q (roM M p) 73 2 = moM M 0 2 := (pm_k (by omega)).trans mM_2
  have hT6 := hm.2.2.1
  refine MC_of (ls := [some (vr b 72), some (vi p), some (vi q), some (vi c)]) (by decide) rfl (Nat.le_of_ble_eq_true rfl) ?_
  refine R_aload_n (pc := 0) dX8_tries_0 rfl ?_
  refine R_iload_n (pc := 1) dX8_tries_1 rfl ?_
  refine R_iload_n (pc := 2) dX8_tries_2 rfl ?_
  refine R_V2v (pc := 3) dX8_tries_3 sv_RX8_174 (hsh _ _ rfl) (j_copy b sh M hsh p q hp hq hpq) (Nat.le_of_ble_eq_true rfl) (by decide) ?_
  refine R_aload_n (pc := 6) dX8_tries_6 rfl ?_
  refine R_iload_n (pc := 7) dX8_tries_7 rfl ?_
  refine R_iload_n (pc := 8) dX8_tries_8 rfl ?_
  refine R_aload_n (pc := 9) dX8_tries_9 rfl ?_
  refine R_getR (pc := 10) dX8_tries_10 fl_RX8_7 rfl (hsh _ _ rfl) rfl ?_
  refine R_iconst (pc := 13) dX8_tries_13 ?_
  refine R_iald (pc := 14) dX8_tries_14 (hsh _ _ rfl) (by omega) (e2) ?_
  refine R_idiv (pc := 15) dX8_tries_15 (by omega) ?_
  refine R_iload_n (pc := 16) dX8_tries_16 rfl ?_
  refine R_aload_n (pc := 17) dX8_tries_17 rfl ?_
  refine R_getR (pc := 18) dX8_tries_18 fl_RX8_7 rfl (hsh _ _ rfl) rfl ?_
  refine R_iconst (pc := 21) dX8_tries_21 ?_
  refine R_iald (pc := 22) dX8_tries_22 (hsh _ _ rfl) (by omega) (e2) ?_
  refine R_irem (pc := 23) dX8_tries_23 (by omega) ?_
  refine R_V3i (pc := 24) dX8_tries_24 sv_RX8_162 (hsh _ _ rfl) (j_bends b sh M hsh q hq hm (roM M p) hf (c / moM M 0 2) (c % moM M 0 2) hw ht) (Nat.le_of_ble_eq_true rfl) (by decide) ?_
  refine R_pop (pc := 27) dX8_tries_27 rfl ?_
  refine R_vret (pc := 28) dX8_tries_28 ?_
  exact eqv rfl
def orr (x t : Int) : Int := ((x.toNat ||| ((2 : Int) ^ t.toNat).toNat : Nat) : Int)
theorem orr_x {x t : Int} (hx : 0 ≤ x ∧ x < 64) (ht : 0 ≤ t ∧ t < 6) : (0 ≤ orr x t ∧ orr x t < 64) ∧ (sb x t = 0 → orr x t = xr x t) := by
  have h : ∀ (a : Fin 64) (c : Fin 6), (a.val ||| ((2 : Int) ^ c.val).toNat) < 64 ∧ (((a.val : Nat) : Int) / 2 ^ c.val % 2 = 0 → (a.val ||| ((2 : Int) ^ c.val).toNat) = (a.val ^^^ ((2 : Int) ^ c.val).toNat)) := by decide +kernel
  obtain ⟨h1, h2⟩ := h ⟨x.toNat, by omega⟩ ⟨t.toNat, by omega⟩
  simp only at h1 h2
  refine ⟨by unfold orr; omega, fun hs => ?_⟩
  unfold orr xr
  rw [h2 (by rw [Int.toNat_of_nonneg hx.1]; exact hs)]
theorem j_window (b : Nat) (sh : Shp) (M : Mem) {B : Int} (hsh : Hm sh) (hI : IS (absM M) B) (hB : B ≤ 90000) (n what : Int) (hn0 : inR n) (hj : inR what) : C0 6 mX8_window b sh M [vr b 72, vi n, vi what] (QM M (absM M) (a_window (absM M) n what)) := by
  have hn : 5 ≤ moM M 0 0 ∧ moM M 0 0 ≤ 16 := hI.1.1
  have ht : 0 ≤ moM M 0 2 ∧ moM M 0 2 ≤ 6 := hI.1.2.2.1
  have hm : WFm (moM M) := hI.1
  have hr : WFr (roM M 0) B := hI.2.2.1
  have h17 := hr.2.2.1
  have ea : a_window (absM M) n what = if (1 ≤ n ∧ n ≤ 20) ∧ 0 ≤ what ∧ what ≤ 1 then (if what = 0 ∨ (wnS (moM M) (roM M 0) n.toNat (moM M 0 2).toNat).2 = -4 then (wnS (moM M) (roM M 0) n.toNat (moM M 0 2).toNat).2 else (wnS (moM M) (roM M 0) n.toNat (moM M 0 2).toNat).1) else -1 := rfl
  have L : (1 ≤ n ∧ n ≤ 20) ∧ 0 ≤ what ∧ what ≤ 1 → ∀ (m : Nat) (t : Int) (N : Mem), 0 ≤ t → t ≤ moM M 0 2 → moM M 0 2 - t < m → FrM M N → MW yX8_window cX8_window 7 (some .int) (rmD 6 0 0) (FM (QM M (absM M) (a_window (absM M) n what)) b sh 0 0) b sh.length 0 0 55 [some (vr b 72), some (vi n), some (vi what), some (vi (wnS (moM M) (roM M 0) n.toNat t.toNat).1), some (vi (wnS (moM M) (roM M 0) n.toNat t.toNat).2), some (vi t), none] [] sh (N) := by
    intro hargs m
    induction m with
    | zero => intro t N h1 h2 h3; exact absurd h3 (by omega)
    | succ m ih =>
      intro t N h1 h2 h3 hF
      obtain ⟨k1, k2, k3, k4⟩ := frm_k hI hF
      have hwn := wnS_in hm hr (n := n.toNat) (by omega) t.toNat (by omega)
      have hws := wnS_s (mo := moM M) (ro := roM M 0) (n := n.toNat) h1
      have h01 := sb01 (roM M 0 17) t
      have eT : N 73 2 = moM M 0 2 := by rw [← k3]; exact mM_2
      by_cases hlt : t < moM M 0 2
      · obtain ⟨o1, o2⟩ := orr_x h17 (t := t) (by omega)
        have hp := pow_le10 (v := t) (by omega)
        have hg := WFr_s hr o1
        have hcp := j_copy b sh N hsh 0 209 (by omega) (by omega) (by omega)
        rw [k4] at hcp
        have hpm := j_passesMany b sh N hsh 209 (by omega) (by rw [k3]; exact hm) _ hg n (by omega)
        rw [k3] at hpm
        have hdy := (days_in hm hg n.toNat (by omega)).1
        have hlen := j_lengthOf b sh N hsh 209 (by omega) (show moM N 0 0 = moM M 0 0 by rw [k3]) hn _ hdy
        have hl := len_in hdy hn
        have hF2 : FrM M (putM N 209 (days (moM M) (uF (roM M 0) 17 (orr (roM M 0 17) t)) n.toNat)) := FrM_pm hF (by omega)
        have hnext : ∀ (N' : Mem) (l c : Int), FrM M N' → (l, c) = wnS (moM M) (roM M 0) n.toNat (t + 1).toNat → MW yX8_window cX8_window 7 (some .int) (rmD 6 0 0) (FM (QM M (absM M) (a_window (absM M) n what)) b sh 0 0) b sh.length 0 0 161 [some (vr b 72), some (vi n), some (vi what), some (vi l), some (vi c), some (vi t), none] [] sh (N') := by
          intro N' l c hF' he
          refine R_iinc (pc := 161) dX8_window_161 rfl (by decide) rfl rfl ?_
          refine R_goto (pc := 164) (tgt := 55) dX8_window_164 (by decide) ?_
          have hx := ih (t + 1) N' (by omega) (by omega) (by omega) hF'
          rw [← he] at hx
          exact hx
        refine R_iload (pc := 55) dX8_window_55 rfl ?_
        refine R_aload_n (pc := 57) dX8_window_57 rfl ?_
        refine R_getR (pc := 58) dX8_window_58 fl_RX8_7 rfl (hsh _ _ rfl) rfl ?_
        refine R_iconst (pc := 61) dX8_window_61 ?_
        refine R_iald (pc := 62) dX8_window_62 (hsh _ _ rfl) (by omega) (eT) ?_
        refine R_cmp_ge (pc := 63) (tgt := 167) dX8_window_63 (by decide) (by omega) (fun h_63 => ?_) (fun h_63 => ?_)
        · exact absurd h_63 (by omega)
        · refine R_aload_n (pc := 66) dX8_window_66 rfl ?_
          refine R_iconst (pc := 67) dX8_window_67 ?_
          refine R_sipush (pc := 68) dX8_window_68 rfl ?_
          refine R_V2v (pc := 71) dX8_window_71 sv_RX8_174 (hsh _ _ rfl) (hcp) (Nat.le_of_ble_eq_true rfl) (by decide) ?_
          refine R_aload_n (pc := 74) dX8_window_74 rfl ?_
          refine R_getR (pc := 75) dX8_window_75 fl_RX8_13 rfl (hsh _ _ rfl) rfl ?_
          refine R_sipush (pc := 78) dX8_window_78 rfl ?_
          refine R_dup2 (pc := 81) dX8_window_81 rfl rfl ?_
          refine R_iald (pc := 82) dX8_window_82 (hsh _ _ rfl) (by omega) ((show putM N 209 (roM M 0) 74 226 = roM M 0 17 from pm_j (by omega) (by omega))) ?_
          refine R_iconst (pc := 83) dX8_window_83 ?_
          refine R_iload (pc := 84) dX8_window_84 rfl ?_
          refine R_ishl (pc := 86) dX8_window_86 (by omega) ?_
          refine R_ior (pc := 87) dX8_window_87 (by omega) ?_
          refine R_iast (pc := 88) dX8_window_88 (hsh _ _ rfl) (by unfold orr at o1; omega) (by unfold orr at o1; omega) ?_
          rw [pmu (i := 17) (by omega) (by omega)]
          refine R_aload_n (pc := 89) dX8_window_89 rfl ?_
          refine R_sipush (pc := 90) dX8_window_90 rfl ?_
          refine R_iload_n (pc := 93) dX8_window_93 rfl ?_
          refine R_V2v (pc := 94) dX8_window_94 sv_RX8_183 (hsh _ _ rfl) (hpm) (Nat.le_of_ble_eq_true rfl) (by decide) ?_
          refine R_aload_n (pc := 97) dX8_window_97 rfl ?_
          refine R_getR (pc := 98) dX8_window_98 fl_RX8_13 rfl (hsh _ _ rfl) rfl ?_
          refine R_bipush (pc := 101) dX8_window_101 rfl ?_
          refine R_iald (pc := 103) dX8_window_103 (hsh _ _ rfl) (by omega) ((show putM N 209 (days (moM M) (uF (roM M 0) 17 (orr (roM M 0 17) t)) n.toNat) 74 17 = roM M 0 17 by rw [pm_o (by omega), ← k4]; exact roM_j (by omega) (by omega))) ?_
          refine R_iload (pc := 104) dX8_window_104 rfl ?_
          refine R_S2i (pc := 106) dX8_window_106 ss_RX8_155 (j_has b sh _ _ _ h17 (by omega)) (Nat.le_of_ble_eq_true rfl) (by decide) ?_
          refine R_if_ne (pc := 109) (tgt := 127) dX8_window_109 (by decide) (by omega) (fun h_109 => ?_) (fun h_109 => ?_)
          · refine R_iconst (pc := 127) dX8_window_127 ?_
            refine R_istore (pc := 128) dX8_window_128 (by decide) rfl rfl ?_
            refine R_iload (pc := 130) dX8_window_130 rfl ?_
            refine R_if_eq (pc := 132) (tgt := 140) dX8_window_132 (by decide) (by omega) (fun _ => ?_) (fun h => absurd h (by decide))
            refine R_iload (pc := 140) dX8_window_140 rfl ?_
            refine R_istore (pc := 142) dX8_window_142 (by decide) rfl rfl ?_
            refine R_iload (pc := 144) dX8_window_144 rfl ?_
            refine R_if_eq (pc := 146) (tgt := 159) dX8_window_146 (by decide) (by omega) (fun _ => ?_) (fun h => absurd h (by decide))
            refine R_iload_n (pc := 159) dX8_window_159 rfl ?_
            refine R_istore_n (pc := 160) dX8_window_160 (by decide) rfl rfl ?_
            refine R_drop 6 rfl ?_
            first
              | exact hnext _ _ _ hF2 (by rw [hws, if_neg (by omega)])
              | exact hnext _ _ _ hF2 (by rw [hws, ← o2 (by omega), if_neg (by omega)])
              | exact hnext _ _ _ hF2 (by rw [hws, ← o2 (by omega), if_pos (by omega)])
          · refine R_aload_n (pc := 112) dX8_window_112 rfl ?_
            refine R_sipush (pc := 113) dX8_window_113 rfl ?_
            refine R_V1i (pc := 116) dX8_window_116 sv_RX8_189 (hsh _ _ rfl) (hlen) (Nat.le_of_ble_eq_true rfl) (by decide) ?_
            refine R_iload_n (pc := 119) dX8_window_119 rfl ?_
            refine R_cmp_ge (pc := 120) (tgt := 127) dX8_window_120 (by decide) (by omega) (fun h_120 => ?_) (fun h_120 => ?_)
            · refine R_iconst (pc := 127) dX8_window_127 ?_
              refine R_istore (pc := 128) dX8_window_128 (by decide) rfl rfl ?_
              refine R_iload (pc := 130) dX8_window_130 rfl ?_
              refine R_if_eq (pc := 132) (tgt := 140) dX8_window_132 (by decide) (by omega) (fun _ => ?_) (fun h => absurd h (by decide))
              refine R_iload (pc := 140) dX8_window_140 rfl ?_
              refine R_istore (pc := 142) dX8_window_142 (by decide) rfl rfl ?_
              refine R_iload (pc := 144) dX8_window_144 rfl ?_
              refine R_if_eq (pc := 146) (tgt := 159) dX8_window_146 (by decide) (by omega) (fun _ => ?_) (fun h => absurd h (by decide))
              refine R_iload_n (pc := 159) dX8_window_159 rfl ?_
              refine R_istore_n (pc := 160) dX8_window_160 (by decide) rfl rfl ?_
              refine R_drop 6 rfl ?_
              first
                | exact hnext _ _ _ hF2 (by rw [hws, if_neg (by omega)])
                | exact hnext _ _ _ hF2 (by rw [hws, ← o2 (by omega), if_neg (by omega)])
                | exact hnext _ _ _ hF2 (by rw [hws, ← o2 (by omega), if_pos (by omega)])
            · refine R_iconst (pc := 123) dX8_window_123 ?_
              refine R_goto (pc := 124) (tgt := 128) dX8_window_124 (by decide) ?_
              refine R_istore (pc := 128) dX8_window_128 (by decide) rfl rfl ?_
              refine R_iload (pc := 130) dX8_window_130 rfl ?_
              refine R_if_eq (pc := 132) (tgt := 140) dX8_window_132 (by decide) (by omega) (fun h => absurd h (by decide)) (fun _ => ?_)
              refine R_iload (pc := 135) dX8_window_135 rfl ?_
              refine R_goto (pc := 137) (tgt := 142) dX8_window_137 (by decide) ?_
              refine R_istore (pc := 142) dX8_window_142 (by decide) rfl rfl ?_
              refine R_iload (pc := 144) dX8_window_144 rfl ?_
              refine R_if_eq (pc := 146) (tgt := 159) dX8_window_146 (by decide) (by omega) (fun h => absurd h (by decide)) (fun _ => ?_)
              refine R_aload_n (pc := 149) dX8_window_149 rfl ?_
              refine R_sipush (pc := 150) dX8_window_150 rfl ?_
              refine R_V1i (pc := 153) dX8_window_153 sv_RX8_189 (hsh _ _ rfl) (hlen) (Nat.le_of_ble_eq_true rfl) (by decide) ?_
              refine R_goto (pc := 156) (tgt := 160) dX8_window_156 (by decide) ?_
              refine R_istore_n (pc := 160) dX8_window_160 (by decide) rfl rfl ?_
              refine R_drop 6 rfl ?_
              first
                | exact hnext _ _ _ hF2 (by rw [hws, if_neg (by omega)])
                | exact hnext _ _ _ hF2 (by rw [hws, ← o2 (by omega), if_neg (by omega)])
                | exact hnext _ _ _ hF2 (by rw [hws, ← o2 (by omega), if_pos (by omega)])
      · have e1 : t = moM M 0 2 := by omega
        subst e1
        refine R_iload (pc := 55) dX8_window_55 rfl ?_
        refine R_aload_n (pc := 57) dX8_window_57 rfl ?_
        refine R_getR (pc := 58) dX8_window_58 fl_RX8_7 rfl (hsh _ _ rfl) rfl ?_
        refine R_iconst (pc := 61) dX8_window_61 ?_
        refine R_iald (pc := 62) dX8_window_62 (hsh _ _ rfl) (by omega) (eT) ?_
        refine R_cmp_ge (pc := 63) (tgt := 167) dX8_window_63 (by decide) (by omega) (fun h_63 => ?_) (fun h_63 => ?_)
        · refine R_iload (pc := 167) dX8_window_167 rfl ?_
          refine R_bipush (pc := 169) dX8_window_169 rfl ?_
          refine R_cmp_eq (pc := 171) (tgt := 178) dX8_window_171 (by decide) (by omega) (fun h_171 => ?_) (fun h_171 => ?_)
          · refine R_iload (pc := 178) dX8_window_178 rfl ?_
            refine R_goto (pc := 180) (tgt := 184) dX8_window_180 (by decide) ?_
            refine R_iret (pc := 184) dX8_window_184 ?_
            exact QM_ro hI hF (by rw [ea]; omega)
          · refine R_iload_n (pc := 174) dX8_window_174 rfl ?_
            refine R_if_ne (pc := 175) (tgt := 183) dX8_window_175 (by decide) (by omega) (fun h_175 => ?_) (fun h_175 => ?_)
            · refine R_iload_n (pc := 183) dX8_window_183 rfl ?_
              refine R_iret (pc := 184) dX8_window_184 ?_
              exact QM_ro hI hF (by rw [ea]; omega)
            · refine R_iload (pc := 178) dX8_window_178 rfl ?_
              refine R_goto (pc := 180) (tgt := 184) dX8_window_180 (by decide) ?_
              refine R_iret (pc := 184) dX8_window_184 ?_
              exact QM_ro hI hF (by rw [ea]; omega)
        · exact absurd h_63 (by omega)
  refine MC_of (ls := [some (vr b 72), some (vi n), some (vi what), none, none, none, none]) (by decide) rfl (Nat.le_of_ble_eq_true rfl) ?_
  refine R_iload_n (pc := 0) dX8_window_0 rfl ?_
  refine R_i2l (pc := 1) dX8_window_1 (by omega) ?_
  refine R_lconst (pc := 2) dX8_window_2 (x := 1) rfl ?_
  refine R_ldc2 (pc := 3) (x := 20) dX8_window_3 kl_RX8_178 rfl ?_
  refine R_S3i (pc := 6) dX8_window_6 ss_RX8_69 (j_in b sh _ _ _ _ hn0 (by omega) (by omega)) (Nat.le_of_ble_eq_true rfl) (by decide) ?_
  refine R_if_eq (pc := 9) (tgt := 22) dX8_window_9 (by decide) (by omega) (fun h_9 => ?_) (fun h_9 => ?_)
  · refine R_iconst (pc := 22) dX8_window_22 ?_
    refine R_iret (pc := 23) dX8_window_23 ?_
    exact QM_ro hI FrM_r (by rw [ea]; omega)
  · refine R_iload_n (pc := 12) dX8_window_12 rfl ?_
    refine R_i2l (pc := 13) dX8_window_13 (by omega) ?_
    refine R_lconst (pc := 14) dX8_window_14 (x := 0) rfl ?_
    refine R_lconst (pc := 15) dX8_window_15 (x := 1) rfl ?_
    refine R_S3i (pc := 16) dX8_window_16 ss_RX8_69 (j_in b sh _ _ _ _ hj (by omega) (by omega)) (Nat.le_of_ble_eq_true rfl) (by decide) ?_
    refine R_if_ne (pc := 19) (tgt := 24) dX8_window_19 (by decide) (by omega) (fun h_19 => ?_) (fun h_19 => ?_)
    · refine R_aload_n (pc := 24) dX8_window_24 rfl ?_
      refine R_iconst (pc := 25) dX8_window_25 ?_
      refine R_sipush (pc := 26) dX8_window_26 rfl ?_
      refine R_V2v (pc := 29) dX8_window_29 sv_RX8_174 (hsh _ _ rfl) (j_copy b sh M hsh 0 209 (by omega) (by omega) (by omega)) (Nat.le_of_ble_eq_true rfl) (by decide) ?_
      refine R_aload_n (pc := 32) dX8_window_32 rfl ?_
      refine R_sipush (pc := 33) dX8_window_33 rfl ?_
      refine R_iload_n (pc := 36) dX8_window_36 rfl ?_
      refine R_V2v (pc := 37) dX8_window_37 sv_RX8_183 (hsh _ _ rfl) (j_passesMany b sh M hsh 209 (by omega) hm (roM M 0) hr n (by omega)) (Nat.le_of_ble_eq_true rfl) (by decide) ?_
      have hdy := (days_in hm hr n.toNat (by omega)).1
      refine R_aload_n (pc := 40) dX8_window_40 rfl ?_
      refine R_sipush (pc := 41) dX8_window_41 rfl ?_
      refine R_V1i (pc := 44) dX8_window_44 sv_RX8_189 (hsh _ _ rfl) (j_lengthOf b sh M hsh 209 (by omega) rfl hn _ hdy) (Nat.le_of_ble_eq_true rfl) (by decide) ?_
      refine R_istore_n (pc := 47) dX8_window_47 (by decide) rfl rfl ?_
      refine R_bipush (pc := 48) dX8_window_48 rfl ?_
      refine R_istore (pc := 50) dX8_window_50 (by decide) rfl rfl ?_
      refine R_iconst (pc := 52) dX8_window_52 ?_
      refine R_istore (pc := 53) dX8_window_53 (by decide) rfl rfl ?_
      exact L (by omega) 20 0 _ (by omega) (by omega) (by omega) (FrM_pm FrM_r (by omega))
    · refine R_iconst (pc := 22) dX8_window_22 ?_
      refine R_iret (pc := 23) dX8_window_23 ?_
      exact QM_ro hI FrM_r (by rw [ea]; omega)
theorem j_looked (b : Nat) (sh : Shp) (M : Mem) {B : Int} (hsh : Hm sh) (hI : IS (absM M) B) (what : Int) (hj : inR what) : C0 4 mX8_looked b sh M [vr b 72, vi what] (QM M (absM M) (a_looked (absM M) what)) := by
  have hm : WFm (moM M) := hI.1
  have hr : WFr (roM M 0) B := hI.2.2.1
  have hA := nAll_in hm
  have hs : 0 ≤ M 72 10 ∧ M 72 10 ≤ 6 := hI.2.2.2.2.2.1.1
  have hT6 := hm.2.2.1
  have ea : a_looked (absM M) what = if 0 ≤ what ∧ what ≤ 1 then (if what = 0 then (lkS (fitB (absM M)) (moM M 0 2) (nAll (moM M)).toNat).1 else (lkS (fitB (absM M)) (moM M 0 2) (nAll (moM M)).toNat).2) else -1 := rfl
  have LO : 0 ≤ what ∧ what ≤ 1 → ∀ (n : Nat) (c : Int) (N : Mem), 0 ≤ c → c ≤ nAll (moM M) → nAll (moM M) - c < n → FrM M N → MW yX8_looked cX8_looked 7 (some .int) (rmD 4 0 0) (FM (QM M (absM M) (a_looked (absM M) what)) b sh 0 0) b sh.length 0 0 20 [some (vr b 72), some (vi what), some (vi (lkS (fitB (absM M)) (moM M 0 2) c.toNat).1), some (vi (lkS (fitB (absM M)) (moM M 0 2) c.toNat).2), some (vi c), none, none] [] sh (N) := by
    intro harg n
    induction n with
    | zero => intro c N h1 h2 h3; exact absurd h3 (by omega)
    | succ n ihO =>
      intro c N h1 h2 h3 hF
      obtain ⟨k1, k2, k3, k4⟩ := frm_k hI hF
      have hwm := j_walksMany b sh N hsh
      rw [k3] at hwm
      have hin := lkS_in (P := fitB (absM M)) (T := moM M 0 2) c.toNat
      by_cases hcl : c < nAll (moM M)
      · obtain ⟨hT, hw, htt⟩ := cd_in hm h1 hcl
        have hst := lkS_s (P := fitB (absM M)) (T := moM M 0 2) h1
        have htr := j_tries b sh N hsh (by rw [k3]; exact hm) 0 209 c (by omega) (by omega) (by omega) (by rw [k4]; exact hr) (by rw [k3]; exact ⟨h1, hcl⟩)
        rw [k3, k4] at htr
        have hwf : WFr (stp (moM M) (roM M 0) c) B := (bend_in hm hr).1
        generalize hP : putM N 209 (stp (moM M) (roM M 0) c) = P at htr
        have hFP : FrM M P := by rw [← hP]; exact FrM_pm hF (by omega)
        have eP : ∀ q j, ¬ SM q j → P q j = M q j := hFP
        have e10 : P 72 10 = M 72 10 := eP _ _ (by unfold SM; omega)
        have eT : P 73 2 = moM M 0 2 := (eP _ _ (by unfold SM; omega)).trans mM_2
        have h01 : fitB (absM M) c = 0 ∨ fitB (absM M) c = 1 := hld01 _
        have LI : ∀ (n2 : Nat) (k : Int), 0 ≤ k → k ≤ M 72 10 → M 72 10 - k < n2 → MW yX8_looked cX8_looked 7 (some .int) (rmD 4 0 0) (FM (QM M (absM M) (a_looked (absM M) what)) b sh 0 0) b sh.length 0 0 45 [some (vr b 72), some (vi what), some (vi (lkS (fitB (absM M)) (moM M 0 2) c.toNat).1), some (vi (lkS (fitB (absM M)) (moM M 0 2) c.toNat).2), some (vi c), some (vi (hld (msk (M 72 10) (M 78)) (fun _ => 1) (msk (M 72 10) (M 79)) (stp (moM M) (roM M 0) c) 1 k.toNat)), some (vi k)] [] sh (P) := by
          intro n2
          induction n2 with
          | zero => intro k a1 a2 a3; exact absurd a3 (by omega)
          | succ n2 ihI =>
            intro k a1 a2 a3
            have hf01 := hld01 (cp := msk (M 72 10) (M 78)) (ct := fun _ => 1) (cy := msk (M 72 10) (M 79)) (f := stp (moM M) (roM M 0) c) (time := 1) k.toNat
            by_cases hkl : k < M 72 10
            · have hs1 := hld_s (cp := msk (M 72 10) (M 78)) (ct := fun _ => 1) (cy := msk (M 72 10) (M 79)) (f := stp (moM M) (roM M 0) c) (time := 1) a1
              rw [msk_i ⟨a1, hkl⟩, msk_i ⟨a1, hkl⟩] at hs1
              have hpo : 0 ≤ M 78 k ∧ M 78 k ≤ 15 := by
                have := hI.2.2.2.2.2.1.2 k a1 hkl
                have e : (absM M).2.2.2.2.2.2.1.2.1 k = M 78 k := msk_i ⟨a1, hkl⟩
                rw [e] at this
                exact this
              have hx := ihI (k + 1) (by omega) (by omega) (by omega)
              rw [hs1] at hx
              have hfv := hwf.1 (M 78 k) (by omega) (by omega)
              refine R_rng fun hPr => ?_
              have hyv := hPr 79 k
              rw [eP 79 k (by unfold SM; omega)] at hyv
              refine R_iload (pc := 45) dX8_looked_45 rfl ?_
              refine R_aload_n (pc := 47) dX8_looked_47 rfl ?_
              refine R_getI (pc := 48) (J := 10) dX8_looked_48 fl_RX8_80 rfl rfl (hsh _ _ rfl) (e10) ?_
              refine R_cmp_ge (pc := 51) (tgt := 98) dX8_looked_51 (by decide) (by omega) (fun h_51 => ?_) (fun h_51 => ?_)
              · exact absurd h_51 (by omega)
              · refine R_iload (pc := 54) dX8_looked_54 rfl ?_
                refine R_if_eq (pc := 56) (tgt := 89) dX8_looked_56 (by decide) (by omega) (fun h_56 => ?_) (fun h_56 => ?_)
                · refine R_iconst (pc := 89) dX8_looked_89 ?_
                  refine R_istore (pc := 90) dX8_looked_90 (by decide) rfl rfl ?_
                  refine R_iinc (pc := 92) dX8_looked_92 rfl (by decide) rfl rfl ?_
                  refine R_goto (pc := 95) (tgt := 45) dX8_looked_95 (by decide) ?_
                  first
                    | (rw [if_neg (fun q => absurd q.1 (by omega))] at hx; exact hx)
                    | (rw [if_neg (fun q => h_82 (q.2 rfl))] at hx; exact hx)
                    | (rw [if_pos ⟨by omega, fun _ => h_82⟩] at hx; exact hx)
                · refine R_aload_n (pc := 59) dX8_looked_59 rfl ?_
                  refine R_getR (pc := 60) dX8_looked_60 fl_RX8_13 rfl (hsh _ _ rfl) rfl ?_
                  refine R_sipush (pc := 63) dX8_looked_63 rfl ?_
                  refine R_aload_n (pc := 66) dX8_looked_66 rfl ?_
                  refine R_getR (pc := 67) dX8_looked_67 fl_RX8_25 rfl (hsh _ _ rfl) rfl ?_
                  refine R_iload (pc := 70) dX8_looked_70 rfl ?_
                  refine R_iald (pc := 72) dX8_looked_72 (hsh _ _ rfl) (by omega) (eP 78 k (by unfold SM; omega)) ?_
                  refine R_iadd (pc := 73) dX8_looked_73 ?_
                  refine R_iald (pc := 74) dX8_looked_74 (hsh _ _ rfl) (by omega) ((show P 74 (209 + M 78 k) = stp (moM M) (roM M 0) c (M 78 k) by rw [← hP]; exact pm_i (by omega))) ?_
                  refine R_aload_n (pc := 75) dX8_looked_75 rfl ?_
                  refine R_getR (pc := 76) dX8_looked_76 fl_RX8_28 rfl (hsh _ _ rfl) rfl ?_
                  refine R_iload (pc := 79) dX8_looked_79 rfl ?_
                  refine R_iald (pc := 81) dX8_looked_81 (hsh _ _ rfl) (by omega) (eP 79 k (by unfold SM; omega)) ?_
                  refine R_cmp_ne (pc := 82) (tgt := 89) dX8_looked_82 (by decide) (by omega) (fun h_82 => ?_) (fun h_82 => ?_)
                  · refine R_iconst (pc := 89) dX8_looked_89 ?_
                    refine R_istore (pc := 90) dX8_looked_90 (by decide) rfl rfl ?_
                    refine R_iinc (pc := 92) dX8_looked_92 rfl (by decide) rfl rfl ?_
                    refine R_goto (pc := 95) (tgt := 45) dX8_looked_95 (by decide) ?_
                    first
                      | (rw [if_neg (fun q => absurd q.1 (by omega))] at hx; exact hx)
                      | (rw [if_neg (fun q => h_82 (q.2 rfl))] at hx; exact hx)
                      | (rw [if_pos ⟨by omega, fun _ => h_82⟩] at hx; exact hx)
                  · refine R_iconst (pc := 85) dX8_looked_85 ?_
                    refine R_goto (pc := 86) (tgt := 90) dX8_looked_86 (by decide) ?_
                    refine R_istore (pc := 90) dX8_looked_90 (by decide) rfl rfl ?_
                    refine R_iinc (pc := 92) dX8_looked_92 rfl (by decide) rfl rfl ?_
                    refine R_goto (pc := 95) (tgt := 45) dX8_looked_95 (by decide) ?_
                    first
                      | (rw [if_neg (fun q => absurd q.1 (by omega))] at hx; exact hx)
                      | (rw [if_neg (fun q => h_82 (q.2 rfl))] at hx; exact hx)
                      | (rw [if_pos ⟨by omega, fun _ => h_82⟩] at hx; exact hx)
            · have ek : k = M 72 10 := by omega
              have efit : hld (msk (M 72 10) (M 78)) (fun _ => 1) (msk (M 72 10) (M 79)) (stp (moM M) (roM M 0) c) 1 k.toNat = fitB (absM M) c := by rw [ek]; rfl
              rw [efit]
              have hnext : ∀ (l f : Int), (l, f) = lkS (fitB (absM M)) (moM M 0 2) (c + 1).toNat → MW yX8_looked cX8_looked 7 (some .int) (rmD 4 0 0) (FM (QM M (absM M) (a_looked (absM M) what)) b sh 0 0) b sh.length 0 0 147 [some (vr b 72), some (vi what), some (vi l), some (vi f), some (vi c), none, none] [] sh (P) := by
                intro l f he
                refine R_iinc (pc := 147) dX8_looked_147 rfl (by decide) rfl rfl ?_
                refine R_goto (pc := 150) (tgt := 20) dX8_looked_150 (by decide) ?_
                have hx := ihO (c + 1) P (by omega) (by omega) (by omega) hFP
                rw [← he] at hx
                exact hx
              refine R_iload (pc := 45) dX8_looked_45 rfl ?_
              refine R_aload_n (pc := 47) dX8_looked_47 rfl ?_
              refine R_getI (pc := 48) (J := 10) dX8_looked_48 fl_RX8_80 rfl rfl (hsh _ _ rfl) (e10) ?_
              refine R_cmp_ge (pc := 51) (tgt := 98) dX8_looked_51 (by decide) (by omega) (fun h_51 => ?_) (fun h_51 => ?_)
              · refine R_iload (pc := 98) dX8_looked_98 rfl ?_
                refine R_if_eq (pc := 100) (tgt := 132) dX8_looked_100 (by decide) (by omega) (fun h_100 => ?_) (fun h_100 => ?_)
                · refine R_iload_n (pc := 132) dX8_looked_132 rfl ?_
                  refine R_istore_n (pc := 133) dX8_looked_133 (by decide) rfl rfl ?_
                  refine R_iload_n (pc := 134) dX8_looked_134 rfl ?_
                  refine R_iload (pc := 135) dX8_looked_135 rfl ?_
                  refine R_if_eq (pc := 137) (tgt := 144) dX8_looked_137 (by decide) (by omega) (fun h_137 => ?_) (fun h_137 => ?_)
                  · refine R_iconst (pc := 144) dX8_looked_144 ?_
                    refine R_iadd (pc := 145) dX8_looked_145 ?_
                    refine R_istore_n (pc := 146) dX8_looked_146 (by decide) rfl rfl ?_
                    refine R_drop 5 rfl ?_
                    refine R_drop 6 rfl ?_
                    first
                      | exact absurd h_137 (by omega)
                      | exact hnext _ _ (by rw [hst, if_neg (by omega), Int.add_zero])
                  · refine R_iconst (pc := 140) dX8_looked_140 ?_
                    refine R_goto (pc := 141) (tgt := 145) dX8_looked_141 (by decide) ?_
                    refine R_iadd (pc := 145) dX8_looked_145 ?_
                    refine R_istore_n (pc := 146) dX8_looked_146 (by decide) rfl rfl ?_
                    refine R_drop 5 rfl ?_
                    refine R_drop 6 rfl ?_
                    first
                      | exact absurd h_137 (by omega)
                      | exact hnext _ _ (by rw [hst, if_pos (by omega), if_neg h_104])
                      | exact hnext _ _ (by rw [hst, if_pos (by omega), if_pos h_104])
                      | exact hnext _ _ (by rw [hst, if_neg (by omega), Int.add_zero])
                · refine R_iload_n (pc := 103) dX8_looked_103 rfl ?_
                  refine R_if_ne (pc := 104) (tgt := 132) dX8_looked_104 (by decide) (by omega) (fun h_104 => ?_) (fun h_104 => ?_)
                  · refine R_iload_n (pc := 132) dX8_looked_132 rfl ?_
                    refine R_istore_n (pc := 133) dX8_looked_133 (by decide) rfl rfl ?_
                    refine R_iload_n (pc := 134) dX8_looked_134 rfl ?_
                    refine R_iload (pc := 135) dX8_looked_135 rfl ?_
                    refine R_if_eq (pc := 137) (tgt := 144) dX8_looked_137 (by decide) (by omega) (fun h_137 => ?_) (fun h_137 => ?_)
                    · refine R_iconst (pc := 144) dX8_looked_144 ?_
                      refine R_iadd (pc := 145) dX8_looked_145 ?_
                      refine R_istore_n (pc := 146) dX8_looked_146 (by decide) rfl rfl ?_
                      refine R_drop 5 rfl ?_
                      refine R_drop 6 rfl ?_
                      first
                        | exact absurd h_137 (by omega)
                        | exact hnext _ _ (by rw [hst, if_neg (by omega), Int.add_zero])
                    · refine R_iconst (pc := 140) dX8_looked_140 ?_
                      refine R_goto (pc := 141) (tgt := 145) dX8_looked_141 (by decide) ?_
                      refine R_iadd (pc := 145) dX8_looked_145 ?_
                      refine R_istore_n (pc := 146) dX8_looked_146 (by decide) rfl rfl ?_
                      refine R_drop 5 rfl ?_
                      refine R_drop 6 rfl ?_
                      first
                        | exact absurd h_137 (by omega)
                        | exact hnext _ _ (by rw [hst, if_pos (by omega), if_neg h_104])
                        | exact hnext _ _ (by rw [hst, if_pos (by omega), if_pos h_104])
                        | exact hnext _ _ (by rw [hst, if_neg (by omega), Int.add_zero])
                  · refine R_bipush (pc := 107) dX8_looked_107 rfl ?_
                    refine R_iload (pc := 109) dX8_looked_109 rfl ?_
                    refine R_aload_n (pc := 111) dX8_looked_111 rfl ?_
                    refine R_getR (pc := 112) dX8_looked_112 fl_RX8_7 rfl (hsh _ _ rfl) rfl ?_
                    refine R_iconst (pc := 115) dX8_looked_115 ?_
                    refine R_iald (pc := 116) dX8_looked_116 (hsh _ _ rfl) (by omega) (eT) ?_
                    refine R_idiv (pc := 117) dX8_looked_117 (by omega) ?_
                    refine R_imul (pc := 118) dX8_looked_118 ?_
                    refine R_iload (pc := 119) dX8_looked_119 rfl ?_
                    refine R_aload_n (pc := 121) dX8_looked_121 rfl ?_
                    refine R_getR (pc := 122) dX8_looked_122 fl_RX8_7 rfl (hsh _ _ rfl) rfl ?_
                    refine R_iconst (pc := 125) dX8_looked_125 ?_
                    refine R_iald (pc := 126) dX8_looked_126 (hsh _ _ rfl) (by omega) (eT) ?_
                    refine R_irem (pc := 127) dX8_looked_127 (by omega) ?_
                    refine R_iadd (pc := 128) dX8_looked_128 ?_
                    refine R_goto (pc := 129) (tgt := 133) dX8_looked_129 (by decide) ?_
                    refine R_istore_n (pc := 133) dX8_looked_133 (by decide) rfl rfl ?_
                    refine R_iload_n (pc := 134) dX8_looked_134 rfl ?_
                    refine R_iload (pc := 135) dX8_looked_135 rfl ?_
                    refine R_if_eq (pc := 137) (tgt := 144) dX8_looked_137 (by decide) (by omega) (fun h_137 => ?_) (fun h_137 => ?_)
                    · refine R_iconst (pc := 144) dX8_looked_144 ?_
                      refine R_iadd (pc := 145) dX8_looked_145 ?_
                      refine R_istore_n (pc := 146) dX8_looked_146 (by decide) rfl rfl ?_
                      refine R_drop 5 rfl ?_
                      refine R_drop 6 rfl ?_
                      first
                        | exact absurd h_137 (by omega)
                        | exact hnext _ _ (by rw [hst, if_neg (by omega), Int.add_zero])
                    · refine R_iconst (pc := 140) dX8_looked_140 ?_
                      refine R_goto (pc := 141) (tgt := 145) dX8_looked_141 (by decide) ?_
                      refine R_iadd (pc := 145) dX8_looked_145 ?_
                      refine R_istore_n (pc := 146) dX8_looked_146 (by decide) rfl rfl ?_
                      refine R_drop 5 rfl ?_
                      refine R_drop 6 rfl ?_
                      first
                        | exact absurd h_137 (by omega)
                        | exact hnext _ _ (by rw [hst, if_pos (by omega), if_neg h_104])
                        | exact hnext _ _ (by rw [hst, if_pos (by omega), if_pos h_104])
                        | exact hnext _ _ (by rw [hst, if_neg (by omega), Int.add_zero])
              · exact absurd h_51 (by omega)
        refine R_iload (pc := 20) dX8_looked_20 rfl ?_
        refine R_aload_n (pc := 22) dX8_looked_22 rfl ?_
        refine R_V0i (pc := 23) dX8_looked_23 sv_RX8_199 (hsh _ _ rfl) (hwm) (Nat.le_of_ble_eq_true rfl) (by decide) ?_
        refine R_cmp_ge (pc := 26) (tgt := 153) dX8_looked_26 (by decide) (by omega) (fun h_26 => ?_) (fun h_26 => ?_)
        · exact absurd h_26 (by omega)
        · refine R_aload_n (pc := 29) dX8_looked_29 rfl ?_
          refine R_iconst (pc := 30) dX8_looked_30 ?_
          refine R_sipush (pc := 31) dX8_looked_31 rfl ?_
          refine R_iload (pc := 34) dX8_looked_34 rfl ?_
          refine R_V3v (pc := 36) dX8_looked_36 sv_RX8_202 (hsh _ _ rfl) (htr) (Nat.le_of_ble_eq_true rfl) (by decide) ?_
          refine R_iconst (pc := 39) dX8_looked_39 ?_
          refine R_istore (pc := 40) dX8_looked_40 (by decide) rfl rfl ?_
          refine R_iconst (pc := 42) dX8_looked_42 ?_
          refine R_istore (pc := 43) dX8_looked_43 (by decide) rfl rfl ?_
          exact LI 20 0 (by omega) (by omega) (by omega)
      · have ec : c = nAll (moM M) := by omega
        subst ec
        refine R_iload (pc := 20) dX8_looked_20 rfl ?_
        refine R_aload_n (pc := 22) dX8_looked_22 rfl ?_
        refine R_V0i (pc := 23) dX8_looked_23 sv_RX8_199 (hsh _ _ rfl) (hwm) (Nat.le_of_ble_eq_true rfl) (by decide) ?_
        refine R_cmp_ge (pc := 26) (tgt := 153) dX8_looked_26 (by decide) (by omega) (fun h_26 => ?_) (fun h_26 => ?_)
        · refine R_iload_n (pc := 153) dX8_looked_153 rfl ?_
          refine R_if_ne (pc := 154) (tgt := 161) dX8_looked_154 (by decide) (by omega) (fun h_154 => ?_) (fun h_154 => ?_)
          · refine R_iload_n (pc := 161) dX8_looked_161 rfl ?_
            refine R_iret (pc := 162) dX8_looked_162 ?_
            exact QM_ro hI hF (by rw [ea]; omega)
          · refine R_iload_n (pc := 157) dX8_looked_157 rfl ?_
            refine R_goto (pc := 158) (tgt := 162) dX8_looked_158 (by decide) ?_
            refine R_iret (pc := 162) dX8_looked_162 ?_
            exact QM_ro hI hF (by rw [ea]; omega)
        · exact absurd h_26 (by omega)
  refine MC_of (ls := [some (vr b 72), some (vi what), none, none, none, none, none]) (by decide) rfl (Nat.le_of_ble_eq_true rfl) ?_
  refine R_iload_n (pc := 0) dX8_looked_0 rfl ?_
  refine R_i2l (pc := 1) dX8_looked_1 (by omega) ?_
  refine R_lconst (pc := 2) dX8_looked_2 (x := 0) rfl ?_
  refine R_lconst (pc := 3) dX8_looked_3 (x := 1) rfl ?_
  refine R_S3i (pc := 4) dX8_looked_4 ss_RX8_69 (j_in b sh _ _ _ _ hj (by omega) (by omega)) (Nat.le_of_ble_eq_true rfl) (by decide) ?_
  refine R_if_ne (pc := 7) (tgt := 12) dX8_looked_7 (by decide) (by omega) (fun h_7 => ?_) (fun h_7 => ?_)
  · refine R_iconst (pc := 12) dX8_looked_12 ?_
    refine R_istore_n (pc := 13) dX8_looked_13 (by decide) rfl rfl ?_
    refine R_bipush (pc := 14) dX8_looked_14 rfl ?_
    refine R_istore_n (pc := 16) dX8_looked_16 (by decide) rfl rfl ?_
    refine R_iconst (pc := 17) dX8_looked_17 ?_
    refine R_istore (pc := 18) dX8_looked_18 (by decide) rfl rfl ?_
    exact LO (by omega) 30 0 M (by omega) (by omega) (by omega) FrM_r
  · refine R_iconst (pc := 10) dX8_looked_10 ?_
    refine R_iret (pc := 11) dX8_looked_11 ?_
    exact QM_ro hI FrM_r (by rw [ea]; omega)
