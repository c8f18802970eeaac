theorem rm_ok {d d' : Nat} (h : d' < d) : roomOK (rmD d 0 0) 0 0 d' 0 0 := ⟨by show d' + 1 ≤ d; omega, by show 64 * d' + 60 ≤ 64 * d; omega, Nat.le_refl _, Nat.le_refl _⟩
/-- only the roads of the search behind the l-th, and the row from l on, have changed -/
def FrS (l : Nat) (M M' : Mem) : Prop := (∀ c, c ≠ 61 → (c ≤ 63 + 2 * l ∨ 70 ≤ c) → M' c = M c) ∧ ∀ j : Int, j < l → M' 61 j = M 61 j
def QX (mo : Mo) (g v : Int) (l k : Nat) (ro : Rd) (M : Mem) : Option Value → Mem → Prop := fun x M' => x = some (vi (if 0 ≤ fw mo g v k ro then 1 else 0)) ∧ FrS l M M' ∧ (0 ≤ fw mo g v k ro → ∀ j : Nat, j < k → M' 61 ((l : Int) + j) = enc (mo 0 2) (dgt (nAll mo) k (fw mo g v k ro) j))
theorem FrS_t {l l' : Nat} {M N P : Mem} (h1 : FrS l M N) (h2 : FrS l' N P) (hl : l ≤ l') : FrS l M P := ⟨fun c c1 c2 => (h2.1 c c1 (by omega)).trans (h1.1 c c1 c2), fun j hj => (h2.2 j (by omega)).trans (h1.2 j hj)⟩
theorem moC_c {N M : Mem} (h : ∀ c, 5 ≤ c → c ≤ 13 → N c = M c) : moC N 5 = moC M 5 := by
  funext a i
  unfold moC capC
  rw [h 5 (by omega) (by omega)]
  by_cases ha : a ≤ 8
  · rw [h (5 + a) (by omega) (by omega)]
  · by_cases h0 : a = 0
    · omega
    · by_cases h9 : a = 9
      · simp [h9]
      · rw [if_neg h0, if_neg h9, if_neg h0, if_neg h9]
        have hc : ¬ (a = 1) ∧ ¬ (a = 2 ∨ a = 3) ∧ ¬ (a = 4 ∨ a = 5) ∧ ¬ (a ≤ 8) := by omega
        simp only [hc, if_false]
        rw [if_neg (by omega), if_neg (by omega)]
theorem roC_c {N M : Mem} {r : Nat} (h1 : N r = M r) (h2 : N (r + 1) = M (r + 1)) : roC N r = roC M r := by unfold roC; rw [h1, h2]
/-- the search's cells -/
def PX (mo : Mo) (g v : Int) (l : Nat) (ro : Rd) (M : Mem) : Prop := StOK M ∧ (moC M 5 = mo ∧ M 59 2 = g ∧ M 59 3 = v) ∧ roC M (62 + 2 * l) = ro ∧ M (62 + 2 * l) 0 = M 5 0
theorem rd_st {sh : Shp} (hsh : Hc sh) {l : Nat} (hl : l ≤ 3) : isRd sh (62 + 2 * l) := by
  refine rd_of hsh ?_
  rcases (show l = 0 ∨ l = 1 ∨ l = 2 ∨ l = 3 by omega) with rfl | rfl | rfl | rfl <;> decide
theorem k_isReached (b : Nat) (sh : Shp) (hsh : Hc sh) (mo : Mo) (g v : Int) (hm : WFm mo) (hg : g = -1 ∨ (0 ≤ g ∧ g ≤ 15)) (hv : 0 ≤ v ∧ v ≤ 1000) {B : Int} :
    ∀ (k l : Nat) (ro : Rd) (M : Mem) (lv sz : Int), lv = l → sz = (l : Int) + k → l + k ≤ 3 → WFr ro B → PX mo g v l ro M → (∀ k', k = k' + 1 → fw mo g v k' ro = -1) → C0 (3 + k) mX5_isReached b sh M [vr b 59, vr b 5, vi lv, vi sz] (QX mo g v l k ro M) := by
  have hA := nAll_in hm
  intro k
  induction k with
  | zero =>
    intro l ro M lv sz hlv hsz hlk hw hp hH
    obtain ⟨hst, ⟨h5, h92, h93⟩, hro, hN⟩ := hp
    have hr := rd_st hsh (l := l) (by omega)
    have hself : putC M (62 + 2 * l) ro = M := by rw [← hro]; exact pc_self
    have hmet := k_isMet b sh M (62 + 2 * l) hsh hr (by omega) (by rw [h5]; exact hm) ⟨by rw [h92]; exact hg, by rw [h93]; exact hv⟩ ro hw hN
    rw [hself, h5, h92, h93] at hmet
    have efw : fw mo g v 0 ro = if gl mo g v ro = true then 0 else -1 := rfl
    have ez : (if gl mo g v ro = true then (1 : Int) else 0) = if 0 ≤ fw mo g v 0 ro then 1 else 0 := by
      rw [efw]
      by_cases h : gl mo g v ro = true
      · rw [if_pos h, if_pos h, if_pos (by omega)]
      · rw [if_neg h, if_neg h, if_neg (by omega)]
    rw [ez] at hmet
    refine MC_of (ls := [some (vr b 59), some (vr b 5), some (vi lv), some (vi sz), none, none, none]) (by decide) rfl (Nat.le_of_ble_eq_true rfl) ?_
    refine R_iload_n (pc := 0) dX5_isReached_0 rfl ?_
    refine R_iload_n (pc := 1) dX5_isReached_1 rfl ?_
    refine R_cmp_ge (pc := 2) (tgt := 10) dX5_isReached_2 (by decide) (by omega) (fun h_2 => ?_) (fun h_2 => ?_)
    · refine R_aload_n (pc := 10) dX5_isReached_10 rfl ?_
      refine R_aload_n (pc := 11) dX5_isReached_11 rfl ?_
      refine R_getR (pc := 12) dX5_isReached_12 fl_RX5_11 rfl (hsh _ _ rfl) rfl ?_
      refine R_iload_n (pc := 15) dX5_isReached_15 rfl ?_
      refine R_aald (pc := 16) dX5_isReached_16 (hsh _ _ rfl) (by omega) ((show M 60 lv = ((62 + 2 * l : Nat) : Int) by rw [hst lv (by omega) (by omega)]; omega)) ?_
      refine R_V1i (pc := 17) dX5_isReached_17 sv_RX5_37 (hsh _ _ rfl) (hmet) (Nat.le_of_ble_eq_true rfl) (by exact rm_ok (by omega)) ?_
      refine R_zret (pc := 20) dX5_isReached_20 (by first | exact Or.inl rfl | exact Or.inr rfl | omega) ?_
      exact ⟨rfl, ⟨fun _ _ _ => rfl, fun _ _ => rfl⟩, fun _ j hj => by omega⟩
    · exact absurd h_2 (by omega)
  | succ k ih =>
    intro l ro M lv sz hlv hsz hlk hw hp hH
    obtain ⟨hst, ⟨h5, h92, h93⟩, hro, hN⟩ := hp
    have hr := rd_st hsh (l := l) (by omega)
    have hr2 := rd_st hsh (l := l + 1) (by omega)
    have hself : putC M (62 + 2 * l) ro = M := by rw [← hro]; exact pc_self
    have hH0 := hH k rfl
    have hfar := k_isTooFar b sh M (62 + 2 * l) hsh hr (by omega) (by rw [h5]; exact hm) ⟨by rw [h92]; exact hg, by rw [h93]; exact hv⟩ ro hw hN (sz - lv) (by omega)
    rw [hself, h5, h92, h93, show sz - lv = ((k + 1 : Nat) : Int) by omega] at hfar
    have hW : M 5 2 = mo 0 1 := by rw [← h5]; rfl
    have hT : M 5 5 = mo 0 2 := by rw [← h5]; rfl
    have hm0 := hm
    obtain ⟨hN5, hW4, hT6, -⟩ := hm0
    have hN5' : M 5 0 = mo 0 0 := by rw [← h5]; rfl
    have hnone : ∀ N, FrS l M N → fw mo g v (k + 1) ro = -1 → QX mo g v l (k + 1) ro M (some (vi 0)) N := fun N hN h => ⟨by rw [h, if_neg (by omega)], hN, fun q => by rw [h] at q; omega⟩
    have LO : ∀ (n : Nat) (w : Int) (N : Mem), 0 ≤ w → w ≤ mo 0 1 → mo 0 1 - w < n → FrS l M N → (∀ d : Int, 0 ≤ d → d < w * mo 0 2 → ¬ 0 ≤ fw mo g v k (stp mo ro d)) → MW yX5_isReached cX5_isReached 7 (some .boolean) (rmD (3+k+1) 0 0) (FM (QX mo g v l (k + 1) ro M) b sh 0 0) b sh.length 0 0 52 [some (vr b 59), some (vr b 5), some (vi lv), some (vi sz), some (vr b (62 + 2 * (l + 1))), some (vi w), none] [] sh (N) := by
      intro n
      induction n with
      | zero => intro w N h1 h2 h3; exact absurd h3 (by omega)
      | succ n ihO =>
        intro w N h1 h2 h3 hF hb
        by_cases hwl : w < mo 0 1
        · have hwT : (w + 1) * mo 0 2 = w * mo 0 2 + mo 0 2 := by rw [Int.add_mul, Int.one_mul]
          have hwA : (w + 1) * mo 0 2 ≤ nAll mo := Int.mul_le_mul_of_nonneg_right (by omega) hT6.1
          have hw0 : 0 ≤ w * mo 0 2 := Int.mul_nonneg h1 hT6.1
          have LI : ∀ (n2 : Nat) (t : Int) (N : Mem), 0 ≤ t → t ≤ mo 0 2 → mo 0 2 - t < n2 → FrS l M N → (∀ d : Int, 0 ≤ d → d < w * mo 0 2 + t → ¬ 0 ≤ fw mo g v k (stp mo ro d)) → MW yX5_isReached cX5_isReached 7 (some .boolean) (rmD (3+k+1) 0 0) (FM (QX mo g v l (k + 1) ro M) b sh 0 0) b sh.length 0 0 64 [some (vr b 59), some (vr b 5), some (vi lv), some (vi sz), some (vr b (62 + 2 * (l + 1))), some (vi w), some (vi t)] [] sh (N) := by
            intro n2
            induction n2 with
            | zero => intro t N h1 h2 h3; exact absurd h3 (by omega)
            | succ n2 ihI =>
              intro t N t1 t2 t3 hF hb
              have eN : ∀ c, c ≤ 60 → N c = M c := fun c hc => hF.1 c (by omega) (by omega)
              by_cases htl : t < mo 0 2
              · have er : N (62 + 2 * l) = M (62 + 2 * l) := hF.1 _ (by omega) (by omega)
                have er1 : N (62 + 2 * l + 1) = M (62 + 2 * l + 1) := hF.1 _ (by omega) (by omega)
                have hroN : roC N (62 + 2 * l) = ro := (roC_c er er1).trans hro
                have e5 : ∀ c, c ≤ 60 → up N (62 + 2 * (l + 1)) 0 (M 5 0) c = M c := fun c hc => (up_o c (by omega)).trans (eN c hc)
                have hmB : moC (up N (62 + 2 * (l + 1)) 0 (M 5 0)) 5 = mo := (moC_c (fun c _ hc => e5 c (by omega))).trans h5
                have hcd : w * mo 0 2 + t < nAll mo := by omega
                have hdiv : (w * mo 0 2 + t) / mo 0 2 = w := by
                  rw [Int.add_comm, Int.add_mul_ediv_right _ _ (by omega), Int.ediv_eq_zero_of_lt t1 htl]; omega
                have hmod : (w * mo 0 2 + t) % mo 0 2 = t := by
                  rw [Int.add_comm, Int.add_mul_emod_self_right, Int.emod_eq_of_lt t1 htl]
                have hstp : stp mo ro (w * mo 0 2 + t) = (bend mo ro w t).1 := by unfold stp; rw [hdiv, hmod]
                have hbi := bend_in (k := w) (t := t) hm hw
                have hskip : ∀ P, FrS l M P → ¬ 0 ≤ fw mo g v k (stp mo ro (w * mo 0 2 + t)) → MW yX5_isReached cX5_isReached 7 (some .boolean) (rmD (3+k+1) 0 0) (FM (QX mo g v l (k + 1) ro M) b sh 0 0) b sh.length 0 0 125 [some (vr b 59), some (vr b 5), some (vi lv), some (vi sz), some (vr b (62 + 2 * (l + 1))), some (vi w), some (vi t)] [] sh (P) := by
                  intro P hP hno
                  refine R_iinc (pc := 125) dX5_isReached_125 rfl (by decide) rfl rfl ?_
                  refine R_goto (pc := 128) (tgt := 64) dX5_isReached_128 (by decide) ?_
                  refine ihI (t + 1) P (by omega) (by omega) (by omega) hP (fun d d0 d1 => ?_)
                  by_cases hd : d = w * mo 0 2 + t
                  · rw [hd]; exact hno
                  · exact hb d d0 (by omega)
                have hFP : ∀ f : Rd, FrS l M (putC (up N (62 + 2 * (l + 1)) 0 (M 5 0)) (62 + 2 * (l + 1)) f) := fun f => ⟨fun c c1 c2 => by
                    rw [pc_co (by omega) (by omega), up_o c (by omega)]; exact hF.1 c c1 c2, fun j hj => by
                    rw [pc_co (by omega) (by omega), up_o _ (by omega)]; exact hF.2 j hj⟩
                refine R_rng fun hNr => ?_
                have hcp := k_copyFrom b sh N (62 + 2 * (l + 1)) (62 + 2 * l) hr2 hr (by omega) hNr (by have := hw.2.2.2.1; rw [← hroN] at this; simpa [roC] using this)
                rw [hroN, er, hN] at hcp
                have hbd := k_bendBy b sh (up N (62 + 2 * (l + 1)) 0 (M 5 0)) (62 + 2 * (l + 1)) hsh hr2 (by rw [hmB]; exact hm) ro hw (by rw [up_s, e5 5 (by omega)]) w t (by rw [e5 5 (by omega)]; omega) (by rw [e5 5 (by omega)]; omega)
                rw [hmB] at hbd
                have hrec := ih (l + 1) (bend mo ro w t).1 (putC (up N (62 + 2 * (l + 1)) 0 (M 5 0)) (62 + 2 * (l + 1)) (bend mo ro w t).1) (lv + 1) sz (by omega) (by omega) (by omega) hbi.1 ⟨fun q q0 q1 => by rw [pc_co (by omega) (by omega), e5 60 (by omega)]; exact hst q q0 q1, ⟨(moC_pc (by omega) (by omega)).trans hmB, by rw [pc_co (by omega) (by omega), e5 59 (by omega)]; exact h92, by rw [pc_co (by omega) (by omega), e5 59 (by omega)]; exact h93⟩, ro_pc hbi.1.2.2.2.2.1, by rw [pc_n (Or.inl rfl), up_s, pc_co (by omega) (by omega), e5 5 (by omega)]⟩ (fun k' hk' => by subst hk'; rw [← hstp]; exact fw_neg hA.1 hH0 (by omega) hcd)
                refine R_iload (pc := 64) dX5_isReached_64 rfl ?_
                refine R_aload_n (pc := 66) dX5_isReached_66 rfl ?_
                refine R_getI (pc := 67) (J := 5) dX5_isReached_67 fl_RX5_50 rfl rfl (hsh _ _ rfl) ((show N 5 5 = mo 0 2 by rw [eN 5 (by omega)]; exact hT)) ?_
                refine R_cmp_ge (pc := 70) (tgt := 131) dX5_isReached_70 (by decide) (by omega) (fun h_70 => ?_) (fun h_70 => ?_)
                · exact absurd h_70 (by omega)
                · refine R_aload (pc := 73) dX5_isReached_73 rfl ?_
                  refine R_aload_n (pc := 75) dX5_isReached_75 rfl ?_
                  refine R_getR (pc := 76) dX5_isReached_76 fl_RX5_11 rfl (hsh _ _ rfl) rfl ?_
                  refine R_iload_n (pc := 79) dX5_isReached_79 rfl ?_
                  refine R_aald (pc := 80) dX5_isReached_80 (hsh _ _ rfl) (by omega) ((show N 60 lv = ((62 + 2 * l : Nat) : Int) by rw [eN 60 (by omega), hst lv (by omega) (by omega)]; omega)) ?_
                  refine R_V1v (pc := 81) dX5_isReached_81 sv_RX5_29 hr2.1 (hcp) (Nat.le_of_ble_eq_true rfl) (by exact rm_ok (by omega)) ?_
                  refine R_aload (pc := 84) dX5_isReached_84 rfl ?_
                  refine R_aload_n (pc := 86) dX5_isReached_86 rfl ?_
                  refine R_iload (pc := 87) dX5_isReached_87 rfl ?_
                  refine R_iload (pc := 89) dX5_isReached_89 rfl ?_
                  refine R_V3i (pc := 91) dX5_isReached_91 sv_RX5_53 hr2.1 (hbd) (Nat.le_of_ble_eq_true rfl) (by exact rm_ok (by omega)) ?_
                  refine R_if_le (pc := 94) (tgt := 125) dX5_isReached_94 (by decide) (by omega) (fun h_94 => ?_) (fun h_94 => ?_)
                  · exact hskip _ (hFP _) (by rw [hstp, bend_z h_94, hH0]; omega)
                  · refine R_aload_n (pc := 97) dX5_isReached_97 rfl ?_
                    refine R_aload_n (pc := 98) dX5_isReached_98 rfl ?_
                    refine R_iload_n (pc := 99) dX5_isReached_99 rfl ?_
                    refine R_iconst (pc := 100) dX5_isReached_100 ?_
                    refine R_iadd (pc := 101) dX5_isReached_101 ?_
                    refine R_iload_n (pc := 102) dX5_isReached_102 rfl ?_
                    refine R_S4 (pc := 103) dX5_isReached_103 ss_RX5_33 (hrec) (Nat.le_of_ble_eq_true rfl) (by exact rm_ok (by omega)) (fun v_103 M_103 hq_103 => ?_)
                    obtain ⟨rfl, hF3, hrow⟩ := hq_103
                    refine R_if_eq (pc := 106) (tgt := 125) dX5_isReached_106 (by decide) (by split <;> omega) (fun h_106 => ?_) (fun h_106 => ?_)
                    · refine hskip _ (FrS_t (hFP _) hF3 (by omega)) (fun q => ?_)
                      rw [hstp] at q
                      rw [if_pos q] at h_106
                      omega
                    · refine R_aload_n (pc := 109) dX5_isReached_109 rfl ?_
                      refine R_getR (pc := 110) dX5_isReached_110 fl_RX5_17 rfl (hsh _ _ rfl) rfl ?_
                      refine R_iload_n (pc := 113) dX5_isReached_113 rfl ?_
                      refine R_bipush (pc := 114) dX5_isReached_114 rfl ?_
                      refine R_iload (pc := 116) dX5_isReached_116 rfl ?_
                      refine R_imul (pc := 118) dX5_isReached_118 ?_
                      refine R_iload (pc := 119) dX5_isReached_119 rfl ?_
                      refine R_iadd (pc := 121) dX5_isReached_121 ?_
                      refine R_iast (pc := 122) dX5_isReached_122 (hsh _ _ rfl) (by omega) (by omega) ?_
                      refine R_iconst (pc := 123) dX5_isReached_123 ?_
                      refine R_zret (pc := 124) dX5_isReached_124 (by first | exact Or.inl rfl | exact Or.inr rfl | omega) ?_
                      have hhit : 0 ≤ fw mo g v k (bend mo ro w t).1 := by
                        by_cases hq : 0 ≤ fw mo g v k (bend mo ro w t).1
                        · exact hq
                        · rw [if_neg hq] at h_106; omega
                      have hval := fw_hit (g := g) (v := v) (k := k) (ro := ro) hA.1 (by omega) hcd (by rw [hstp]; exact hhit) hb
                      rw [hstp] at hval
                      have hApos : 0 < nAll mo := by omega
                      have hpk := pw_pos hApos k
                      obtain ⟨z0, z1⟩ : 0 ≤ fw mo g v k (bend mo ro w t).1 ∧ fw mo g v k (bend mo ro w t).1 < nAll mo ^ k := by
                        rcases fw_in (g := g) (v := v) hA.1 k (bend mo ro w t).1 with h9 | h9
                        · omega
                        · exact h9
                      have hpos : 0 ≤ (w * mo 0 2 + t) * nAll mo ^ k := Int.mul_nonneg (by omega) (by omega)
                      have hF4 := FrS_t (hFP (bend mo ro w t).1) hF3 (by omega)
                      refine ⟨by rw [hval, if_pos (by omega)], ⟨fun c c1 c2 => ?_, fun j hj => ?_⟩, fun _ j hj => ?_⟩
                      · rw [up_o c c1]; exact hF4.1 c c1 c2
                      · rw [up_j (by omega)]; exact hF4.2 j hj
                      · rw [hval]
                        cases j with
                        | zero =>
                          rw [dgt_0 hpk z0 z1, show (l : Int) + ((0 : Nat) : Int) = lv by omega, up_s]
                          simp only [enc]
                          rw [hdiv, hmod]
                        | succ j =>
                          rw [dgt_s hpk z0 z1, up_j (by omega)]
                          have := hrow hhit j (by omega)
                          rw [show (l : Int) + ((j + 1 : Nat) : Int) = ((l + 1 : Nat) : Int) + j by omega]
                          exact this
              · have et : t = mo 0 2 := by omega
                refine R_iload (pc := 64) dX5_isReached_64 rfl ?_
                refine R_aload_n (pc := 66) dX5_isReached_66 rfl ?_
                refine R_getI (pc := 67) (J := 5) dX5_isReached_67 fl_RX5_50 rfl rfl (hsh _ _ rfl) ((show N 5 5 = mo 0 2 by rw [eN 5 (by omega)]; exact hT)) ?_
                refine R_cmp_ge (pc := 70) (tgt := 131) dX5_isReached_70 (by decide) (by omega) (fun h_70 => ?_) (fun h_70 => ?_)
                · refine R_iinc (pc := 131) dX5_isReached_131 rfl (by decide) rfl rfl ?_
                  refine R_goto (pc := 134) (tgt := 52) dX5_isReached_134 (by decide) ?_
                  refine R_drop 6 rfl ?_
                  exact ihO (w + 1) N (by omega) (by omega) (by omega) hF (fun d d0 d1 => hb d d0 (by omega))
                · exact absurd h_70 (by omega)
          refine R_iload (pc := 52) dX5_isReached_52 rfl ?_
          refine R_aload_n (pc := 54) dX5_isReached_54 rfl ?_
          refine R_getI (pc := 55) (J := 2) dX5_isReached_55 fl_RX5_45 rfl rfl (hsh _ _ rfl) ((show N 5 2 = mo 0 1 by rw [hF.1 5 (by omega) (by omega)]; exact hW)) ?_
          refine R_cmp_ge (pc := 58) (tgt := 137) dX5_isReached_58 (by decide) (by omega) (fun h_58 => ?_) (fun h_58 => ?_)
          · exact absurd h_58 (by omega)
          · refine R_iconst (pc := 61) dX5_isReached_61 ?_
            refine R_istore (pc := 62) dX5_isReached_62 (by decide) rfl rfl ?_
            exact LI 20 0 N (by omega) (by omega) (by omega) hF (fun d d0 d1 => hb d d0 (by omega))
        · have ew : w = mo 0 1 := by omega
          subst ew
          refine R_iload (pc := 52) dX5_isReached_52 rfl ?_
          refine R_aload_n (pc := 54) dX5_isReached_54 rfl ?_
          refine R_getI (pc := 55) (J := 2) dX5_isReached_55 fl_RX5_45 rfl rfl (hsh _ _ rfl) ((show N 5 2 = mo 0 1 by rw [hF.1 5 (by omega) (by omega)]; exact hW)) ?_
          refine R_cmp_ge (pc := 58) (tgt := 137) dX5_isReached_58 (by decide) (by omega) (fun h_58 => ?_) (fun h_58 => ?_)
          · refine R_iconst (pc := 137) dX5_isReached_137 ?_
            refine R_zret (pc := 138) dX5_isReached_138 (by first | exact Or.inl rfl | exact Or.inr rfl | omega) ?_
            exact hnone _ hF (fw_none hb)
          · exact absurd h_58 (by omega)
    refine MC_of (ls := [some (vr b 59), some (vr b 5), some (vi lv), some (vi sz), none, none, none]) (by decide) rfl (Nat.le_of_ble_eq_true rfl) ?_
    refine R_iload_n (pc := 0) dX5_isReached_0 rfl ?_
    refine R_iload_n (pc := 1) dX5_isReached_1 rfl ?_
    refine R_cmp_ge (pc := 2) (tgt := 10) dX5_isReached_2 (by decide) (by omega) (fun h_2 => ?_) (fun h_2 => ?_)
    · exact absurd h_2 (by omega)
    · refine R_iload_n (pc := 5) dX5_isReached_5 rfl ?_
      refine R_iconst (pc := 6) dX5_isReached_6 ?_
      refine R_cmp_lt (pc := 7) (tgt := 21) dX5_isReached_7 (by decide) (by omega) (fun h_7 => ?_) (fun h_7 => ?_)
      · refine R_aload_n (pc := 21) dX5_isReached_21 rfl ?_
        refine R_aload_n (pc := 22) dX5_isReached_22 rfl ?_
        refine R_getR (pc := 23) dX5_isReached_23 fl_RX5_11 rfl (hsh _ _ rfl) rfl ?_
        refine R_iload_n (pc := 26) dX5_isReached_26 rfl ?_
        refine R_aald (pc := 27) dX5_isReached_27 (hsh _ _ rfl) (by omega) ((show M 60 lv = ((62 + 2 * l : Nat) : Int) by rw [hst lv (by omega) (by omega)]; omega)) ?_
        refine R_iload_n (pc := 28) dX5_isReached_28 rfl ?_
        refine R_iload_n (pc := 29) dX5_isReached_29 rfl ?_
        refine R_isub (pc := 30) dX5_isReached_30 ?_
        rw [show sz - lv = ((k + 1 : Nat) : Int) by omega]
        refine R_V2i (pc := 31) dX5_isReached_31 sv_RX5_41 (hsh _ _ rfl) (hfar) (Nat.le_of_ble_eq_true rfl) (by exact rm_ok (by omega)) ?_
        refine R_if_eq (pc := 34) (tgt := 39) dX5_isReached_34 (by decide) (by split <;> omega) (fun h_34 => ?_) (fun h_34 => ?_)
        · refine R_aload_n (pc := 39) dX5_isReached_39 rfl ?_
          refine R_getR (pc := 40) dX5_isReached_40 fl_RX5_11 rfl (hsh _ _ rfl) rfl ?_
          refine R_iload_n (pc := 43) dX5_isReached_43 rfl ?_
          refine R_iconst (pc := 44) dX5_isReached_44 ?_
          refine R_iadd (pc := 45) dX5_isReached_45 ?_
          refine R_aald (pc := 46) dX5_isReached_46 (hsh _ _ rfl) (by omega) ((show M 60 (lv + 1) = ((62 + 2 * (l + 1) : Nat) : Int) by rw [hst (lv + 1) (by omega) (by omega)]; omega)) ?_
          refine R_astore (pc := 47) dX5_isReached_47 (by decide) rfl rfl ?_
          refine R_iconst (pc := 49) dX5_isReached_49 ?_
          refine R_istore (pc := 50) dX5_isReached_50 (by decide) rfl rfl ?_
          exact LO 20 0 M (by omega) (by omega) (by omega) ⟨fun _ _ _ => rfl, fun _ _ => rfl⟩ (fun d d0 d1 => by rw [Int.zero_mul] at d1; omega)
        · refine R_iconst (pc := 37) dX5_isReached_37 ?_
          refine R_zret (pc := 38) dX5_isReached_38 (by first | exact Or.inl rfl | exact Or.inr rfl | omega) ?_
          refine hnone _ ⟨fun _ _ _ => rfl, fun _ _ => rfl⟩ (fw_far hm _ _ hw ?_)
          by_cases hq : far mo g v ((k + 1 : Nat) : Int) ro
          · exact hq
          · rw [if_neg hq] at h_34; omega
      · exact absurd h_7 (by omega)
/-- how few walks, and the row's digits: what fewestWalks answers -/
def few (mo : Mo) (g v : Int) (ro : Rd) : Int := if 0 ≤ fw mo g v 0 ro then 0 else if 0 ≤ fw mo g v 1 ro then 1 else if 0 ≤ fw mo g v 2 ro then 2 else if 0 ≤ fw mo g v 3 ro then 3 else -4
def QF (mo : Mo) (g v : Int) (ro : Rd) (M : Mem) : Option Value → Mem → Prop := fun x M' => x = some (vi (few mo g v ro)) ∧ (∀ c, c < 59 ∨ 70 ≤ c → M' c = M c) ∧ M' 60 = M 60 ∧ ∀ j : Nat, (j : Int) < few mo g v ro → M' 61 j = enc (mo 0 2) (dgt (nAll mo) (few mo g v ro).toNat (fw mo g v (few mo g v ro).toNat ro) j)
theorem k_fewestWalks (b : Nat) (sh : Shp) (M : Mem) (hsh : Hc sh) (mo : Mo) (g v : Int) (hmo : moC M 5 = mo) (hm : WFm mo) (hg : g = -1 ∨ (0 ≤ g ∧ g ≤ 15)) (hv : 0 ≤ v ∧ v ≤ 1000) (ro : Rd) {B : Int} (hro : roC M 23 = ro) (hw : WFr ro B) (hN : M 23 0 = M 5 0) (hst : StOK M) (hM : ∀ k j, inR (M k j)) : C0 7 mX5_fewestWalks b sh M [vr b 59, vr b 5, vr b 23, vi g, vi v] (QF mo g v ro M) := by
  have h62 := rd_st hsh (l := 0) (by omega)
  have h23 : isRd sh 23 := rd_of hsh (by decide)
  have hA := nAll_in hm
  -- the memory behind the copy
  have hM2 : ∀ k j, inR (up (up M 59 2 g) 59 3 v k j) := up_R (up_R hM (by omega)) (by omega)
  have e2 : ∀ c, c ≠ 59 → up (up M 59 2 g) 59 3 v c = M c := fun c hc => by rw [up_o c hc, up_o c hc]
  have hcp := k_copyFrom b sh (up (up M 59 2 g) 59 3 v) (62 + 2 * 0) 23 h62 h23 (by omega) hM2 (by rw [e2 23 (by omega)]; have := hw.2.2.2.1; rw [← hro] at this; simpa [roC] using this)
  have hro2 : roC (up (up M 59 2 g) 59 3 v) 23 = ro := (roC_c (e2 23 (by omega)) (e2 24 (by omega))).trans hro
  rw [hro2, e2 23 (by omega), hN] at hcp
  generalize hP : putC (up (up (up M 59 2 g) 59 3 v) (62 + 2 * 0) 0 (M 5 0)) (62 + 2 * 0) ro = P at hcp
  have eP : ∀ c, c ≠ 59 → c ≠ 62 → c ≠ 63 → P c = M c := fun c c1 c2 c3 => by
    rw [← hP, pc_co (by omega) (by omega), up_o c (by omega), e2 c c1]
  have hPX : PX mo g v 0 ro P := by
    refine ⟨fun q q0 q1 => by rw [eP 60 (by omega) (by omega) (by omega)]; exact hst q q0 q1, ⟨(moC_c (fun c _ hc => eP c (by omega) (by omega) (by omega))).trans hmo, ?_, ?_⟩, ?_, ?_⟩
    · rw [← hP, pc_co (by omega) (by omega), up_o _ (by omega), up_j (by omega), up_s]
    · rw [← hP, pc_co (by omega) (by omega), up_o _ (by omega), up_s]
    · rw [← hP]; exact ro_pc hw.2.2.2.2.1
    · rw [eP 5 (by omega) (by omega) (by omega), ← hP, pc_n (Or.inl rfl), up_s]
  have hPk : ∀ N, FrS 0 P N → PX mo g v 0 ro N := by
    intro N hN0
    obtain ⟨p1, ⟨p2, p3, p4⟩, p5, p6⟩ := hPX
    refine ⟨fun q q0 q1 => by rw [hN0.1 60 (by omega) (by omega)]; exact p1 q q0 q1, ⟨(moC_c (fun c _ hc => hN0.1 c (by omega) (by omega))).trans p2, by rw [hN0.1 59 (by omega) (by omega)]; exact p3, by rw [hN0.1 59 (by omega) (by omega)]; exact p4⟩, (roC_c (hN0.1 _ (by omega) (by omega)) (hN0.1 _ (by omega) (by omega))).trans p5, by rw [hN0.1 _ (by omega) (by omega), hN0.1 5 (by omega) (by omega)]; exact p6⟩
  have L : ∀ (n : Nat) (i : Nat) (z : Int) (N : Mem), z = i → i ≤ 4 → 4 - i < n → FrS 0 P N → (∀ k : Nat, k < i → fw mo g v k ro = -1) → MW yX5_fewestWalks cX5_fewestWalks 6 (some .int) (rmD 7 0 0) (FM (QF mo g v ro M) b sh 0 0) b sh.length 0 0 24 [some (vr b 59), some (vr b 5), some (vr b 23), some (vi g), some (vi v), some (vi z)] [] sh (N) := by
    intro n
    induction n with
    | zero => intro i z N h0 h1 h2; exact absurd h2 (by omega)
    | succ n ihn =>
      intro i z N h0 h1 h2 hF hb
      by_cases hi : i ≤ 3
      · have hrc := k_isReached b sh hsh mo g v hm hg hv i 0 ro N 0 z rfl (by omega) (by omega) hw (hPk N hF) (fun k' hk' => hb k' (by omega))
        refine R_iload (pc := 24) dX5_fewestWalks_24 rfl ?_
        refine R_iconst (pc := 26) dX5_fewestWalks_26 ?_
        refine R_cmp_gt (pc := 27) (tgt := 50) dX5_fewestWalks_27 (by decide) (by omega) (fun h_27 => ?_) (fun h_27 => ?_)
        · exact absurd h_27 (by omega)
        · refine R_aload_n (pc := 30) dX5_fewestWalks_30 rfl ?_
          refine R_aload_n (pc := 31) dX5_fewestWalks_31 rfl ?_
          refine R_iconst (pc := 32) dX5_fewestWalks_32 ?_
          refine R_iload (pc := 33) dX5_fewestWalks_33 rfl ?_
          refine R_S4 (pc := 35) dX5_fewestWalks_35 ss_RX5_33 (hrc) (Nat.le_of_ble_eq_true rfl) (by exact rm_ok (by omega)) (fun v_35 M_35 hq_35 => ?_)
          obtain ⟨rfl, hF3, hrow⟩ := hq_35
          refine R_if_eq (pc := 38) (tgt := 44) dX5_fewestWalks_38 (by decide) (by split <;> omega) (fun h_38 => ?_) (fun h_38 => ?_)
          · refine R_iinc (pc := 44) dX5_fewestWalks_44 rfl (by decide) rfl rfl ?_
            refine R_goto (pc := 47) (tgt := 24) dX5_fewestWalks_47 (by decide) ?_
            refine ihn (i + 1) (z + 1) _ (by omega) (by omega) (by omega) (FrS_t hF hF3 (by omega)) (fun k hk => ?_)
            by_cases hki : k = i
            · subst hki
              rcases fw_in (g := g) (v := v) hA.1 k ro with h9 | h9
              · exact h9
              · rw [if_pos h9.1] at h_38; omega
            · exact hb k (by omega)
          · refine R_iload (pc := 41) dX5_fewestWalks_41 rfl ?_
            refine R_iret (pc := 43) dX5_fewestWalks_43 ?_
            have hhit : 0 ≤ fw mo g v i ro := by
              by_cases hq : 0 ≤ fw mo g v i ro
              · exact hq
              · rw [if_neg hq] at h_38; omega
            have hfew : few mo g v ro = z := by
              unfold few
              rcases (show i = 0 ∨ i = 1 ∨ i = 2 ∨ i = 3 by omega) with rfl | rfl | rfl | rfl
              · rw [if_pos hhit]; omega
              · rw [if_neg (by rw [hb 0 (by omega)]; omega), if_pos hhit]; omega
              · rw [if_neg (by rw [hb 0 (by omega)]; omega), if_neg (by rw [hb 1 (by omega)]; omega), if_pos hhit]; omega
              · rw [if_neg (by rw [hb 0 (by omega)]; omega), if_neg (by rw [hb 1 (by omega)]; omega), if_neg (by rw [hb 2 (by omega)]; omega), if_pos hhit]; omega
            have hF4 := FrS_t hF hF3 (by omega)
            refine ⟨by rw [hfew], fun c hc => (hF4.1 c (by omega) (by omega)).trans (eP c (by omega) (by omega) (by omega)), (hF4.1 60 (by omega) (by omega)).trans (eP 60 (by omega) (by omega) (by omega)), fun j hj => ?_⟩
            rw [hfew] at hj ⊢
            have := hrow hhit j (by omega)
            rw [show z.toNat = i by omega]
            rw [show ((0 : Nat) : Int) + (j : Int) = j by omega] at this
            exact this
      · have hi4 : i = 4 := by omega
        refine R_iload (pc := 24) dX5_fewestWalks_24 rfl ?_
        refine R_iconst (pc := 26) dX5_fewestWalks_26 ?_
        refine R_cmp_gt (pc := 27) (tgt := 50) dX5_fewestWalks_27 (by decide) (by omega) (fun h_27 => ?_) (fun h_27 => ?_)
        · refine R_bipush (pc := 50) dX5_fewestWalks_50 rfl ?_
          refine R_iret (pc := 52) dX5_fewestWalks_52 ?_
          have hfew : few mo g v ro = -4 := by
            unfold few
            rw [if_neg (by rw [hb 0 (by omega)]; omega), if_neg (by rw [hb 1 (by omega)]; omega), if_neg (by rw [hb 2 (by omega)]; omega), if_neg (by rw [hb 3 (by omega)]; omega)]
          exact ⟨by rw [hfew], fun c hc => (hF.1 c (by omega) (by omega)).trans (eP c (by omega) (by omega) (by omega)), (hF.1 60 (by omega) (by omega)).trans (eP 60 (by omega) (by omega) (by omega)), fun j hj => by rw [hfew] at hj; omega⟩
        · exact absurd h_27 (by omega)
  refine MC_of (ls := [some (vr b 59), some (vr b 5), some (vr b 23), some (vi g), some (vi v), none]) (by decide) rfl (Nat.le_of_ble_eq_true rfl) ?_
  refine R_aload_n (pc := 0) dX5_fewestWalks_0 rfl ?_
  refine R_iload_n (pc := 1) dX5_fewestWalks_1 rfl ?_
  refine R_putI (pc := 2) (J := 2) rfl dX5_fewestWalks_2 fl_RX5_22 rfl (fun r h => by cases h; rfl) (hsh _ _ rfl) (by omega) ?_
  refine R_aload_n (pc := 5) dX5_fewestWalks_5 rfl ?_
  refine R_iload (pc := 6) dX5_fewestWalks_6 rfl ?_
  refine R_putI (pc := 8) (J := 3) rfl dX5_fewestWalks_8 fl_RX5_26 rfl (fun r h => by cases h; rfl) (hsh _ _ rfl) (by omega) ?_
  refine R_aload_n (pc := 11) dX5_fewestWalks_11 rfl ?_
  refine R_getR (pc := 12) dX5_fewestWalks_12 fl_RX5_11 rfl (hsh _ _ rfl) rfl ?_
  refine R_iconst (pc := 15) dX5_fewestWalks_15 ?_
  refine R_aald (pc := 16) dX5_fewestWalks_16 (hsh _ _ rfl) (by omega) ((show up (up M 59 2 g) 59 3 v 60 0 = ((62 + 2 * 0 : Nat) : Int) by rw [e2 60 (by omega)]; exact hst 0 (by omega) (by omega))) ?_
  refine R_aload_n (pc := 17) dX5_fewestWalks_17 rfl ?_
  refine R_V1v (pc := 18) dX5_fewestWalks_18 sv_RX5_29 h62.1 (hcp) (Nat.le_of_ble_eq_true rfl) (by decide) ?_
  refine R_iconst (pc := 21) dX5_fewestWalks_21 ?_
  refine R_istore (pc := 22) dX5_fewestWalks_22 (by decide) rfl rfl ?_
  exact L 10 0 0 P rfl (by omega) (by omega) ⟨fun _ _ _ => rfl, fun _ _ => rfl⟩ (fun k hk => by omega)
