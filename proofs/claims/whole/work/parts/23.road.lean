/-! the JDK's own -/
theorem k_compare (b : Nat) (sh : Shp) (M : Mem) (x z : Int) (hx : inR x) (hz : inR z) : Ex 0 mJ6_compare_7cf53 b sh M [vi x, vi z] (some (vi (if x < z then -1 else if x = z then 0 else 1))) M := by
  refine MC_of (ls := [some (vi x), some (vi z)]) (by decide) rfl (Nat.le_of_ble_eq_true rfl) ?_
  refine R_iload_n (pc := 0) dJ6_compare_7cf53_0 rfl ?_
  refine R_iload_n (pc := 1) dJ6_compare_7cf53_1 rfl ?_
  refine R_cmp_ge (pc := 2) (tgt := 9) dJ6_compare_7cf53_2 (by decide) (by omega) (fun h_2 => ?_) (fun h_2 => ?_)
  · refine R_iload_n (pc := 9) dJ6_compare_7cf53_9 rfl ?_
    refine R_iload_n (pc := 10) dJ6_compare_7cf53_10 rfl ?_
    refine R_cmp_ne (pc := 11) (tgt := 18) dJ6_compare_7cf53_11 (by decide) (by omega) (fun h_11 => ?_) (fun h_11 => ?_)
    · refine R_iconst (pc := 18) dJ6_compare_7cf53_18 ?_
      refine R_iret (pc := 19) dJ6_compare_7cf53_19 ?_
      exact eqi (by omega) rfl
    · refine R_iconst (pc := 14) dJ6_compare_7cf53_14 ?_
      refine R_goto (pc := 15) (tgt := 19) dJ6_compare_7cf53_15 (by decide) ?_
      refine R_iret (pc := 19) dJ6_compare_7cf53_19 ?_
      exact eqi (by omega) rfl
  · refine R_iconst (pc := 5) dJ6_compare_7cf53_5 ?_
    refine R_goto (pc := 6) (tgt := 19) dJ6_compare_7cf53_6 (by decide) ?_
    refine R_iret (pc := 19) dJ6_compare_7cf53_19 ?_
    exact eqi (by omega) rfl
/-! roads -/
theorem k_isShut (b : Nat) (sh : Shp) (M : Mem) (r : Nat) (hr : isRd sh r) (f : Rd) (hs : 0 ≤ f 17 ∧ f 17 < 64) (t : Int) (ht : 0 ≤ t ∧ t < 10) : Ex 0 mX4_isShut b sh (putC M r f) [vr b r, vi t] (some (vi (sb (f 17) t))) (putC M r f) := by
  refine MC_of (ls := [some (vr b r), some (vi t)]) (by decide) rfl (Nat.le_of_ble_eq_true rfl) ?_
  have h01 := sb01 (f 17) t
  refine R_aload_n (pc := 0) dX4_isShut_0 rfl ?_
  refine R_getI (pc := 1) (J := 3) dX4_isShut_1 fl_RX4_34 rfl rfl hr.1 (pc_s) ?_
  refine R_iload_n (pc := 4) dX4_isShut_4 rfl ?_
  refine R_ishr (pc := 5) dX4_isShut_5 (by omega) ?_
  refine R_iconst (pc := 6) dX4_isShut_6 ?_
  refine R_and1 (pc := 7) dX4_isShut_7 ?_
  refine R_iconst (pc := 8) dX4_isShut_8 ?_
  refine R_cmp_ne (pc := 9) (tgt := 16) dX4_isShut_9 (by decide) (by omega) (fun h_9 => ?_) (fun h_9 => ?_)
  · refine R_iconst (pc := 16) dX4_isShut_16 ?_
    refine R_zret (pc := 17) dX4_isShut_17 (by first | exact Or.inl rfl | exact Or.inr rfl | omega) ?_
    exact eqi (by simp only [sb] at h01 ⊢; omega) rfl
  · refine R_iconst (pc := 12) dX4_isShut_12 ?_
    refine R_goto (pc := 13) (tgt := 17) dX4_isShut_13 (by decide) ?_
    refine R_zret (pc := 17) dX4_isShut_17 (by first | exact Or.inl rfl | exact Or.inr rfl | omega) ?_
    exact eqi (by simp only [sb] at h01 ⊢; omega) rfl
theorem k_gap (b : Nat) (sh : Shp) (M : Mem) (r : Nat) (hr : isRd sh r) (f : Rd) {B : Int} (hf : WFr f B) (i : Int) (hi : 1 ≤ i ∧ i ≤ 15) : Ex 0 mX4_gapBefore b sh (putC M r f) [vr b r, vi i] (some (vi (ab (f i) (f (i - 1))))) (putC M r f) := by
  have h1 := hf.1 i (by omega) (by omega)
  have h2 := hf.1 (i - 1) (by omega) (by omega)
  refine MC_of (ls := [some (vr b r), some (vi i), none]) (by decide) rfl (Nat.le_of_ble_eq_true rfl) ?_
  refine R_aload_n (pc := 0) dX4_gapBefore_0 rfl ?_
  refine R_getR (pc := 1) dX4_gapBefore_1 fl_RX4_9 rfl hr.1 rfl ?_
  refine R_iload_n (pc := 4) dX4_gapBefore_4 rfl ?_
  refine R_iald (pc := 5) dX4_gapBefore_5 hr.2.1 (by omega) (pc_y (by omega)) ?_
  refine R_aload_n (pc := 6) dX4_gapBefore_6 rfl ?_
  refine R_getR (pc := 7) dX4_gapBefore_7 fl_RX4_9 rfl hr.1 rfl ?_
  refine R_iload_n (pc := 10) dX4_gapBefore_10 rfl ?_
  refine R_iconst (pc := 11) dX4_gapBefore_11 ?_
  refine R_isub (pc := 12) dX4_gapBefore_12 ?_
  refine R_iald (pc := 13) dX4_gapBefore_13 hr.2.1 (by omega) (pc_y (by omega)) ?_
  refine R_isub (pc := 14) dX4_gapBefore_14 ?_
  refine R_istore_n (pc := 15) dX4_gapBefore_15 (by decide) rfl rfl ?_
  refine R_iload_n (pc := 16) dX4_gapBefore_16 rfl ?_
  refine R_if_ge (pc := 17) (tgt := 25) dX4_gapBefore_17 (by decide) (by omega) (fun h_17 => ?_) (fun h_17 => ?_)
  · refine R_iload_n (pc := 25) dX4_gapBefore_25 rfl ?_
    refine R_iret (pc := 26) dX4_gapBefore_26 ?_
    exact eqi (by (try simp only [ab]); omega) rfl
  · refine R_iload_n (pc := 20) dX4_gapBefore_20 rfl ?_
    refine R_ineg (pc := 21) dX4_gapBefore_21 ?_
    refine R_goto (pc := 22) (tgt := 26) dX4_gapBefore_22 (by decide) ?_
    refine R_iret (pc := 26) dX4_gapBefore_26 ?_
    exact eqi (by (try simp only [ab]); omega) rfl
theorem k_bentYard (b : Nat) (sh : Shp) (M : Mem) (r : Nat) (hr : isRd sh r) (f : Rd) {B : Int} (hf : WFr f B) (i kind aim : Int) (hi : 1 ≤ i ∧ i ≤ 15) (hk : 0 ≤ kind ∧ kind ≤ 4) (ha : 0 ≤ aim ∧ aim ≤ 60) : Ex 1 mX4_bentYard b sh (putC M r f) [vr b r, vi i, vi kind, vi aim] (some (vi (gy kind aim f i))) (putC M r f) := by
  have h1 := hf.1 i (by omega) (by omega)
  have h2 := hf.1 (i - 1) (by omega) (by omega)
  refine MC_of (ls := [some (vr b r), some (vi i), some (vi kind), some (vi aim), none]) (by decide) rfl (Nat.le_of_ble_eq_true rfl) ?_
  refine R_aload_n (pc := 0) dX4_bentYard_0 rfl ?_
  refine R_getR (pc := 1) dX4_bentYard_1 fl_RX4_9 rfl hr.1 rfl ?_
  refine R_iload_n (pc := 4) dX4_bentYard_4 rfl ?_
  refine R_iald (pc := 5) dX4_bentYard_5 hr.2.1 (by omega) (pc_y (by omega)) ?_
  refine R_istore (pc := 6) dX4_bentYard_6 (by decide) rfl rfl ?_
  refine R_iload_n (pc := 8) dX4_bentYard_8 rfl ?_
  by_cases hk9_0 : kind = 2
  · refine R_tabIn (pc := 9) (off := 27) (tgt := 36) dX4_bentYard_9 (by omega) (by omega) (by rw [hk9_0]; rfl) (by decide) ?_
    refine R_iload_n (pc := 36) dX4_bentYard_36 rfl ?_
    refine R_iconst (pc := 37) dX4_bentYard_37 ?_
    refine R_irem (pc := 38) dX4_bentYard_38 (by omega) ?_
    refine R_iconst (pc := 39) dX4_bentYard_39 ?_
    refine R_cmp_ne (pc := 40) (tgt := 53) dX4_bentYard_40 (by decide) (by omega) (fun h_40 => ?_) (fun h_40 => ?_)
    · refine R_iload (pc := 53) dX4_bentYard_53 rfl ?_
      refine R_iload_n (pc := 55) dX4_bentYard_55 rfl ?_
      refine R_S2i (pc := 56) dX4_bentYard_56 ss_RX4_109 (k_awayFrom b sh _ _ _ (by omega) (by omega)) (Nat.le_of_ble_eq_true rfl) (by decide) ?_
      refine R_iret (pc := 59) dX4_bentYard_59 ?_
      exact eqi (by simp only [gy, tw, tb, aw, mn3, ab]; omega) rfl
    · refine R_iload (pc := 43) dX4_bentYard_43 rfl ?_
      refine R_iload_n (pc := 45) dX4_bentYard_45 rfl ?_
      refine R_iconst (pc := 46) dX4_bentYard_46 ?_
      refine R_S3i (pc := 47) dX4_bentYard_47 ss_RX4_75 (k_toward b sh _ _ _ _ (by omega) (by omega) (by omega)) (Nat.le_of_ble_eq_true rfl) (by decide) ?_
      refine R_goto (pc := 50) (tgt := 59) dX4_bentYard_50 (by decide) ?_
      refine R_iret (pc := 59) dX4_bentYard_59 ?_
      exact eqi (by simp only [gy, tw, tb, aw, mn3, ab]; omega) rfl
  by_cases hk9_1 : kind = 3
  · refine R_tabIn (off := 51) (tgt := 60) dX4_bentYard_9 (by omega) (by omega) (by rw [hk9_1]; rfl) (by decide) ?_
    refine R_iload (pc := 60) dX4_bentYard_60 rfl ?_
    refine R_bipush (pc := 62) dX4_bentYard_62 rfl ?_
    refine R_iconst (pc := 64) dX4_bentYard_64 ?_
    refine R_S3i (pc := 65) dX4_bentYard_65 ss_RX4_75 (k_toward b sh _ _ _ _ (by omega) (by omega) (by omega)) (Nat.le_of_ble_eq_true rfl) (by decide) ?_
    refine R_iret (pc := 68) dX4_bentYard_68 ?_
    exact eqi (by simp only [gy, tw, tb, aw, mn3, ab]; omega) rfl
  by_cases hk9_2 : kind = 4
  · refine R_tabIn (off := 60) (tgt := 69) dX4_bentYard_9 (by omega) (by omega) (by rw [hk9_2]; rfl) (by decide) ?_
    refine R_iload (pc := 69) dX4_bentYard_69 rfl ?_
    refine R_iload_n (pc := 71) dX4_bentYard_71 rfl ?_
    refine R_iconst (pc := 72) dX4_bentYard_72 ?_
    refine R_aload_n (pc := 73) dX4_bentYard_73 rfl ?_
    refine R_iload_n (pc := 74) dX4_bentYard_74 rfl ?_
    refine R_V1i (pc := 75) dX4_bentYard_75 sv_RX4_112 hr.1 (k_gap b sh M r hr f hf i hi) (Nat.le_of_ble_eq_true rfl) (by decide) ?_
    refine R_mmin (pc := 78) dX4_bentYard_78 ss_RX4_97 (by simp only [ab]; omega) (Nat.le_of_ble_eq_true rfl) (by decide) ?_
    refine R_S3i (pc := 81) dX4_bentYard_81 ss_RX4_75 (k_toward b sh _ _ _ _ (by omega) (by omega) (by simp only [ab]; omega)) (Nat.le_of_ble_eq_true rfl) (by decide) ?_
    refine R_iret (pc := 84) dX4_bentYard_84 ?_
    exact eqi (by simp only [gy, tw, tb, aw, mn3, ab]; omega) rfl
  refine R_tabOut (tgt := 85) dX4_bentYard_9 (by omega) (by omega) (by decide) ?_
  refine R_iload (pc := 85) dX4_bentYard_85 rfl ?_
  refine R_iload_n (pc := 87) dX4_bentYard_87 rfl ?_
  refine R_iconst (pc := 88) dX4_bentYard_88 ?_
  refine R_S3i (pc := 89) dX4_bentYard_89 ss_RX4_75 (k_toward b sh _ _ _ _ (by omega) (by omega) (by omega)) (Nat.le_of_ble_eq_true rfl) (by decide) ?_
  refine R_iret (pc := 92) dX4_bentYard_92 ?_
  exact eqi (by simp only [gy, tw, tb, aw, mn3, ab]; omega) rfl
theorem lp_bendBy {b : Nat} {sh : Shp} {M : Mem} {r : Nat} (hsh : Hc sh) (hr : isRd sh r) (hm : WFm (moC M 5)) {f : Rd} {B : Int} (hf : WFr f B) {w t kind reach place yard low high : Int} (hw : 0 ≤ w ∧ w < M 5 2) (ht : 0 ≤ t ∧ t < M 5 5) (hk : 0 ≤ kind ∧ kind ≤ 4) (hrc : 0 ≤ reach ∧ reach ≤ 9) (hp : 0 ≤ place ∧ place ≤ 15) (hy : yard = moC M 5 5 t) (hlow : low = if 1 < place - reach then place - reach else 1) (hhigh : high = if place + reach < M 5 0 - 2 then place + reach else M 5 0 - 2) {Q : Option Value → Mem → Prop} (hQ : Q (some (vi (bnI kind reach place yard f (M 5 0 - 1)).2)) (putC M r (bnI kind reach place yard f (M 5 0 - 1)).1)) :
    ∀ (n : Nat) (i : Int), low ≤ i → (i ≤ high + 1 ∨ i = low) → high + 1 - i ≤ n → MW yX4_bendBy cX4_bendBy 11 (some .int) (rmD 2 0 0) (FM Q b sh 0 0) b sh.length 0 0 78 [some (vr b r), some (vr b 5), some (vi w), some (vi t), some (vi kind), some (vi reach), some (vi low), some (vi high), some (vi (bnI kind reach place yard f i).2), some (vi i), none] [] sh (putC M r (bnI kind reach place yard f i).1) := by
  obtain ⟨⟨hN1, hN2⟩, ⟨-, hW⟩, ⟨-, hT⟩, -, -, -, -, -, -, hm5, -⟩ := hm
  rw [moC_0] at hN1 hN2
  rw [moC_1] at hW
  rw [moC_2] at hT
  have hyy := hm5 t
  rw [← hy] at hyy
  have hex : ∀ i, low ≤ i → (i ≤ high + 1 ∨ i = low) → high < i → bnI kind reach place yard f i = bnI kind reach place yard f (M 5 0 - 1) := by
    intro i h1 h2 h3
    rcases Int.le_total i (M 5 0 - 1) with h4 | h4
    · exact (bnI_to (by omega) h4 (fun j a c => by simp only [ab]; omega)).symm
    · exact bnI_to (by omega) h4 (fun j a c => by simp only [ab]; omega)
  intro n
  induction n with
  | zero =>
    intro i h1 h2 h3
    refine R_iload (pc := 78) dX4_bendBy_78 rfl ?_
    refine R_iload (pc := 80) dX4_bendBy_80 rfl ?_
    refine R_cmp_gt (pc := 82) (tgt := 134) dX4_bendBy_82 (by decide) (by omega) (fun h_82 => ?_) (fun h_82 => ?_)
    · rw [hex i h1 h2 (by omega)]
      refine R_iload dX4_bendBy_134 rfl ?_
      exact R_iret dX4_bendBy_136 hQ
    · exact absurd h_82 (by omega)
  | succ n ih =>
    intro i h1 h2 h3
    have hi1 : 1 ≤ i := by omega
    refine R_iload (pc := 78) dX4_bendBy_78 rfl ?_
    refine R_iload (pc := 80) dX4_bendBy_80 rfl ?_
    refine R_cmp_gt (pc := 82) (tgt := 134) dX4_bendBy_82 (by decide) (by omega) (fun h_82 => ?_) (fun h_82 => ?_)
    · rw [hex i h1 h2 (by omega)]
      refine R_iload dX4_bendBy_134 rfl ?_
      exact R_iret dX4_bendBy_136 hQ
    · have hi2 : i ≤ 14 := by omega
      obtain ⟨g1, g2, g3⟩ := bnI_in (kind := kind) (reach := reach) (place := place) hf hyy (i := i) (by omega)
      have g4 := gy_in (kind := kind) g1 hyy (i := i) (by omega)
      have g5 := g1.1 i (by omega) (by omega)
      have g6 := bnI_s (kind := kind) (reach := reach) (place := place) (yard := yard) (ro := f) hi1
      rw [if_pos (by simp only [ab]; omega)] at g6
      refine R_aload_n (pc := 85) dX4_bendBy_85 rfl ?_
      refine R_iload (pc := 86) dX4_bendBy_86 rfl ?_
      refine R_iload (pc := 88) dX4_bendBy_88 rfl ?_
      refine R_aload_n (pc := 90) dX4_bendBy_90 rfl ?_
      refine R_getR (pc := 91) dX4_bendBy_91 fl_RX4_100 rfl (hsh _ _ rfl) rfl ?_
      refine R_iload_n (pc := 94) dX4_bendBy_94 rfl ?_
      refine R_iald (pc := 95) dX4_bendBy_95 (hsh _ _ rfl) (by omega) (show putC M r (bnI kind reach place yard f i).1 10 t = yard by rw [pc_o (by have := hr.2.2; omega) (by have := hr.2.2; omega), hy, moC_y ht]) ?_
      refine R_V3i (pc := 96) dX4_bendBy_96 sv_RX4_103 hr.1 (k_bentYard b sh M r hr _ g1 i kind yard (by omega) hk hyy) (Nat.le_of_ble_eq_true rfl) (by decide) ?_
      refine R_istore (pc := 99) dX4_bendBy_99 (by decide) rfl rfl ?_
      refine R_iload (pc := 101) dX4_bendBy_101 rfl ?_
      refine R_iload (pc := 103) dX4_bendBy_103 rfl ?_
      refine R_aload_n (pc := 105) dX4_bendBy_105 rfl ?_
      refine R_getR (pc := 106) dX4_bendBy_106 fl_RX4_9 rfl hr.1 rfl ?_
      refine R_iload (pc := 109) dX4_bendBy_109 rfl ?_
      refine R_iald (pc := 111) dX4_bendBy_111 hr.2.1 (by omega) (pc_y (by omega)) ?_
      refine R_isub (pc := 112) dX4_bendBy_112 ?_
      refine R_mabs (pc := 113) dX4_bendBy_113 ss_RX4_106 (by omega) (Nat.le_of_ble_eq_true rfl) (by decide) ?_
      refine R_iadd (pc := 116) dX4_bendBy_116 ?_
      refine R_istore (pc := 117) dX4_bendBy_117 (by decide) rfl rfl ?_
      refine R_aload_n (pc := 119) dX4_bendBy_119 rfl ?_
      refine R_getR (pc := 120) dX4_bendBy_120 fl_RX4_9 rfl hr.1 rfl ?_
      refine R_iload (pc := 123) dX4_bendBy_123 rfl ?_
      refine R_iload (pc := 125) dX4_bendBy_125 rfl ?_
      refine R_iast (pc := 127) dX4_bendBy_127 hr.2.1 (by omega) (by omega) ?_
      refine R_iinc dX4_bendBy_128 rfl (by decide) rfl rfl ?_
      refine R_goto (tgt := 78) dX4_bendBy_131 (by decide) ?_
      refine R_drop 10 rfl ?_
      have hnext := ih (i + 1) (by omega) (by omega) (by omega)
      rw [g6] at hnext
      rw [pcu_y (by omega)]
      have e8 : (if gy kind yard (bnI kind reach place yard f i).1 i - (bnI kind reach place yard f i).1 i < 0 then -(gy kind yard (bnI kind reach place yard f i).1 i - (bnI kind reach place yard f i).1 i) else gy kind yard (bnI kind reach place yard f i).1 i - (bnI kind reach place yard f i).1 i) = ab (gy kind yard (bnI kind reach place yard f i).1 i) ((bnI kind reach place yard f i).1 i) := by simp only [ab]; omega
      rw [e8]
      exact hnext
theorem k_bendBy (b : Nat) (sh : Shp) (M : Mem) (r : Nat) (hsh : Hc sh) (hr : isRd sh r) (hm : WFm (moC M 5)) (f : Rd) {B : Int} (hf : WFr f B) (hN : M r 0 = M 5 0) (w t : Int) (hw : 0 ≤ w ∧ w < M 5 2) (ht : 0 ≤ t ∧ t < M 5 5) : Ex 2 mX4_bendBy b sh (putC M r f) [vr b r, vr b 5, vi w, vi t] (some (vi (bend (moC M 5) f w t).2)) (putC M r (bend (moC M 5) f w t).1) := by
  have hm0 := hm
  obtain ⟨⟨hN1, hN2⟩, ⟨-, hW⟩, ⟨-, hT⟩, -, -, -, hm2, hm3, hm4, hm5, -⟩ := hm0
  rw [moC_0] at hN1 hN2
  rw [moC_1] at hW
  rw [moC_2] at hT
  have a2 := hm2 w
  have a3 := hm3 w
  have a4 := hm4 t
  have hr3 := hr.2.2
  have e7 : putC M r f 7 w = moC M 5 2 w := by rw [pc_o (by omega) (by omega), moC_k hw]
  have e8 : putC M r f 8 w = moC M 5 3 w := by rw [pc_o (by omega) (by omega), moC_r hw]
  have e9 : putC M r f 9 t = moC M 5 4 t := by rw [pc_o (by omega) (by omega), moC_p ht]
  have h01 := sb01 (f 17) t
  have J : ∀ rr : Int, rr = rch (moC M 5) w → ¬ sb (f 17) t = 1 → ∀ Q : Option Value → Mem → Prop, Q (some (vi (bend (moC M 5) f w t).2)) (putC M r (bend (moC M 5) f w t).1) → MW yX4_bendBy cX4_bendBy 11 (some .int) (rmD 2 0 0) (FM Q b sh 0 0) b sh.length 0 0 34 [some (vr b r), some (vr b 5), some (vi w), some (vi t), some (vi (moC M 5 2 w)), none, none, none, none, none, none] [vi rr] sh (putC M r f) := by
    intro rr hrr hns Q hQ
    have hr9 : 0 ≤ rr ∧ rr ≤ 9 := by rw [hrr]; simp only [rch]; omega
    refine R_istore (pc := 34) dX4_bendBy_34 (by decide) rfl rfl ?_
    refine R_iconst (pc := 36) dX4_bendBy_36 ?_
    refine R_aload_n (pc := 37) dX4_bendBy_37 rfl ?_
    refine R_getR (pc := 38) dX4_bendBy_38 fl_RX4_88 rfl (hsh _ _ rfl) rfl ?_
    refine R_iload_n (pc := 41) dX4_bendBy_41 rfl ?_
    refine R_iald (pc := 42) dX4_bendBy_42 (hsh _ _ rfl) (by omega) (e9) ?_
    refine R_iload (pc := 43) dX4_bendBy_43 rfl ?_
    refine R_isub (pc := 45) dX4_bendBy_45 ?_
    refine R_mmax (pc := 46) dX4_bendBy_46 ss_RX4_91 (by omega) (Nat.le_of_ble_eq_true rfl) (by decide) ?_
    refine R_istore (pc := 49) dX4_bendBy_49 (by decide) rfl rfl ?_
    refine R_aload_n (pc := 51) dX4_bendBy_51 rfl ?_
    refine R_getI (pc := 52) (J := 0) dX4_bendBy_52 fl_RX4_21 rfl rfl hr.1 ((pc_n (Or.inl rfl)).trans hN) ?_
    refine R_iconst (pc := 55) dX4_bendBy_55 ?_
    refine R_isub (pc := 56) dX4_bendBy_56 ?_
    refine R_aload_n (pc := 57) dX4_bendBy_57 rfl ?_
    refine R_getR (pc := 58) dX4_bendBy_58 fl_RX4_88 rfl (hsh _ _ rfl) rfl ?_
    refine R_iload_n (pc := 61) dX4_bendBy_61 rfl ?_
    refine R_iald (pc := 62) dX4_bendBy_62 (hsh _ _ rfl) (by omega) (e9) ?_
    refine R_iload (pc := 63) dX4_bendBy_63 rfl ?_
    refine R_iadd (pc := 65) dX4_bendBy_65 ?_
    refine R_mmin (pc := 66) dX4_bendBy_66 ss_RX4_97 (by omega) (Nat.le_of_ble_eq_true rfl) (by decide) ?_
    refine R_istore (pc := 69) dX4_bendBy_69 (by decide) rfl rfl ?_
    refine R_iconst (pc := 71) dX4_bendBy_71 ?_
    refine R_istore (pc := 72) dX4_bendBy_72 (by decide) rfl rfl ?_
    refine R_iload (pc := 74) dX4_bendBy_74 rfl ?_
    refine R_istore (pc := 76) dX4_bendBy_76 (by decide) rfl rfl ?_
    have hQ' : Q (some (vi (bnI (moC M 5 2 w) rr (moC M 5 4 t) (moC M 5 5 t) f (M 5 0 - 1)).2)) (putC M r (bnI (moC M 5 2 w) rr (moC M 5 4 t) (moC M 5 5 t) f (M 5 0 - 1)).1) := by
      rw [bend_eq hns (by rw [moC_0]; omega), ← hrr, moC_0] at hQ
      exact hQ
    have hlp := lp_bendBy (b := b) (low := if 1 < moC M 5 4 t - rr then moC M 5 4 t - rr else 1) hsh hr hm hf hw ht a2 hr9 a4 rfl rfl rfl hQ' 40 _ (Int.le_refl _) (Or.inr rfl) (by omega)
    have e0 : bnI (moC M 5 2 w) rr (moC M 5 4 t) (moC M 5 5 t) f (if 1 < moC M 5 4 t - rr then moC M 5 4 t - rr else 1) = (f, 0) := by
      rw [← bnI_1]
      exact bnI_to (by omega) (by omega) (fun j a c => by simp only [ab]; omega)
    rw [e0] at hlp
    exact hlp
  refine MC_of (ls := [some (vr b r), some (vr b 5), some (vi w), some (vi t), none, none, none, none, none, none, none]) (by decide) rfl (Nat.le_of_ble_eq_true rfl) ?_
  refine R_aload_n (pc := 0) dX4_bendBy_0 rfl ?_
  refine R_iload_n (pc := 1) dX4_bendBy_1 rfl ?_
  refine R_V1i (pc := 2) dX4_bendBy_2 sv_RX4_79 hr.1 (k_isShut b sh M r hr f hf.2.2.1 t (by omega)) (Nat.le_of_ble_eq_true rfl) (by decide) ?_
  refine R_if_eq (pc := 5) (tgt := 10) dX4_bendBy_5 (by decide) (by omega) (fun h_5 => ?_) (fun h_5 => ?_)
  · refine R_aload_n (pc := 10) dX4_bendBy_10 rfl ?_
    refine R_getR (pc := 11) dX4_bendBy_11 fl_RX4_82 rfl (hsh _ _ rfl) rfl ?_
    refine R_iload_n (pc := 14) dX4_bendBy_14 rfl ?_
    refine R_iald (pc := 15) dX4_bendBy_15 (hsh _ _ rfl) (by omega) (e7) ?_
    refine R_istore (pc := 16) dX4_bendBy_16 (by decide) rfl rfl ?_
    refine R_iload (pc := 18) dX4_bendBy_18 rfl ?_
    refine R_iconst (pc := 20) dX4_bendBy_20 ?_
    refine R_cmp_ne (pc := 21) (tgt := 28) dX4_bendBy_21 (by decide) (by omega) (fun h_21 => ?_) (fun h_21 => ?_)
    · refine R_aload_n (pc := 28) dX4_bendBy_28 rfl ?_
      refine R_getR (pc := 29) dX4_bendBy_29 fl_RX4_85 rfl (hsh _ _ rfl) rfl ?_
      refine R_iload_n (pc := 32) dX4_bendBy_32 rfl ?_
      refine R_iald (pc := 33) dX4_bendBy_33 (hsh _ _ rfl) (by omega) (e8) ?_
      exact J _ (by simp only [rch]; omega) (by omega) _ ⟨rfl, rfl⟩
    · refine R_iconst (pc := 24) dX4_bendBy_24 ?_
      refine R_goto (pc := 25) (tgt := 34) dX4_bendBy_25 (by decide) ?_
      exact J _ (by simp only [rch]; omega) (by omega) _ ⟨rfl, rfl⟩
  · refine R_iconst (pc := 8) dX4_bendBy_8 ?_
    refine R_iret (pc := 9) dX4_bendBy_9 ?_
    exact eqi (by rw [bend_sh (by omega)]) (by rw [bend_sh (by omega)])
