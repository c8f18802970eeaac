/-! what the takes do to the moor -/
theorem ten (k : Nat) : k = 0 ∨ k = 1 ∨ k = 2 ∨ k = 3 ∨ k = 4 ∨ k = 5 ∨ k = 6 ∨ k = 7 ∨ k = 8 ∨ k = 9 ∨ 10 ≤ k := by omega
theorem moC_big {M : Mem} {m k : Nat} {i : Int} (h : 10 ≤ k) : moC M m k i = 0 := by
  have hc : capC M m k = 0 := by
    unfold capC
    rw [if_neg (by omega), if_neg (by omega), if_neg (by omega), if_neg (by omega)]
  unfold moC
  rw [if_neg (by omega), if_neg (by omega), if_neg (by rw [hc]; omega)]
theorem up_big {M : Mem} {k k' : Nat} {i j x : Int} (h : k' < k) : up M k' j x k i = M k i := up_k (by omega)
theorem Lm_n {M : Mem} {m : Nat} {a : Int} : moC (up M m 0 a) m = up (moC M m) 0 0 a := by
  funext k i
  rcases ten k with rfl | rfl | rfl | rfl | rfl | rfl | rfl | rfl | rfl | rfl | hk
  case inr.inr.inr.inr.inr.inr.inr.inr.inr.inr => rw [up_big (by omega), moC_big hk, moC_big hk]
  all_goals
    simp [moC, capC, up]
  all_goals
    repeat' split
    all_goals first | rfl | omega
theorem Lm_p {M : Mem} {m : Nat} {a c : Int} (ha : 0 ≤ a ∧ a < 16) : moC (up M (m + 1) a c) m = up (moC M m) 1 a c := by
  funext k i
  rcases ten k with rfl | rfl | rfl | rfl | rfl | rfl | rfl | rfl | rfl | rfl | hk
  case inr.inr.inr.inr.inr.inr.inr.inr.inr.inr => rw [up_big (by omega), moC_big hk, moC_big hk]
  all_goals
    simp [moC, capC, up]
  all_goals
    repeat' split
    all_goals first | rfl | omega
theorem Lm_w {M : Mem} {m : Nat} {a c : Int} (hW : 0 ≤ M m 2) : moC (up (up (up M (m + 2) (M m 2) a) (m + 3) (M m 2) c) m 2 (M m 2 + 1)) m = up (up (up (moC M m) 2 (moC M m 0 1) a) 3 (moC M m 0 1) c) 0 1 (moC M m 0 1 + 1) := by
  rw [moC_1]
  funext k i
  rcases ten k with rfl | rfl | rfl | rfl | rfl | rfl | rfl | rfl | rfl | rfl | hk
  case inr.inr.inr.inr.inr.inr.inr.inr.inr.inr => rw [up_big (by omega), up_big (by omega), up_big (by omega), moC_big hk, moC_big hk]
  all_goals
    simp [moC, capC, up]
  all_goals
    repeat' split
    all_goals first | rfl | omega
theorem Lm_t {M : Mem} {m : Nat} {a c : Int} (hW : 0 ≤ M m 5) : moC (up (up (up M (m + 4) (M m 5) a) (m + 5) (M m 5) c) m 5 (M m 5 + 1)) m = up (up (up (moC M m) 4 (moC M m 0 2) a) 5 (moC M m 0 2) c) 0 2 (moC M m 0 2 + 1) := by
  rw [moC_2]
  funext k i
  rcases ten k with rfl | rfl | rfl | rfl | rfl | rfl | rfl | rfl | rfl | rfl | hk
  case inr.inr.inr.inr.inr.inr.inr.inr.inr.inr => rw [up_big (by omega), up_big (by omega), up_big (by omega), moC_big hk, moC_big hk]
  all_goals
    simp [moC, capC, up]
  all_goals
    repeat' split
    all_goals first | rfl | omega
theorem Lm_d {M : Mem} {m : Nat} {a c d : Int} (hW : 0 ≤ M m 8) : moC (up (up (up (up M (m + 6) (M m 8) a) (m + 7) (M m 8) c) (m + 8) (M m 8) d) m 8 (M m 8 + 1)) m = up (up (up (up (moC M m) 6 (moC M m 0 3) a) 7 (moC M m 0 3) c) 8 (moC M m 0 3) d) 0 3 (moC M m 0 3 + 1) := by
  rw [moC_3]
  funext k i
  rcases ten k with rfl | rfl | rfl | rfl | rfl | rfl | rfl | rfl | rfl | rfl | hk
  case inr.inr.inr.inr.inr.inr.inr.inr.inr.inr => rw [up_big (by omega), up_big (by omega), up_big (by omega), up_big (by omega), moC_big hk, moC_big hk]
  all_goals
    simp [moC, capC, up]
  all_goals
    repeat' split
    all_goals first | rfl | omega
theorem Lm_f {M : Mem} {m : Nat} {a c : Int} (h13 : 0 ≤ M m 13 ∧ M m 13 < 1024) (ha : 0 ≤ a ∧ a ≤ c ∧ c ≤ 9) : moC (up (up M m 12 (M m 12 + 1)) m 13 (fgS (M m 13) a (c - a + 1).toNat)) m = fogM (moC M m) a c := by
  unfold fogM
  rw [moC_4]
  funext k i
  rcases ten k with rfl | rfl | rfl | rfl | rfl | rfl | rfl | rfl | rfl | rfl | hk
  case inr.inr.inr.inr.inr.inr.inr.inr.inr.inr =>
    rw [up_big (by omega), moC_big hk, if_neg (by omega), moC_big hk]
  case inr.inr.inr.inr.inr.inr.inr.inr.inr.inl =>
    rw [up_k (by omega)]
    by_cases hi : 0 ≤ i ∧ i < 10
    · rw [moC_g hi, up_s, fgS_b h13 ha.1 hi.1 _ (by omega)]
      by_cases h2 : a ≤ i ∧ i ≤ c
      · rw [if_pos (by omega), if_pos ⟨rfl, h2⟩]
      · rw [if_neg (by omega), if_neg (fun q => h2 q.2), moC_g hi]
    · rw [if_neg (by omega)]
      unfold moC
      rw [if_neg (by omega), if_pos rfl, if_neg hi, if_neg (by omega), if_pos rfl, if_neg hi]
  all_goals
    simp [moC, capC, up]
  all_goals
    repeat' split
    all_goals first | rfl | omega
theorem Lm_b {M : Mem} {m : Nat} {x : Int} : moC (up M m 14 x) m = moC M m := by
  funext k i
  rcases ten k with rfl | rfl | rfl | rfl | rfl | rfl | rfl | rfl | rfl | rfl | hk
  case inr.inr.inr.inr.inr.inr.inr.inr.inr.inr => rw [moC_big hk, moC_big hk]
  all_goals
    simp [moC, capC, up]
theorem okI_110 {mo : Mo} {bey a b d : Int} : okI mo bey 110 a b d = true ↔ bey = 0 ∧ 5 ≤ a ∧ a ≤ 16 := by simp [okI]
theorem okI_112 {mo : Mo} {bey a b d : Int} : okI mo bey 112 a b d = true ↔ 1 ≤ a ∧ a ≤ mo 0 0 - 2 ∧ b ≤ 60 := by simp [okI]
theorem okI_119 {mo : Mo} {bey a b d : Int} : okI mo bey 119 a b d = true ↔ mo 0 1 < 4 ∧ a ≤ 4 ∧ b ≤ 9 := by simp [okI]
theorem okI_116 {mo : Mo} {bey a b d : Int} : okI mo bey 116 a b d = true ↔ mo 0 2 < 6 ∧ a < mo 0 0 ∧ b ≤ 60 := by simp [okI]
theorem okI_100 {mo : Mo} {bey a b d : Int} : okI mo bey 100 a b d = true ↔ mo 0 3 < 8 ∧ a ≤ 9 ∧ b < mo 0 1 ∧ d < mo 0 2 := by simp [okI]
theorem okI_102 {mo : Mo} {bey a b d : Int} : okI mo bey 102 a b d = true ↔ mo 0 4 < 2 ∧ a ≤ b ∧ b ≤ 9 := by simp [okI]
theorem okI_no {mo : Mo} {bey c a b d : Int} (h : c ≠ 110 ∧ c ≠ 112 ∧ c ≠ 119 ∧ c ≠ 116 ∧ c ≠ 100 ∧ c ≠ 102) : ¬ okI mo bey c a b d = true := by
  obtain ⟨h1, h2, h3, h4, h5, h6⟩ := h
  simp [okI, h1, h2, h3, h4, h5, h6]
/-- a moor while it is read -/
def PW (M : Mem) (m : Nat) (bey : Int) : Prop := WFm (moC M m) ∧ M m 14 = bey ∧ (bey = 0 ∨ bey = 1) ∧ 0 ≤ M m 13 ∧ M m 13 < 1024
/-- only the moor m has changed -/
def OffM (m : Nat) (M M' : Mem) : Prop := ∀ k, (k < m ∨ m + 8 < k) → M' k = M k
theorem OffM_up {m k : Nat} {M M' : Mem} {j x : Int} (h : OffM m M M') (hk : m ≤ k ∧ k ≤ m + 8) : OffM m M (up M' k j x) := fun q hq => by rw [up_o q (by omega)]; exact h q hq
def QI (M : Mem) (m : Nat) (bey c a e d : Int) : Option Value → Mem → Prop := fun v M' => v = some (vi (if okI (moC M m) bey c a e d = true then 1 else 0)) ∧ OffM m M M' ∧ (okI (moC M m) bey c a e d = true → moC M' m = moI (moC M m) c a e d ∧ PW M' m (if c = 110 then bey else 1))
theorem k_takeItem (b : Nat) (sh : Shp) (M : Mem) (m : Nat) (hm : isMo sh m) (bey : Int) (hw : PW M m bey) (c a e d : Int) (hc : inR c) (ha : 0 ≤ a ∧ a ≤ 99) (he : inR e) (he' : c ≠ 110 → 0 ≤ e ∧ e ≤ 99) (hd : inR d) (hd' : c = 100 → 0 ≤ d ∧ d ≤ 99) : C0 3 mX2_takeItem b sh M [vr b m, vi c, vi a, vi e, vi d] (QI M m bey c a e d) := by
  obtain ⟨hwf, h14, hbey, h13⟩ := hw
  have hwf0 := hwf
  obtain ⟨h0, h1, h2, h3, h4, -⟩ := hwf0
  rw [moC_0] at h0
  rw [moC_1] at h1
  rw [moC_2] at h2
  rw [moC_3] at h3
  rw [moC_4] at h4
  have hoff : OffM m M M := fun _ _ => rfl
  have u0 : ∀ {j : Int}, j ≠ 14 → up M m 14 1 m j = M m j := fun h => up_j h
  have uk : ∀ {k : Nat} {j : Int}, k ≠ m → up M m 14 1 k j = M k j := fun h => up_k h
  have wfI := fun (ho : okI (moC M m) bey c a e d = true) => WFm_I hwf ha.1 (fun h => (he' h).1) (fun h => (hd' h).1) ho
  refine MC_of (ls := [some (vr b m), some (vi c), some (vi a), some (vi e), some (vi d)]) (by decide) rfl (Nat.le_of_ble_eq_true rfl) ?_
  refine R_iload_n (pc := 0) dX2_takeItem_0 rfl ?_
  refine R_bipush (pc := 1) dX2_takeItem_1 rfl ?_
  refine R_cmp_ne (pc := 3) (tgt := 12) dX2_takeItem_3 (by decide) (by omega) (fun h_3 => ?_) (fun h_3 => ?_)
  · refine R_aload_n (pc := 12) dX2_takeItem_12 rfl ?_
    refine R_iconst (pc := 13) dX2_takeItem_13 ?_
    refine R_putZ (pc := 14) (J := 14) rfl dX2_takeItem_14 fl_RX2_55 rfl (fun r h => by cases h; rfl) hm.1 (by omega) ?_
    refine R_iload_n (pc := 17) dX2_takeItem_17 rfl ?_
    by_cases hc_0 : c = 100
    · refine R_look (pc := 18) (off := 71) (tgt := 89) dX2_takeItem_18 (by decide) (by omega) (by rw [hc_0]; rfl) (by decide) ?_
      refine R_aload_n (pc := 89) dX2_takeItem_89 rfl ?_
      refine R_iload_n (pc := 90) dX2_takeItem_90 rfl ?_
      refine R_iload_n (pc := 91) dX2_takeItem_91 rfl ?_
      refine R_iload (pc := 92) dX2_takeItem_92 rfl ?_
      refine R_V3 (pc := 94) dX2_takeItem_94 sv_RX2_73 (k_takeTold b sh _ m hm a e d ha (he' (by omega)) (hd' (by omega)) (by rw [u0 (by omega)]; exact h1) (by rw [u0 (by omega)]; exact h2) (by rw [u0 (by omega)]; exact h3)) hm.1 (Nat.le_of_ble_eq_true rfl) (by decide) (fun v_94 M_94 hq_94 => ?_)
      obtain ⟨rfl, rfl⟩ := hq_94
      refine R_zret (pc := 97) dX2_takeItem_97 (by split <;> omega) ?_
      subst hc_0
      have ek : okI (moC M m) bey 100 a e d = true ↔ M m 8 < 8 ∧ a ≤ 9 ∧ e < M m 2 ∧ d < M m 5 := by
        rw [okI_100, moC_3, moC_1, moC_2]
      have ew : up M m 14 1 m 8 = M m 8 := u0 (by omega)
      have ew2 : up M m 14 1 m 2 = M m 2 := u0 (by omega)
      have ew3 : up M m 14 1 m 5 = M m 5 := u0 (by omega)
      by_cases hok : M m 8 < 8 ∧ a ≤ 9 ∧ e < M m 2 ∧ d < M m 5
      · rw [if_pos (by rw [ew, ew2, ew3]; exact hok), if_pos (by rw [ew, ew2, ew3]; exact hok)]
        refine ⟨by rw [if_pos (ek.mpr hok)], OffM_up (OffM_up (OffM_up (OffM_up (OffM_up hoff (by omega)) (by omega)) (by omega)) (by omega)) (by omega), fun ho => ?_⟩
        have e1 : moC (up (up (up (up (up M m 14 1) (m + 6) (up M m 14 1 m 8) a) (m + 7) (up M m 14 1 m 8) e) (m + 8) (up M m 14 1 m 8) d) m 8 (up M m 14 1 m 8 + 1)) m = moI (moC M m) 100 a e d := by rw [Lm_d (by rw [ew]; omega), Lm_b]; rfl
        exact ⟨e1, by rw [e1]; exact wfI ho, by rw [up_j (by omega), up_k (by omega), up_k (by omega), up_k (by omega), up_s, if_neg (by omega)], by rw [if_neg (by omega)]; omega, by rw [up_j (by omega), up_k (by omega), up_k (by omega), up_k (by omega), up_j (by omega)]; exact h13⟩
      · rw [if_neg (by rw [ew, ew2, ew3]; exact hok), if_neg (by rw [ew, ew2, ew3]; exact hok)]
        exact ⟨by rw [if_neg (fun q => hok (ek.mp q))], OffM_up hoff (by omega), fun ho => absurd (ek.mp ho) hok⟩
    by_cases hc_1 : c = 102
    · refine R_look (off := 80) (tgt := 98) dX2_takeItem_18 (by decide) (by omega) (by rw [hc_1]; rfl) (by decide) ?_
      refine R_aload_n (pc := 98) dX2_takeItem_98 rfl ?_
      refine R_iload_n (pc := 99) dX2_takeItem_99 rfl ?_
      refine R_iload_n (pc := 100) dX2_takeItem_100 rfl ?_
      refine R_V2 (pc := 101) dX2_takeItem_101 sv_RX2_77 (k_takeFog b sh _ m hm a e ha (he' (by omega)) (by rw [u0 (by omega)]; exact h4) (by rw [u0 (by omega)]; exact h13)) hm.1 (Nat.le_of_ble_eq_true rfl) (by decide) (fun v_101 M_101 hq_101 => ?_)
      obtain ⟨rfl, rfl⟩ := hq_101
      refine R_zret (pc := 104) dX2_takeItem_104 (by split <;> omega) ?_
      subst hc_1
      have ek : okI (moC M m) bey 102 a e d = true ↔ M m 12 < 2 ∧ a ≤ e ∧ e ≤ 9 := by
        rw [okI_102, moC_4]
      have ew : up M m 14 1 m 12 = M m 12 := u0 (by omega)
      have ew2 : up M m 14 1 m 13 = M m 13 := u0 (by omega)
      by_cases hok : M m 12 < 2 ∧ a ≤ e ∧ e ≤ 9
      · rw [if_pos (by rw [ew]; exact hok), if_pos (by rw [ew]; exact hok)]
        refine ⟨by rw [if_pos (ek.mpr hok)], OffM_up (OffM_up (OffM_up hoff (by omega)) (by omega)) (by omega), fun ho => ?_⟩
        have e1 : moC (up (up (up M m 14 1) m 12 (up M m 14 1 m 12 + 1)) m 13 (fgS (up M m 14 1 m 13) a (e - a + 1).toNat)) m = moI (moC M m) 102 a e d := by rw [Lm_f (by rw [ew2]; exact h13) (by omega), Lm_b]; rfl
        have g13 := fgS_in (x := up M m 14 1 m 13) (a := a) (by rw [ew2]; exact h13) ha.1 (e - a + 1).toNat (by omega)
        exact ⟨e1, by rw [e1]; exact wfI ho, by rw [up_j (by omega), up_j (by omega), up_s, if_neg (by omega)], by rw [if_neg (by omega)]; omega, by rw [up_s]; exact g13⟩
      · rw [if_neg (by rw [ew]; exact hok), if_neg (by rw [ew]; exact hok)]
        exact ⟨by rw [if_neg (fun q => hok (ek.mp q))], OffM_up hoff (by omega), fun ho => absurd (ek.mp ho) hok⟩
    by_cases hc_2 : c = 112
    · refine R_look (off := 50) (tgt := 68) dX2_takeItem_18 (by decide) (by omega) (by rw [hc_2]; rfl) (by decide) ?_
      refine R_aload_n (pc := 68) dX2_takeItem_68 rfl ?_
      refine R_iload_n (pc := 69) dX2_takeItem_69 rfl ?_
      refine R_iload_n (pc := 70) dX2_takeItem_70 rfl ?_
      refine R_V2 (pc := 71) dX2_takeItem_71 sv_RX2_63 (k_takeFirstYard b sh _ m hm a e ha (he' (by omega)) (by rw [u0 (by omega)]; exact h0)) hm.1 (Nat.le_of_ble_eq_true rfl) (by decide) (fun v_71 M_71 hq_71 => ?_)
      obtain ⟨rfl, rfl⟩ := hq_71
      refine R_zret (pc := 74) dX2_takeItem_74 (by split <;> omega) ?_
      subst hc_2
      rw [u0 (by omega)]
      have ek : okI (moC M m) bey 112 a e d = true ↔ 1 ≤ a ∧ a ≤ M m 0 - 2 ∧ e ≤ 60 := by
        rw [okI_112, moC_0]
      by_cases hok : 1 ≤ a ∧ a ≤ M m 0 - 2 ∧ e ≤ 60
      · rw [if_pos hok, if_pos hok]
        refine ⟨by rw [if_pos (ek.mpr hok)], OffM_up (OffM_up hoff (by omega)) (by omega), fun ho => ?_⟩
        have e1 : moC (up (up M m 14 1) (m + 1) a e) m = moI (moC M m) 112 a e d := by rw [Lm_p (by omega), Lm_b]; rfl
        exact ⟨e1, by rw [e1]; exact wfI ho, by rw [up_k (by omega), up_s, if_neg (by omega)], by rw [if_neg (by omega)]; omega, by rw [up_k (by omega), up_j (by omega)]; exact h13⟩
      · rw [if_neg hok, if_neg hok]
        exact ⟨by rw [if_neg (fun q => hok (ek.mp q))], OffM_up hoff (by omega), fun ho => absurd (ek.mp ho) hok⟩
    by_cases hc_3 : c = 116
    · refine R_look (off := 64) (tgt := 82) dX2_takeItem_18 (by decide) (by omega) (by rw [hc_3]; rfl) (by decide) ?_
      refine R_aload_n (pc := 82) dX2_takeItem_82 rfl ?_
      refine R_iload_n (pc := 83) dX2_takeItem_83 rfl ?_
      refine R_iload_n (pc := 84) dX2_takeItem_84 rfl ?_
      refine R_V2 (pc := 85) dX2_takeItem_85 sv_RX2_70 (k_takeThing b sh _ m hm a e ha (he' (by omega)) (by rw [u0 (by omega)]; exact h0) (by rw [u0 (by omega)]; exact h2)) hm.1 (Nat.le_of_ble_eq_true rfl) (by decide) (fun v_85 M_85 hq_85 => ?_)
      obtain ⟨rfl, rfl⟩ := hq_85
      refine R_zret (pc := 88) dX2_takeItem_88 (by split <;> omega) ?_
      subst hc_3
      have ek : okI (moC M m) bey 116 a e d = true ↔ M m 5 < 6 ∧ a < M m 0 ∧ e ≤ 60 := by
        rw [okI_116, moC_2, moC_0]
      have ew : up M m 14 1 m 5 = M m 5 := u0 (by omega)
      have ew2 : up M m 14 1 m 0 = M m 0 := u0 (by omega)
      by_cases hok : M m 5 < 6 ∧ a < M m 0 ∧ e ≤ 60
      · rw [if_pos (by rw [ew, ew2]; exact hok), if_pos (by rw [ew, ew2]; exact hok)]
        refine ⟨by rw [if_pos (ek.mpr hok)], OffM_up (OffM_up (OffM_up (OffM_up hoff (by omega)) (by omega)) (by omega)) (by omega), fun ho => ?_⟩
        have e1 : moC (up (up (up (up M m 14 1) (m + 4) (up M m 14 1 m 5) a) (m + 5) (up M m 14 1 m 5) e) m 5 (up M m 14 1 m 5 + 1)) m = moI (moC M m) 116 a e d := by rw [Lm_t (by rw [ew]; omega), Lm_b]; rfl
        exact ⟨e1, by rw [e1]; exact wfI ho, by rw [up_j (by omega), up_k (by omega), up_k (by omega), up_s, if_neg (by omega)], by rw [if_neg (by omega)]; omega, by rw [up_j (by omega), up_k (by omega), up_k (by omega), up_j (by omega)]; exact h13⟩
      · rw [if_neg (by rw [ew, ew2]; exact hok), if_neg (by rw [ew, ew2]; exact hok)]
        exact ⟨by rw [if_neg (fun q => hok (ek.mp q))], OffM_up hoff (by omega), fun ho => absurd (ek.mp ho) hok⟩
    by_cases hc_4 : c = 119
    · refine R_look (off := 57) (tgt := 75) dX2_takeItem_18 (by decide) (by omega) (by rw [hc_4]; rfl) (by decide) ?_
      refine R_aload_n (pc := 75) dX2_takeItem_75 rfl ?_
      refine R_iload_n (pc := 76) dX2_takeItem_76 rfl ?_
      refine R_iload_n (pc := 77) dX2_takeItem_77 rfl ?_
      refine R_V2 (pc := 78) dX2_takeItem_78 sv_RX2_67 (k_takeWalker b sh _ m hm a e ha (he' (by omega)) (by rw [u0 (by omega)]; exact h1)) hm.1 (Nat.le_of_ble_eq_true rfl) (by decide) (fun v_78 M_78 hq_78 => ?_)
      obtain ⟨rfl, rfl⟩ := hq_78
      refine R_zret (pc := 81) dX2_takeItem_81 (by split <;> omega) ?_
      subst hc_4
      have ek : okI (moC M m) bey 119 a e d = true ↔ M m 2 < 4 ∧ a ≤ 4 ∧ e ≤ 9 := by
        rw [okI_119, moC_1]
      have ew : up M m 14 1 m 2 = M m 2 := u0 (by omega)
      by_cases hok : M m 2 < 4 ∧ a ≤ 4 ∧ e ≤ 9
      · rw [if_pos (by rw [ew]; exact hok), if_pos (by rw [ew]; exact hok)]
        refine ⟨by rw [if_pos (ek.mpr hok)], OffM_up (OffM_up (OffM_up (OffM_up hoff (by omega)) (by omega)) (by omega)) (by omega), fun ho => ?_⟩
        have e1 : moC (up (up (up (up M m 14 1) (m + 2) (up M m 14 1 m 2) a) (m + 3) (up M m 14 1 m 2) e) m 2 (up M m 14 1 m 2 + 1)) m = moI (moC M m) 119 a e d := by rw [Lm_w (by rw [ew]; omega), Lm_b]; rfl
        exact ⟨e1, by rw [e1]; exact wfI ho, by rw [up_j (by omega), up_k (by omega), up_k (by omega), up_s, if_neg (by omega)], by rw [if_neg (by omega)]; omega, by rw [up_j (by omega), up_k (by omega), up_k (by omega), up_j (by omega)]; exact h13⟩
      · rw [if_neg (by rw [ew]; exact hok), if_neg (by rw [ew]; exact hok)]
        exact ⟨by rw [if_neg (fun q => hok (ek.mp q))], OffM_up hoff (by omega), fun ho => absurd (ek.mp ho) hok⟩
    refine R_look (off := 87) (tgt := 105) dX2_takeItem_18 (by decide) (by omega) (by simp [Op.lookupswitch.offset_cons, Op.lookupswitch.offset_nil]; omega) (by decide) ?_
    refine R_iconst (pc := 105) dX2_takeItem_105 ?_
    refine R_zret (pc := 106) dX2_takeItem_106 (by first | exact Or.inl rfl | exact Or.inr rfl | omega) ?_
    have hno : ¬ okI (moC M m) bey c a e d = true := okI_no (by omega)
    exact ⟨by rw [if_neg hno], OffM_up hoff (by omega), fun ho => absurd ho hno⟩
  · refine R_aload_n (pc := 6) dX2_takeItem_6 rfl ?_
    refine R_iload_n (pc := 7) dX2_takeItem_7 rfl ?_
    refine R_V1i (pc := 8) dX2_takeItem_8 sv_RX2_59 hm.1 (k_takePosts b sh M m hm a ha (by omega)) (Nat.le_of_ble_eq_true rfl) (by decide) ?_
    refine R_zret (pc := 11) dX2_takeItem_11 (by split <;> omega) ?_
    have hc110 : c = 110 := by omega
    subst hc110
    have ek : okI (moC M m) bey 110 a e d = true ↔ M m 14 = 0 ∧ 5 ≤ a ∧ a ≤ 16 := by
      rw [okI_110, ← h14]
    by_cases hok : M m 14 = 0 ∧ 5 ≤ a ∧ a ≤ 16
    · rw [if_pos hok, if_pos hok]
      refine ⟨by rw [if_pos (ek.mpr hok)], OffM_up hoff (by omega), fun ho => ?_⟩
      have e1 : moC (up M m 0 a) m = moI (moC M m) 110 a e d := Lm_n
      exact ⟨e1, by rw [e1]; exact wfI ho, by rw [up_j (by omega), if_pos rfl]; exact h14, by rw [if_pos rfl]; exact hbey, by rw [up_j (by omega)]; exact h13⟩
    · rw [if_neg hok, if_neg hok]
      exact ⟨by rw [if_neg (fun q => hok (ek.mp q))], hoff, fun ho => absurd (ek.mp ho) hok⟩
