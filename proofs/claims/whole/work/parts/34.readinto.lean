def QCl (M : Mem) (m : Nat) : Option Value → Mem → Prop := fun v M' => v = none ∧ OffM m M M' ∧ moC M' m = mo0 ∧ PW M' m 0
theorem moC_mo0 {N : Mem} {m : Nat} (h0 : N m 0 = 9) (h2 : N m 2 = 0) (h5 : N m 5 = 0) (h8 : N m 8 = 0) (h12 : N m 12 = 0) (h13 : N m 13 = 0) (hf : ∀ j, 0 ≤ j → j < 16 → N (m + 1) j = 30) : moC N m = mo0 := by
  funext k i
  rcases ten k with rfl | rfl | rfl | rfl | rfl | rfl | rfl | rfl | rfl | rfl | hk
  case inr.inr.inr.inr.inr.inr.inr.inr.inr.inr =>
    rw [moC_big hk]
    unfold mo0
    rw [if_neg (by omega), if_neg (by omega)]
  case inr.inl =>
    by_cases hi : 0 ≤ i ∧ i < 16
    · rw [moC_f hi, hf i hi.1 hi.2]; simp [mo0, hi]
    · simp [moC, capC, mo0, hi]
  all_goals
    simp [moC, capC, mo0, h0, h2, h5, h8, h12, h13, sb]
  all_goals
    repeat' split
    all_goals first | rfl | omega
theorem k_mclear (b : Nat) (sh : Shp) (M : Mem) (m : Nat) (hm : isMo sh m) : C0 0 mX2_clear b sh M [vr b m] (QCl M m) := by
  have L : ∀ (n : Nat) (i : Int) (N : Mem), 0 ≤ i → i ≤ 16 → 16 - i < n → OffM m M N → (N m 0 = 9 ∧ N m 2 = 0 ∧ N m 5 = 0 ∧ N m 8 = 0 ∧ N m 12 = 0 ∧ N m 13 = 0 ∧ N m 14 = 0) → (∀ j, 0 ≤ j → j < i → N (m + 1) j = 30) → MW yX2_clear cX2_clear 2 none (rmD 0 0 0) (FM (QCl M m) b sh 0 0) b sh.length 0 0 38 [some (vr b m), some (vi i)] [] sh (N) := by
    intro n
    induction n with
    | zero => intro i N h1 h2 h3; exact absurd h3 (by omega)
    | succ n ih =>
      intro i N h1 h2 h3 hoff hs hf
      refine R_iload_n (pc := 38) dX2_clear_38 rfl ?_
      refine R_bipush (pc := 39) dX2_clear_39 rfl ?_
      refine R_cmp_ge (pc := 41) (tgt := 58) dX2_clear_41 (by decide) (by omega) (fun h_41 => ?_) (fun h_41 => ?_)
      · refine R_vret (pc := 58) dX2_clear_58 ?_
        obtain ⟨g0, g2, g5, g8, g12, g13, g14⟩ := hs
        have e := moC_mo0 (N := N) (m := m) g0 g2 g5 g8 g12 g13 (fun j a c => hf j a (by omega))
        exact ⟨rfl, hoff, e, by rw [e]; exact WFm_0, g14, Or.inl rfl, by rw [g13]; omega, by rw [g13]; omega⟩
      · refine R_aload_n (pc := 44) dX2_clear_44 rfl ?_
        refine R_getR (pc := 45) dX2_clear_45 fl_RX2_9 rfl hm.1 rfl ?_
        refine R_iload_n (pc := 48) dX2_clear_48 rfl ?_
        refine R_bipush (pc := 49) dX2_clear_49 rfl ?_
        refine R_iast (pc := 51) dX2_clear_51 hm.2.1 (by omega) (by omega) ?_
        refine R_iinc dX2_clear_52 rfl (by decide) rfl rfl ?_
        refine R_goto (tgt := 38) dX2_clear_55 (by decide) ?_
        refine ih (i + 1) _ (by omega) (by omega) (by omega) (OffM_up hoff (by omega)) ?_ (fun j a c => ?_)
        · rw [up_k (by omega), up_k (by omega), up_k (by omega), up_k (by omega), up_k (by omega), up_k (by omega), up_k (by omega)]
          exact hs
        · by_cases hji : j = i
          · rw [hji, up_s]
          · rw [up_j hji]; exact hf j a (by omega)
  refine MC_of (ls := [some (vr b m), none]) (by decide) rfl (Nat.le_of_ble_eq_true rfl) ?_
  refine R_aload_n (pc := 0) dX2_clear_0 rfl ?_
  refine R_bipush (pc := 1) dX2_clear_1 rfl ?_
  refine R_putI (pc := 3) (J := 0) rfl dX2_clear_3 fl_RX2_36 rfl (fun r h => by cases h; rfl) hm.1 (by omega) ?_
  refine R_aload_n (pc := 6) dX2_clear_6 rfl ?_
  refine R_iconst (pc := 7) dX2_clear_7 ?_
  refine R_putI (pc := 8) (J := 2) rfl dX2_clear_8 fl_RX2_40 rfl (fun r h => by cases h; rfl) hm.1 (by omega) ?_
  refine R_aload_n (pc := 11) dX2_clear_11 rfl ?_
  refine R_iconst (pc := 12) dX2_clear_12 ?_
  refine R_putI (pc := 13) (J := 5) rfl dX2_clear_13 fl_RX2_43 rfl (fun r h => by cases h; rfl) hm.1 (by omega) ?_
  refine R_aload_n (pc := 16) dX2_clear_16 rfl ?_
  refine R_iconst (pc := 17) dX2_clear_17 ?_
  refine R_putI (pc := 18) (J := 8) rfl dX2_clear_18 fl_RX2_46 rfl (fun r h => by cases h; rfl) hm.1 (by omega) ?_
  refine R_aload_n (pc := 21) dX2_clear_21 rfl ?_
  refine R_iconst (pc := 22) dX2_clear_22 ?_
  refine R_putI (pc := 23) (J := 12) rfl dX2_clear_23 fl_RX2_49 rfl (fun r h => by cases h; rfl) hm.1 (by omega) ?_
  refine R_aload_n (pc := 26) dX2_clear_26 rfl ?_
  refine R_iconst (pc := 27) dX2_clear_27 ?_
  refine R_putI (pc := 28) (J := 13) rfl dX2_clear_28 fl_RX2_52 rfl (fun r h => by cases h; rfl) hm.1 (by omega) ?_
  refine R_aload_n (pc := 31) dX2_clear_31 rfl ?_
  refine R_iconst (pc := 32) dX2_clear_32 ?_
  refine R_putZ (pc := 33) (J := 14) rfl dX2_clear_33 fl_RX2_55 rfl (fun r h => by cases h; rfl) hm.1 (by omega) ?_
  refine R_iconst (pc := 36) dX2_clear_36 ?_
  refine R_istore_n (pc := 37) dX2_clear_37 (by decide) rfl rfl ?_
  refine L 20 0 _ (by omega) (by omega) (by omega) ?_ ?_ (fun j a c => by omega)
  · exact OffM_up (OffM_up (OffM_up (OffM_up (OffM_up (OffM_up (OffM_up (fun _ _ => rfl) (by omega)) (by omega)) (by omega)) (by omega)) (by omega)) (by omega)) (by omega)
  · simp [up]
theorem okI_c {mo : Mo} {bey c a e e' d d' : Int} (h1 : c ≠ 110 → e = e') (h2 : c = 100 → d = d') : okI mo bey c a e d = okI mo bey c a e' d' ∧ (okI mo bey c a e d = true → moI mo c a e d = moI mo c a e' d') := by
  by_cases c0 : c = 110
  · subst c0
    exact ⟨by simp [okI], fun _ => rfl⟩
  · have := h1 c0
    subst this
    by_cases c1 : c = 100
    · have := h2 c1
      subst this
      exact ⟨rfl, fun _ => rfl⟩
    · refine ⟨by simp [okI, c1], fun _ => by simp [moI, c1]⟩
def QR (M : Mem) (m : Nat) : Option Value → Mem → Prop := fun v M' => v = some (vi (rdg (txC M) (M 1 1)).1) ∧ (∀ k, k ≠ 4 → (k < m ∨ m + 8 < k) → M' k = M k) ∧ ((rdg (txC M) (M 1 1)).1 = -4 → moC M' m = (rdg (txC M) (M 1 1)).2 ∧ WFm (moC M' m) ∧ 0 ≤ M' m 13 ∧ M' m 13 < 1024)
theorem moC_o4 {N N' : Mem} {m : Nat} (hm : m = 5 ∨ m = 14) (h : ∀ k, k ≠ 4 → N' k = N k) : moC N' m = moC N m := by
  funext a i
  unfold moC capC
  rw [h m (by omega), h (m + a) (by omega)]
theorem prs_x {tx : Rd} {n p bey : Int} {mo : Mo} {F : Nat} (h : ¬ p < n) : prs tx n F p mo bey = (-4, mo) := by
  cases F with
  | zero => rfl
  | succ F => unfold prs; rw [if_neg h]
theorem k_readInto (b : Nat) (sh : Shp) (M : Mem) (m : Nat) (hsh : Hc sh) (hm : isMo sh m) (hM : ∀ k j, inR (M k j)) (hz : 0 ≤ M 1 1 ∧ M 1 1 ≤ 200) : C0 4 mX3_readInto b sh M [vr b 3, vr b m] (QR M m) := by
  have hm2 : m = 5 ∨ m = 14 := hm.2.2.2.2.2.2.2.2.2
  have hexit : ∀ (F : Nat) (it p bey : Int) (N : Mem), ¬ p < M 1 1 → 0 ≤ it → it ≤ p → p ≤ 2000 → (∀ k, k ≠ 4 → (k < m ∨ m + 8 < k) → N k = M k) → PW N m bey → prs (txC M) (M 1 1) F p (moC N m) bey = rdg (txC M) (M 1 1) → MW yX3_readInto cX3_readInto 6 (some .int) (rmD 4 0 0) (FM (QR M m) b sh 0 0) b sh.length 0 0 8 [some (vr b 3), some (vr b m), some (vi p), some (vi it), none, none] [] sh (N) := by
    intro F it p bey N hp h2 h3 hp2 hN hw hr
    have hN1 : N 1 1 = M 1 1 := by rw [hN 1 (by omega) (by omega)]
    have hfin : QR M m (some (vi (-4))) N := by
      rw [prs_x hp] at hr
      exact ⟨by rw [← hr], hN, fun _ => ⟨by rw [← hr], hw.1, hw.2.2.2⟩⟩
    refine R_iload_n (pc := 8) dX3_readInto_8 rfl ?_
    refine R_sipush (pc := 9) dX3_readInto_9 rfl ?_
    refine R_cmp_ge (pc := 12) (tgt := 94) dX3_readInto_12 (by decide) (by omega) (fun h_12 => ?_) (fun h_12 => ?_)
    · refine R_bipush (pc := 94) dX3_readInto_94 rfl ?_
      refine R_iret (pc := 96) dX3_readInto_96 ?_
      exact hfin
    · refine R_iload_n (pc := 15) dX3_readInto_15 rfl ?_
      refine R_aload_n (pc := 16) dX3_readInto_16 rfl ?_
      refine R_getR (pc := 17) dX3_readInto_17 fl_RX3_15 rfl (hsh _ _ rfl) rfl ?_
      refine R_getI (pc := 20) (J := 1) dX3_readInto_20 fl_RX3_24 rfl rfl (hsh _ _ rfl) (hN1) ?_
      refine R_cmp_ge (pc := 23) (tgt := 94) dX3_readInto_23 (by decide) (by omega) (fun h_23 => ?_) (fun h_23 => ?_)
      · refine R_bipush (pc := 94) dX3_readInto_94 rfl ?_
        refine R_iret (pc := 96) dX3_readInto_96 ?_
        exact hfin
      · exact absurd h_23 (by omega)
  have L : ∀ (F : Nat) (it p bey : Int) (N : Mem), M 1 1 - p < F → 0 ≤ it → it ≤ p → p ≤ 2000 → (∀ k, k ≠ 4 → (k < m ∨ m + 8 < k) → N k = M k) → PW N m bey → prs (txC M) (M 1 1) F p (moC N m) bey = rdg (txC M) (M 1 1) → MW yX3_readInto cX3_readInto 6 (some .int) (rmD 4 0 0) (FM (QR M m) b sh 0 0) b sh.length 0 0 8 [some (vr b 3), some (vr b m), some (vi p), some (vi it), none, none] [] sh (N) := by
    intro F
    induction F with
    | zero =>
      intro it p bey N h1 h2 h3 hp2 hN hw hr
      exact hexit 0 it p bey N (by omega) h2 h3 hp2 hN hw hr
    | succ F ih =>
      intro it p bey N h1 h2 h3 hp2 hN hw hr
      by_cases hp : p < M 1 1
      case neg => exact hexit (F + 1) it p bey N hp h2 h3 hp2 hN hw hr
      have hN1 : N 1 1 = M 1 1 := by rw [hN 1 (by omega) (by omega)]
      have et : txC N = txC M := txC_o (hN 1 (by omega) (by omega)) (hN 2 (by omega) (by omega))
      have hzN : 0 ≤ N 1 1 ∧ N 1 1 ≤ 200 := by rw [hN1]; exact hz
      unfold prs at hr
      rw [if_pos hp] at hr
      have htp := txC_R hM p
      have hnb : 0 ≤ nb (txC M p) ∧ nb (txC M p) ≤ 3 := by simp only [nb]; omega
      have hbad : ¬ (okn (txC M) (p + 1) (nb (txC M p)) (nb (txC M p)).toNat = true ∧ okI (moC N m) bey (txC M p) (nv (txC M) (ps (txC M) (p + 1) 0)) (nv (txC M) (ps (txC M) (p + 1) 1)) (nv (txC M) (ps (txC M) (p + 1) 2)) = true) → ∀ N', (∀ k, k ≠ 4 → (k < m ∨ m + 8 < k) → N' k = M k) → QR M m (some (vi p)) N' := by
        intro hno N' hN'
        rw [if_neg hno] at hr
        exact ⟨by rw [← hr], hN', fun h4 => by rw [← hr] at h4; exact absurd h4 (by show ¬ p = -4; omega)⟩
      have hge := ps_ge (tx := txC M) (p := p + 1) (nb (txC M p)).toNat
      have J2 : ∀ N1 : Mem, (∀ k, k ≠ 4 → N1 k = N k) → ¬ (1 ≤ nb (txC M p) ∧ okn (txC M) (p + 1) (nb (txC M p)) (nb (txC M p)).toNat = true) → MW yX3_readInto cX3_readInto 6 (some .int) (rmD 4 0 0) (FM (QR M m) b sh 0 0) b sh.length 0 0 48 [some (vr b 3), some (vr b m), some (vi p), some (vi it), some (vi (txC M p)), none] [vi (-1)] sh (N1) := by
        intro N1 hof hno
        refine R_istore (pc := 48) dX3_readInto_48 (by decide) rfl rfl ?_
        refine R_iload (pc := 50) dX3_readInto_50 rfl ?_
        refine R_iconst (pc := 52) dX3_readInto_52 ?_
        refine R_cmp_eq (pc := 53) (tgt := 83) dX3_readInto_53 (by decide) (by omega) (fun _ => ?_) (fun h => absurd h (by decide))
        refine R_iload_n (pc := 83) dX3_readInto_83 rfl ?_
        refine R_iret (pc := 84) dX3_readInto_84 ?_
        refine hbad (fun q => ?_) N1 (fun k h4 hk => (hof k h4).trans (hN k h4 hk))
        by_cases h1n : 1 ≤ nb (txC M p)
        · exact hno ⟨h1n, q.1⟩
        · exact okI_no (by simp only [nb] at h1n; omega) q.2
      have J1 : ∀ N1 : Mem, (∀ k, k ≠ 4 → N1 k = N k) → (1 ≤ nb (txC M p) ∧ okn (txC M) (p + 1) (nb (txC M p)) (nb (txC M p)).toNat = true) → (∀ i : Nat, (i : Int) < nb (txC M p) → N1 4 i = nv (txC M) (ps (txC M) (p + 1) i)) → MW yX3_readInto cX3_readInto 6 (some .int) (rmD 4 0 0) (FM (QR M m) b sh 0 0) b sh.length 0 0 48 [some (vr b 3), some (vr b m), some (vi p), some (vi it), some (vi (txC M p)), none] [vi (ps (txC M) (p + 1) (nb (txC M p)).toNat)] sh (N1) := by
        intro N1 hof hgood hvs
        have hmN : moC N1 m = moC N m := moC_o4 hm2 hof
        have hwN : PW N1 m bey := by
          have hq := hof m (by omega)
          exact ⟨by rw [hmN]; exact hw.1, by rw [hq]; exact hw.2.1, hw.2.2.1, by rw [hq]; exact hw.2.2.2⟩
        have v0 := hvs 0 (by omega)
        have b0 := okn_v (j := 0) (by omega) hgood.2
        have v1 : txC M p ≠ 110 → N1 4 1 = nv (txC M) (ps (txC M) (p + 1) 1) ∧ 0 ≤ N1 4 1 ∧ N1 4 1 ≤ 99 := fun h => by
          have hn : 2 ≤ nb (txC M p) := by have := hgood.1; simp only [nb] at this ⊢; omega
          have g := hvs 1 (by omega)
          have g2 := okn_v (j := 1) (by omega) hgood.2
          exact ⟨g, by rw [show N1 4 1 = _ from g]; exact g2⟩
        have v2 : txC M p = 100 → N1 4 2 = nv (txC M) (ps (txC M) (p + 1) 2) ∧ 0 ≤ N1 4 2 ∧ N1 4 2 ≤ 99 := fun h => by
          have hn : 3 ≤ nb (txC M p) := by simp only [nb]; omega
          have g := hvs 2 (by omega)
          have g2 := okn_v (j := 2) (by omega) hgood.2
          exact ⟨g, by rw [show N1 4 2 = _ from g]; exact g2⟩
        obtain ⟨c1, c2⟩ := okI_c (mo := moC N m) (bey := bey) (c := txC M p) (a := nv (txC M) (ps (txC M) (p + 1) 0)) (fun h => (v1 h).1) (fun h => (v2 h).1)
        refine R_rng fun hNr => ?_
        have r1 := hNr 4 1
        have r2 := hNr 4 2
        refine R_istore (pc := 48) dX3_readInto_48 (by decide) rfl rfl ?_
        refine R_iload (pc := 50) dX3_readInto_50 rfl ?_
        refine R_iconst (pc := 52) dX3_readInto_52 ?_
        refine R_cmp_eq (pc := 53) (tgt := 83) dX3_readInto_53 (by decide) (by omega) (fun h_53 => ?_) (fun h_53 => ?_)
        · exact absurd h_53 (by omega)
        · refine R_aload_n (pc := 56) dX3_readInto_56 rfl ?_
          refine R_iload (pc := 57) dX3_readInto_57 rfl ?_
          refine R_aload_n (pc := 59) dX3_readInto_59 rfl ?_
          refine R_getR (pc := 60) dX3_readInto_60 fl_RX3_11 rfl (hsh _ _ rfl) rfl ?_
          refine R_iconst (pc := 63) dX3_readInto_63 ?_
          refine R_iald (pc := 64) dX3_readInto_64 (hsh _ _ rfl) (by omega) (v0) ?_
          refine R_aload_n (pc := 65) dX3_readInto_65 rfl ?_
          refine R_getR (pc := 66) dX3_readInto_66 fl_RX3_11 rfl (hsh _ _ rfl) rfl ?_
          refine R_iconst (pc := 69) dX3_readInto_69 ?_
          refine R_iald (pc := 70) dX3_readInto_70 (hsh _ _ rfl) (by omega) (rfl) ?_
          refine R_aload_n (pc := 71) dX3_readInto_71 rfl ?_
          refine R_getR (pc := 72) dX3_readInto_72 fl_RX3_11 rfl (hsh _ _ rfl) rfl ?_
          refine R_iconst (pc := 75) dX3_readInto_75 ?_
          refine R_iald (pc := 76) dX3_readInto_76 (hsh _ _ rfl) (by omega) (rfl) ?_
          refine R_V4 (pc := 77) dX3_readInto_77 sv_RX3_41 (k_takeItem b sh N1 m hm bey hwN (txC M p) _ _ _ htp b0 r1 (fun h => (v1 h).2) r2 (fun h => (v2 h).2)) hm.1 (Nat.le_of_ble_eq_true rfl) (by decide) (fun v_77 M_77 hq_77 => ?_)
          obtain ⟨rfl, hoff, hok⟩ := hq_77
          rw [hmN, c1] at hok ⊢
          have hoff2 : ∀ k, k ≠ 4 → (k < m ∨ m + 8 < k) → M_77 k = M k := fun k h4 hk => (hoff k hk).trans ((hof k h4).trans (hN k h4 hk))
          refine R_if_ne (pc := 80) (tgt := 85) dX3_readInto_80 (by decide) (by split <;> omega) (fun h_80 => ?_) (fun h_80 => ?_)
          · have hoki : okI (moC N m) bey (txC M p) (nv (txC M) (ps (txC M) (p + 1) 0)) (nv (txC M) (ps (txC M) (p + 1) 1)) (nv (txC M) (ps (txC M) (p + 1) 2)) = true := by
              by_cases hh : okI (moC N m) bey (txC M p) (nv (txC M) (ps (txC M) (p + 1) 0)) (nv (txC M) (ps (txC M) (p + 1) 1)) (nv (txC M) (ps (txC M) (p + 1) 2)) = true
              · exact hh
              · rw [if_neg hh] at h_80; omega
            obtain ⟨e1, e2⟩ := hok hoki
            rw [c2 (by rw [c1]; exact hoki)] at e1
            rw [if_pos ⟨hgood.2, hoki⟩, ← e1] at hr
            refine R_iload (pc := 85) dX3_readInto_85 rfl ?_
            refine R_istore_n (pc := 87) dX3_readInto_87 (by decide) rfl rfl ?_
            refine R_iinc (pc := 88) dX3_readInto_88 rfl (by decide) rfl rfl ?_
            refine R_goto (pc := 91) (tgt := 8) dX3_readInto_91 (by decide) ?_
            refine R_drop 4 rfl ?_
            refine R_drop 5 rfl ?_
            exact ih (it + 1) _ _ _ (by omega) (by omega) (by omega) (by omega) hoff2 e2 hr
          · refine R_iload_n (pc := 83) dX3_readInto_83 rfl ?_
            refine R_iret (pc := 84) dX3_readInto_84 ?_
            exact hbad (fun q => by rw [if_pos q.2] at h_80; omega) _ hoff2
      refine R_rng fun hNr => ?_
      refine R_iload_n (pc := 8) dX3_readInto_8 rfl ?_
      refine R_sipush (pc := 9) dX3_readInto_9 rfl ?_
      refine R_cmp_ge (pc := 12) (tgt := 94) dX3_readInto_12 (by decide) (by omega) (fun h_12 => ?_) (fun h_12 => ?_)
      · exact absurd h_12 (by omega)
      · refine R_iload_n (pc := 15) dX3_readInto_15 rfl ?_
        refine R_aload_n (pc := 16) dX3_readInto_16 rfl ?_
        refine R_getR (pc := 17) dX3_readInto_17 fl_RX3_15 rfl (hsh _ _ rfl) rfl ?_
        refine R_getI (pc := 20) (J := 1) dX3_readInto_20 fl_RX3_24 rfl rfl (hsh _ _ rfl) (hN1) ?_
        refine R_cmp_ge (pc := 23) (tgt := 94) dX3_readInto_23 (by decide) (by omega) (fun h_23 => ?_) (fun h_23 => ?_)
        · exact absurd h_23 (by omega)
        · refine R_aload_n (pc := 26) dX3_readInto_26 rfl ?_
          refine R_getR (pc := 27) dX3_readInto_27 fl_RX3_15 rfl (hsh _ _ rfl) rfl ?_
          refine R_iload_n (pc := 30) dX3_readInto_30 rfl ?_
          refine R_V1i (pc := 31) dX3_readInto_31 sv_RX3_30 (hsh _ _ rfl) (k_signAt b sh N hsh hzN p (by omega)) (Nat.le_of_ble_eq_true rfl) (by decide) ?_
          rw [et]
          refine R_istore (pc := 34) dX3_readInto_34 (by decide) rfl rfl ?_
          refine R_aload_n (pc := 36) dX3_readInto_36 rfl ?_
          refine R_iload_n (pc := 37) dX3_readInto_37 rfl ?_
          refine R_iconst (pc := 38) dX3_readInto_38 ?_
          refine R_iadd (pc := 39) dX3_readInto_39 ?_
          refine R_iload (pc := 40) dX3_readInto_40 rfl ?_
          refine R_S1i (pc := 42) dX3_readInto_42 ss_RX3_34 (k_numbersBehind b sh N _ htp) (Nat.le_of_ble_eq_true rfl) (by decide) ?_
          refine R_V2 (pc := 45) dX3_readInto_45 sv_RX3_37 (k_readNumbers b sh N hsh hNr hzN (p + 1) (nb (txC M p)) (by omega) hnb) (hsh _ _ rfl) (Nat.le_of_ble_eq_true rfl) (by decide) (fun v_45 M_45 hq_45 => ?_)
          obtain ⟨rfl, hof, hvs⟩ := hq_45
          rw [et] at hvs ⊢
          by_cases hgood : 1 ≤ nb (txC M p) ∧ okn (txC M) (p + 1) (nb (txC M p)) (nb (txC M p)).toNat = true
          · rw [if_pos hgood]
            exact J1 _ hof hgood (hvs hgood.2)
          · rw [if_neg hgood]
            exact J2 _ hof hgood
  refine MC_of (ls := [some (vr b 3), some (vr b m), none, none, none, none]) (by decide) rfl (Nat.le_of_ble_eq_true rfl) ?_
  refine R_aload_n (pc := 0) dX3_readInto_0 rfl ?_
  refine R_V0 (pc := 1) dX3_readInto_1 sv_RX3_19 (k_mclear b sh M m hm) hm.1 (Nat.le_of_ble_eq_true rfl) (by decide) (fun v_1 M_1 hq_1 => ?_)
  obtain ⟨rfl, hoff, hmo, hpw⟩ := hq_1
  refine R_iconst (pc := 4) dX3_readInto_4 ?_
  refine R_istore_n (pc := 5) dX3_readInto_5 (by decide) rfl rfl ?_
  refine R_iconst (pc := 6) dX3_readInto_6 ?_
  refine R_istore_n (pc := 7) dX3_readInto_7 (by decide) rfl rfl ?_
  refine L 201 0 0 0 _ (by omega) (by omega) (by omega) (by omega) (fun k _ hk => hoff k hk) hpw ?_
  rw [hmo]
  rfl
