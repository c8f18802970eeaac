/-! the reference's reading, the methods -/
theorem j_letterAt (b : Nat) (sh : Shp) (M : Mem) (hsh : Hm sh) (hn : 0 ≤ M 72 5 ∧ M 72 5 ≤ 200) (k : Int) (hk : 0 ≤ k ∧ k ≤ 100000) : Ex 0 mX8_letterAt b sh M [vr b 72, vi k] (some (vi (if k < M 72 5 then txM M k else -1))) M := by
  have e : k < M 72 5 → M 75 k = txM M k := fun h => by unfold txM; rw [if_pos ⟨hk.1, h⟩]
  refine MC_of (ls := [some (vr b 72), some (vi k)]) (by decide) rfl (Nat.le_of_ble_eq_true rfl) ?_
  refine R_iload_n (pc := 0) dX8_letterAt_0 rfl ?_
  refine R_aload_n (pc := 1) dX8_letterAt_1 rfl ?_
  refine R_getI (pc := 2) (J := 5) dX8_letterAt_2 fl_RX8_90 rfl rfl (hsh _ _ rfl) (rfl) ?_
  refine R_cmp_ge (pc := 5) (tgt := 17) dX8_letterAt_5 (by decide) (by omega) (fun h_5 => ?_) (fun h_5 => ?_)
  · refine R_iconst (pc := 17) dX8_letterAt_17 ?_
    refine R_iret (pc := 18) dX8_letterAt_18 ?_
    exact eqi (by omega) rfl
  · refine R_aload_n (pc := 8) dX8_letterAt_8 rfl ?_
    refine R_getR (pc := 9) dX8_letterAt_9 fl_RX8_16 rfl (hsh _ _ rfl) rfl ?_
    refine R_iload_n (pc := 12) dX8_letterAt_12 rfl ?_
    refine R_iald (pc := 13) dX8_letterAt_13 (hsh _ _ rfl) (by omega) (e (by omega)) ?_
    refine R_goto (pc := 14) (tgt := 18) dX8_letterAt_14 (by decide) ?_
    refine R_iret (pc := 18) dX8_letterAt_18 ?_
    exact eqi (by omega) rfl
theorem txM_z {M : Mem} {k : Int} (h : M 72 5 ≤ k) : txM M k = 0 := by unfold txM; rw [if_neg (by omega)]
theorem txM_R {M : Mem} (hM : ∀ k j, inR (M k j)) (p : Int) : inR (txM M p) := by
  unfold txM
  split
  · exact hM _ _
  · omega
def OfT (M N : Mem) : Prop := ∀ c j, ¬ (c = 72 ∧ j = 6) → c ≠ 76 → N c j = M c j
theorem OfT_r {M : Mem} : OfT M M := fun _ _ _ _ => rfl
theorem OfT_6 {M N : Mem} {x : Int} (h : OfT M N) : OfT M (up N 72 6 x) := fun c j h1 h2 => by rw [up, if_neg h1]; exact h c j h1 h2
theorem OfT_76 {M N : Mem} {j x : Int} (h : OfT M N) : OfT M (up N 76 j x) := fun c i h1 h2 => by rw [up, if_neg (fun q => h2 q.1)]; exact h c i h1 h2
theorem OfT_tx {M N : Mem} (h : OfT M N) : txM N = txM M ∧ N 72 5 = M 72 5 := by
  have e := h 72 5 (by omega) (by omega)
  refine ⟨?_, e⟩
  unfold txM
  rw [e, funext fun j => h 75 j (by omega) (by omega)]
def QTN (M : Mem) (tx : Rd) (p many : Int) : Option Value → Mem → Prop := fun v N => v = some (vi (if okn tx p many many.toNat = true then 1 else 0)) ∧ OfT M N ∧ (okn tx p many many.toNat = true → N 72 6 = ps tx p many.toNat ∧ ∀ j : Nat, (j : Int) < many → N 76 j = nv tx (ps tx p j))
theorem j_takesNumbers (b : Nat) (sh : Shp) (M : Mem) (hsh : Hm sh) (hn : 0 ≤ M 72 5 ∧ M 72 5 ≤ 200) (many : Int) (hmany : 1 ≤ many ∧ many ≤ 3) (hp : 0 ≤ M 72 6 ∧ M 72 6 ≤ 1000) : C0 1 mX8_takesNumbers b sh M [vr b 72, vi many] (QTN M (txM M) (M 72 6) many) := by
  have hlt : ∀ (N : Mem) (k : Int), OfT M N → 0 ≤ k → k ≤ 100000 → Ex 0 mX8_letterAt b sh N [vr b 72, vi k] (some (vi (if k < M 72 5 then txM M k else -1))) N := fun N k hO k0 k1 => by
    obtain ⟨e1, e2⟩ := OfT_tx hO
    have := j_letterAt b sh N hsh (by rw [e2]; exact hn) k ⟨k0, k1⟩
    rw [e1, e2] at this
    exact this
  have hz : ∀ k, M 72 5 ≤ k → txM M k = 0 := fun k h => txM_z h
  have hfail : ∀ N, OfT M N → okn (txM M) (M 72 6) many many.toNat = false → QTN M (txM M) (M 72 6) many (some (vi 0)) N := fun N hO h => ⟨by rw [h]; rfl, hO, fun q => by rw [h] at q; cases q⟩
  have L : ∀ (m k : Nat) (x : Int) (N : Mem), x = k → x ≤ many → many - x < m → OfT M N → N 72 6 = ps (txM M) (M 72 6) k → okn (txM M) (M 72 6) many k = true → (∀ j : Nat, j < k → N 76 j = nv (txM M) (ps (txM M) (M 72 6) j)) → MW yX8_takesNumbers cX8_takesNumbers 5 (some .boolean) (rmD 1 0 0) (FM (QTN M (txM M) (M 72 6) many) b sh 0 0) b sh.length 0 0 2 [some (vr b 72), some (vi many), some (vi x), none, none] [] sh (N) := by
    intro m
    induction m with
    | zero => intro k x N h0 h1 h2; exact absurd h2 (by omega)
    | succ m ih =>
      intro k x N h0 h1 h2 hO hat hok hnum
      by_cases hxl : x < many
      · have hge := ps_ge (tx := txM M) (p := M 72 6) k
        generalize hq : ps (txM M) (M 72 6) k = q at *
        have hq2 : 0 ≤ q ∧ q ≤ 2000 := by omega
        have hokn : okn (txM M) (M 72 6) many (k + 1) = (okn (txM M) (M 72 6) many k && decide ((48 ≤ txM M q ∧ txM M q ≤ 57) ∧ txM M (ne (txM M) q) = sep many k)) := by rw [← hq]; rfl
        rw [hok, Bool.true_and] at hokn
        have hbad : okn (txM M) (M 72 6) many (k + 1) = false → okn (txM M) (M 72 6) many many.toNat = false := fun h => by
          by_cases hq : okn (txM M) (M 72 6) many many.toNat = true
          · rw [okn_le (by omega) hq] at h; cases h
          · simpa using hq
        have hz0 := hz q
        have hz1 := hz (q + 1)
        have hz2 := hz (q + 2)
        -- behind the figures
        have T72 : ∀ (f v : Int) (P : Mem), OfT M P → P 76 = N 76 → ((f = 0 ∧ ¬ (48 ≤ txM M q ∧ txM M q ≤ 57)) ∨ ((f = 1 ∨ f = 2) ∧ (48 ≤ txM M q ∧ txM M q ≤ 57) ∧ v = nv (txM M) q ∧ P 72 6 = ne (txM M) q)) → MW yX8_takesNumbers cX8_takesNumbers 5 (some .boolean) (rmD 1 0 0) (FM (QTN M (txM M) (M 72 6) many) b sh 0 0) b sh.length 0 0 72 [some (vr b 72), some (vi many), some (vi x), some (vi v), some (vi f)] [] sh (P) := by
          intro f v P hOP h76 hc
          by_cases hf0 : f = 0
          · have hnd := hc.resolve_right (by omega)
            refine R_iload (pc := 72) dX8_takesNumbers_72 rfl ?_
            refine R_if_eq (pc := 74) (tgt := 102) dX8_takesNumbers_74 (by decide) (by omega) (fun h_74 => ?_) (fun h_74 => ?_)
            · refine R_iconst (pc := 102) dX8_takesNumbers_102 ?_
              refine R_zret (pc := 103) dX8_takesNumbers_103 (by first | exact Or.inl rfl | exact Or.inr rfl | omega) ?_
              refine hfail _ hOP (hbad ?_)
              rw [hokn]
              simp only [decide_eq_false_iff_not]
              exact fun h => hnd.2 h.1
            · exact absurd hf0 h_74
          · obtain ⟨hf12, hdg, hv, h6⟩ := hc.resolve_left (by omega)
            have hne : ne (txM M) q = q + 1 ∨ ne (txM M) q = q + 2 := by unfold ne; split <;> omega
            have hnv : 0 ≤ nv (txM M) q ∧ nv (txM M) q ≤ 99 := by unfold nv; split <;> omega
            have hsep : sep many k = if x < many - 1 then 44 else 59 := by simp only [sep]; omega
            have hzn := hz (ne (txM M) q)
            refine R_rng fun hPr => ?_
            have hltx : inR (txM M (ne (txM M) q)) := by
              rw [← (OfT_tx hOP).1]
              exact txM_R hPr _
            refine R_iload (pc := 72) dX8_takesNumbers_72 rfl ?_
            refine R_if_eq (pc := 74) (tgt := 102) dX8_takesNumbers_74 (by decide) (by omega) (fun h_74 => ?_) (fun h_74 => ?_)
            · exact absurd h_74 hf0
            · refine R_aload_n (pc := 77) dX8_takesNumbers_77 rfl ?_
              refine R_aload_n (pc := 78) dX8_takesNumbers_78 rfl ?_
              refine R_getI (pc := 79) (J := 6) dX8_takesNumbers_79 fl_RX8_93 rfl rfl (hsh _ _ rfl) (h6) ?_
              refine R_V1i (pc := 82) dX8_takesNumbers_82 sv_RX8_96 (hsh _ _ rfl) (hlt P _ hOP (by omega) (by omega)) (Nat.le_of_ble_eq_true rfl) (by decide) ?_
              refine R_iload_n (pc := 85) dX8_takesNumbers_85 rfl ?_
              refine R_iload_n (pc := 86) dX8_takesNumbers_86 rfl ?_
              refine R_iconst (pc := 87) dX8_takesNumbers_87 ?_
              refine R_isub (pc := 88) dX8_takesNumbers_88 ?_
              refine R_cmp_ge (pc := 89) (tgt := 97) dX8_takesNumbers_89 (by decide) (by omega) (fun h_89 => ?_) (fun h_89 => ?_)
              · refine R_bipush (pc := 97) dX8_takesNumbers_97 rfl ?_
                refine R_cmp_eq (pc := 99) (tgt := 104) dX8_takesNumbers_99 (by decide) (by omega) (fun h_99 => ?_) (fun h_99 => ?_)
                · refine R_aload_n (pc := 104) dX8_takesNumbers_104 rfl ?_
                  refine R_dup (pc := 105) dX8_takesNumbers_105 rfl ?_
                  refine R_getI (pc := 106) (J := 6) dX8_takesNumbers_106 fl_RX8_93 rfl rfl (hsh _ _ rfl) (h6) ?_
                  refine R_iconst (pc := 109) dX8_takesNumbers_109 ?_
                  refine R_iadd (pc := 110) dX8_takesNumbers_110 ?_
                  refine R_putI (pc := 111) (J := 6) rfl dX8_takesNumbers_111 fl_RX8_93 rfl (fun r h => by cases h; rfl) (hsh _ _ rfl) (by omega) ?_
                  refine R_aload_n (pc := 114) dX8_takesNumbers_114 rfl ?_
                  refine R_getR (pc := 115) dX8_takesNumbers_115 fl_RX8_19 rfl (hsh _ _ rfl) rfl ?_
                  refine R_iload_n (pc := 118) dX8_takesNumbers_118 rfl ?_
                  refine R_iload_n (pc := 119) dX8_takesNumbers_119 rfl ?_
                  refine R_iast (pc := 120) dX8_takesNumbers_120 (hsh _ _ rfl) (by omega) (by omega) ?_
                  have hok1 : okn (txM M) (M 72 6) many (k + 1) = true := by
                    rw [hokn]
                    simp only [decide_eq_true_eq]
                    rw [hsep]
                    omega
                  refine R_iinc (pc := 121) dX8_takesNumbers_121 rfl (by decide) rfl rfl ?_
                  refine R_goto (pc := 124) (tgt := 2) dX8_takesNumbers_124 (by decide) ?_
                  refine R_drop 3 rfl ?_
                  refine R_drop 4 rfl ?_
                  refine ih (k + 1) (x + 1) _ (by omega) (by omega) (by omega) (OfT_76 (OfT_6 hOP)) ?_ hok1 (fun j hj => ?_)
                  · rw [up_k (by omega), up_s]
                    show _ = ne (txM M) (ps (txM M) (M 72 6) k) + 1
                    rw [hq]
                  · by_cases hjk : j = k
                    · rw [hjk, ← h0, up_s, hv, hq]
                    · rw [up_j (by omega), up_k (by omega), h76]
                      exact hnum j (by omega)
                · refine R_iconst (pc := 102) dX8_takesNumbers_102 ?_
                  refine R_zret (pc := 103) dX8_takesNumbers_103 (by first | exact Or.inl rfl | exact Or.inr rfl | omega) ?_
                  refine hfail _ hOP (hbad ?_)
                  rw [hokn]
                  simp only [decide_eq_false_iff_not]
                  rw [hsep]
                  omega
              · refine R_bipush (pc := 92) dX8_takesNumbers_92 rfl ?_
                refine R_goto (pc := 94) (tgt := 99) dX8_takesNumbers_94 (by decide) ?_
                refine R_cmp_eq (pc := 99) (tgt := 104) dX8_takesNumbers_99 (by decide) (by omega) (fun h_99 => ?_) (fun h_99 => ?_)
                · refine R_aload_n (pc := 104) dX8_takesNumbers_104 rfl ?_
                  refine R_dup (pc := 105) dX8_takesNumbers_105 rfl ?_
                  refine R_getI (pc := 106) (J := 6) dX8_takesNumbers_106 fl_RX8_93 rfl rfl (hsh _ _ rfl) (h6) ?_
                  refine R_iconst (pc := 109) dX8_takesNumbers_109 ?_
                  refine R_iadd (pc := 110) dX8_takesNumbers_110 ?_
                  refine R_putI (pc := 111) (J := 6) rfl dX8_takesNumbers_111 fl_RX8_93 rfl (fun r h => by cases h; rfl) (hsh _ _ rfl) (by omega) ?_
                  refine R_aload_n (pc := 114) dX8_takesNumbers_114 rfl ?_
                  refine R_getR (pc := 115) dX8_takesNumbers_115 fl_RX8_19 rfl (hsh _ _ rfl) rfl ?_
                  refine R_iload_n (pc := 118) dX8_takesNumbers_118 rfl ?_
                  refine R_iload_n (pc := 119) dX8_takesNumbers_119 rfl ?_
                  refine R_iast (pc := 120) dX8_takesNumbers_120 (hsh _ _ rfl) (by omega) (by omega) ?_
                  have hok1 : okn (txM M) (M 72 6) many (k + 1) = true := by
                    rw [hokn]
                    simp only [decide_eq_true_eq]
                    rw [hsep]
                    omega
                  refine R_iinc (pc := 121) dX8_takesNumbers_121 rfl (by decide) rfl rfl ?_
                  refine R_goto (pc := 124) (tgt := 2) dX8_takesNumbers_124 (by decide) ?_
                  refine R_drop 3 rfl ?_
                  refine R_drop 4 rfl ?_
                  refine ih (k + 1) (x + 1) _ (by omega) (by omega) (by omega) (OfT_76 (OfT_6 hOP)) ?_ hok1 (fun j hj => ?_)
                  · rw [up_k (by omega), up_s]
                    show _ = ne (txM M) (ps (txM M) (M 72 6) k) + 1
                    rw [hq]
                  · by_cases hjk : j = k
                    · rw [hjk, ← h0, up_s, hv, hq]
                    · rw [up_j (by omega), up_k (by omega), h76]
                      exact hnum j (by omega)
                · refine R_iconst (pc := 102) dX8_takesNumbers_102 ?_
                  refine R_zret (pc := 103) dX8_takesNumbers_103 (by first | exact Or.inl rfl | exact Or.inr rfl | omega) ?_
                  refine hfail _ hOP (hbad ?_)
                  rw [hokn]
                  simp only [decide_eq_false_iff_not]
                  rw [hsep]
                  omega
        -- two figures, one, none
        have T2 : ∀ (P : Mem), OfT M P → P 76 = N 76 → (48 ≤ txM M q ∧ txM M q ≤ 57) → (48 ≤ txM M (q + 1) ∧ txM M (q + 1) ≤ 57) → P 72 6 = q + 2 → MW yX8_takesNumbers cX8_takesNumbers 5 (some .boolean) (rmD 1 0 0) (FM (QTN M (txM M) (M 72 6) many) b sh 0 0) b sh.length 0 0 12 [some (vr b 72), some (vi many), some (vi x), some (vi (10 * (txM M q - 48) + (txM M (q + 1) - 48))), some (vi 2)] [] sh (P) := by
          intro P hOP h76 hd0 hd1 h6
          have hx := T72 2 (10 * (txM M q - 48) + (txM M (q + 1) - 48)) P hOP h76 (Or.inr ⟨by omega, hd0, by unfold nv; rw [if_pos hd1], by unfold ne; rw [if_pos hd1]; exact h6⟩)
          refine R_rng fun hPr => ?_
          have hltx : inR (txM M (q + 2)) := by
            rw [← (OfT_tx hOP).1]
            exact txM_R hPr _
          refine R_aload_n (pc := 12) dX8_takesNumbers_12 rfl ?_
          refine R_aload_n (pc := 13) dX8_takesNumbers_13 rfl ?_
          refine R_getI (pc := 14) (J := 6) dX8_takesNumbers_14 fl_RX8_93 rfl rfl (hsh _ _ rfl) (h6) ?_
          refine R_V1i (pc := 17) dX8_takesNumbers_17 sv_RX8_96 (hsh _ _ rfl) (hlt P _ hOP (by omega) (by omega)) (Nat.le_of_ble_eq_true rfl) (by decide) ?_
          refine R_i2l (pc := 20) dX8_takesNumbers_20 (by omega) ?_
          refine R_ldc2 (pc := 21) (x := 48) dX8_takesNumbers_21 kl_RX8_100 rfl ?_
          refine R_ldc2 (pc := 24) (x := 57) dX8_takesNumbers_24 kl_RX8_102 rfl ?_
          refine R_S3i (pc := 27) dX8_takesNumbers_27 ss_RX8_69 (j_in b sh _ _ _ _ (by omega) (by omega) (by omega)) (Nat.le_of_ble_eq_true rfl) (by decide) ?_
          refine R_if_eq (pc := 30) (tgt := 72) dX8_takesNumbers_30 (by decide) (by omega) (fun h_30 => ?_) (fun h_30 => ?_)
          · exact hx
          · refine R_iload (pc := 33) dX8_takesNumbers_33 rfl ?_
            refine R_iconst (pc := 35) dX8_takesNumbers_35 ?_
            refine R_cmp_ge (pc := 36) (tgt := 72) dX8_takesNumbers_36 (by decide) (by omega) (fun h_36 => ?_) (fun h_36 => ?_)
            · exact hx
            · exact absurd h_36 (by omega)
        have T1 : ∀ (P : Mem), OfT M P → P 76 = N 76 → (48 ≤ txM M q ∧ txM M q ≤ 57) → P 72 6 = q + 1 → MW yX8_takesNumbers cX8_takesNumbers 5 (some .boolean) (rmD 1 0 0) (FM (QTN M (txM M) (M 72 6) many) b sh 0 0) b sh.length 0 0 12 [some (vr b 72), some (vi many), some (vi x), some (vi (txM M q - 48)), some (vi 1)] [] sh (P) := by
          intro P hOP h76 hd0 h6
          refine R_rng fun hPr => ?_
          have hltx : inR (txM M (q + 1)) := by
            rw [← (OfT_tx hOP).1]
            exact txM_R hPr _
          by_cases hd1 : 48 ≤ txM M (q + 1) ∧ txM M (q + 1) ≤ 57
          · have hx := T2 (up P 72 6 (q + 1 + 1)) (OfT_6 hOP) (by rw [up_o _ (by omega)]; exact h76) hd0 hd1 (by rw [up_s]; omega)
            refine R_aload_n (pc := 12) dX8_takesNumbers_12 rfl ?_
            refine R_aload_n (pc := 13) dX8_takesNumbers_13 rfl ?_
            refine R_getI (pc := 14) (J := 6) dX8_takesNumbers_14 fl_RX8_93 rfl rfl (hsh _ _ rfl) (h6) ?_
            refine R_V1i (pc := 17) dX8_takesNumbers_17 sv_RX8_96 (hsh _ _ rfl) (hlt P _ hOP (by omega) (by omega)) (Nat.le_of_ble_eq_true rfl) (by decide) ?_
            refine R_i2l (pc := 20) dX8_takesNumbers_20 (by omega) ?_
            refine R_ldc2 (pc := 21) (x := 48) dX8_takesNumbers_21 kl_RX8_100 rfl ?_
            refine R_ldc2 (pc := 24) (x := 57) dX8_takesNumbers_24 kl_RX8_102 rfl ?_
            refine R_S3i (pc := 27) dX8_takesNumbers_27 ss_RX8_69 (j_in b sh _ _ _ _ (by omega) (by omega) (by omega)) (Nat.le_of_ble_eq_true rfl) (by decide) ?_
            refine R_if_eq (pc := 30) (tgt := 72) dX8_takesNumbers_30 (by decide) (by omega) (fun h_30 => ?_) (fun h_30 => ?_)
            · exact absurd h_30 (by omega)
            · refine R_iload (pc := 33) dX8_takesNumbers_33 rfl ?_
              refine R_iconst (pc := 35) dX8_takesNumbers_35 ?_
              refine R_cmp_ge (pc := 36) (tgt := 72) dX8_takesNumbers_36 (by decide) (by omega) (fun h_36 => ?_) (fun h_36 => ?_)
              · exact absurd h_36 (by omega)
              · refine R_bipush (pc := 39) dX8_takesNumbers_39 rfl ?_
                refine R_iload_n (pc := 41) dX8_takesNumbers_41 rfl ?_
                refine R_imul (pc := 42) dX8_takesNumbers_42 ?_
                refine R_aload_n (pc := 43) dX8_takesNumbers_43 rfl ?_
                refine R_aload_n (pc := 44) dX8_takesNumbers_44 rfl ?_
                refine R_getI (pc := 45) (J := 6) dX8_takesNumbers_45 fl_RX8_93 rfl rfl (hsh _ _ rfl) (h6) ?_
                refine R_V1i (pc := 48) dX8_takesNumbers_48 sv_RX8_96 (hsh _ _ rfl) (hlt P _ hOP (by omega) (by omega)) (Nat.le_of_ble_eq_true rfl) (by decide) ?_
                refine R_iadd (pc := 51) dX8_takesNumbers_51 ?_
                refine R_bipush (pc := 52) dX8_takesNumbers_52 rfl ?_
                refine R_isub (pc := 54) dX8_takesNumbers_54 ?_
                refine R_istore_n (pc := 55) dX8_takesNumbers_55 (by decide) rfl rfl ?_
                refine R_aload_n (pc := 56) dX8_takesNumbers_56 rfl ?_
                refine R_dup (pc := 57) dX8_takesNumbers_57 rfl ?_
                refine R_getI (pc := 58) (J := 6) dX8_takesNumbers_58 fl_RX8_93 rfl rfl (hsh _ _ rfl) (h6) ?_
                refine R_iconst (pc := 61) dX8_takesNumbers_61 ?_
                refine R_iadd (pc := 62) dX8_takesNumbers_62 ?_
                refine R_putI (pc := 63) (J := 6) rfl dX8_takesNumbers_63 fl_RX8_93 rfl (fun r h => by cases h; rfl) (hsh _ _ rfl) (by omega) ?_
                refine R_iinc (pc := 66) dX8_takesNumbers_66 rfl (by decide) rfl rfl ?_
                refine R_goto (pc := 69) (tgt := 12) dX8_takesNumbers_69 (by decide) ?_
                rw [if_pos (by omega), show 10 * (txM M q - 48) + txM M (q + 1) - 48 = 10 * (txM M q - 48) + (txM M (q + 1) - 48) by omega]
                exact hx
          · have hx := T72 1 (txM M q - 48) P hOP h76 (Or.inr ⟨by omega, hd0, by unfold nv; rw [if_neg hd1], by unfold ne; rw [if_neg hd1]; exact h6⟩)
            refine R_aload_n (pc := 12) dX8_takesNumbers_12 rfl ?_
            refine R_aload_n (pc := 13) dX8_takesNumbers_13 rfl ?_
            refine R_getI (pc := 14) (J := 6) dX8_takesNumbers_14 fl_RX8_93 rfl rfl (hsh _ _ rfl) (h6) ?_
            refine R_V1i (pc := 17) dX8_takesNumbers_17 sv_RX8_96 (hsh _ _ rfl) (hlt P _ hOP (by omega) (by omega)) (Nat.le_of_ble_eq_true rfl) (by decide) ?_
            refine R_i2l (pc := 20) dX8_takesNumbers_20 (by omega) ?_
            refine R_ldc2 (pc := 21) (x := 48) dX8_takesNumbers_21 kl_RX8_100 rfl ?_
            refine R_ldc2 (pc := 24) (x := 57) dX8_takesNumbers_24 kl_RX8_102 rfl ?_
            refine R_S3i (pc := 27) dX8_takesNumbers_27 ss_RX8_69 (j_in b sh _ _ _ _ (by omega) (by omega) (by omega)) (Nat.le_of_ble_eq_true rfl) (by decide) ?_
            refine R_if_eq (pc := 30) (tgt := 72) dX8_takesNumbers_30 (by decide) (by omega) (fun h_30 => ?_) (fun h_30 => ?_)
            · exact hx
            · exact absurd h_30 (by omega)
        refine R_rng fun hNr => ?_
        have hltx : inR (txM M q) := by
          rw [← (OfT_tx hO).1]
          exact txM_R hNr _
        have T0 : MW yX8_takesNumbers cX8_takesNumbers 5 (some .boolean) (rmD 1 0 0) (FM (QTN M (txM M) (M 72 6) many) b sh 0 0) b sh.length 0 0 12 [some (vr b 72), some (vi many), some (vi x), some (vi 0), some (vi 0)] [] sh (N) := by
          by_cases hd0 : 48 ≤ txM M q ∧ txM M q ≤ 57
          · have hx := T1 (up N 72 6 (q + 1)) (OfT_6 hO) (up_o _ (by omega)) hd0 up_s
            refine R_aload_n (pc := 12) dX8_takesNumbers_12 rfl ?_
            refine R_aload_n (pc := 13) dX8_takesNumbers_13 rfl ?_
            refine R_getI (pc := 14) (J := 6) dX8_takesNumbers_14 fl_RX8_93 rfl rfl (hsh _ _ rfl) (hat) ?_
            refine R_V1i (pc := 17) dX8_takesNumbers_17 sv_RX8_96 (hsh _ _ rfl) (hlt N _ hO (by omega) (by omega)) (Nat.le_of_ble_eq_true rfl) (by decide) ?_
            refine R_i2l (pc := 20) dX8_takesNumbers_20 (by omega) ?_
            refine R_ldc2 (pc := 21) (x := 48) dX8_takesNumbers_21 kl_RX8_100 rfl ?_
            refine R_ldc2 (pc := 24) (x := 57) dX8_takesNumbers_24 kl_RX8_102 rfl ?_
            refine R_S3i (pc := 27) dX8_takesNumbers_27 ss_RX8_69 (j_in b sh _ _ _ _ (by omega) (by omega) (by omega)) (Nat.le_of_ble_eq_true rfl) (by decide) ?_
            refine R_if_eq (pc := 30) (tgt := 72) dX8_takesNumbers_30 (by decide) (by omega) (fun h_30 => ?_) (fun h_30 => ?_)
            · exact absurd h_30 (by omega)
            · refine R_iload (pc := 33) dX8_takesNumbers_33 rfl ?_
              refine R_iconst (pc := 35) dX8_takesNumbers_35 ?_
              refine R_cmp_ge (pc := 36) (tgt := 72) dX8_takesNumbers_36 (by decide) (by omega) (fun h_36 => ?_) (fun h_36 => ?_)
              · exact absurd h_36 (by omega)
              · refine R_bipush (pc := 39) dX8_takesNumbers_39 rfl ?_
                refine R_iload_n (pc := 41) dX8_takesNumbers_41 rfl ?_
                refine R_imul (pc := 42) dX8_takesNumbers_42 ?_
                refine R_aload_n (pc := 43) dX8_takesNumbers_43 rfl ?_
                refine R_aload_n (pc := 44) dX8_takesNumbers_44 rfl ?_
                refine R_getI (pc := 45) (J := 6) dX8_takesNumbers_45 fl_RX8_93 rfl rfl (hsh _ _ rfl) (hat) ?_
                refine R_V1i (pc := 48) dX8_takesNumbers_48 sv_RX8_96 (hsh _ _ rfl) (hlt N _ hO (by omega) (by omega)) (Nat.le_of_ble_eq_true rfl) (by decide) ?_
                refine R_iadd (pc := 51) dX8_takesNumbers_51 ?_
                refine R_bipush (pc := 52) dX8_takesNumbers_52 rfl ?_
                refine R_isub (pc := 54) dX8_takesNumbers_54 ?_
                refine R_istore_n (pc := 55) dX8_takesNumbers_55 (by decide) rfl rfl ?_
                refine R_aload_n (pc := 56) dX8_takesNumbers_56 rfl ?_
                refine R_dup (pc := 57) dX8_takesNumbers_57 rfl ?_
                refine R_getI (pc := 58) (J := 6) dX8_takesNumbers_58 fl_RX8_93 rfl rfl (hsh _ _ rfl) (hat) ?_
                refine R_iconst (pc := 61) dX8_takesNumbers_61 ?_
                refine R_iadd (pc := 62) dX8_takesNumbers_62 ?_
                refine R_putI (pc := 63) (J := 6) rfl dX8_takesNumbers_63 fl_RX8_93 rfl (fun r h => by cases h; rfl) (hsh _ _ rfl) (by omega) ?_
                refine R_iinc (pc := 66) dX8_takesNumbers_66 rfl (by decide) rfl rfl ?_
                refine R_goto (pc := 69) (tgt := 12) dX8_takesNumbers_69 (by decide) ?_
                rw [if_pos (by omega), show 10 * 0 + txM M q - 48 = txM M q - 48 by omega]
                exact hx
          · have hx := T72 0 0 N hO rfl (Or.inl ⟨rfl, hd0⟩)
            refine R_aload_n (pc := 12) dX8_takesNumbers_12 rfl ?_
            refine R_aload_n (pc := 13) dX8_takesNumbers_13 rfl ?_
            refine R_getI (pc := 14) (J := 6) dX8_takesNumbers_14 fl_RX8_93 rfl rfl (hsh _ _ rfl) (hat) ?_
            refine R_V1i (pc := 17) dX8_takesNumbers_17 sv_RX8_96 (hsh _ _ rfl) (hlt N _ hO (by omega) (by omega)) (Nat.le_of_ble_eq_true rfl) (by decide) ?_
            refine R_i2l (pc := 20) dX8_takesNumbers_20 (by omega) ?_
            refine R_ldc2 (pc := 21) (x := 48) dX8_takesNumbers_21 kl_RX8_100 rfl ?_
            refine R_ldc2 (pc := 24) (x := 57) dX8_takesNumbers_24 kl_RX8_102 rfl ?_
            refine R_S3i (pc := 27) dX8_takesNumbers_27 ss_RX8_69 (j_in b sh _ _ _ _ (by omega) (by omega) (by omega)) (Nat.le_of_ble_eq_true rfl) (by decide) ?_
            refine R_if_eq (pc := 30) (tgt := 72) dX8_takesNumbers_30 (by decide) (by omega) (fun h_30 => ?_) (fun h_30 => ?_)
            · exact hx
            · exact absurd h_30 (by omega)
        refine R_iload_n (pc := 2) dX8_takesNumbers_2 rfl ?_
        refine R_iload_n (pc := 3) dX8_takesNumbers_3 rfl ?_
        refine R_cmp_ge (pc := 4) (tgt := 127) dX8_takesNumbers_4 (by decide) (by omega) (fun h_4 => ?_) (fun h_4 => ?_)
        · exact absurd h_4 (by omega)
        · refine R_iconst (pc := 7) dX8_takesNumbers_7 ?_
          refine R_istore_n (pc := 8) dX8_takesNumbers_8 (by decide) rfl rfl ?_
          refine R_iconst (pc := 9) dX8_takesNumbers_9 ?_
          refine R_istore (pc := 10) dX8_takesNumbers_10 (by decide) rfl rfl ?_
          exact T0
      · have ek : many.toNat = k := by omega
        refine R_iload_n (pc := 2) dX8_takesNumbers_2 rfl ?_
        refine R_iload_n (pc := 3) dX8_takesNumbers_3 rfl ?_
        refine R_cmp_ge (pc := 4) (tgt := 127) dX8_takesNumbers_4 (by decide) (by omega) (fun h_4 => ?_) (fun h_4 => ?_)
        · refine R_iconst (pc := 127) dX8_takesNumbers_127 ?_
          refine R_zret (pc := 128) dX8_takesNumbers_128 (by first | exact Or.inl rfl | exact Or.inr rfl | omega) ?_
          exact ⟨by rw [ek, hok]; rfl, hO, fun _ => ⟨by rw [ek]; exact hat, fun j hj => hnum j (by omega)⟩⟩
        · exact absurd h_4 (by omega)
  refine MC_of (ls := [some (vr b 72), some (vi many), none, none, none]) (by decide) rfl (Nat.le_of_ble_eq_true rfl) ?_
  refine R_iconst (pc := 0) dX8_takesNumbers_0 ?_
  refine R_istore_n (pc := 1) dX8_takesNumbers_1 (by decide) rfl rfl ?_
  exact L 10 0 0 M rfl (by omega) (by omega) OfT_r rfl rfl (fun j hj => by omega)
