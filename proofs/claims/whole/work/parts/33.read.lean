/-! letters, numbers, the reading -/
def txC (M : Mem) : Rd := fun i => if 0 ≤ i ∧ i < M 1 1 then M 2 i else 0
theorem k_signAt (b : Nat) (sh : Shp) (M : Mem) (hsh : Hc sh) (hz : 0 ≤ M 1 1 ∧ M 1 1 ≤ 200) (p : Int) (hp : inR p) : Ex 0 mX1_signAt b sh M [vr b 1, vi p] (some (vi (txC M p))) M := by
  refine MC_of (ls := [some (vr b 1), some (vi p)]) (by decide) rfl (Nat.le_of_ble_eq_true rfl) ?_
  refine R_iload_n (pc := 0) dX1_signAt_0 rfl ?_
  refine R_if_lt (pc := 1) (tgt := 21) dX1_signAt_1 (by decide) (by omega) (fun h_1 => ?_) (fun h_1 => ?_)
  · refine R_iconst (pc := 21) dX1_signAt_21 ?_
    refine R_iret (pc := 22) dX1_signAt_22 ?_
    exact eqi (by unfold txC; omega) rfl
  · refine R_iload_n (pc := 4) dX1_signAt_4 rfl ?_
    refine R_aload_n (pc := 5) dX1_signAt_5 rfl ?_
    refine R_getI (pc := 6) (J := 1) dX1_signAt_6 fl_RX1_15 rfl rfl (hsh _ _ rfl) (rfl) ?_
    refine R_cmp_ge (pc := 9) (tgt := 21) dX1_signAt_9 (by decide) (by omega) (fun h_9 => ?_) (fun h_9 => ?_)
    · refine R_iconst (pc := 21) dX1_signAt_21 ?_
      refine R_iret (pc := 22) dX1_signAt_22 ?_
      exact eqi (by unfold txC; omega) rfl
    · refine R_aload_n (pc := 12) dX1_signAt_12 rfl ?_
      refine R_getR (pc := 13) dX1_signAt_13 fl_RX1_9 rfl (hsh _ _ rfl) rfl ?_
      refine R_iload_n (pc := 16) dX1_signAt_16 rfl ?_
      refine R_iald (pc := 17) dX1_signAt_17 (hsh _ _ rfl) (by omega) (rfl) ?_
      refine R_goto (pc := 18) (tgt := 22) dX1_signAt_18 (by decide) ?_
      refine R_iret (pc := 22) dX1_signAt_22 ?_
      exact eqi (by unfold txC; omega) rfl
theorem k_add (b : Nat) (sh : Shp) (M : Mem) (hsh : Hc sh) (hz : 0 ≤ M 1 1 ∧ M 1 1 ≤ 200) (c : Int) (hc : inR c) : Ex 0 mX1_add b sh M [vr b 1, vi c] (some (vi (if M 1 1 < 200 then 1 else 0))) (if M 1 1 < 200 then up (up M 2 (M 1 1) c) 1 1 (M 1 1 + 1) else M) := by
  refine MC_of (ls := [some (vr b 1), some (vi c)]) (by decide) rfl (Nat.le_of_ble_eq_true rfl) ?_
  refine R_aload_n (pc := 0) dX1_add_0 rfl ?_
  refine R_getI (pc := 1) (J := 1) dX1_add_1 fl_RX1_15 rfl rfl (hsh _ _ rfl) (rfl) ?_
  refine R_sipush (pc := 4) dX1_add_4 rfl ?_
  refine R_cmp_lt (pc := 7) (tgt := 12) dX1_add_7 (by decide) (by omega) (fun h_7 => ?_) (fun h_7 => ?_)
  · refine R_aload_n (pc := 12) dX1_add_12 rfl ?_
    refine R_getR (pc := 13) dX1_add_13 fl_RX1_9 rfl (hsh _ _ rfl) rfl ?_
    refine R_aload_n (pc := 16) dX1_add_16 rfl ?_
    refine R_getI (pc := 17) (J := 1) dX1_add_17 fl_RX1_15 rfl rfl (hsh _ _ rfl) (rfl) ?_
    refine R_iload_n (pc := 20) dX1_add_20 rfl ?_
    refine R_iast (pc := 21) dX1_add_21 (hsh _ _ rfl) (by omega) (by omega) ?_
    refine R_aload_n (pc := 22) dX1_add_22 rfl ?_
    refine R_dup (pc := 23) dX1_add_23 rfl ?_
    refine R_getI (pc := 24) (J := 1) dX1_add_24 fl_RX1_15 rfl rfl (hsh _ _ rfl) (up_k (by omega)) ?_
    refine R_iconst (pc := 27) dX1_add_27 ?_
    refine R_iadd (pc := 28) dX1_add_28 ?_
    refine R_putI (pc := 29) (J := 1) rfl dX1_add_29 fl_RX1_15 rfl (fun r h => by cases h; rfl) (hsh _ _ rfl) (by omega) ?_
    refine R_iconst (pc := 32) dX1_add_32 ?_
    refine R_zret (pc := 33) dX1_add_33 (by first | exact Or.inl rfl | exact Or.inr rfl | omega) ?_
    exact eqi (by omega) (by rw [if_pos (by omega)])
  · refine R_iconst (pc := 10) dX1_add_10 ?_
    refine R_zret (pc := 11) dX1_add_11 (by first | exact Or.inl rfl | exact Or.inr rfl | omega) ?_
    exact eqi (by omega) (by rw [if_neg (by omega)])
theorem k_lclear (b : Nat) (sh : Shp) (M : Mem) (hsh : Hc sh) : Ex 0 mX1_clear b sh M [vr b 1] none (up M 1 1 0) := by
  refine MC_of (ls := [some (vr b 1)]) (by decide) rfl (Nat.le_of_ble_eq_true rfl) ?_
  refine R_aload_n (pc := 0) dX1_clear_0 rfl ?_
  refine R_iconst (pc := 1) dX1_clear_1 ?_
  refine R_putI (pc := 2) (J := 1) rfl dX1_clear_2 fl_RX1_15 rfl (fun r h => by cases h; rfl) (hsh _ _ rfl) (by omega) ?_
  refine R_vret (pc := 5) dX1_clear_5 ?_
  exact eqv rfl
theorem k_isFigure (b : Nat) (sh : Shp) (M : Mem) (hsh : Hc sh) (hM : ∀ k j, inR (M k j)) (hz : 0 ≤ M 1 1 ∧ M 1 1 ≤ 200) (p : Int) (hp : inR p) : Ex 1 mX3_isFigure b sh M [vr b 3, vi p] (some (vi (if 48 ≤ txC M p ∧ txC M p ≤ 57 then 1 else 0))) M := by
  have ht : inR (txC M p) := by
    unfold txC
    split
    · exact hM 2 p
    · omega
  refine MC_of (ls := [some (vr b 3), some (vi p)]) (by decide) rfl (Nat.le_of_ble_eq_true rfl) ?_
  refine R_aload_n (pc := 0) dX3_isFigure_0 rfl ?_
  refine R_getR (pc := 1) dX3_isFigure_1 fl_RX3_15 rfl (hsh _ _ rfl) rfl ?_
  refine R_iload_n (pc := 4) dX3_isFigure_4 rfl ?_
  refine R_V1i (pc := 5) dX3_isFigure_5 sv_RX3_30 (hsh _ _ rfl) (k_signAt b sh M hsh hz p hp) (Nat.le_of_ble_eq_true rfl) (by decide) ?_
  refine R_bipush (pc := 8) dX3_isFigure_8 rfl ?_
  refine R_bipush (pc := 10) dX3_isFigure_10 rfl ?_
  refine R_S3i (pc := 12) dX3_isFigure_12 ss_RX3_52 (k_within b sh _ _ _ _ ht (by omega) (by omega)) (Nat.le_of_ble_eq_true rfl) (by decide) ?_
  refine R_zret (pc := 15) dX3_isFigure_15 (by first | exact Or.inl rfl | exact Or.inr rfl | omega) ?_
  exact eqi rfl rfl
theorem k_figureAt (b : Nat) (sh : Shp) (M : Mem) (hsh : Hc sh) (hz : 0 ≤ M 1 1 ∧ M 1 1 ≤ 200) (p : Int) (hp : inR p) : Ex 1 mX3_figureAt b sh M [vr b 3, vi p] (some (vi (txC M p - 48))) M := by
  refine MC_of (ls := [some (vr b 3), some (vi p)]) (by decide) rfl (Nat.le_of_ble_eq_true rfl) ?_
  refine R_aload_n (pc := 0) dX3_figureAt_0 rfl ?_
  refine R_getR (pc := 1) dX3_figureAt_1 fl_RX3_15 rfl (hsh _ _ rfl) rfl ?_
  refine R_iload_n (pc := 4) dX3_figureAt_4 rfl ?_
  refine R_V1i (pc := 5) dX3_figureAt_5 sv_RX3_30 (hsh _ _ rfl) (k_signAt b sh M hsh hz p hp) (Nat.le_of_ble_eq_true rfl) (by decide) ?_
  refine R_bipush (pc := 8) dX3_figureAt_8 rfl ?_
  refine R_isub (pc := 10) dX3_figureAt_10 ?_
  refine R_iret (pc := 11) dX3_figureAt_11 ?_
  exact eqi rfl rfl
theorem k_numbersBehind (b : Nat) (sh : Shp) (M : Mem) (c : Int) (hc : inR c) : Ex 0 mX3_numbersBehind b sh M [vi c] (some (vi (nb c))) M := by
  refine MC_of (ls := [some (vi c)]) (by decide) rfl (Nat.le_of_ble_eq_true rfl) ?_
  refine R_iload_n (pc := 0) dX3_numbersBehind_0 rfl ?_
  by_cases h_1_0 : c = 100
  · refine R_tabIn (pc := 1) (off := 99) (tgt := 100) dX3_numbersBehind_1 (by omega) (by omega) (by rw [h_1_0]; rfl) (by decide) ?_
    refine R_iconst (pc := 100) dX3_numbersBehind_100 ?_
    refine R_iret (pc := 101) dX3_numbersBehind_101 ?_
    exact eqi (by simp only [nb]; omega) rfl
  by_cases h_1_1 : c = 101
  · refine R_tabIn (off := 101) (tgt := 102) dX3_numbersBehind_1 (by omega) (by omega) (by rw [h_1_1]; rfl) (by decide) ?_
    refine R_iconst (pc := 102) dX3_numbersBehind_102 ?_
    refine R_iret (pc := 103) dX3_numbersBehind_103 ?_
    exact eqi (by simp only [nb]; omega) rfl
  by_cases h_1_2 : c = 102
  · refine R_tabIn (off := 97) (tgt := 98) dX3_numbersBehind_1 (by omega) (by omega) (by rw [h_1_2]; rfl) (by decide) ?_
    refine R_iconst (pc := 98) dX3_numbersBehind_98 ?_
    refine R_iret (pc := 99) dX3_numbersBehind_99 ?_
    exact eqi (by simp only [nb]; omega) rfl
  by_cases h_1_3 : c = 103
  · refine R_tabIn (off := 101) (tgt := 102) dX3_numbersBehind_1 (by omega) (by omega) (by rw [h_1_3]; rfl) (by decide) ?_
    refine R_iconst (pc := 102) dX3_numbersBehind_102 ?_
    refine R_iret (pc := 103) dX3_numbersBehind_103 ?_
    exact eqi (by simp only [nb]; omega) rfl
  by_cases h_1_4 : c = 104
  · refine R_tabIn (off := 101) (tgt := 102) dX3_numbersBehind_1 (by omega) (by omega) (by rw [h_1_4]; rfl) (by decide) ?_
    refine R_iconst (pc := 102) dX3_numbersBehind_102 ?_
    refine R_iret (pc := 103) dX3_numbersBehind_103 ?_
    exact eqi (by simp only [nb]; omega) rfl
  by_cases h_1_5 : c = 105
  · refine R_tabIn (off := 101) (tgt := 102) dX3_numbersBehind_1 (by omega) (by omega) (by rw [h_1_5]; rfl) (by decide) ?_
    refine R_iconst (pc := 102) dX3_numbersBehind_102 ?_
    refine R_iret (pc := 103) dX3_numbersBehind_103 ?_
    exact eqi (by simp only [nb]; omega) rfl
  by_cases h_1_6 : c = 106
  · refine R_tabIn (off := 101) (tgt := 102) dX3_numbersBehind_1 (by omega) (by omega) (by rw [h_1_6]; rfl) (by decide) ?_
    refine R_iconst (pc := 102) dX3_numbersBehind_102 ?_
    refine R_iret (pc := 103) dX3_numbersBehind_103 ?_
    exact eqi (by simp only [nb]; omega) rfl
  by_cases h_1_7 : c = 107
  · refine R_tabIn (off := 101) (tgt := 102) dX3_numbersBehind_1 (by omega) (by omega) (by rw [h_1_7]; rfl) (by decide) ?_
    refine R_iconst (pc := 102) dX3_numbersBehind_102 ?_
    refine R_iret (pc := 103) dX3_numbersBehind_103 ?_
    exact eqi (by simp only [nb]; omega) rfl
  by_cases h_1_8 : c = 108
  · refine R_tabIn (off := 101) (tgt := 102) dX3_numbersBehind_1 (by omega) (by omega) (by rw [h_1_8]; rfl) (by decide) ?_
    refine R_iconst (pc := 102) dX3_numbersBehind_102 ?_
    refine R_iret (pc := 103) dX3_numbersBehind_103 ?_
    exact eqi (by simp only [nb]; omega) rfl
  by_cases h_1_9 : c = 109
  · refine R_tabIn (off := 101) (tgt := 102) dX3_numbersBehind_1 (by omega) (by omega) (by rw [h_1_9]; rfl) (by decide) ?_
    refine R_iconst (pc := 102) dX3_numbersBehind_102 ?_
    refine R_iret (pc := 103) dX3_numbersBehind_103 ?_
    exact eqi (by simp only [nb]; omega) rfl
  by_cases h_1_10 : c = 110
  · refine R_tabIn (off := 95) (tgt := 96) dX3_numbersBehind_1 (by omega) (by omega) (by rw [h_1_10]; rfl) (by decide) ?_
    refine R_iconst (pc := 96) dX3_numbersBehind_96 ?_
    refine R_iret (pc := 97) dX3_numbersBehind_97 ?_
    exact eqi (by simp only [nb]; omega) rfl
  by_cases h_1_11 : c = 111
  · refine R_tabIn (off := 101) (tgt := 102) dX3_numbersBehind_1 (by omega) (by omega) (by rw [h_1_11]; rfl) (by decide) ?_
    refine R_iconst (pc := 102) dX3_numbersBehind_102 ?_
    refine R_iret (pc := 103) dX3_numbersBehind_103 ?_
    exact eqi (by simp only [nb]; omega) rfl
  by_cases h_1_12 : c = 112
  · refine R_tabIn (off := 97) (tgt := 98) dX3_numbersBehind_1 (by omega) (by omega) (by rw [h_1_12]; rfl) (by decide) ?_
    refine R_iconst (pc := 98) dX3_numbersBehind_98 ?_
    refine R_iret (pc := 99) dX3_numbersBehind_99 ?_
    exact eqi (by simp only [nb]; omega) rfl
  by_cases h_1_13 : c = 113
  · refine R_tabIn (off := 101) (tgt := 102) dX3_numbersBehind_1 (by omega) (by omega) (by rw [h_1_13]; rfl) (by decide) ?_
    refine R_iconst (pc := 102) dX3_numbersBehind_102 ?_
    refine R_iret (pc := 103) dX3_numbersBehind_103 ?_
    exact eqi (by simp only [nb]; omega) rfl
  by_cases h_1_14 : c = 114
  · refine R_tabIn (off := 101) (tgt := 102) dX3_numbersBehind_1 (by omega) (by omega) (by rw [h_1_14]; rfl) (by decide) ?_
    refine R_iconst (pc := 102) dX3_numbersBehind_102 ?_
    refine R_iret (pc := 103) dX3_numbersBehind_103 ?_
    exact eqi (by simp only [nb]; omega) rfl
  by_cases h_1_15 : c = 115
  · refine R_tabIn (off := 101) (tgt := 102) dX3_numbersBehind_1 (by omega) (by omega) (by rw [h_1_15]; rfl) (by decide) ?_
    refine R_iconst (pc := 102) dX3_numbersBehind_102 ?_
    refine R_iret (pc := 103) dX3_numbersBehind_103 ?_
    exact eqi (by simp only [nb]; omega) rfl
  by_cases h_1_16 : c = 116
  · refine R_tabIn (off := 97) (tgt := 98) dX3_numbersBehind_1 (by omega) (by omega) (by rw [h_1_16]; rfl) (by decide) ?_
    refine R_iconst (pc := 98) dX3_numbersBehind_98 ?_
    refine R_iret (pc := 99) dX3_numbersBehind_99 ?_
    exact eqi (by simp only [nb]; omega) rfl
  by_cases h_1_17 : c = 117
  · refine R_tabIn (off := 101) (tgt := 102) dX3_numbersBehind_1 (by omega) (by omega) (by rw [h_1_17]; rfl) (by decide) ?_
    refine R_iconst (pc := 102) dX3_numbersBehind_102 ?_
    refine R_iret (pc := 103) dX3_numbersBehind_103 ?_
    exact eqi (by simp only [nb]; omega) rfl
  by_cases h_1_18 : c = 118
  · refine R_tabIn (off := 101) (tgt := 102) dX3_numbersBehind_1 (by omega) (by omega) (by rw [h_1_18]; rfl) (by decide) ?_
    refine R_iconst (pc := 102) dX3_numbersBehind_102 ?_
    refine R_iret (pc := 103) dX3_numbersBehind_103 ?_
    exact eqi (by simp only [nb]; omega) rfl
  by_cases h_1_19 : c = 119
  · refine R_tabIn (off := 97) (tgt := 98) dX3_numbersBehind_1 (by omega) (by omega) (by rw [h_1_19]; rfl) (by decide) ?_
    refine R_iconst (pc := 98) dX3_numbersBehind_98 ?_
    refine R_iret (pc := 99) dX3_numbersBehind_99 ?_
    exact eqi (by simp only [nb]; omega) rfl
  refine R_tabOut (tgt := 102) dX3_numbersBehind_1 (by omega) (by omega) (by decide) ?_
  refine R_iconst (pc := 102) dX3_numbersBehind_102 ?_
  refine R_iret (pc := 103) dX3_numbersBehind_103 ?_
  exact eqi (by simp only [nb]; omega) rfl
theorem txC_o {M M' : Mem} (h1 : M' 1 = M 1) (h2 : M' 2 = M 2) : txC M' = txC M := by unfold txC; rw [h1, h2]
theorem txC_R {M : Mem} (hM : ∀ k j, inR (M k j)) (p : Int) : inR (txC M p) := by
  unfold txC
  split
  · exact hM 2 p
  · omega
def QN (M : Mem) (p many : Int) : Option Value → Mem → Prop := fun v M' => v = some (vi (if 1 ≤ many ∧ okn (txC M) p many many.toNat = true then ps (txC M) p many.toNat else -1)) ∧ (∀ k, k ≠ 4 → M' k = M k) ∧ (okn (txC M) p many many.toNat = true → ∀ i : Nat, (i : Int) < many → M' 4 i = nv (txC M) (ps (txC M) p i))
theorem k_readNumbers (b : Nat) (sh : Shp) (M : Mem) (hsh : Hc sh) (hM : ∀ k j, inR (M k j)) (hz : 0 ≤ M 1 1 ∧ M 1 1 ≤ 200) (p many : Int) (hp : 0 ≤ p ∧ p ≤ 1000) (hmany : 0 ≤ many ∧ many ≤ 3) : C0 2 mX3_readNumbers b sh M [vr b 3, vi p, vi many] (QN M p many) := by
  have nOff : ∀ {k i : Nat}, okn (txC M) p many (k + 1) = true → okn (txC M) p many k = true := fun h => (okn_s h).1
  have L : 1 ≤ many → ∀ (n : Nat) (i : Int) (N : Mem), 0 ≤ i → i ≤ many → many - i < n → (∀ k, k ≠ 4 → N k = M k) → okn (txC M) p many i.toNat = true → (∀ j : Nat, (j : Int) < i → N 4 j = nv (txC M) (ps (txC M) p j)) → MW yX3_readNumbers cX3_readNumbers 6 (some .int) (rmD 2 0 0) (FM (QN M p many) b sh 0 0) b sh.length 0 0 17 [some (vr b 3), some (vi p), some (vi many), some (vi (ps (txC M) p i.toNat)), some (vi i), none] [] sh (N) := by
    intro hm1 n
    induction n with
    | zero => intro i N h1 h2 h3; exact absurd h3 (by omega)
    | succ n ih =>
      intro i N h1 h2 h3 hN hok hv
      have hge := ps_ge (tx := txC M) (p := p) i.toNat
      have et : txC N = txC M := txC_o (hN 1 (by omega)) (hN 2 (by omega))
      have hz' : 0 ≤ N 1 1 ∧ N 1 1 ≤ 200 := by rw [hN 1 (by omega)]; exact hz
      have hfail : i < many → ¬ ((48 ≤ txC M (ps (txC M) p i.toNat) ∧ txC M (ps (txC M) p i.toNat) ≤ 57) ∧ txC M (ne (txC M) (ps (txC M) p i.toNat)) = sep many i) → ¬ okn (txC M) p many many.toNat = true := by
        intro hlt hno hall
        have := okn_s (okn_le (show i.toNat + 1 ≤ many.toNat by omega) hall)
        rw [Int.toNat_of_nonneg h1] at this
        exact hno this.2
      refine R_rng fun hNr => ?_
      have J : (48 ≤ txC M (ps (txC M) p i.toNat) ∧ txC M (ps (txC M) p i.toNat) ≤ 57) → i < many → ∀ q x : Int, q = ne (txC M) (ps (txC M) p i.toNat) → x = nv (txC M) (ps (txC M) p i.toNat) → 0 ≤ x ∧ x ≤ 99 → MW yX3_readNumbers cX3_readNumbers 6 (some .int) (rmD 2 0 0) (FM (QN M p many) b sh 0 0) b sh.length 0 0 67 [some (vr b 3), some (vi p), some (vi many), some (vi q), some (vi i), some (vi x)] [] sh (N) := by
        intro hdig hlt q x hq hx hxr
        have hN2 : ∀ k, k ≠ 4 → up N 4 i x k = M k := fun k hk => by rw [up_o k hk]; exact hN k hk
        have et2 : txC (up N 4 i x) = txC M := txC_o (hN2 1 (by omega)) (hN2 2 (by omega))
        have hqr : q = ps (txC M) p i.toNat + 1 ∨ q = ps (txC M) p i.toNat + 2 := by rw [hq]; unfold ne; split <;> omega
        have htq := txC_R hM q
        refine R_aload_n (pc := 67) dX3_readNumbers_67 rfl ?_
        refine R_getR (pc := 68) dX3_readNumbers_68 fl_RX3_11 rfl (hsh _ _ rfl) rfl ?_
        refine R_iload (pc := 71) dX3_readNumbers_71 rfl ?_
        refine R_iload (pc := 73) dX3_readNumbers_73 rfl ?_
        refine R_iast (pc := 75) dX3_readNumbers_75 (hsh _ _ rfl) (by omega) (by omega) ?_
        refine R_aload_n (pc := 76) dX3_readNumbers_76 rfl ?_
        refine R_getR (pc := 77) dX3_readNumbers_77 fl_RX3_15 rfl (hsh _ _ rfl) rfl ?_
        refine R_iload_n (pc := 80) dX3_readNumbers_80 rfl ?_
        refine R_V1i (pc := 81) dX3_readNumbers_81 sv_RX3_30 (hsh _ _ rfl) (k_signAt b sh _ hsh (by rw [hN2 1 (by omega)]; exact hz) q (by omega)) (Nat.le_of_ble_eq_true rfl) (by decide) ?_
        rw [et2]
        refine R_iload (pc := 84) dX3_readNumbers_84 rfl ?_
        refine R_iload_n (pc := 86) dX3_readNumbers_86 rfl ?_
        refine R_iconst (pc := 87) dX3_readNumbers_87 ?_
        refine R_isub (pc := 88) dX3_readNumbers_88 ?_
        refine R_cmp_ne (pc := 89) (tgt := 97) dX3_readNumbers_89 (by decide) (by omega) (fun h_89 => ?_) (fun h_89 => ?_)
        · refine R_bipush (pc := 97) dX3_readNumbers_97 rfl ?_
          refine R_cmp_eq (pc := 99) (tgt := 104) dX3_readNumbers_99 (by decide) (by omega) (fun h_99 => ?_) (fun h_99 => ?_)
          · refine R_iinc dX3_readNumbers_104 rfl (by decide) rfl rfl ?_
            refine R_iinc dX3_readNumbers_107 rfl (by decide) rfl rfl ?_
            refine R_goto (tgt := 17) dX3_readNumbers_110 (by decide) ?_
            refine R_drop 5 rfl ?_
            have hx2 := ih (i + 1) (up N 4 i x) (by omega) (by omega) (by omega) hN2
            rw [show (i + 1).toNat = i.toNat + 1 by omega] at hx2
            have e7 : ps (txC M) p (i.toNat + 1) = q + 1 := by show ne (txC M) (ps (txC M) p i.toNat) + 1 = _; rw [hq]
            rw [e7] at hx2
            refine hx2 ?_ (fun j hj => ?_)
            · show (okn (txC M) p many i.toNat && decide _) = true
              rw [hok, Bool.true_and, decide_eq_true_eq, Int.toNat_of_nonneg h1, ← hq]
              exact ⟨hdig, by simp only [sep]; omega⟩
            · by_cases hji : (j : Int) = i
              · rw [← hji, up_s, hx, ← hji, Int.toNat_natCast]
              · rw [up_j hji]; exact hv j (by omega)
          · refine R_iconst (pc := 102) dX3_readNumbers_102 ?_
            refine R_iret (pc := 103) dX3_readNumbers_103 ?_
            have hno := hfail hlt (fun w => by rw [← hq] at w; have := w.2; simp only [sep] at this; omega)
            exact ⟨by rw [if_neg (fun w => hno w.2)], hN2, fun w => absurd w hno⟩
        · refine R_bipush (pc := 92) dX3_readNumbers_92 rfl ?_
          refine R_goto (pc := 94) (tgt := 99) dX3_readNumbers_94 (by decide) ?_
          refine R_cmp_eq (pc := 99) (tgt := 104) dX3_readNumbers_99 (by decide) (by omega) (fun h_99 => ?_) (fun h_99 => ?_)
          · refine R_iinc dX3_readNumbers_104 rfl (by decide) rfl rfl ?_
            refine R_iinc dX3_readNumbers_107 rfl (by decide) rfl rfl ?_
            refine R_goto (tgt := 17) dX3_readNumbers_110 (by decide) ?_
            refine R_drop 5 rfl ?_
            have hx2 := ih (i + 1) (up N 4 i x) (by omega) (by omega) (by omega) hN2
            rw [show (i + 1).toNat = i.toNat + 1 by omega] at hx2
            have e7 : ps (txC M) p (i.toNat + 1) = q + 1 := by show ne (txC M) (ps (txC M) p i.toNat) + 1 = _; rw [hq]
            rw [e7] at hx2
            refine hx2 ?_ (fun j hj => ?_)
            · show (okn (txC M) p many i.toNat && decide _) = true
              rw [hok, Bool.true_and, decide_eq_true_eq, Int.toNat_of_nonneg h1, ← hq]
              exact ⟨hdig, by simp only [sep]; omega⟩
            · by_cases hji : (j : Int) = i
              · rw [← hji, up_s, hx, ← hji, Int.toNat_natCast]
              · rw [up_j hji]; exact hv j (by omega)
          · refine R_iconst (pc := 102) dX3_readNumbers_102 ?_
            refine R_iret (pc := 103) dX3_readNumbers_103 ?_
            have hno := hfail hlt (fun w => by rw [← hq] at w; have := w.2; simp only [sep] at this; omega)
            exact ⟨by rw [if_neg (fun w => hno w.2)], hN2, fun w => absurd w hno⟩
      refine R_iload (pc := 17) dX3_readNumbers_17 rfl ?_
      refine R_iload_n (pc := 19) dX3_readNumbers_19 rfl ?_
      refine R_cmp_ge (pc := 20) (tgt := 113) dX3_readNumbers_20 (by decide) (by omega) (fun h_20 => ?_) (fun h_20 => ?_)
      · have e1 : i = many := by omega
        subst e1
        refine R_iload_n (pc := 113) dX3_readNumbers_113 rfl ?_
        refine R_iret (pc := 114) dX3_readNumbers_114 ?_
        exact ⟨by rw [if_pos ⟨hm1, hok⟩], hN, fun _ j hj => hv j hj⟩
      · refine R_aload_n (pc := 23) dX3_readNumbers_23 rfl ?_
        refine R_iload_n (pc := 24) dX3_readNumbers_24 rfl ?_
        refine R_V1i (pc := 25) dX3_readNumbers_25 sv_RX3_45 (hsh _ _ rfl) (k_isFigure b sh N hsh hNr hz' _ (by omega)) (Nat.le_of_ble_eq_true rfl) (by decide) ?_
        refine R_if_ne (pc := 28) (tgt := 33) dX3_readNumbers_28 (by decide) (by omega) (fun h_28 => ?_) (fun h_28 => ?_)
        · rw [et] at h_28
          refine R_aload_n (pc := 33) dX3_readNumbers_33 rfl ?_
          refine R_iload_n (pc := 34) dX3_readNumbers_34 rfl ?_
          refine R_V1i (pc := 35) dX3_readNumbers_35 sv_RX3_49 (hsh _ _ rfl) (k_figureAt b sh N hsh hz' _ (by omega)) (Nat.le_of_ble_eq_true rfl) (by decide) ?_
          refine R_istore (pc := 38) dX3_readNumbers_38 (by decide) rfl rfl ?_
          refine R_iinc (pc := 40) dX3_readNumbers_40 rfl (by decide) rfl rfl ?_
          refine R_aload_n (pc := 43) dX3_readNumbers_43 rfl ?_
          refine R_iload_n (pc := 44) dX3_readNumbers_44 rfl ?_
          refine R_V1i (pc := 45) dX3_readNumbers_45 sv_RX3_45 (hsh _ _ rfl) (k_isFigure b sh N hsh hNr hz' _ (by omega)) (Nat.le_of_ble_eq_true rfl) (by decide) ?_
          refine R_if_eq (pc := 48) (tgt := 67) dX3_readNumbers_48 (by decide) (by omega) (fun h_48 => ?_) (fun h_48 => ?_)
          · first
              | exact J (by omega) (by omega) _ _ (by unfold ne; rw [if_pos (by omega)]; omega) (by unfold nv; rw [if_pos (by omega), et]) (by rw [et]; omega)
              | exact J (by omega) (by omega) _ _ (by unfold ne; rw [if_neg (by rw [et] at h_48; omega)]) (by unfold nv; rw [if_neg (by rw [et] at h_48; omega), et]) (by rw [et]; omega)
          · rw [et] at h_48
            refine R_bipush (pc := 51) dX3_readNumbers_51 rfl ?_
            refine R_iload (pc := 53) dX3_readNumbers_53 rfl ?_
            refine R_imul (pc := 55) dX3_readNumbers_55 ?_
            refine R_aload_n (pc := 56) dX3_readNumbers_56 rfl ?_
            refine R_iload_n (pc := 57) dX3_readNumbers_57 rfl ?_
            refine R_V1i (pc := 58) dX3_readNumbers_58 sv_RX3_49 (hsh _ _ rfl) (k_figureAt b sh N hsh hz' _ (by omega)) (Nat.le_of_ble_eq_true rfl) (by decide) ?_
            refine R_iadd (pc := 61) dX3_readNumbers_61 ?_
            refine R_istore (pc := 62) dX3_readNumbers_62 (by decide) rfl rfl ?_
            refine R_iinc (pc := 64) dX3_readNumbers_64 rfl (by decide) rfl rfl ?_
            first
              | exact J (by omega) (by omega) _ _ (by unfold ne; rw [if_pos (by omega)]; omega) (by unfold nv; rw [if_pos (by omega), et]) (by rw [et]; omega)
              | exact J (by omega) (by omega) _ _ (by unfold ne; rw [if_neg (by rw [et] at h_48; omega)]) (by unfold nv; rw [if_neg (by rw [et] at h_48; omega), et]) (by rw [et]; omega)
        · refine R_iconst (pc := 31) dX3_readNumbers_31 ?_
          refine R_iret (pc := 32) dX3_readNumbers_32 ?_
          have hno := hfail (by omega) (fun q => by rw [et] at h_28; omega)
          exact ⟨by rw [if_neg (fun q => hno q.2)], hN, fun q => absurd q hno⟩
  refine MC_of (ls := [some (vr b 3), some (vi p), some (vi many), none, none, none]) (by decide) rfl (Nat.le_of_ble_eq_true rfl) ?_
  refine R_iload_n (pc := 0) dX3_readNumbers_0 rfl ?_
  refine R_iconst (pc := 1) dX3_readNumbers_1 ?_
  refine R_cmp_lt (pc := 2) (tgt := 10) dX3_readNumbers_2 (by decide) (by omega) (fun h_2 => ?_) (fun h_2 => ?_)
  · refine R_iconst (pc := 10) dX3_readNumbers_10 ?_
    refine R_iret (pc := 11) dX3_readNumbers_11 ?_
    exact ⟨by rw [if_neg (by omega)], fun _ _ => rfl, fun _ i hi => by omega⟩
  · refine R_iload_n (pc := 5) dX3_readNumbers_5 rfl ?_
    refine R_iconst (pc := 6) dX3_readNumbers_6 ?_
    refine R_cmp_le (pc := 7) (tgt := 12) dX3_readNumbers_7 (by decide) (by omega) (fun h_7 => ?_) (fun h_7 => ?_)
    · refine R_iload_n (pc := 12) dX3_readNumbers_12 rfl ?_
      refine R_istore_n (pc := 13) dX3_readNumbers_13 (by decide) rfl rfl ?_
      refine R_iconst (pc := 14) dX3_readNumbers_14 ?_
      refine R_istore (pc := 15) dX3_readNumbers_15 (by decide) rfl rfl ?_
      exact L (by omega) 5 0 M (by omega) (by omega) (by omega) (fun _ _ => rfl) rfl (fun j hj => by omega)
    · refine R_iconst (pc := 10) dX3_readNumbers_10 ?_
      refine R_iret (pc := 11) dX3_readNumbers_11 ?_
      exact ⟨by rw [if_neg (by omega)], fun _ _ => rfl, fun _ i hi => by omega⟩
