/-! SHELVES -/
def ShOK (M : Mem) (f n : Nat) : Prop := (0 ≤ M f 1 ∧ M f 1 ≤ n) ∧ (∀ k : Int, 0 ≤ k → k < n → ∃ r : Nat, M (f + 1) k = r ∧ r ∈ roads ∧ f + 2 ≤ r ∧ r ≤ f + 2 * n ∧ r % 2 = 1) ∧ (∀ j k : Int, 0 ≤ j → j < n → 0 ≤ k → k < n → M (f + 1) j = M (f + 1) k → j = k)
def ix (M : Mem) (f : Nat) (k : Int) : Nat := (M (f + 1) k).toNat
def shR (M : Mem) (f : Nat) (k : Int) : Rd := roC M (ix M f k)
theorem ix_of {M : Mem} {f n : Nat} (h : ShOK M f n) {k : Int} (h0 : 0 ≤ k) (h1 : k < n) : M (f + 1) k = (ix M f k : Int) ∧ ix M f k ∈ roads ∧ f + 2 ≤ ix M f k ∧ ix M f k ≤ f + 2 * n ∧ ix M f k % 2 = 1 := by
  obtain ⟨r, e, h2⟩ := h.2.1 k h0 h1
  have : ix M f k = r := by unfold ix; rw [e, Int.toNat_natCast]
  rw [this]
  exact ⟨e, h2⟩
theorem ix_ne {M : Mem} {f n : Nat} (h : ShOK M f n) {j k : Int} (j0 : 0 ≤ j) (j1 : j < n) (k0 : 0 ≤ k) (k1 : k < n) (hjk : j ≠ k) : ix M f j + 1 < ix M f k ∨ ix M f k + 1 < ix M f j := by
  obtain ⟨e1, -, -, -, o1⟩ := ix_of h j0 j1
  obtain ⟨e2, -, -, -, o2⟩ := ix_of h k0 k1
  have : ix M f j ≠ ix M f k := fun q => hjk (h.2.2 j k j0 j1 k0 k1 (by rw [e1, e2, q]))
  omega
theorem roC_up {N : Mem} {k r : Nat} {j x : Int} (h1 : r ≠ k) (h2 : r + 1 ≠ k) : roC (up N k j x) r = roC N r := by
  unfold roC
  rw [up_o _ h1, up_o _ h2]
def putS (M : Mem) (f : Nat) : Mem := up (putC (up M (ix M f (M f 1)) 0 (M 23 0)) (ix M f (M f 1)) (roC M 23)) f 1 (M f 1 + 1)
def rotS (M : Mem) (f n : Nat) : Mem := fun k j => if k = f + 1 ∧ 0 ≤ j ∧ j < n then (if j = (n : Int) - 1 then M (f + 1) 0 else M (f + 1) (j + 1)) else M k j
def poS (M : Mem) (f n : Nat) : Mem := if M f 1 < n then putS M f else putS (up (rotS M f n) f 1 (n - 1)) f
def tkS (M : Mem) (f : Nat) : Mem := putC (up (up M f 1 (M f 1 - 1)) 23 0 (M (ix M f (M f 1 - 1)) 0)) 23 (roC M (ix M f (M f 1 - 1)))
theorem k_put (b : Nat) (sh : Shp) (M : Mem) (f n : Nat) (hsh : Hc sh) (hf : isSf sh f n) (hS : ShOK M f n) (hM : ∀ k j, inR (M k j)) (hw : M 23 4 = 0 ∨ M 23 4 = 1) : Ex 2 mX6_put b sh M [vr b f, vr b 23] (some (vi (if M f 1 < n then 1 else 0))) (if M f 1 < n then putS M f else M) := by
  have hs := hS.1
  have hfn := hf.2.2
  have h23 : isRd sh 23 := rd_of hsh (by decide)
  by_cases hlt : M f 1 < n
  · obtain ⟨e, hr, hr1, hr2, hr3⟩ := ix_of hS hs.1 hlt
    have hrr := rd_of hsh hr
    rw [if_pos hlt, if_pos hlt]
    refine MC_of (ls := [some (vr b f), some (vr b 23)]) (by decide) rfl (Nat.le_of_ble_eq_true rfl) ?_
    refine R_aload_n (pc := 0) dX6_put_0 rfl ?_
    refine R_getI (pc := 1) (J := 1) dX6_put_1 fl_RX6_22 rfl rfl hf.1 (rfl) ?_
    refine R_aload_n (pc := 4) dX6_put_4 rfl ?_
    refine R_getR (pc := 5) dX6_put_5 fl_RX6_15 rfl hf.1 rfl ?_
    refine R_alen (pc := 8) dX6_put_8 (Or.inr hf.2.1) ?_
    refine R_cmp_lt (pc := 9) (tgt := 14) dX6_put_9 (by decide) (by omega) (fun h_9 => ?_) (fun h_9 => ?_)
    · refine R_aload_n (pc := 14) dX6_put_14 rfl ?_
      refine R_getR (pc := 15) dX6_put_15 fl_RX6_15 rfl hf.1 rfl ?_
      refine R_aload_n (pc := 18) dX6_put_18 rfl ?_
      refine R_getI (pc := 19) (J := 1) dX6_put_19 fl_RX6_22 rfl rfl hf.1 (rfl) ?_
      refine R_aald (pc := 22) dX6_put_22 hf.2.1 (by omega) (e) ?_
      refine R_aload_n (pc := 23) dX6_put_23 rfl ?_
      refine R_V1v (pc := 24) dX6_put_24 sv_RX6_26 hrr.1 (k_copyFrom b sh M _ 23 hrr h23 (by omega) hM hw) (Nat.le_of_ble_eq_true rfl) (by decide) ?_
      refine R_aload_n (pc := 27) dX6_put_27 rfl ?_
      refine R_dup (pc := 28) dX6_put_28 rfl ?_
      refine R_getI (pc := 29) (J := 1) dX6_put_29 fl_RX6_22 rfl rfl hf.1 ((pc_o (by omega) (by omega)).trans (up_k (by omega))) ?_
      refine R_iconst (pc := 32) dX6_put_32 ?_
      refine R_iadd (pc := 33) dX6_put_33 ?_
      refine R_putI (pc := 34) (J := 1) rfl dX6_put_34 fl_RX6_22 rfl (fun r h => by cases h; rfl) hf.1 (by omega) ?_
      refine R_iconst (pc := 37) dX6_put_37 ?_
      refine R_zret (pc := 38) dX6_put_38 (by first | exact Or.inl rfl | exact Or.inr rfl | omega) ?_
      exact eqi rfl rfl
    · exact absurd h_9 (by omega)
  · rw [if_neg hlt, if_neg hlt]
    refine MC_of (ls := [some (vr b f), some (vr b 23)]) (by decide) rfl (Nat.le_of_ble_eq_true rfl) ?_
    refine R_aload_n (pc := 0) dX6_put_0 rfl ?_
    refine R_getI (pc := 1) (J := 1) dX6_put_1 fl_RX6_22 rfl rfl hf.1 (rfl) ?_
    refine R_aload_n (pc := 4) dX6_put_4 rfl ?_
    refine R_getR (pc := 5) dX6_put_5 fl_RX6_15 rfl hf.1 rfl ?_
    refine R_alen (pc := 8) dX6_put_8 (Or.inr hf.2.1) ?_
    refine R_cmp_lt (pc := 9) (tgt := 14) dX6_put_9 (by decide) (by omega) (fun h_9 => ?_) (fun h_9 => ?_)
    · exact absurd h_9 (by omega)
    · refine R_iconst (pc := 12) dX6_put_12 ?_
      refine R_zret (pc := 13) dX6_put_13 (by first | exact Or.inl rfl | exact Or.inr rfl | omega) ?_
      exact eqi rfl rfl
theorem rot_OK {M : Mem} {f n : Nat} (h : ShOK M f n) (hn : 0 < n) : ShOK (up (rotS M f n) f 1 (n - 1)) f n ∧ ∀ k : Int, 0 ≤ k → k < n → up (rotS M f n) f 1 (n - 1) (f + 1) k = if k = (n : Int) - 1 then M (f + 1) 0 else M (f + 1) (k + 1) := by
  have e : ∀ k : Int, 0 ≤ k → k < n → up (rotS M f n) f 1 (n - 1) (f + 1) k = if k = (n : Int) - 1 then M (f + 1) 0 else M (f + 1) (k + 1) := by
    intro k h0 h1
    rw [up_k (by omega)]
    unfold rotS
    rw [if_pos ⟨rfl, h0, h1⟩]
  refine ⟨⟨by rw [up_s]; omega, fun k h0 h1 => ?_, fun j k j0 j1 k0 k1 hjk => ?_⟩, e⟩
  · rw [e k h0 h1]
    split
    · exact h.2.1 0 (by omega) (by omega)
    · exact h.2.1 (k + 1) (by omega) (by omega)
  · rw [e j j0 j1, e k k0 k1] at hjk
    by_cases a1 : j = (n : Int) - 1
    · by_cases a2 : k = (n : Int) - 1
      · omega
      · rw [if_pos a1, if_neg a2] at hjk
        have := h.2.2 0 (k + 1) (by omega) (by omega) (by omega) (by omega) hjk
        omega
    · by_cases a2 : k = (n : Int) - 1
      · rw [if_neg a1, if_pos a2] at hjk
        have := h.2.2 (j + 1) 0 (by omega) (by omega) (by omega) (by omega) hjk
        omega
      · rw [if_neg a1, if_neg a2] at hjk
        have := h.2.2 (j + 1) (k + 1) (by omega) (by omega) (by omega) (by omega) hjk
        omega
def rotP (M : Mem) (f : Nat) (i : Int) : Mem := fun k j => if k = f + 1 ∧ 0 ≤ j ∧ j < i - 1 then M (f + 1) (j + 1) else M k j
theorem k_putOverOldest (b : Nat) (sh : Shp) (M : Mem) (f n : Nat) (hsh : Hc sh) (hf : isSf sh f n) (hS : ShOK M f n) (hM : ∀ k j, inR (M k j)) (hw : M 23 4 = 0 ∨ M 23 4 = 1) : Ex 3 mX6_putOverOldest b sh M [vr b f, vr b 23] none (poS M f n) := by
  have hs := hS.1
  have hfn := hf.2.2
  have h23 : isRd sh 23 := rd_of hsh (by decide)
  by_cases hlt : M f 1 < n
  · have hp : Ex 2 mX6_put b sh M [vr b f, vr b 23] (some (vi 1)) (putS M f) := by
      have := k_put b sh M f n hsh hf hS hM hw
      rw [if_pos hlt, if_pos hlt] at this
      exact this
    unfold poS
    rw [if_pos hlt]
    refine MC_of (ls := [some (vr b f), some (vr b 23), none, none]) (by decide) rfl (Nat.le_of_ble_eq_true rfl) ?_
    refine R_aload_n (pc := 0) dX6_putOverOldest_0 rfl ?_
    refine R_getI (pc := 1) (J := 1) dX6_putOverOldest_1 fl_RX6_22 rfl rfl hf.1 (rfl) ?_
    refine R_aload_n (pc := 4) dX6_putOverOldest_4 rfl ?_
    refine R_getR (pc := 5) dX6_putOverOldest_5 fl_RX6_15 rfl hf.1 rfl ?_
    refine R_alen (pc := 8) dX6_putOverOldest_8 (Or.inr hf.2.1) ?_
    refine R_cmp_lt (pc := 9) (tgt := 74) dX6_putOverOldest_9 (by decide) (by omega) (fun h_9 => ?_) (fun h_9 => ?_)
    · refine R_aload_n (pc := 74) dX6_putOverOldest_74 rfl ?_
      refine R_aload_n (pc := 75) dX6_putOverOldest_75 rfl ?_
      refine R_V1i (pc := 76) dX6_putOverOldest_76 sv_RX6_30 hf.1 (hp) (Nat.le_of_ble_eq_true rfl) (by decide) ?_
      refine R_pop (pc := 79) dX6_putOverOldest_79 rfl ?_
      refine R_vret (pc := 80) dX6_putOverOldest_80 ?_
      exact eqv rfl
    · exact absurd h_9 (by omega)
  · unfold poS
    rw [if_neg hlt]
    obtain ⟨hS2, hrt⟩ := rot_OK hS (by omega)
    obtain ⟨e0, hr0, q0, q1, -⟩ := ix_of hS (k := 0) (by omega) (by omega)
    have hrr0 := rd_of hsh hr0
    have hfin : MW yX6_putOverOldest cX6_putOverOldest 4 none (rmD 3 0 0) (FM (EQ none (putS (up (rotS M f n) f 1 (n - 1)) f)) b sh 0 0) b sh.length 0 0 74 [some (vr b f), some (vr b 23), none, none] [] sh (up (rotS M f n) f 1 (n - 1)) := by
      refine R_rng fun hMr => ?_
      have hp : Ex 2 mX6_put b sh (up (rotS M f n) f 1 (n - 1)) [vr b f, vr b 23] (some (vi 1)) (putS (up (rotS M f n) f 1 (n - 1)) f) := by
        have e23 : up (rotS M f n) f 1 (n - 1) 23 4 = M 23 4 := by
          rw [up_k (by omega)]
          unfold rotS
          rw [if_neg (by omega)]
        have := k_put b sh _ f n hsh hf hS2 hMr (by rw [e23]; exact hw)
        rw [if_pos (by rw [up_s]; omega), if_pos (by rw [up_s]; omega)] at this
        exact this
      refine R_aload_n (pc := 74) dX6_putOverOldest_74 rfl ?_
      refine R_aload_n (pc := 75) dX6_putOverOldest_75 rfl ?_
      refine R_V1i (pc := 76) dX6_putOverOldest_76 sv_RX6_30 hf.1 (hp) (Nat.le_of_ble_eq_true rfl) (by decide) ?_
      refine R_pop (pc := 79) dX6_putOverOldest_79 rfl ?_
      refine R_vret (pc := 80) dX6_putOverOldest_80 ?_
      exact eqv rfl
    have L : ∀ (m : Nat) (i : Int), 1 ≤ i → i ≤ n → n - i < m → MW yX6_putOverOldest cX6_putOverOldest 4 none (rmD 3 0 0) (FM (EQ none (putS (up (rotS M f n) f 1 (n - 1)) f)) b sh 0 0) b sh.length 0 0 21 [some (vr b f), some (vr b 23), some (vr b (ix M f 0)), some (vi i)] [] sh (rotP M f i) := by
      intro m
      induction m with
      | zero => intro i h1 h2 h3; exact absurd h3 (by omega)
      | succ m ih =>
        intro i h1 h2 h3
        by_cases hin : i < n
        · obtain ⟨ei, hri, qi, qi1, -⟩ := ix_of hS (k := i) (by omega) hin
          have hrri := rd_of hsh hri
          refine R_iload_n (pc := 21) dX6_putOverOldest_21 rfl ?_
          refine R_aload_n (pc := 22) dX6_putOverOldest_22 rfl ?_
          refine R_getR (pc := 23) dX6_putOverOldest_23 fl_RX6_15 rfl hf.1 rfl ?_
          refine R_alen (pc := 26) dX6_putOverOldest_26 (Or.inr hf.2.1) ?_
          refine R_cmp_ge (pc := 27) (tgt := 50) dX6_putOverOldest_27 (by decide) (by omega) (fun h_27 => ?_) (fun h_27 => ?_)
          · exact absurd h_27 (by omega)
          · refine R_aload_n (pc := 30) dX6_putOverOldest_30 rfl ?_
            refine R_getR (pc := 31) dX6_putOverOldest_31 fl_RX6_15 rfl hf.1 rfl ?_
            refine R_iload_n (pc := 34) dX6_putOverOldest_34 rfl ?_
            refine R_iconst (pc := 35) dX6_putOverOldest_35 ?_
            refine R_isub (pc := 36) dX6_putOverOldest_36 ?_
            refine R_aload_n (pc := 37) dX6_putOverOldest_37 rfl ?_
            refine R_getR (pc := 38) dX6_putOverOldest_38 fl_RX6_15 rfl hf.1 rfl ?_
            refine R_iload_n (pc := 41) dX6_putOverOldest_41 rfl ?_
            refine R_aald (pc := 42) dX6_putOverOldest_42 hf.2.1 (by omega) ((show rotP M f i (f + 1) i = _ by unfold rotP; rw [if_neg (by omega)]; exact ei)) ?_
            refine R_aast (pc := 43) dX6_putOverOldest_43 hf.2.1 (by omega) hrri.1 (by omega) ?_
            refine R_iinc dX6_putOverOldest_44 rfl (by decide) rfl rfl ?_
            refine R_goto (tgt := 21) dX6_putOverOldest_47 (by decide) ?_
            have hx := ih (i + 1) (by omega) (by omega) (by omega)
            refine R_mem ?_ hx
            funext k j
            unfold up rotP
            by_cases hk : k = f + 1 ∧ j = i - 1
            · rw [if_pos hk, if_pos (by omega), ← ei, hk.2]
              congr 1; omega
            · rw [if_neg hk]
              by_cases h5 : k = f + 1 ∧ 0 ≤ j ∧ j < i - 1
              · rw [if_pos h5, if_pos (by omega)]
              · rw [if_neg h5, if_neg (by omega)]
        · have e1 : i = n := by omega
          subst e1
          refine R_iload_n (pc := 21) dX6_putOverOldest_21 rfl ?_
          refine R_aload_n (pc := 22) dX6_putOverOldest_22 rfl ?_
          refine R_getR (pc := 23) dX6_putOverOldest_23 fl_RX6_15 rfl hf.1 rfl ?_
          refine R_alen (pc := 26) dX6_putOverOldest_26 (Or.inr hf.2.1) ?_
          refine R_cmp_ge (pc := 27) (tgt := 50) dX6_putOverOldest_27 (by decide) (by omega) (fun h_27 => ?_) (fun h_27 => ?_)
          · refine R_aload_n (pc := 50) dX6_putOverOldest_50 rfl ?_
            refine R_getR (pc := 51) dX6_putOverOldest_51 fl_RX6_15 rfl hf.1 rfl ?_
            refine R_aload_n (pc := 54) dX6_putOverOldest_54 rfl ?_
            refine R_getR (pc := 55) dX6_putOverOldest_55 fl_RX6_15 rfl hf.1 rfl ?_
            refine R_alen (pc := 58) dX6_putOverOldest_58 (Or.inr hf.2.1) ?_
            refine R_iconst (pc := 59) dX6_putOverOldest_59 ?_
            refine R_isub (pc := 60) dX6_putOverOldest_60 ?_
            refine R_aload_n (pc := 61) dX6_putOverOldest_61 rfl ?_
            refine R_aast (pc := 62) dX6_putOverOldest_62 hf.2.1 (by omega) hrr0.1 (by omega) ?_
            refine R_aload_n (pc := 63) dX6_putOverOldest_63 rfl ?_
            refine R_aload_n (pc := 64) dX6_putOverOldest_64 rfl ?_
            refine R_getR (pc := 65) dX6_putOverOldest_65 fl_RX6_15 rfl hf.1 rfl ?_
            refine R_alen (pc := 68) dX6_putOverOldest_68 (Or.inr hf.2.1) ?_
            refine R_iconst (pc := 69) dX6_putOverOldest_69 ?_
            refine R_isub (pc := 70) dX6_putOverOldest_70 ?_
            refine R_putI (pc := 71) (J := 1) rfl dX6_putOverOldest_71 fl_RX6_22 rfl (fun r h => by cases h; rfl) hf.1 (by omega) ?_
            refine R_drop 2 rfl ?_
            refine R_drop 3 rfl ?_
            refine R_mem ?_ hfin
            congr 1
            funext k j
            unfold up rotP rotS
            by_cases hk : k = f + 1 ∧ j = (n : Int) - 1
            · rw [if_pos hk, if_pos (by omega), if_pos hk.2, e0]
            · rw [if_neg hk]
              by_cases h5 : k = f + 1 ∧ 0 ≤ j ∧ j < (n : Int) - 1
              · rw [if_pos h5, if_pos (by omega), if_neg (by omega)]
              · rw [if_neg h5, if_neg (by omega)]
          · exact absurd h_27 (by omega)
    refine MC_of (ls := [some (vr b f), some (vr b 23), none, none]) (by decide) rfl (Nat.le_of_ble_eq_true rfl) ?_
    refine R_aload_n (pc := 0) dX6_putOverOldest_0 rfl ?_
    refine R_getI (pc := 1) (J := 1) dX6_putOverOldest_1 fl_RX6_22 rfl rfl hf.1 (rfl) ?_
    refine R_aload_n (pc := 4) dX6_putOverOldest_4 rfl ?_
    refine R_getR (pc := 5) dX6_putOverOldest_5 fl_RX6_15 rfl hf.1 rfl ?_
    refine R_alen (pc := 8) dX6_putOverOldest_8 (Or.inr hf.2.1) ?_
    refine R_cmp_lt (pc := 9) (tgt := 74) dX6_putOverOldest_9 (by decide) (by omega) (fun h_9 => ?_) (fun h_9 => ?_)
    · exact absurd h_9 (by omega)
    · refine R_aload_n (pc := 12) dX6_putOverOldest_12 rfl ?_
      refine R_getR (pc := 13) dX6_putOverOldest_13 fl_RX6_15 rfl hf.1 rfl ?_
      refine R_iconst (pc := 16) dX6_putOverOldest_16 ?_
      refine R_aald (pc := 17) dX6_putOverOldest_17 hf.2.1 (by omega) (e0) ?_
      refine R_astore_n (pc := 18) dX6_putOverOldest_18 (by decide) rfl rfl ?_
      refine R_iconst (pc := 19) dX6_putOverOldest_19 ?_
      refine R_istore_n (pc := 20) dX6_putOverOldest_20 (by decide) rfl rfl ?_
      have hx := L 20 1 (by omega) (by omega) (by omega)
      refine R_mem ?_ hx
      funext k j
      unfold rotP
      rw [if_neg (by omega)]
theorem k_takeInto (b : Nat) (sh : Shp) (M : Mem) (f n : Nat) (hsh : Hc sh) (hf : isSf sh f n) (hS : ShOK M f n) (hM : ∀ k j, inR (M k j)) (hw : 1 ≤ M f 1 → M (ix M f (M f 1 - 1)) 4 = 0 ∨ M (ix M f (M f 1 - 1)) 4 = 1) : Ex 2 mX6_takeInto b sh M [vr b f, vr b 23] (some (vi (if 1 ≤ M f 1 then 1 else 0))) (if 1 ≤ M f 1 then tkS M f else M) := by
  have hs := hS.1
  have hfn := hf.2.2
  have h23 : isRd sh 23 := rd_of hsh (by decide)
  by_cases hlt : 1 ≤ M f 1
  · obtain ⟨e, hr, hr1, hr2, hr3⟩ := ix_of hS (k := M f 1 - 1) (by omega) (by omega)
    have hrr := rd_of hsh hr
    rw [if_pos hlt, if_pos hlt]
    have hM2 : ∀ k j, inR (up M f 1 (M f 1 - 1) k j) := up_R hM (by omega)
    have ero : roC (up M f 1 (M f 1 - 1)) (ix M f (M f 1 - 1)) = roC M (ix M f (M f 1 - 1)) := by
      unfold roC
      rw [up_o _ (by omega), up_o _ (by omega)]
    have hc := k_copyFrom b sh (up M f 1 (M f 1 - 1)) 23 (ix M f (M f 1 - 1)) h23 hrr (by omega) hM2 (by rw [up_k (by omega)]; exact hw hlt)
    rw [ero, up_k (show ix M f (M f 1 - 1) ≠ f by omega)] at hc
    refine MC_of (ls := [some (vr b f), some (vr b 23)]) (by decide) rfl (Nat.le_of_ble_eq_true rfl) ?_
    refine R_aload_n (pc := 0) dX6_takeInto_0 rfl ?_
    refine R_getI (pc := 1) (J := 1) dX6_takeInto_1 fl_RX6_22 rfl rfl hf.1 (rfl) ?_
    refine R_iconst (pc := 4) dX6_takeInto_4 ?_
    refine R_cmp_ge (pc := 5) (tgt := 10) dX6_takeInto_5 (by decide) (by omega) (fun h_5 => ?_) (fun h_5 => ?_)
    · refine R_aload_n (pc := 10) dX6_takeInto_10 rfl ?_
      refine R_dup (pc := 11) dX6_takeInto_11 rfl ?_
      refine R_getI (pc := 12) (J := 1) dX6_takeInto_12 fl_RX6_22 rfl rfl hf.1 (rfl) ?_
      refine R_iconst (pc := 15) dX6_takeInto_15 ?_
      refine R_isub (pc := 16) dX6_takeInto_16 ?_
      refine R_putI (pc := 17) (J := 1) rfl dX6_takeInto_17 fl_RX6_22 rfl (fun r h => by cases h; rfl) hf.1 (by omega) ?_
      refine R_aload_n (pc := 20) dX6_takeInto_20 rfl ?_
      refine R_aload_n (pc := 21) dX6_takeInto_21 rfl ?_
      refine R_getR (pc := 22) dX6_takeInto_22 fl_RX6_15 rfl hf.1 rfl ?_
      refine R_aload_n (pc := 25) dX6_takeInto_25 rfl ?_
      refine R_getI (pc := 26) (J := 1) dX6_takeInto_26 fl_RX6_22 rfl rfl hf.1 (up_s) ?_
      refine R_aald (pc := 29) dX6_takeInto_29 hf.2.1 (by omega) ((up_k (by omega)).trans e) ?_
      refine R_V1v (pc := 30) dX6_takeInto_30 sv_RX6_26 h23.1 (hc) (Nat.le_of_ble_eq_true rfl) (by decide) ?_
      refine R_iconst (pc := 33) dX6_takeInto_33 ?_
      refine R_zret (pc := 34) dX6_takeInto_34 (by first | exact Or.inl rfl | exact Or.inr rfl | omega) ?_
      exact eqi rfl rfl
    · exact absurd h_5 (by omega)
  · rw [if_neg hlt, if_neg hlt]
    refine MC_of (ls := [some (vr b f), some (vr b 23)]) (by decide) rfl (Nat.le_of_ble_eq_true rfl) ?_
    refine R_aload_n (pc := 0) dX6_takeInto_0 rfl ?_
    refine R_getI (pc := 1) (J := 1) dX6_takeInto_1 fl_RX6_22 rfl rfl hf.1 (rfl) ?_
    refine R_iconst (pc := 4) dX6_takeInto_4 ?_
    refine R_cmp_ge (pc := 5) (tgt := 10) dX6_takeInto_5 (by decide) (by omega) (fun h_5 => ?_) (fun h_5 => ?_)
    · exact absurd h_5 (by omega)
    · refine R_iconst (pc := 8) dX6_takeInto_8 ?_
      refine R_zret (pc := 9) dX6_takeInto_9 (by first | exact Or.inl rfl | exact Or.inr rfl | omega) ?_
      exact eqi rfl rfl
theorem k_sclear (b : Nat) (sh : Shp) (M : Mem) (f n : Nat) (hf : isSf sh f n) : Ex 0 mX6_clear b sh M [vr b f] none (up M f 1 0) := by
  refine MC_of (ls := [some (vr b f)]) (by decide) rfl (Nat.le_of_ble_eq_true rfl) ?_
  refine R_aload_n (pc := 0) dX6_clear_0 rfl ?_
  refine R_iconst (pc := 1) dX6_clear_1 ?_
  refine R_putI (pc := 2) (J := 1) rfl dX6_clear_2 fl_RX6_22 rfl (fun r h => by cases h; rfl) hf.1 (by omega) ?_
  refine R_vret (pc := 5) dX6_clear_5 ?_
  exact eqv rfl
/-! what a put leaves -/
theorem putS_f {M : Mem} {f n : Nat} (hS : ShOK M f n) (hf : (f = 27 ∧ n = 8) ∨ (f = 45 ∧ n = 2)) (hlt : M f 1 < n) :
    putS M f f 1 = M f 1 + 1 ∧ (∀ k, putS M f (f + 1) k = M (f + 1) k) ∧ ShOK (putS M f) f n ∧ (∀ c, (c < f ∨ f + 1 + 2 * n < c) → putS M f c = M c) ∧ (∀ k : Int, 0 ≤ k → k < n → k ≠ M f 1 → shR (putS M f) f k = shR M f k ∧ putS M f (ix M f k) 0 = M (ix M f k) 0) ∧ shR (putS M f) f (M f 1) = roC M 23 ∧ putS M f (ix M f (M f 1)) 0 = M 23 0 := by
  have hs := hS.1
  obtain ⟨e, hr, hr1, hr2, hr3⟩ := ix_of hS hs.1 hlt
  have hz : ∀ j, j < 0 ∨ 18 < j → roC M 23 j = 0 := fun j hj => by
    unfold roC
    rw [if_neg (by omega), if_neg (by omega), if_neg (by omega), if_neg (by omega)]
  have e1 : putS M f f 1 = M f 1 + 1 := up_s
  have e2 : ∀ k, putS M f (f + 1) k = M (f + 1) k := fun k => by
    unfold putS
    rw [up_k (by omega), pc_o (by omega) (by omega), up_k (by omega)]
  have eix : ∀ k, ix (putS M f) f k = ix M f k := fun k => by unfold ix; rw [e2]
  have eoff : ∀ c, c ≠ f → c ≠ ix M f (M f 1) → c ≠ ix M f (M f 1) + 1 → putS M f c = M c := fun c h1 h2 h3 => by
    unfold putS
    rw [up_o c h1, pc_co h2 h3, up_o c h2]
  refine ⟨e1, e2, ⟨by rw [e1]; omega, fun k h0 h1 => by rw [e2]; exact hS.2.1 k h0 h1, fun j k a1 a2 a3 a4 a5 => by rw [e2, e2] at a5; exact hS.2.2 j k a1 a2 a3 a4 a5⟩, fun c hc => eoff c (by omega) (by omega) (by omega), fun k h0 h1 hne => ?_, ?_, ?_⟩
  · obtain ⟨-, -, g1, g2, g3⟩ := ix_of hS h0 h1
    have hx := ix_ne hS h0 h1 hs.1 hlt hne
    have o1 : putS M f (ix M f k) = M (ix M f k) := eoff _ (by omega) (by omega) (by omega)
    have o2 : putS M f (ix M f k + 1) = M (ix M f k + 1) := eoff _ (by omega) (by omega) (by omega)
    unfold shR
    rw [eix]
    exact ⟨by unfold roC; rw [o1, o2], by rw [o1]⟩
  · unfold shR
    rw [eix]
    have : roC (putS M f) (ix M f (M f 1)) = roC (putC (up M (ix M f (M f 1)) 0 (M 23 0)) (ix M f (M f 1)) (roC M 23)) (ix M f (M f 1)) := by
      exact roC_up (by omega) (by omega)
    rw [this, ro_pc hz]
  · unfold putS
    rw [up_k (by omega), pc_n (Or.inl rfl), up_s]
/-- after putOverOldest: g k the road that lay at k, for the k that stay -/
theorem poS_f {M : Mem} {f n : Nat} (hS : ShOK M f n) (hf : (f = 27 ∧ n = 8) ∨ (f = 45 ∧ n = 2)) :
    ShOK (poS M f n) f n ∧ (∀ c, (c < f ∨ f + 1 + 2 * n < c) → poS M f n c = M c) ∧ poS M f n f 1 = (if M f 1 < n then M f 1 + 1 else n) ∧ (∀ k : Int, 0 ≤ k → k < poS M f n f 1 - 1 → shR (poS M f n) f k = shR M f (if M f 1 < n then k else k + 1) ∧ poS M f n (ix (poS M f n) f k) 0 = M (ix M f (if M f 1 < n then k else k + 1)) 0) ∧ shR (poS M f n) f (poS M f n f 1 - 1) = roC M 23 ∧ poS M f n (ix (poS M f n) f (poS M f n f 1 - 1)) 0 = M 23 0 := by
  have hs := hS.1
  unfold poS
  by_cases hlt : M f 1 < n
  · simp only [if_pos hlt]
    obtain ⟨g1, g2, g3, g4, g5, g6, g7⟩ := putS_f hS hf hlt
    have eix : ∀ k, ix (putS M f) f k = ix M f k := fun k => by unfold ix; rw [g2]
    rw [g1]
    refine ⟨g3, g4, rfl, fun k h0 h1 => ?_, ?_, ?_⟩
    · obtain ⟨a1, a2⟩ := g5 k h0 (by omega) (by omega)
      exact ⟨a1, by rw [eix]; exact a2⟩
    · rw [show M f 1 + 1 - 1 = M f 1 by omega]; exact g6
    · rw [show M f 1 + 1 - 1 = M f 1 by omega, eix]; exact g7
  · simp only [if_neg hlt]
    have hMn : M f 1 = n := by omega
    obtain ⟨hS2, hrt⟩ := rot_OK hS (by omega)
    have e1 : up (rotS M f n) f 1 (n - 1) f 1 = (n : Int) - 1 := up_s
    obtain ⟨g1, g2, g3, g4, g5, g6, g7⟩ := putS_f hS2 hf (by rw [e1]; omega)
    have eix : ∀ k, ix (putS (up (rotS M f n) f 1 (n - 1)) f) f k = ix (up (rotS M f n) f 1 (n - 1)) f k := fun k => by unfold ix; rw [g2]
    have eoff : ∀ c, c ≠ f → c ≠ f + 1 → up (rotS M f n) f 1 (n - 1) c = M c := fun c h1 h2 => by
      rw [up_o c h1]
      funext j
      unfold rotS
      rw [if_neg (by omega)]
    have e23 : roC (up (rotS M f n) f 1 (n - 1)) 23 = roC M 23 := by
      unfold roC
      rw [eoff _ (by omega) (by omega), eoff _ (by omega) (by omega)]
    rw [e1] at g1 g5 g6 g7
    rw [g1]
    refine ⟨g3, fun c hc => (g4 c hc).trans (eoff c (by omega) (by omega)), by omega, fun k h0 h1 => ?_, ?_, ?_⟩
    · obtain ⟨a1, a2⟩ := g5 k h0 (by omega) (by omega)
      have hik : ix (up (rotS M f n) f 1 (n - 1)) f k = ix M f (k + 1) := by
        unfold ix
        rw [hrt k h0 (by omega), if_neg (by omega)]
      obtain ⟨-, -, q1, q2, -⟩ := ix_of hS (k := k + 1) (by omega) (by omega)
      refine ⟨a1.trans ?_, by rw [eix, a2, hik, eoff _ (by omega) (by omega)]⟩
      unfold shR
      rw [hik]
      unfold roC
      rw [eoff _ (by omega) (by omega), eoff _ (by omega) (by omega)]
    · rw [show (n : Int) - 1 + 1 - 1 = n - 1 by omega, g6, e23]
    · rw [show (n : Int) - 1 + 1 - 1 = n - 1 by omega, eix, g7, eoff _ (by omega) (by omega)]
