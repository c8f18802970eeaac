theorem fw_in {mo : Mo} {g v : Int} (hA : 0 ≤ nAll mo) (k : Nat) (ro : Rd) : fw mo g v k ro = -1 ∨ (0 ≤ fw mo g v k ro ∧ fw mo g v k ro < nAll mo ^ k) := by
  have h := fw_l (g := g) (v := v) hA k ro
  have hp : 0 ≤ nAll mo ^ k := Int.pow_nonneg hA
  rcases lst_in (P := fun c => gl mo g v (rnF mo k ro c)) (nAll mo ^ k).toNat with ⟨g1, -⟩ | ⟨g1, g2, -⟩
  · rw [h] at g1; exact Or.inl g1
  · rw [h] at g1 g2
    exact Or.inr ⟨g1, by omega⟩
theorem fw_neg {mo : Mo} {g v : Int} (hA : 0 ≤ nAll mo) {k : Nat} {ro : Rd} (h : fw mo g v (k + 1) ro = -1) {c : Int} (h0 : 0 ≤ c) (h1 : c < nAll mo) : fw mo g v k (stp mo ro c) = -1 := by
  rw [fw_s] at h
  have hf : ¬ 0 ≤ fst1 mo g v k ro := by
    intro hq
    rw [if_pos hq] at h
    have hp : 0 ≤ nAll mo ^ k := Int.pow_nonneg hA
    have := Int.mul_nonneg hq hp
    rcases lst_in (P := fun c => decide (0 ≤ fw mo g v k (stp mo ro c))) (nAll mo).toNat with ⟨g1, -⟩ | ⟨g1, g2, g3, -⟩
    · have : fst1 mo g v k ro = -1 := g1
      omega
    · have g3' : 0 ≤ fw mo g v k (stp mo ro (fst1 mo g v k ro)) := by unfold fst1; simpa using g3
      omega
  rcases lst_in (P := fun c => decide (0 ≤ fw mo g v k (stp mo ro c))) (nAll mo).toNat with ⟨-, g2⟩ | ⟨g1, -⟩
  · have := g2 c h0 (by omega)
    simp only [decide_eq_false_iff_not] at this
    rcases fw_in (g := g) (v := v) hA k (stp mo ro c) with h5 | h5
    · exact h5
    · omega
  · exact absurd g1 hf
/-- the first hit -/
theorem fw_hit {mo : Mo} {g v : Int} (hA : 0 ≤ nAll mo) {k : Nat} {ro : Rd} {c : Int} (h0 : 0 ≤ c) (h1 : c < nAll mo) (hh : 0 ≤ fw mo g v k (stp mo ro c)) (hb : ∀ d : Int, 0 ≤ d → d < c → ¬ 0 ≤ fw mo g v k (stp mo ro d)) : fw mo g v (k + 1) ro = c * nAll mo ^ k + fw mo g v k (stp mo ro c) := by
  have e : fst1 mo g v k ro = c := lst_is h0 (by omega) (by simpa using hh) (fun d d0 d1 => by simpa using hb d d0 d1)
  rw [fw_s, e, if_pos h0]
theorem fw_none {mo : Mo} {g v : Int} {k : Nat} {ro : Rd} (hb : ∀ d : Int, 0 ≤ d → d < nAll mo → ¬ 0 ≤ fw mo g v k (stp mo ro d)) : fw mo g v (k + 1) ro = -1 := by
  have e : fst1 mo g v k ro = -1 := lst_no (fun d d0 d1 => by simpa using hb d d0 (by omega))
  rw [fw_s, e, if_neg (by omega)]
/-- digits, the first first -/
def dgt (A : Int) : Nat → Int → Nat → Int
  | 0, _, _ => 0
  | k + 1, c, 0 => c / A ^ k
  | k + 1, c, j + 1 => dgt A k (c % A ^ k) j
theorem dgt_0 {A : Int} {k : Nat} {c z : Int} (hp : 0 < A ^ k) (w0 : 0 ≤ z) (w1 : z < A ^ k) : dgt A (k + 1) (c * A ^ k + z) 0 = c := by
  show (c * A ^ k + z) / A ^ k = c
  rw [Int.add_comm, Int.add_mul_ediv_right _ _ (by omega), Int.ediv_eq_zero_of_lt w0 w1]; omega
theorem dgt_s {A : Int} {k j : Nat} {c z : Int} (hp : 0 < A ^ k) (w0 : 0 ≤ z) (w1 : z < A ^ k) : dgt A (k + 1) (c * A ^ k + z) (j + 1) = dgt A k z j := by
  show dgt A k ((c * A ^ k + z) % A ^ k) j = _
  rw [Int.add_comm, Int.add_mul_emod_self_right, Int.emod_eq_of_lt w0 w1]
abbrev enc (T d : Int) : Int := 10 * (d / T) + d % T
/-! a walk that bends nothing; how far a walk bends -/
theorem bnS_z {kind reach place yard : Int} {ro : Rd} : ∀ n : Nat, 0 ≤ (bnS kind reach place yard ro n).2 ∧ ((bnS kind reach place yard ro n).2 = 0 → (bnS kind reach place yard ro n).1 = ro)
  | 0 => ⟨Int.le_refl _, fun _ => rfl⟩
  | n + 1 => by
    obtain ⟨h1, h2⟩ := bnS_z (kind := kind) (reach := reach) (place := place) (yard := yard) (ro := ro) n
    unfold bnS
    split
    · simp only
      refine ⟨by simp only [ab]; omega, fun h => ?_⟩
      have e1 : (bnS kind reach place yard ro n).2 = 0 := by simp only [ab] at h; omega
      have e2 : gy kind yard (bnS kind reach place yard ro n).1 ((n : Int) + 1) = (bnS kind reach place yard ro n).1 ((n : Int) + 1) := by simp only [ab] at h; omega
      rw [e2, h2 e1]
      funext j
      unfold uF
      split
      · rename_i hj; rw [hj]
      · rfl
    · exact ⟨h1, h2⟩
theorem bend_z {mo : Mo} {ro : Rd} {k t : Int} (h : (bend mo ro k t).2 ≤ 0) : (bend mo ro k t).1 = ro := by
  unfold bend at h ⊢
  split
  · rfl
  · rename_i hn
    rw [if_neg hn] at h
    obtain ⟨h1, h2⟩ := bnS_z (kind := mo 2 k) (reach := rch mo k) (place := mo 4 t) (yard := mo 5 t) (ro := ro) (mo 0 0 - 2).toNat
    exact h2 (by omega)
theorem gy_3 {kind yard : Int} {ro : Rd} {i B : Int} (hw : WFr ro B) (hy : 0 ≤ yard ∧ yard ≤ 60) (hi : 1 ≤ i ∧ i ≤ 15) : gy kind yard ro i - ro i ≤ 3 ∧ ro i - gy kind yard ro i ≤ 3 := by
  have h1 := hw.1 i (by omega) (by omega)
  have h2 := hw.1 (i - 1) (by omega) (by omega)
  unfold gy
  repeat' split
  all_goals (simp only [tw, aw, tb, ab, mn3]; omega)
theorem bnS_3 {kind reach place yard : Int} {ro : Rd} {B : Int} (hw : WFr ro B) (hy : 0 ≤ yard ∧ yard ≤ 60) : ∀ n : Nat, n ≤ 14 → ∀ j, (bnS kind reach place yard ro n).1 j - ro j ≤ 3 ∧ ro j - (bnS kind reach place yard ro n).1 j ≤ 3
  | 0, _, j => by show ro j - ro j ≤ 3 ∧ ro j - ro j ≤ 3; omega
  | n + 1, hn, j => by
    obtain ⟨h1, -, -, h4⟩ := bnS_in (kind := kind) (reach := reach) (place := place) hw hy n (by omega)
    have h3 := bnS_3 (kind := kind) (reach := reach) (place := place) hw hy n (by omega) j
    unfold bnS
    split
    · show uF _ _ _ j - ro j ≤ 3 ∧ ro j - uF _ _ _ j ≤ 3
      by_cases hj : j = (n : Int) + 1
      · subst hj
        rw [uF_s]
        have := gy_3 (kind := kind) h1 hy (i := (n : Int) + 1) (by omega)
        rw [h4 _ (by omega)] at this
        exact this
      · rw [uF_n hj]; exact h3
    · exact h3
theorem bend_3 {mo : Mo} {ro : Rd} {k t B : Int} (hm : WFm mo) (hw : WFr ro B) (j : Int) : (bend mo ro k t).1 j - ro j ≤ 3 ∧ ro j - (bend mo ro k t).1 j ≤ 3 := by
  unfold bend
  split
  · show ro j - ro j ≤ 3 ∧ ro j - ro j ≤ 3
    omega
  · obtain ⟨h0, -, -, -, -, -, -, -, -, h5, -⟩ := hm
    exact bnS_3 hw (h5 t) _ (by omega) j
theorem lnS_3 {f h : Rd} (h0 : f 0 = h 0) (hd : ∀ j, f j - h j ≤ 3 ∧ h j - f j ≤ 3) : ∀ m : Nat, lnS f (m + 1) ≤ lnS h (m + 1) + 6 * m + 3
  | 0 => by
    have a := hd (((0 : Nat) : Int) + 1)
    have e : f ((0 : Nat) : Int) = h ((0 : Nat) : Int) := h0
    show (0 : Int) + (10 + ab (f (((0 : Nat) : Int) + 1)) (f ((0 : Nat) : Int))) ≤ 0 + (10 + ab (h (((0 : Nat) : Int) + 1)) (h ((0 : Nat) : Int))) + 6 * ((0 : Nat) : Int) + 3
    simp only [ab]
    omega
  | m + 1 => by
    have := lnS_3 h0 hd m
    have a := hd (((m + 1 : Nat) : Int) + 1)
    have c := hd ((m + 1 : Nat) : Int)
    show lnS f (m + 1) + (10 + ab (f (((m + 1 : Nat) : Int) + 1)) (f ((m + 1 : Nat) : Int))) ≤ lnS h (m + 1) + (10 + ab (h (((m + 1 : Nat) : Int) + 1)) (h ((m + 1 : Nat) : Int))) + 6 * ((m + 1 : Nat) : Int) + 3
    simp only [ab]
    omega
theorem len_3 {f h : Rd} {N : Int} (hN : 5 ≤ N) (h0 : f 0 = h 0) (h1 : f (N - 1) = h (N - 1)) (hd : ∀ j, f j - h j ≤ 3 ∧ h j - f j ≤ 3) : len N f ≤ len N h + 6 * (N - 2) := by
  have g := lnS_3 h0 hd (N - 3).toNat
  have c := hd (N - 2)
  have e1 := lnS_s (ro := f) (i := N - 1) (by omega)
  have e2 := lnS_s (ro := h) (i := N - 1) (by omega)
  rw [show (N - 1 - 1).toNat = (N - 3).toNat + 1 by omega, show N - 1 - 1 = N - 2 by omega] at e1 e2
  unfold len
  rw [e1, e2, h1]
  simp only [ab]
  omega
/-- too far for k walks -/
abbrev far (mo : Mo) (g v : Int) (k : Int) (ro : Rd) : Prop := if g < 0 then len (mo 0 0) ro + 2 * (3 * k) * (mo 0 0 - 2) < v else 3 * k < ab (ro g) v
theorem bend_w {mo : Mo} {ro : Rd} {k t B : Int} (hm : WFm mo) (hw : WFr ro B) : (bend mo ro k t).1 0 = ro 0 ∧ (bend mo ro k t).1 (mo 0 0 - 1) = ro (mo 0 0 - 1) := by
  unfold bend
  split
  · exact ⟨rfl, rfl⟩
  · obtain ⟨h0, -, -, -, -, -, -, -, -, h5, -⟩ := hm
    obtain ⟨-, -, -, h4⟩ := bnS_in (kind := mo 2 k) (reach := rch mo k) (place := mo 4 t) hw (h5 t) (mo 0 0 - 2).toNat (by omega)
    exact ⟨h4 _ (by omega), h4 _ (by omega)⟩
theorem fw_far {mo : Mo} {g v B : Int} (hm : WFm mo) : ∀ (k : Nat) (ro : Rd), WFr ro B → far mo g v k ro → fw mo g v k ro = -1
  | 0, ro, hw, hf => by
    show (if gl mo g v ro = true then (0 : Int) else -1) = -1
    rw [if_neg]
    intro h
    simp only [gl, decide_eq_true_eq] at h
    simp only [far] at hf
    by_cases hg : g < 0
    · rw [if_pos hg] at h hf; omega
    · rw [if_neg hg] at h hf
      rw [h] at hf
      simp only [ab] at hf
      omega
  | k + 1, ro, hw, hf => by
    refine fw_none (fun d d0 d1 hq => ?_)
    have hb := bend_in (k := d / mo 0 2) (t := d % mo 0 2) hm hw
    have h3 := fun j => bend_3 (k := d / mo 0 2) (t := d % mo 0 2) hm hw j
    have hw2 := bend_w (k := d / mo 0 2) (t := d % mo 0 2) hm hw
    have := fw_far (g := g) (v := v) hm k (stp mo ro d) hb.1 (by
      simp only [far] at hf ⊢
      by_cases hg : g < 0
      · rw [if_pos hg] at hf ⊢
        have hl := len_3 (f := stp mo ro d) (h := ro) hm.1.1 hw2.1 hw2.2 h3
        have e : 2 * (3 * ((k + 1 : Nat) : Int)) * (mo 0 0 - 2) = 2 * (3 * (k : Int)) * (mo 0 0 - 2) + 6 * (mo 0 0 - 2) := by
          rw [show 2 * (3 * ((k + 1 : Nat) : Int)) = 2 * (3 * (k : Int)) + 6 by omega, Int.add_mul]
        omega
      · rw [if_neg hg] at hf ⊢
        have := h3 g
        have e : stp mo ro d g = (bend mo ro (d / mo 0 2) (d % mo 0 2)).1 g := rfl
        rw [e]
        simp only [ab] at hf ⊢
        omega)
    omega
/-! the class's search -/
def StOK (M : Mem) : Prop := ∀ k : Int, 0 ≤ k → k ≤ 3 → M 60 k = 62 + 2 * k
def GlOK (M : Mem) : Prop := (M 59 2 = -1 ∨ (0 ≤ M 59 2 ∧ M 59 2 ≤ 15)) ∧ 0 ≤ M 59 3 ∧ M 59 3 ≤ 1000
theorem k_isMet (b : Nat) (sh : Shp) (M : Mem) (r : Nat) (hsh : Hc sh) (hr : isRd sh r) (hr60 : 60 < r) (hm : WFm (moC M 5)) (hg : GlOK M) (f : Rd) {B : Int} (hf : WFr f B) (hN : M r 0 = M 5 0) : Ex 2 mX5_isMet b sh (putC M r f) [vr b 59, vr b r] (some (vi (if gl (moC M 5) (M 59 2) (M 59 3) f = true then 1 else 0))) (putC M r f) := by
  have hN2 := hm.1
  rw [moC_0] at hN2
  obtain ⟨hg1, hg2⟩ := hg
  have e2 : putC M r f 59 2 = M 59 2 := pc_o (by omega) (by omega)
  have e3 : putC M r f 59 3 = M 59 3 := pc_o (by omega) (by omega)
  have hl := lnS_in hf (M 5 0 - 1).toNat (by omega)
  have hl2 : len (M 5 0) f = lnS f (M 5 0 - 1).toNat := rfl
  by_cases hneg : M 59 2 < 0
  · have eg : (if gl (moC M 5) (M 59 2) (M 59 3) f = true then (1 : Int) else 0) = if M 59 3 ≤ len (M 5 0) f then 1 else 0 := by
      simp only [gl, decide_eq_true_eq, if_pos hneg, moC_0]
    rw [eg]
    refine MC_of (ls := [some (vr b 59), some (vr b r)]) (by decide) rfl (Nat.le_of_ble_eq_true rfl) ?_
    refine R_aload_n (pc := 0) dX5_isMet_0 rfl ?_
    refine R_getI (pc := 1) (J := 2) dX5_isMet_1 fl_RX5_22 rfl rfl (hsh _ _ rfl) (e2) ?_
    refine R_iconst (pc := 4) dX5_isMet_4 ?_
    refine R_cmp_ne (pc := 5) (tgt := 27) dX5_isMet_5 (by decide) (by omega) (fun h_5 => ?_) (fun h_5 => ?_)
    · exact absurd h_5 (by omega)
    · refine R_aload_n (pc := 8) dX5_isMet_8 rfl ?_
      refine R_V0i (pc := 9) dX5_isMet_9 sv_RX5_57 hr.1 (k_reckonLong b sh M r hr f hf hN (by omega)) (Nat.le_of_ble_eq_true rfl) (by decide) ?_
      refine R_aload_n (pc := 12) dX5_isMet_12 rfl ?_
      refine R_getI (pc := 13) (J := 3) dX5_isMet_13 fl_RX5_26 rfl rfl (hsh _ _ rfl) (e3) ?_
      refine R_cmp_lt (pc := 16) (tgt := 23) dX5_isMet_16 (by decide) (by omega) (fun h_16 => ?_) (fun h_16 => ?_)
      · refine R_iconst (pc := 23) dX5_isMet_23 ?_
        refine R_goto (pc := 24) (tgt := 48) dX5_isMet_24 (by decide) ?_
        refine R_zret (pc := 48) dX5_isMet_48 (by first | exact Or.inl rfl | exact Or.inr rfl | omega) ?_
        exact eqi (by omega) rfl
      · refine R_iconst (pc := 19) dX5_isMet_19 ?_
        refine R_goto (pc := 20) (tgt := 48) dX5_isMet_20 (by decide) ?_
        refine R_zret (pc := 48) dX5_isMet_48 (by first | exact Or.inl rfl | exact Or.inr rfl | omega) ?_
        exact eqi (by omega) rfl
  · have eg : (if gl (moC M 5) (M 59 2) (M 59 3) f = true then (1 : Int) else 0) = if f (M 59 2) = M 59 3 then 1 else 0 := by
      simp only [gl, decide_eq_true_eq, if_neg hneg]
    rw [eg]
    have hv := hf.1 (M 59 2) (by omega) (by omega)
    refine MC_of (ls := [some (vr b 59), some (vr b r)]) (by decide) rfl (Nat.le_of_ble_eq_true rfl) ?_
    refine R_aload_n (pc := 0) dX5_isMet_0 rfl ?_
    refine R_getI (pc := 1) (J := 2) dX5_isMet_1 fl_RX5_22 rfl rfl (hsh _ _ rfl) (e2) ?_
    refine R_iconst (pc := 4) dX5_isMet_4 ?_
    refine R_cmp_ne (pc := 5) (tgt := 27) dX5_isMet_5 (by decide) (by omega) (fun h_5 => ?_) (fun h_5 => ?_)
    · refine R_aload_n (pc := 27) dX5_isMet_27 rfl ?_
      refine R_getR (pc := 28) dX5_isMet_28 fl_RX5_61 rfl hr.1 rfl ?_
      refine R_aload_n (pc := 31) dX5_isMet_31 rfl ?_
      refine R_getI (pc := 32) (J := 2) dX5_isMet_32 fl_RX5_22 rfl rfl (hsh _ _ rfl) (e2) ?_
      refine R_iald (pc := 35) dX5_isMet_35 hr.2.1 (by omega) (pc_y (by omega)) ?_
      refine R_aload_n (pc := 36) dX5_isMet_36 rfl ?_
      refine R_getI (pc := 37) (J := 3) dX5_isMet_37 fl_RX5_26 rfl rfl (hsh _ _ rfl) (e3) ?_
      refine R_cmp_ne (pc := 40) (tgt := 47) dX5_isMet_40 (by decide) (by omega) (fun h_40 => ?_) (fun h_40 => ?_)
      · refine R_iconst (pc := 47) dX5_isMet_47 ?_
        refine R_zret (pc := 48) dX5_isMet_48 (by first | exact Or.inl rfl | exact Or.inr rfl | omega) ?_
        exact eqi (by omega) rfl
      · refine R_iconst (pc := 43) dX5_isMet_43 ?_
        refine R_goto (pc := 44) (tgt := 48) dX5_isMet_44 (by decide) ?_
        refine R_zret (pc := 48) dX5_isMet_48 (by first | exact Or.inl rfl | exact Or.inr rfl | omega) ?_
        exact eqi (by omega) rfl
    · exact absurd h_5 (by omega)
theorem k_isTooFar (b : Nat) (sh : Shp) (M : Mem) (r : Nat) (hsh : Hc sh) (hr : isRd sh r) (hr60 : 60 < r) (hm : WFm (moC M 5)) (hg : GlOK M) (f : Rd) {B : Int} (hf : WFr f B) (hN : M r 0 = M 5 0) (k : Int) (hk : 0 ≤ k ∧ k ≤ 3) : Ex 2 mX5_isTooFar b sh (putC M r f) [vr b 59, vr b r, vi k] (some (vi (if far (moC M 5) (M 59 2) (M 59 3) k f then 1 else 0))) (putC M r f) := by
  have hN2 := hm.1
  rw [moC_0] at hN2
  obtain ⟨hg1, hg2⟩ := hg
  have e2 : putC M r f 59 2 = M 59 2 := pc_o (by omega) (by omega)
  have e3 : putC M r f 59 3 = M 59 3 := pc_o (by omega) (by omega)
  have hl := lnS_in hf (M 5 0 - 1).toNat (by omega)
  have hl2 : len (M 5 0) f = lnS f (M 5 0 - 1).toNat := rfl
  have hp : 0 ≤ 2 * (3 * k) * (M 5 0 - 2) ∧ 2 * (3 * k) * (M 5 0 - 2) ≤ 18 * 14 := by
    constructor
    · exact Int.mul_nonneg (by omega) (by omega)
    · exact Int.mul_le_mul (by omega) (by omega) (by omega) (by omega)
  by_cases hneg : M 59 2 < 0
  · have eg : (if far (moC M 5) (M 59 2) (M 59 3) k f then (1 : Int) else 0) = if len (M 5 0) f + 2 * (3 * k) * (M 5 0 - 2) < M 59 3 then 1 else 0 := by
      simp only [far, if_pos hneg, moC_0]
    rw [eg]
    refine MC_of (ls := [some (vr b 59), some (vr b r), some (vi k), none]) (by decide) rfl (Nat.le_of_ble_eq_true rfl) ?_
    refine R_iconst (pc := 0) dX5_isTooFar_0 ?_
    refine R_iload_n (pc := 1) dX5_isTooFar_1 rfl ?_
    refine R_imul (pc := 2) dX5_isTooFar_2 ?_
    refine R_istore_n (pc := 3) dX5_isTooFar_3 (by decide) rfl rfl ?_
    refine R_aload_n (pc := 4) dX5_isTooFar_4 rfl ?_
    refine R_getI (pc := 5) (J := 2) dX5_isTooFar_5 fl_RX5_22 rfl rfl (hsh _ _ rfl) (e2) ?_
    refine R_iconst (pc := 8) dX5_isTooFar_8 ?_
    refine R_cmp_ne (pc := 9) (tgt := 40) dX5_isTooFar_9 (by decide) (by omega) (fun h_9 => ?_) (fun h_9 => ?_)
    · exact absurd h_9 (by omega)
    · refine R_aload_n (pc := 12) dX5_isTooFar_12 rfl ?_
      refine R_V0i (pc := 13) dX5_isTooFar_13 sv_RX5_57 hr.1 (k_reckonLong b sh M r hr f hf hN (by omega)) (Nat.le_of_ble_eq_true rfl) (by decide) ?_
      refine R_iconst (pc := 16) dX5_isTooFar_16 ?_
      refine R_iload_n (pc := 17) dX5_isTooFar_17 rfl ?_
      refine R_imul (pc := 18) dX5_isTooFar_18 ?_
      refine R_aload_n (pc := 19) dX5_isTooFar_19 rfl ?_
      refine R_getI (pc := 20) (J := 0) dX5_isTooFar_20 fl_RX5_64 rfl rfl hr.1 ((pc_n (Or.inl rfl)).trans hN) ?_
      refine R_iconst (pc := 23) dX5_isTooFar_23 ?_
      refine R_isub (pc := 24) dX5_isTooFar_24 ?_
      refine R_imul (pc := 25) dX5_isTooFar_25 ?_
      refine R_iadd (pc := 26) dX5_isTooFar_26 ?_
      refine R_aload_n (pc := 27) dX5_isTooFar_27 rfl ?_
      refine R_getI (pc := 28) (J := 3) dX5_isTooFar_28 fl_RX5_26 rfl rfl (hsh _ _ rfl) (e3) ?_
      refine R_cmp_ge (pc := 31) (tgt := 38) dX5_isTooFar_31 (by decide) (by omega) (fun h_31 => ?_) (fun h_31 => ?_)
      · refine R_iconst (pc := 38) dX5_isTooFar_38 ?_
        refine R_zret (pc := 39) dX5_isTooFar_39 (by first | exact Or.inl rfl | exact Or.inr rfl | omega) ?_
        exact eqi (by omega) rfl
      · refine R_iconst (pc := 34) dX5_isTooFar_34 ?_
        refine R_goto (pc := 35) (tgt := 39) dX5_isTooFar_35 (by decide) ?_
        refine R_zret (pc := 39) dX5_isTooFar_39 (by first | exact Or.inl rfl | exact Or.inr rfl | omega) ?_
        exact eqi (by omega) rfl
  · have eg : (if far (moC M 5) (M 59 2) (M 59 3) k f then (1 : Int) else 0) = if 3 * k < ab (f (M 59 2)) (M 59 3) then 1 else 0 := by
      simp only [far, if_neg hneg]
    rw [eg]
    have hv := hf.1 (M 59 2) (by omega) (by omega)
    refine MC_of (ls := [some (vr b 59), some (vr b r), some (vi k), none]) (by decide) rfl (Nat.le_of_ble_eq_true rfl) ?_
    refine R_iconst (pc := 0) dX5_isTooFar_0 ?_
    refine R_iload_n (pc := 1) dX5_isTooFar_1 rfl ?_
    refine R_imul (pc := 2) dX5_isTooFar_2 ?_
    refine R_istore_n (pc := 3) dX5_isTooFar_3 (by decide) rfl rfl ?_
    refine R_aload_n (pc := 4) dX5_isTooFar_4 rfl ?_
    refine R_getI (pc := 5) (J := 2) dX5_isTooFar_5 fl_RX5_22 rfl rfl (hsh _ _ rfl) (e2) ?_
    refine R_iconst (pc := 8) dX5_isTooFar_8 ?_
    refine R_cmp_ne (pc := 9) (tgt := 40) dX5_isTooFar_9 (by decide) (by omega) (fun h_9 => ?_) (fun h_9 => ?_)
    · refine R_aload_n (pc := 40) dX5_isTooFar_40 rfl ?_
      refine R_getR (pc := 41) dX5_isTooFar_41 fl_RX5_61 rfl hr.1 rfl ?_
      refine R_aload_n (pc := 44) dX5_isTooFar_44 rfl ?_
      refine R_getI (pc := 45) (J := 2) dX5_isTooFar_45 fl_RX5_22 rfl rfl (hsh _ _ rfl) (e2) ?_
      refine R_iald (pc := 48) dX5_isTooFar_48 hr.2.1 (by omega) (pc_y (by omega)) ?_
      refine R_aload_n (pc := 49) dX5_isTooFar_49 rfl ?_
      refine R_getI (pc := 50) (J := 3) dX5_isTooFar_50 fl_RX5_26 rfl rfl (hsh _ _ rfl) (e3) ?_
      refine R_isub (pc := 53) dX5_isTooFar_53 ?_
      refine R_mabs (pc := 54) dX5_isTooFar_54 ss_RX5_67 (by omega) (Nat.le_of_ble_eq_true rfl) (by decide) ?_
      refine R_iload_n (pc := 57) dX5_isTooFar_57 rfl ?_
      refine R_cmp_le (pc := 58) (tgt := 65) dX5_isTooFar_58 (by decide) (by omega) (fun h_58 => ?_) (fun h_58 => ?_)
      · refine R_iconst (pc := 65) dX5_isTooFar_65 ?_
        refine R_zret (pc := 66) dX5_isTooFar_66 (by first | exact Or.inl rfl | exact Or.inr rfl | omega) ?_
        exact eqi (by simp only [ab]; omega) rfl
      · refine R_iconst (pc := 61) dX5_isTooFar_61 ?_
        refine R_goto (pc := 62) (tgt := 66) dX5_isTooFar_62 (by decide) ?_
        refine R_zret (pc := 66) dX5_isTooFar_66 (by first | exact Or.inl rfl | exact Or.inr rfl | omega) ?_
        exact eqi (by simp only [ab]; omega) rfl
    · exact absurd h_9 (by omega)
