/-! the face, second part: calls that change the state -/
def a_write (S : AS) (c : Int) : Int := if 32 ≤ c ∧ c ≤ 126 then (if S.1 < 200 then S.1 + 1 else -3) else -1
def nx_write (S : AS) (c : Int) : AS := if (32 ≤ c ∧ c ≤ 126) ∧ S.1 < 200 then (S.1 + 1, uF S.2.1 S.1 c, S.2.2) else S
def nx_wipe (S : AS) : AS := (0, zF, S.2.2)
/-- IC and absC by parts: the letters -/
theorem IC_tx {M M' : Mem} {B : Int} (hI : IC M B) (h : ∀ c, c ≠ 1 → c ≠ 2 → M' c = M c) (hz : 0 ≤ M' 1 1 ∧ M' 1 1 ≤ 200) : IC M' B ∧ (absC M').2.2 = (absC M).2.2 := by
  obtain ⟨h1, h2, h3, h4, h5, h6, h7, h8⟩ := hI
  obtain ⟨s1, s2, s3⟩ := shR_e (M' := M') h4.1 (Or.inl ⟨rfl, rfl⟩) (fun c c1 c2 => h c (by omega) (by omega))
  obtain ⟨u1, u2, u3⟩ := shR_e (M' := M') h5.1 (Or.inr ⟨rfl, rfl⟩) (fun c c1 c2 => h c (by omega) (by omega))
  have em : moC M' 5 = moC M 5 := moC_c (fun c c1 c2 => h c (by omega) (by omega))
  have er : roC M' 23 = roC M 23 := roC_c (h 23 (by omega) (by omega)) (h 24 (by omega) (by omega))
  have hs4 := h4.1.1
  have hs5 := h5.1.1
  have e5 := h 5 (by omega) (by omega)
  refine ⟨⟨by rw [em]; exact h1, hz, ⟨by rw [er]; exact h3.1, by rw [h 23 (by omega) (by omega), e5]; exact h3.2⟩, ⟨s1, fun k a1 a2 => ?_⟩, ⟨u1, fun k a1 a2 => ?_⟩, ⟨?_, ?_⟩, ?_, ?_⟩, ?_⟩
  · rw [s2] at a2
    obtain ⟨g1, g2⟩ := s3 k a1 (by omega)
    rw [g1, g2, e5]
    exact h4.2 k a1 a2
  · rw [u2] at a2
    obtain ⟨g1, g2⟩ := u3 k a1 (by omega)
    rw [g1, g2, e5]
    exact h5.2 k a1 a2
  · unfold ClOK
    rw [h 51 (by omega) (by omega), h (51 + 1) (by omega) (by omega), h (51 + 2) (by omega) (by omega), h (51 + 3) (by omega) (by omega)]
    exact h6.1
  · rw [h 51 (by omega) (by omega), h 53 (by omega) (by omega)]
    exact h6.2
  · unfold ClOK
    rw [h 55 (by omega) (by omega), h (55 + 1) (by omega) (by omega), h (55 + 2) (by omega) (by omega), h (55 + 3) (by omega) (by omega)]
    exact h7
  · unfold StOK
    rw [h 60 (by omega) (by omega)]
    exact h8
  · unfold absC
    show (moC M' 5, _) = (moC M 5, _)
    rw [em, er, s2, u2, mskR_e (fun k a1 a2 => (s3 k a1 (by omega)).1), mskR_e (fun k a1 a2 => (u3 k a1 (by omega)).1)]
    unfold clC
    rw [h 51 (by omega) (by omega), h (51 + 1) (by omega) (by omega), h (51 + 3) (by omega) (by omega), h 55 (by omega) (by omega), h (55 + 1) (by omega) (by omega), h (55 + 2) (by omega) (by omega), h (55 + 3) (by omega) (by omega)]
theorem k_write (b : Nat) (sh : Shp) (M : Mem) {B : Int} (hsh : Hc sh) (hI : IC M B) (c : Int) (hc : inR c) : C0 1 mX7_write b sh M [vr b 0, vi c] (QS M B (nx_write (absC M) c) (a_write (absC M) c)) := by
  have hz := hI.2.1
  have ea : a_write (absC M) c = if 32 ≤ c ∧ c ≤ 126 then (if M 1 1 < 200 then M 1 1 + 1 else -3) else -1 := rfl
  have et : ¬ ((32 ≤ c ∧ c ≤ 126) ∧ M 1 1 < 200) → nx_write (absC M) c = absC M := fun h => by
    unfold nx_write
    rw [if_neg]
    exact h
  by_cases hlt : M 1 1 < 200
  · have hadd := k_add b sh M hsh hz c hc
    rw [if_pos hlt, if_pos hlt] at hadd
    have e1 : up (up M 2 (M 1 1) c) 1 1 (M 1 1 + 1) 1 1 = M 1 1 + 1 := up_s
    refine MC_of (ls := [some (vr b 0), some (vi c)]) (by decide) rfl (Nat.le_of_ble_eq_true rfl) ?_
    refine R_iload_n (pc := 0) dX7_write_0 rfl ?_
    refine R_bipush (pc := 1) dX7_write_1 rfl ?_
    refine R_bipush (pc := 3) dX7_write_3 rfl ?_
    refine R_S3i (pc := 5) dX7_write_5 ss_RX7_108 (k_within b sh _ _ _ _ hc (by omega) (by omega)) (Nat.le_of_ble_eq_true rfl) (by decide) ?_
    refine R_if_ne (pc := 8) (tgt := 13) dX7_write_8 (by decide) (by omega) (fun h_8 => ?_) (fun h_8 => ?_)
    · refine R_aload_n (pc := 13) dX7_write_13 rfl ?_
      refine R_getR (pc := 14) dX7_write_14 fl_RX7_10 rfl (hsh _ _ rfl) rfl ?_
      refine R_iload_n (pc := 17) dX7_write_17 rfl ?_
      refine R_V1i (pc := 18) dX7_write_18 sv_RX7_93 (hsh _ _ rfl) (hadd) (Nat.le_of_ble_eq_true rfl) (by decide) ?_
      refine R_if_eq (pc := 21) (tgt := 34) dX7_write_21 (by decide) (by omega) (fun h_21 => ?_) (fun h_21 => ?_)
      · exact absurd h_21 (by omega)
      · refine R_aload_n (pc := 24) dX7_write_24 rfl ?_
        refine R_getR (pc := 25) dX7_write_25 fl_RX7_10 rfl (hsh _ _ rfl) rfl ?_
        refine R_getI (pc := 28) (J := 1) dX7_write_28 fl_RX7_112 rfl rfl (hsh _ _ rfl) (e1) ?_
        refine R_goto (pc := 31) (tgt := 36) dX7_write_31 (by decide) ?_
        refine R_iret (pc := 36) dX7_write_36 ?_
        skip
        obtain ⟨i1, i2⟩ := IC_tx (M' := up (up M 2 (M 1 1) c) 1 1 (M 1 1 + 1)) hI (fun q h1 h2 => by rw [up_o q h1, up_o q h2]) (by rw [e1]; omega)
        refine ⟨by rw [ea, if_pos (by omega), if_pos hlt], ?_, i1, fun q hq => by rw [up_o q (by omega), up_o q (by omega)]⟩
        have e2 : absC (up (up M 2 (M 1 1) c) 1 1 (M 1 1 + 1)) = (M 1 1 + 1, txC (up (up M 2 (M 1 1) c) 1 1 (M 1 1 + 1)), (absC (up (up M 2 (M 1 1) c) 1 1 (M 1 1 + 1))).2.2) := rfl
        have e3 : txC (up (up M 2 (M 1 1) c) 1 1 (M 1 1 + 1)) = uF (txC M) (M 1 1) c := by
          funext j
          unfold txC uF
          rw [e1, up_k (by omega)]
          by_cases hj : j = M 1 1
          · rw [if_pos (by omega), if_pos hj, hj, up_s]
          · rw [if_neg hj, up_j hj]
            by_cases hj2 : 0 ≤ j ∧ j < M 1 1
            · rw [if_pos (by omega)]; exact (if_pos hj2).symm
            · rw [if_neg (by omega)]; exact (if_neg hj2).symm
        have hcond : (32 ≤ c ∧ c ≤ 126) ∧ (absC M).1 < 200 := ⟨by omega, hlt⟩
        rw [e2, e3, i2]
        unfold nx_write
        rw [if_pos hcond]
        rfl
    · refine R_iconst (pc := 11) dX7_write_11 ?_
      refine R_iret (pc := 12) dX7_write_12 ?_
      rw [et (by omega)]
      exact QS_ro hI FrC_r (by rw [ea]; omega)
  · have hadd := k_add b sh M hsh hz c hc
    rw [if_neg hlt, if_neg hlt] at hadd
    refine MC_of (ls := [some (vr b 0), some (vi c)]) (by decide) rfl (Nat.le_of_ble_eq_true rfl) ?_
    refine R_iload_n (pc := 0) dX7_write_0 rfl ?_
    refine R_bipush (pc := 1) dX7_write_1 rfl ?_
    refine R_bipush (pc := 3) dX7_write_3 rfl ?_
    refine R_S3i (pc := 5) dX7_write_5 ss_RX7_108 (k_within b sh _ _ _ _ hc (by omega) (by omega)) (Nat.le_of_ble_eq_true rfl) (by decide) ?_
    refine R_if_ne (pc := 8) (tgt := 13) dX7_write_8 (by decide) (by omega) (fun h_8 => ?_) (fun h_8 => ?_)
    · refine R_aload_n (pc := 13) dX7_write_13 rfl ?_
      refine R_getR (pc := 14) dX7_write_14 fl_RX7_10 rfl (hsh _ _ rfl) rfl ?_
      refine R_iload_n (pc := 17) dX7_write_17 rfl ?_
      refine R_V1i (pc := 18) dX7_write_18 sv_RX7_93 (hsh _ _ rfl) (hadd) (Nat.le_of_ble_eq_true rfl) (by decide) ?_
      refine R_if_eq (pc := 21) (tgt := 34) dX7_write_21 (by decide) (by omega) (fun h_21 => ?_) (fun h_21 => ?_)
      · refine R_bipush (pc := 34) dX7_write_34 rfl ?_
        refine R_iret (pc := 36) dX7_write_36 ?_
        rw [et (by omega)]
        exact QS_ro hI FrC_r (by rw [ea]; omega)
      · exact absurd h_21 (by omega)
    · refine R_iconst (pc := 11) dX7_write_11 ?_
      refine R_iret (pc := 12) dX7_write_12 ?_
      rw [et (by omega)]
      exact QS_ro hI FrC_r (by rw [ea]; omega)
theorem k_wipe (b : Nat) (sh : Shp) (M : Mem) {B : Int} (hsh : Hc sh) (hI : IC M B) : C0 1 mX7_wipe b sh M [vr b 0] (QS M B (nx_wipe (absC M)) (absC M).1) := by
  have hz := hI.2.1
  have e1 : up M 1 1 0 1 1 = 0 := up_s
  refine MC_of (ls := [some (vr b 0), none]) (by decide) rfl (Nat.le_of_ble_eq_true rfl) ?_
  refine R_aload_n (pc := 0) dX7_wipe_0 rfl ?_
  refine R_getR (pc := 1) dX7_wipe_1 fl_RX7_10 rfl (hsh _ _ rfl) rfl ?_
  refine R_getI (pc := 4) (J := 1) dX7_wipe_4 fl_RX7_112 rfl rfl (hsh _ _ rfl) (rfl) ?_
  refine R_istore_n (pc := 7) dX7_wipe_7 (by decide) rfl rfl ?_
  refine R_aload_n (pc := 8) dX7_wipe_8 rfl ?_
  refine R_getR (pc := 9) dX7_wipe_9 fl_RX7_10 rfl (hsh _ _ rfl) rfl ?_
  refine R_V0v (pc := 12) dX7_wipe_12 sv_RX7_101 (hsh _ _ rfl) (k_lclear b sh M hsh) (Nat.le_of_ble_eq_true rfl) (by decide) ?_
  refine R_iload_n (pc := 15) dX7_wipe_15 rfl ?_
  refine R_iret (pc := 16) dX7_wipe_16 ?_
  obtain ⟨i1, i2⟩ := IC_tx (M' := up M 1 1 0) hI (fun q h1 h2 => by rw [up_o q h1]) (by rw [e1]; omega)
  refine ⟨rfl, ?_, i1, fun q hq => by rw [up_o q (by omega)]⟩
  have e2 : absC (up M 1 1 0) = (0, txC (up M 1 1 0), (absC (up M 1 1 0)).2.2) := rfl
  have e3 : txC (up M 1 1 0) = zF := by
    funext j
    unfold txC
    rw [e1, if_neg (by omega)]
    rfl
  rw [e2, e3, i2]
  rfl
def a_fault (S : AS) : Int := (rdg S.2.1 S.1).1
theorem k_fault (b : Nat) (sh : Shp) (M : Mem) {B : Int} (hsh : Hc sh) (hI : IC M B) : C0 5 mX7_fault b sh M [vr b 0] (QS M B (absC M) (a_fault (absC M))) := by
  refine MC_of (ls := [some (vr b 0)]) (by decide) rfl (Nat.le_of_ble_eq_true rfl) ?_
  refine R_rng fun hM => ?_
  refine R_aload_n (pc := 0) dX7_fault_0 rfl ?_
  refine R_getR (pc := 1) dX7_fault_1 fl_RX7_21 rfl (hsh _ _ rfl) rfl ?_
  refine R_aload_n (pc := 4) dX7_fault_4 rfl ?_
  refine R_getR (pc := 5) dX7_fault_5 fl_RX7_32 rfl (hsh _ _ rfl) rfl ?_
  refine R_V1 (pc := 8) dX7_fault_8 sv_RX7_97 (k_readInto b sh M 14 hsh (mo_of hsh (Or.inr rfl)) hM hI.2.1) (hsh _ _ rfl) (Nat.le_of_ble_eq_true rfl) (by decide) (fun v_8 M_8 hq_8 => ?_)
  obtain ⟨rfl, hof, -⟩ := hq_8
  refine R_iret (pc := 11) dX7_fault_11 ?_
  exact QS_ro hI (fun c hc => hof c (fun q => hc (by unfold SC; omega)) (by unfold SC at hc; omega)) rfl
def a_lay (S : AS) : Int := if S.1 = 0 ∨ ¬ (rdg S.2.1 S.1).1 = -4 then -2 else (rdg S.2.1 S.1).2 0 0
def nx_lay (S : AS) : AS := if S.1 = 0 ∨ ¬ (rdg S.2.1 S.1).1 = -4 then S else (S.1, S.2.1, (rdg S.2.1 S.1).2, strt (rdg S.2.1 S.1).2, (0, zR), (0, zR), (0, zF, zF), (0, zF, zF, zF))
theorem WFr_strt {mo : Mo} (hm : WFm mo) {B : Int} (hB : 0 ≤ B ∧ B ≤ 100000) : WFr (strt mo) B := by
  have e : ∀ j, ¬ (0 ≤ j ∧ j < 16) → strt mo j = 0 := fun j h => by unfold strt; rw [if_neg h]
  refine ⟨fun j h0 h1 => ?_, by rw [e 16 (by omega)]; omega, by rw [e 17 (by omega)]; omega, Or.inl (e 18 (by omega)), fun j hj => e j (by omega), hB.2⟩
  unfold strt
  rw [if_pos ⟨h0, h1⟩]
  exact hm.2.2.2.2.2.1 j
/-- a moor laid afresh, nothing behind it -/
theorem IC_0 {F : Mem} {B : Int} (hB : 0 ≤ B ∧ B ≤ 90000) (hm : WFm (moC F 5)) (h1 : 0 ≤ F 1 1 ∧ F 1 1 ≤ 200) (hr : roC F 23 = strt (moC F 5)) (hN : F 23 0 = F 5 0) (s1 : ShOK F 27 8) (s2 : ShOK F 45 2) (z1 : F 27 1 = 0) (z2 : F 45 1 = 0) (z3 : F 51 3 = 0) (z4 : F 55 3 = 0) (hst : StOK F) : IC F B ∧ absC F = (F 1 1, txC F, moC F 5, strt (moC F 5), (0, zR), (0, zR), (0, zF, zF), (0, zF, zF, zF)) := by
  refine ⟨⟨hm, h1, ⟨by rw [hr]; exact WFr_strt hm (by omega), hN⟩, ⟨s1, fun k a c => by rw [z1] at c; omega⟩, ⟨s2, fun k a c => by rw [z2] at c; omega⟩, ⟨⟨by omega, fun k a c => by rw [z3] at c; omega⟩, fun k a c => by rw [z3] at c; omega⟩, ⟨by omega, fun k a c => by rw [z4] at c; omega⟩, hst⟩, ?_⟩
  unfold absC clC
  rw [hr, z1, z2, z3, z4, mskR_0, mskR_0, msk_0, msk_0, msk_0, msk_0, msk_0]
theorem ShOK_c {M F : Mem} {f n : Nat} (h : ShOK M f n) (e : F (f + 1) = M (f + 1)) (z : F f 1 = 0) : ShOK F f n := ⟨by rw [z]; omega, fun k a c => by rw [e]; exact h.2.1 k a c, fun j k a1 a2 a3 a4 a5 => by rw [e] at a5; exact h.2.2 j k a1 a2 a3 a4 a5⟩
theorem k_lay (b : Nat) (sh : Shp) (M : Mem) {B : Int} (hsh : Hc sh) (hI : IC M B) (hB : 0 ≤ B ∧ B ≤ 90000) : C0 5 mX7_lay b sh M [vr b 0] (QS M B (nx_lay (absC M)) (a_lay (absC M))) := by
  have hz := hI.2.1
  have ea : a_lay (absC M) = if M 1 1 = 0 ∨ ¬ (rdg (txC M) (M 1 1)).1 = -4 then -2 else (rdg (txC M) (M 1 1)).2 0 0 := rfl
  have et : nx_lay (absC M) = if M 1 1 = 0 ∨ ¬ (rdg (txC M) (M 1 1)).1 = -4 then absC M else (M 1 1, txC M, (rdg (txC M) (M 1 1)).2, strt (rdg (txC M) (M 1 1)).2, (0, zR), (0, zR), (0, zF, zF), (0, zF, zF, zF)) := rfl
  have h23 : isRd sh 23 := rd_of hsh (by decide)
  refine MC_of (ls := [some (vr b 0)]) (by decide) rfl (Nat.le_of_ble_eq_true rfl) ?_
  refine R_rng fun hM => ?_
  refine R_aload_n (pc := 0) dX7_lay_0 rfl ?_
  refine R_getR (pc := 1) dX7_lay_1 fl_RX7_10 rfl (hsh _ _ rfl) rfl ?_
  refine R_getI (pc := 4) (J := 1) dX7_lay_4 fl_RX7_112 rfl rfl (hsh _ _ rfl) (rfl) ?_
  refine R_if_eq (pc := 7) (tgt := 26) dX7_lay_7 (by decide) (by omega) (fun h_7 => ?_) (fun h_7 => ?_)
  · refine R_bipush (pc := 26) dX7_lay_26 rfl ?_
    refine R_iret (pc := 28) dX7_lay_28 ?_
    first
      | (rw [et, if_pos (Or.inl h_7)]; exact QS_ro hI FrC_r (by rw [ea, if_pos (Or.inl h_7)]))
      | (rw [et, if_pos (Or.inr h_23)]; exact QS_ro hI hF (by rw [ea, if_pos (Or.inr h_23)]))
  · refine R_aload_n (pc := 10) dX7_lay_10 rfl ?_
    refine R_getR (pc := 11) dX7_lay_11 fl_RX7_21 rfl (hsh _ _ rfl) rfl ?_
    refine R_aload_n (pc := 14) dX7_lay_14 rfl ?_
    refine R_getR (pc := 15) dX7_lay_15 fl_RX7_32 rfl (hsh _ _ rfl) rfl ?_
    refine R_V1 (pc := 18) dX7_lay_18 sv_RX7_97 (k_readInto b sh M 14 hsh (mo_of hsh (Or.inr rfl)) hM hz) (hsh _ _ rfl) (Nat.le_of_ble_eq_true rfl) (by decide) (fun v_18 M_18 hq_18 => ?_)
    obtain ⟨rfl, hof, -⟩ := hq_18
    have hF : FrC M M_18 := fun c hc => hof c (fun q => hc (by unfold SC; omega)) (by unfold SC at hc; omega)
    obtain ⟨j1, j2, j3⟩ := IC_fr hI hF
    have hrg : inR (rdg (txC M) (M 1 1)).1 := by
      have : ∀ (F : Nat) (p bey : Int) (mo : Mo), 0 ≤ p → inR (prs (txC M) (M 1 1) F p mo bey).1 := by
        intro F
        induction F with
        | zero => intro p bey mo hp; show inR (-4); omega
        | succ F ih =>
          intro p bey mo hp
          unfold prs
          split
          · split
            · exact ih _ _ _ (by have := ps_ge (tx := txC M) (p := p + 1) (nb (txC M p)).toNat; omega)
            · show inR p; omega
          · show inR (-4); omega
      exact this 201 0 0 mo0 (by omega)
    refine R_bipush (pc := 21) dX7_lay_21 rfl ?_
    refine R_cmp_eq (pc := 23) (tgt := 29) dX7_lay_23 (by decide) (by omega) (fun h_23 => ?_) (fun h_23 => ?_)
    · refine R_rng fun hM2 => ?_
      refine R_aload_n (pc := 29) dX7_lay_29 rfl ?_
      refine R_getR (pc := 30) dX7_lay_30 fl_RX7_21 rfl (hsh _ _ rfl) rfl ?_
      refine R_aload_n (pc := 33) dX7_lay_33 rfl ?_
      refine R_getR (pc := 34) dX7_lay_34 fl_RX7_28 rfl (hsh _ _ rfl) rfl ?_
      refine R_V1 (pc := 37) dX7_lay_37 sv_RX7_97 (k_readInto b sh M_18 5 hsh (mo_of hsh (Or.inl rfl)) hM2 j1.2.1) (hsh _ _ rfl) (Nat.le_of_ble_eq_true rfl) (by decide) (fun v_37 M_37 hq_37 => ?_)
      obtain ⟨rfl, hof2, hok⟩ := hq_37
      have e1 := hF 1 (by unfold SC; omega)
      rw [txC_o e1 (hF 2 (by unfold SC; omega)), e1] at hok ⊢
      obtain ⟨k1, k2, -⟩ := hok h_23
      refine R_rng fun hM3 => ?_
      refine R_pop (pc := 40) dX7_lay_40 rfl ?_
      refine R_aload_n (pc := 41) dX7_lay_41 rfl ?_
      refine R_getR (pc := 42) dX7_lay_42 fl_RX7_38 rfl (hsh _ _ rfl) rfl ?_
      refine R_aload_n (pc := 45) dX7_lay_45 rfl ?_
      refine R_getR (pc := 46) dX7_lay_46 fl_RX7_28 rfl (hsh _ _ rfl) rfl ?_
      refine R_V1v (pc := 49) dX7_lay_49 sv_RX7_104 (hsh _ _ rfl) (k_startOn b sh M_37 23 hsh h23 hM3) (Nat.le_of_ble_eq_true rfl) (by decide) ?_
      refine R_aload_n (pc := 52) dX7_lay_52 rfl ?_
      refine R_getR (pc := 53) dX7_lay_53 fl_RX7_50 rfl (hsh _ _ rfl) rfl ?_
      refine R_V0v (pc := 56) dX7_lay_56 sv_RX7_116 (hsh _ _ rfl) (k_sclear b sh _ 27 8 (sf27 hsh)) (Nat.le_of_ble_eq_true rfl) (by decide) ?_
      refine R_aload_n (pc := 59) dX7_lay_59 rfl ?_
      refine R_getR (pc := 60) dX7_lay_60 fl_RX7_54 rfl (hsh _ _ rfl) rfl ?_
      refine R_V0v (pc := 63) dX7_lay_63 sv_RX7_116 (hsh _ _ rfl) (k_sclear b sh _ 45 2 (sf45 hsh)) (Nat.le_of_ble_eq_true rfl) (by decide) ?_
      refine R_aload_n (pc := 66) dX7_lay_66 rfl ?_
      refine R_getR (pc := 67) dX7_lay_67 fl_RX7_60 rfl (hsh _ _ rfl) rfl ?_
      refine R_V0v (pc := 70) dX7_lay_70 sv_RX7_117 (hsh _ _ rfl) (k_cclear b sh _ 51 (cl_of hsh (Or.inl rfl))) (Nat.le_of_ble_eq_true rfl) (by decide) ?_
      refine R_aload_n (pc := 73) dX7_lay_73 rfl ?_
      refine R_getR (pc := 74) dX7_lay_74 fl_RX7_64 rfl (hsh _ _ rfl) rfl ?_
      refine R_V0v (pc := 77) dX7_lay_77 sv_RX7_117 (hsh _ _ rfl) (k_cclear b sh _ 55 (cl_of hsh (Or.inr rfl))) (Nat.le_of_ble_eq_true rfl) (by decide) ?_
      refine R_aload_n (pc := 80) dX7_lay_80 rfl ?_
      refine R_getR (pc := 81) dX7_lay_81 fl_RX7_28 rfl (hsh _ _ rfl) rfl ?_
      refine R_getI (pc := 84) (J := 0) dX7_lay_84 fl_RX7_118 rfl rfl (hsh _ _ rfl) (rfl) ?_
      refine R_iret (pc := 87) dX7_lay_87 ?_
      have hno : ¬ (M 1 1 = 0 ∨ ¬ (rdg (txC M) (M 1 1)).1 = -4) := fun q => q.elim h_7 (fun q => q h_23)
      rw [et, if_neg hno]
      generalize hE : up (up (up (up (putC (up M_37 23 0 (M_37 5 0)) 23 (strt (moC M_37 5))) 27 1 0) 45 1 0) 51 3 0) 55 3 0 = E
      have eo : ∀ c, c ≠ 23 → c ≠ 24 → c ≠ 27 → c ≠ 45 → c ≠ 51 → c ≠ 55 → E c = M_37 c := fun c c1 c2 c3 c4 c5 c6 => by
        rw [← hE, up_o c c6, up_o c c5, up_o c c4, up_o c c3, pc_co c1 c2, up_o c c1]
      have eM : ∀ c, ¬ SC c → (c < 5 ∨ 13 < c) → M_37 c = M c := fun c c1 c2 => by
        rw [hof2 c (fun q => c1 (by unfold SC; omega)) (by omega)]
        exact hF c c1
      have eA : ∀ c, ¬ SC c → (c < 5 ∨ 13 < c) → c ≠ 23 → c ≠ 24 → c ≠ 27 → c ≠ 45 → c ≠ 51 → c ≠ 55 → E c = M c := fun c a1 a2 c1 c2 c3 c4 c5 c6 => (eo c c1 c2 c3 c4 c5 c6).trans (eM c a1 a2)
      have em : moC E 5 = (rdg (txC M) (M 1 1)).2 := by
        rw [moC_c (fun c c1 c2 => eo c (by omega) (by omega) (by omega) (by omega) (by omega) (by omega))]
        exact k1
      have q1 : E 1 = M 1 := eA 1 (by unfold SC; omega) (by omega) (by omega) (by omega) (by omega) (by omega) (by omega) (by omega)
      have q2 : E 2 = M 2 := eA 2 (by unfold SC; omega) (by omega) (by omega) (by omega) (by omega) (by omega) (by omega) (by omega)
      have hz0 : ∀ j, j < 0 ∨ 18 < j → strt (moC M_37 5) j = 0 := fun j hj => by unfold strt; rw [if_neg (by omega)]
      obtain ⟨r1, r2⟩ := IC_0 (F := E) (B := B) hB (by rw [em, ← k1]; exact k2) (by rw [q1]; exact hz)
        (by rw [em, ← k1, ← hE, roC_up (by omega) (by omega), roC_up (by omega) (by omega), roC_up (by omega) (by omega), roC_up (by omega) (by omega)]; exact ro_pc hz0)
        (by rw [eo 5 (by omega) (by omega) (by omega) (by omega) (by omega) (by omega), ← hE, up_k (by omega), up_k (by omega), up_k (by omega), up_k (by omega), pc_n (Or.inl rfl), up_s])
        (ShOK_c hI.2.2.2.1.1 (eA 28 (by unfold SC; omega) (by omega) (by omega) (by omega) (by omega) (by omega) (by omega) (by omega)) (by rw [← hE, up_k (by omega), up_k (by omega), up_k (by omega), up_s]))
        (ShOK_c hI.2.2.2.2.1.1 (eA 46 (by unfold SC; omega) (by omega) (by omega) (by omega) (by omega) (by omega) (by omega) (by omega)) (by rw [← hE, up_k (by omega), up_k (by omega), up_s]))
        (by rw [← hE, up_k (by omega), up_k (by omega), up_k (by omega), up_s])
        (by rw [← hE, up_k (by omega), up_k (by omega), up_s])
        (by rw [← hE, up_k (by omega), up_s]) (by rw [← hE, up_s])
        (fun k a c => by rw [eA 60 (by unfold SC; omega) (by omega) (by omega) (by omega) (by omega) (by omega) (by omega) (by omega)]; exact hI.2.2.2.2.2.2.2 k a c)
      refine ⟨?_, ?_, r1, fun c hc => eA c (by unfold SC; omega) (by omega) (by omega) (by omega) (by omega) (by omega) (by omega) (by omega)⟩
      · rw [ea, if_neg hno, ← em, moC_0]
      · rw [r2, em, q1, txC_o q1 q2]
    · refine R_bipush (pc := 26) dX7_lay_26 rfl ?_
      refine R_iret (pc := 28) dX7_lay_28 ?_
      first
        | (rw [et, if_pos (Or.inl h_7)]; exact QS_ro hI FrC_r (by rw [ea, if_pos (Or.inl h_7)]))
        | (rw [et, if_pos (Or.inr h_23)]; exact QS_ro hI hF (by rw [ea, if_pos (Or.inr h_23)]))
