/-! the face, fourth part: undo, keep, back, bent, found, forget, door, mile -/
theorem up_id {M : Mem} {k : Nat} {j x : Int} (h : M k j = x) : up M k j x = M := by
  funext c i
  unfold up
  split
  · rename_i hc; rw [hc.1, hc.2, h]
  · rfl
theorem tk_e {M : Mem} {B : Int} {f n : Nat} (hI : IC M B) (hf : (f = 27 ∧ n = 8) ∨ (f = 45 ∧ n = 2)) (h : SfI M f n B (M 5 0)) (h1 : 1 ≤ M f 1) : tkS M f = putC (up M f 1 (M f 1 - 1)) 23 (shR M f (M f 1 - 1)) ∧ WFr (shR M f (M f 1 - 1)) B := by
  have h2 := h.2 (M f 1 - 1) (by omega) (by omega)
  refine ⟨?_, h2.1⟩
  unfold tkS
  rw [up_id (M := up M f 1 (M f 1 - 1)) (k := 23)]
  · rfl
  · rw [up_k (by omega), h2.2]; exact hI.2.2.1.2
theorem k_take (b : Nat) (sh : Shp) (M : Mem) {B : Int} {f n : Nat} (hsh : Hc sh) (hI : IC M B) (hf : (f = 27 ∧ n = 8) ∨ (f = 45 ∧ n = 2)) (hs : isSf sh f n) (h : SfI M f n B (M 5 0)) (hM : ∀ k j, inR (M k j)) : Ex 2 mX6_takeInto b sh M [vr b f, vr b 23] (some (vi (if 1 ≤ M f 1 then 1 else 0))) (if 1 ≤ M f 1 then putC (up M f 1 (M f 1 - 1)) 23 (shR M f (M f 1 - 1)) else M) := by
  have hk := k_takeInto b sh M f n hsh hs h.1 hM (fun h1 => by rw [ro_w (M := M)]; exact (h.2 (M f 1 - 1) (by omega) (by omega)).1.2.2.2.1)
  by_cases h1 : 1 ≤ M f 1
  · rw [if_pos h1] at hk
    rw [if_pos h1, if_pos h1, ← (tk_e hI hf h h1).1]
    rw [if_pos h1] at hk
    exact hk
  · rw [if_neg h1, if_neg h1] at hk ⊢
    exact hk
theorem k_undo (b : Nat) (sh : Shp) (M : Mem) {B : Int} (hsh : Hc sh) (hI : IC M B) : C0 3 mX7_undo b sh M [vr b 0] (QS M B (nx_undo (absC M)) (a_undo (absC M))) := by
  have hs := hI.2.2.2.1.1.1
  have hB : B ≤ B ∧ B ≤ 100000 := ⟨Int.le_refl _, hI.2.2.1.1.2.2.2.2.2⟩
  have ea : a_undo (absC M) = if 1 ≤ M 27 1 then M 27 1 - 1 else -2 := rfl
  have et : nx_undo (absC M) = if 1 ≤ M 27 1 then (M 1 1, txC M, moC M 5, mskR (M 27 1) (shR M 27) (M 27 1 - 1), po (SfA M 27), SfA M 45, BeA M, FoA M) else absC M := rfl
  rw [et, ea]
  refine MC_of (ls := [some (vr b 0)]) (by decide) rfl (Nat.le_of_ble_eq_true rfl) ?_
  refine R_rng fun hM => ?_
  have hk := k_take b sh M hsh hI (Or.inl ⟨rfl, rfl⟩) (sf27 hsh) hI.2.2.2.1 hM
  by_cases h1 : 1 ≤ M 27 1
  · rw [if_pos h1, if_pos h1] at hk ⊢
    refine R_aload_n (pc := 0) dX7_undo_0 rfl ?_
    refine R_getR (pc := 1) dX7_undo_1 fl_RX7_50 rfl (hsh _ _ rfl) rfl ?_
    refine R_aload_n (pc := 4) dX7_undo_4 rfl ?_
    refine R_getR (pc := 5) dX7_undo_5 fl_RX7_38 rfl (hsh _ _ rfl) rfl ?_
    refine R_V1i (pc := 8) dX7_undo_8 sv_RX7_176 (hsh _ _ rfl) (hk) (Nat.le_of_ble_eq_true rfl) (by decide) ?_
    refine R_if_eq (pc := 11) (tgt := 24) dX7_undo_11 (by decide) (by omega) (fun h_11 => ?_) (fun h_11 => ?_)
    · exact absurd h_11 (by omega)
    · refine R_aload_n (pc := 14) dX7_undo_14 rfl ?_
      refine R_getR (pc := 15) dX7_undo_15 fl_RX7_50 rfl (hsh _ _ rfl) rfl ?_
      refine R_getI (pc := 18) (J := 1) dX7_undo_18 fl_RX7_180 rfl rfl (hsh _ _ rfl) ((show putC (up M 27 1 (M 27 1 - 1)) 23 (shR M 27 (M 27 1 - 1)) 27 1 = M 27 1 - 1 by rw [pc_o (by omega) (by omega), up_s])) ?_
      refine R_goto (pc := 21) (tgt := 26) dX7_undo_21 (by decide) ?_
      refine R_iret (pc := 26) dX7_undo_26 ?_
      rw [mskR_i (by omega)]
      obtain ⟨-, hwf⟩ := tk_e hI (Or.inl ⟨rfl, rfl⟩) hI.2.2.2.1 h1
      have e : ∀ c, c ≠ 23 → c ≠ 24 → c ≠ 27 → putC (up M 27 1 (M 27 1 - 1)) 23 (shR M 27 (M 27 1 - 1)) c = M c := fun c c1 c2 c3 => by rw [pc_co c1 c2, up_o c c3]
      obtain ⟨r1, r2⟩ := IC_gen (M' := putC (up M 27 1 (M 27 1 - 1)) 23 (shR M 27 (M 27 1 - 1))) (B' := B) hI (fun c hc => e c (by omega) (by omega) (by omega)) ⟨ro_pc hwf.2.2.2.2.1, hwf, by rw [pc_n (Or.inl rfl), up_k (by omega)]; exact hI.2.2.1.2⟩ (po_sf (Or.inl ⟨rfl, rfl⟩) hI.2.2.2.1 h1 (fun c _ _ => e c (by omega) (by omega) (by omega)) (by rw [pc_o (by omega) (by omega), up_s])) (sm_sf hB (Or.inr ⟨rfl, rfl⟩) hI.2.2.2.2.1 (fun c _ _ => e c (by omega) (by omega) (by omega))) (sm_be hI.2.2.2.2.2.1 (fun c _ _ => e c (by omega) (by omega) (by omega))) (sm_fo hI.2.2.2.2.2.2.1 (fun c _ _ => e c (by omega) (by omega) (by omega)))
      exact ⟨rfl, r2, r1, fun c hc => e c (by omega) (by omega) (by omega)⟩
  · rw [if_neg h1, if_neg h1] at hk ⊢
    refine R_aload_n (pc := 0) dX7_undo_0 rfl ?_
    refine R_getR (pc := 1) dX7_undo_1 fl_RX7_50 rfl (hsh _ _ rfl) rfl ?_
    refine R_aload_n (pc := 4) dX7_undo_4 rfl ?_
    refine R_getR (pc := 5) dX7_undo_5 fl_RX7_38 rfl (hsh _ _ rfl) rfl ?_
    refine R_V1i (pc := 8) dX7_undo_8 sv_RX7_176 (hsh _ _ rfl) (hk) (Nat.le_of_ble_eq_true rfl) (by decide) ?_
    refine R_if_eq (pc := 11) (tgt := 24) dX7_undo_11 (by decide) (by omega) (fun h_11 => ?_) (fun h_11 => ?_)
    · refine R_bipush (pc := 24) dX7_undo_24 rfl ?_
      refine R_iret (pc := 26) dX7_undo_26 ?_
      exact QS_ro hI FrC_r rfl
    · exact absurd h_11 (by omega)
theorem k_back (b : Nat) (sh : Shp) (M : Mem) {B : Int} (hsh : Hc sh) (hI : IC M B) : C0 3 mX7_back b sh M [vr b 0] (QS M B (nx_back (absC M)) (a_back (absC M))) := by
  have hs := hI.2.2.2.2.1.1.1
  have ea : a_back (absC M) = if 1 ≤ M 45 1 then M 45 1 - 1 else -2 := rfl
  have et : nx_back (absC M) = if 1 ≤ M 45 1 then (M 1 1, txC M, moC M 5, mskR (M 45 1) (shR M 45) (M 45 1 - 1), (0, zR), po (SfA M 45), BeA M, FoA M) else absC M := rfl
  rw [et, ea]
  refine MC_of (ls := [some (vr b 0)]) (by decide) rfl (Nat.le_of_ble_eq_true rfl) ?_
  refine R_rng fun hM => ?_
  have hk := k_take b sh M hsh hI (Or.inr ⟨rfl, rfl⟩) (sf45 hsh) hI.2.2.2.2.1 hM
  by_cases h1 : 1 ≤ M 45 1
  · rw [if_pos h1, if_pos h1] at hk ⊢
    refine R_aload_n (pc := 0) dX7_back_0 rfl ?_
    refine R_getR (pc := 1) dX7_back_1 fl_RX7_54 rfl (hsh _ _ rfl) rfl ?_
    refine R_aload_n (pc := 4) dX7_back_4 rfl ?_
    refine R_getR (pc := 5) dX7_back_5 fl_RX7_38 rfl (hsh _ _ rfl) rfl ?_
    refine R_V1i (pc := 8) dX7_back_8 sv_RX7_176 (hsh _ _ rfl) (hk) (Nat.le_of_ble_eq_true rfl) (by decide) ?_
    refine R_if_ne (pc := 11) (tgt := 17) dX7_back_11 (by decide) (by omega) (fun h_11 => ?_) (fun h_11 => ?_)
    · refine R_aload_n (pc := 17) dX7_back_17 rfl ?_
      refine R_getR (pc := 18) dX7_back_18 fl_RX7_50 rfl (hsh _ _ rfl) rfl ?_
      refine R_V0v (pc := 21) dX7_back_21 sv_RX7_116 (hsh _ _ rfl) (k_sclear b sh _ 27 8 (sf27 hsh)) (Nat.le_of_ble_eq_true rfl) (by decide) ?_
      refine R_aload_n (pc := 24) dX7_back_24 rfl ?_
      refine R_getR (pc := 25) dX7_back_25 fl_RX7_54 rfl (hsh _ _ rfl) rfl ?_
      refine R_getI (pc := 28) (J := 1) dX7_back_28 fl_RX7_180 rfl rfl (hsh _ _ rfl) ((show up (putC (up M 45 1 (M 45 1 - 1)) 23 (shR M 45 (M 45 1 - 1))) 27 1 0 45 1 = M 45 1 - 1 by rw [up_k (by omega), pc_o (by omega) (by omega), up_s])) ?_
      refine R_iret (pc := 31) dX7_back_31 ?_
      rw [mskR_i (by omega)]
      obtain ⟨-, hwf⟩ := tk_e hI (Or.inr ⟨rfl, rfl⟩) hI.2.2.2.2.1 h1
      have e : ∀ c, c ≠ 23 → c ≠ 24 → c ≠ 27 → c ≠ 45 → up (putC (up M 45 1 (M 45 1 - 1)) 23 (shR M 45 (M 45 1 - 1))) 27 1 0 c = M c := fun c c1 c2 c3 c4 => by rw [up_o c c3, pc_co c1 c2, up_o c c4]
      obtain ⟨r1, r2⟩ := IC_gen (M' := up (putC (up M 45 1 (M 45 1 - 1)) 23 (shR M 45 (M 45 1 - 1))) 27 1 0) (B' := B) hI (fun c hc => e c (by omega) (by omega) (by omega) (by omega)) ⟨(roC_up (by omega) (by omega)).trans (ro_pc hwf.2.2.2.2.1), hwf, by rw [up_k (by omega), pc_n (Or.inl rfl), up_k (by omega)]; exact hI.2.2.1.2⟩ (cl_sf hI.2.2.2.1 (e _ (by omega) (by omega) (by omega) (by omega)) up_s) (po_sf (Or.inr ⟨rfl, rfl⟩) hI.2.2.2.2.1 h1 (fun c _ _ => e c (by omega) (by omega) (by omega) (by omega)) (by rw [up_k (by omega), pc_o (by omega) (by omega), up_s])) (sm_be hI.2.2.2.2.2.1 (fun c _ _ => e c (by omega) (by omega) (by omega) (by omega))) (sm_fo hI.2.2.2.2.2.2.1 (fun c _ _ => e c (by omega) (by omega) (by omega) (by omega)))
      exact ⟨rfl, r2, r1, fun c hc => e c (by omega) (by omega) (by omega) (by omega)⟩
    · exact absurd h_11 (by omega)
  · rw [if_neg h1, if_neg h1] at hk ⊢
    refine R_aload_n (pc := 0) dX7_back_0 rfl ?_
    refine R_getR (pc := 1) dX7_back_1 fl_RX7_54 rfl (hsh _ _ rfl) rfl ?_
    refine R_aload_n (pc := 4) dX7_back_4 rfl ?_
    refine R_getR (pc := 5) dX7_back_5 fl_RX7_38 rfl (hsh _ _ rfl) rfl ?_
    refine R_V1i (pc := 8) dX7_back_8 sv_RX7_176 (hsh _ _ rfl) (hk) (Nat.le_of_ble_eq_true rfl) (by decide) ?_
    refine R_if_ne (pc := 11) (tgt := 17) dX7_back_11 (by decide) (by omega) (fun h_11 => ?_) (fun h_11 => ?_)
    · exact absurd h_11 (by omega)
    · refine R_bipush (pc := 14) dX7_back_14 rfl ?_
      refine R_iret (pc := 16) dX7_back_16 ?_
      exact QS_ro hI FrC_r rfl
theorem k_keep (b : Nat) (sh : Shp) (M : Mem) {B : Int} (hsh : Hc sh) (hI : IC M B) : C0 3 mX7_keep b sh M [vr b 0] (QS M B (nx_keep (absC M)) (a_keep (absC M))) := by
  have hs := hI.2.2.2.2.1.1.1
  have hB : B ≤ B ∧ B ≤ 100000 := ⟨Int.le_refl _, hI.2.2.1.1.2.2.2.2.2⟩
  have ea : a_keep (absC M) = if M 45 1 < 2 then M 45 1 + 1 else -3 := rfl
  have et : nx_keep (absC M) = if M 45 1 < 2 then (M 1 1, txC M, moC M 5, roC M 23, SfA M 27, ad (SfA M 45) (roC M 23), BeA M, FoA M) else absC M := rfl
  rw [et, ea]
  refine MC_of (ls := [some (vr b 0)]) (by decide) rfl (Nat.le_of_ble_eq_true rfl) ?_
  refine R_rng fun hM => ?_
  have hk : Ex 2 mX6_put b sh M [vr b 45, vr b 23] (some (vi (if M 45 1 < 2 then 1 else 0))) (if M 45 1 < 2 then putS M 45 else M) := k_put b sh M 45 2 hsh (sf45 hsh) hI.2.2.2.2.1.1 hM (by rw [ro_w (M := M) (r := 23)]; exact hI.2.2.1.1.2.2.2.1)
  by_cases h1 : M 45 1 < 2
  · rw [if_pos h1, if_pos h1] at hk ⊢
    obtain ⟨g1, g2, g3⟩ := ad_sf hI.2.2.2.2.1 hI.2.2.1.1 hI.2.2.1.2 h1
    have hsz : putS M 45 45 1 = M 45 1 + 1 := congrArg Prod.fst g2
    refine R_aload_n (pc := 0) dX7_keep_0 rfl ?_
    refine R_getR (pc := 1) dX7_keep_1 fl_RX7_54 rfl (hsh _ _ rfl) rfl ?_
    refine R_aload_n (pc := 4) dX7_keep_4 rfl ?_
    refine R_getR (pc := 5) dX7_keep_5 fl_RX7_38 rfl (hsh _ _ rfl) rfl ?_
    refine R_V1i (pc := 8) dX7_keep_8 sv_RX7_243 (hsh _ _ rfl) (hk) (Nat.le_of_ble_eq_true rfl) (by decide) ?_
    refine R_if_eq (pc := 11) (tgt := 24) dX7_keep_11 (by decide) (by omega) (fun h_11 => ?_) (fun h_11 => ?_)
    · exact absurd h_11 (by omega)
    · refine R_aload_n (pc := 14) dX7_keep_14 rfl ?_
      refine R_getR (pc := 15) dX7_keep_15 fl_RX7_54 rfl (hsh _ _ rfl) rfl ?_
      refine R_getI (pc := 18) (J := 1) dX7_keep_18 fl_RX7_180 rfl rfl (hsh _ _ rfl) (hsz) ?_
      refine R_goto (pc := 21) (tgt := 26) dX7_keep_21 (by decide) ?_
      refine R_iret (pc := 26) dX7_keep_26 ?_
      obtain ⟨r1, r2⟩ := IC_gen (M' := putS M 45) (B' := B) hI (fun c hc => g3 c (by omega)) (sm_ro hI hB (g3 _ (by omega)) (g3 _ (by omega))) (sm_sf hB (Or.inl ⟨rfl, rfl⟩) hI.2.2.2.1 (fun c _ _ => g3 c (by omega))) ⟨g1, g2⟩ (sm_be hI.2.2.2.2.2.1 (fun c _ _ => g3 c (by omega))) (sm_fo hI.2.2.2.2.2.2.1 (fun c _ _ => g3 c (by omega)))
      exact ⟨rfl, r2, r1, fun c hc => g3 c (by omega)⟩
  · rw [if_neg h1, if_neg h1] at hk ⊢
    refine R_aload_n (pc := 0) dX7_keep_0 rfl ?_
    refine R_getR (pc := 1) dX7_keep_1 fl_RX7_54 rfl (hsh _ _ rfl) rfl ?_
    refine R_aload_n (pc := 4) dX7_keep_4 rfl ?_
    refine R_getR (pc := 5) dX7_keep_5 fl_RX7_38 rfl (hsh _ _ rfl) rfl ?_
    refine R_V1i (pc := 8) dX7_keep_8 sv_RX7_243 (hsh _ _ rfl) (hk) (Nat.le_of_ble_eq_true rfl) (by decide) ?_
    refine R_if_eq (pc := 11) (tgt := 24) dX7_keep_11 (by decide) (by omega) (fun h_11 => ?_) (fun h_11 => ?_)
    · refine R_bipush (pc := 24) dX7_keep_24 rfl ?_
      refine R_iret (pc := 26) dX7_keep_26 ?_
      exact QS_ro hI FrC_r rfl
    · exact absurd h_11 (by omega)
/-! clues -/
abbrev oY (y : Int) : Prop := 0 ≤ y ∧ y ≤ 60
def nx_bent (S : AS) (i y : Int) : AS := if (oP S i ∧ oY y) ∧ S.2.2.2.2.2.2.1.1 < 6 then (S.1, S.2.1, S.2.2.1, S.2.2.2.1, S.2.2.2.2.1, S.2.2.2.2.2.1, (S.2.2.2.2.2.2.1.1 + 1, uF S.2.2.2.2.2.2.1.2.1 S.2.2.2.2.2.2.1.1 i, uF S.2.2.2.2.2.2.1.2.2 S.2.2.2.2.2.2.1.1 y), S.2.2.2.2.2.2.2) else S
def a_bent (S : AS) (i y : Int) : Int := if oP S i ∧ oY y then (if S.2.2.2.2.2.2.1.1 < 6 then S.2.2.2.2.2.2.1.1 + 1 else -3) else -1
def nx_found (S : AS) (i t y : Int) : AS := if (oP S i ∧ (1 ≤ t ∧ t ≤ 10) ∧ oY y) ∧ S.2.2.2.2.2.2.2.1 < 6 then (S.1, S.2.1, S.2.2.1, S.2.2.2.1, S.2.2.2.2.1, S.2.2.2.2.2.1, S.2.2.2.2.2.2.1, (S.2.2.2.2.2.2.2.1 + 1, uF S.2.2.2.2.2.2.2.2.1 S.2.2.2.2.2.2.2.1 i, uF S.2.2.2.2.2.2.2.2.2.1 S.2.2.2.2.2.2.2.1 t, uF S.2.2.2.2.2.2.2.2.2.2 S.2.2.2.2.2.2.2.1 y)) else S
def a_found (S : AS) (i t y : Int) : Int := if oP S i ∧ (1 ≤ t ∧ t ≤ 10) ∧ oY y then (if S.2.2.2.2.2.2.2.1 < 6 then S.2.2.2.2.2.2.2.1 + 1 else -3) else -1
def nx_forget (S : AS) : AS := (S.1, S.2.1, S.2.2.1, S.2.2.2.1, S.2.2.2.2.1, S.2.2.2.2.2.1, (0, zF, zF), (0, zF, zF, zF))
def a_forget (S : AS) : Int := S.2.2.2.2.2.2.1.1 + S.2.2.2.2.2.2.2.1
theorem msk_u {n x : Int} {f : Rd} (h : 0 ≤ n) : msk (n + 1) (uF f n x) = uF (msk n f) n x := by
  funext k
  unfold msk uF
  by_cases hk : k = n
  · rw [if_pos (by omega), if_pos hk, if_pos hk]
  · rw [if_neg hk, if_neg hk]
    by_cases h2 : 0 ≤ k ∧ k < n
    · rw [if_pos (by omega)]; exact (if_pos h2).symm
    · rw [if_neg (by omega)]; exact (if_neg h2).symm
theorem add_f {M : Mem} {c : Nat} {i t y : Int} (hC : ClOK M c) (hlt : M c 3 < 6) (hi : 0 ≤ i ∧ i ≤ 15) (ht : 1 ≤ t ∧ t ≤ 10) (hy : 0 ≤ y ∧ y ≤ 60) : ClOK (addC M c i t y) c ∧ addC M c i t y c 3 = M c 3 + 1 ∧ clC (addC M c i t y) c 1 = uF (clC M c 1) (M c 3) i ∧ clC (addC M c i t y) c 2 = uF (clC M c 2) (M c 3) t ∧ clC (addC M c i t y) c 3 = uF (clC M c 3) (M c 3) y ∧ (∀ d, (d < c ∨ c + 3 < d) → addC M c i t y d = M d) ∧ addC M c i t y (c + 2) = uF (M (c + 2)) (M c 3) t := by
  have hs := hC.1
  have e0 : addC M c i t y c 3 = M c 3 + 1 := up_s
  have e1 : addC M c i t y (c + 1) = uF (M (c + 1)) (M c 3) i := by
    unfold addC
    rw [up_o _ (by omega), up_o _ (by omega), up_o _ (by omega)]
    funext k
    unfold up uF
    by_cases hk : k = M c 3
    · rw [if_pos ⟨rfl, hk⟩, if_pos hk]
    · rw [if_neg (by omega), if_neg hk]
  have e2 : addC M c i t y (c + 2) = uF (M (c + 2)) (M c 3) t := by
    unfold addC
    rw [up_o _ (by omega), up_o _ (by omega)]
    funext k
    unfold up uF
    by_cases hk : k = M c 3
    · rw [if_pos ⟨rfl, hk⟩, if_pos hk]
    · rw [if_neg (by omega), if_neg (by omega), if_neg hk]
  have e3 : addC M c i t y (c + 3) = uF (M (c + 3)) (M c 3) y := by
    unfold addC
    rw [up_o _ (by omega)]
    funext k
    unfold up uF
    by_cases hk : k = M c 3
    · rw [if_pos ⟨rfl, hk⟩, if_pos hk]
    · rw [if_neg (by omega), if_neg (by omega), if_neg (by omega), if_neg hk]
  refine ⟨⟨by rw [e0]; omega, fun k k0 k1 => ?_⟩, e0, ?_, ?_, ?_, fun d hd => ?_, e2⟩
  · rw [e0] at k1
    rw [e1, e2, e3]
    by_cases hk : k = M c 3
    · subst hk; rw [uF_s, uF_s, uF_s]; exact ⟨hi, ht, hy⟩
    · rw [uF_n hk, uF_n hk, uF_n hk]; exact hC.2 k k0 (by omega)
  · unfold clC; rw [e0, e1, msk_u hs.1]
  · unfold clC; rw [e0, e2, msk_u hs.1]
  · unfold clC; rw [e0, e3, msk_u hs.1]
  · unfold addC; rw [up_o d (by omega), up_o d (by omega), up_o d (by omega), up_o d (by omega)]
theorem k_bent (b : Nat) (sh : Shp) (M : Mem) {B : Int} (hsh : Hc sh) (hI : IC M B) (i y : Int) (hi : inR i) (hy : inR y) : C0 2 mX7_bent b sh M [vr b 0, vi i, vi y] (QS M B (nx_bent (absC M) i y) (a_bent (absC M) i y)) := by
  obtain ⟨hn, hw, ht, hd⟩ := IC_n hI
  have hB : B ≤ B ∧ B ≤ 100000 := ⟨Int.le_refl _, hI.2.2.1.1.2.2.2.2.2⟩
  have hC := hI.2.2.2.2.2.1.1
  have hs := hC.1
  have ea : a_bent (absC M) i y = if (0 ≤ i ∧ i ≤ M 5 0 - 1) ∧ 0 ≤ y ∧ y ≤ 60 then (if M 51 3 < 6 then M 51 3 + 1 else -3) else -1 := rfl
  have et : nx_bent (absC M) i y = if ((0 ≤ i ∧ i ≤ M 5 0 - 1) ∧ 0 ≤ y ∧ y ≤ 60) ∧ M 51 3 < 6 then (M 1 1, txC M, moC M 5, roC M 23, SfA M 27, SfA M 45, (M 51 3 + 1, uF (clC M 51 1) (M 51 3) i, uF (clC M 51 3) (M 51 3) y), FoA M) else absC M := rfl
  rw [et, ea]
  have hk := k_cadd b sh M 51 (cl_of hsh (Or.inl rfl)) hC i 1 y hi (by omega) hy
  by_cases h1 : M 51 3 < 6
  · rw [if_pos h1, if_pos h1] at hk
    refine MC_of (ls := [some (vr b 0), some (vi i), some (vi y)]) (by decide) rfl (Nat.le_of_ble_eq_true rfl) ?_
    refine R_aload_n (pc := 0) dX7_bent_0 rfl ?_
    refine R_iload_n (pc := 1) dX7_bent_1 rfl ?_
    refine R_V1i (pc := 2) dX7_bent_2 sv_RX7_121 (hsh _ _ rfl) (k_isPost b sh M hsh i hi (by omega)) (Nat.le_of_ble_eq_true rfl) (by decide) ?_
    refine R_if_eq (pc := 5) (tgt := 15) dX7_bent_5 (by decide) (by omega) (fun h_5 => ?_) (fun h_5 => ?_)
    · refine R_iconst (pc := 15) dX7_bent_15 ?_
      refine R_iret (pc := 16) dX7_bent_16 ?_
      rw [if_neg (by omega), if_neg (by omega)]
      exact QS_ro hI FrC_r rfl
    · refine R_iload_n (pc := 8) dX7_bent_8 rfl ?_
      refine R_S1i (pc := 9) dX7_bent_9 ss_RX7_196 (k_isYard b sh M y hy) (Nat.le_of_ble_eq_true rfl) (by decide) ?_
      refine R_if_ne (pc := 12) (tgt := 17) dX7_bent_12 (by decide) (by omega) (fun h_12 => ?_) (fun h_12 => ?_)
      · refine R_aload_n (pc := 17) dX7_bent_17 rfl ?_
        refine R_getR (pc := 18) dX7_bent_18 fl_RX7_60 rfl (hsh _ _ rfl) rfl ?_
        refine R_iload_n (pc := 21) dX7_bent_21 rfl ?_
        refine R_iconst (pc := 22) dX7_bent_22 ?_
        refine R_iload_n (pc := 23) dX7_bent_23 rfl ?_
        refine R_V3i (pc := 24) dX7_bent_24 sv_RX7_213 (hsh _ _ rfl) (hk) (Nat.le_of_ble_eq_true rfl) (by decide) ?_
        refine R_if_eq (pc := 27) (tgt := 40) dX7_bent_27 (by decide) (by omega) (fun h_27 => ?_) (fun h_27 => ?_)
        · exact absurd h_27 (by omega)
        · refine R_aload_n (pc := 30) dX7_bent_30 rfl ?_
          refine R_getR (pc := 31) dX7_bent_31 fl_RX7_60 rfl (hsh _ _ rfl) rfl ?_
          refine R_getI (pc := 34) (J := 3) dX7_bent_34 fl_RX7_215 rfl rfl (hsh _ _ rfl) ((show addC M 51 i 1 y 51 3 = M 51 3 + 1 from up_s)) ?_
          refine R_goto (pc := 37) (tgt := 42) dX7_bent_37 (by decide) ?_
          refine R_iret (pc := 42) dX7_bent_42 ?_
          obtain ⟨g1, g2, g3, -, g5, g6, g7⟩ := add_f (i := i) (t := 1) (y := y) hC h1 (by omega) (by omega) (by omega)
          obtain ⟨r1, r2⟩ := IC_gen (M' := addC M 51 i 1 y) (B' := B) (be := (M 51 3 + 1, uF (clC M 51 1) (M 51 3) i, uF (clC M 51 3) (M 51 3) y)) hI (fun c hc => g6 c (by omega)) (sm_ro hI hB (g6 _ (by omega)) (g6 _ (by omega))) (sm_sf hB (Or.inl ⟨rfl, rfl⟩) hI.2.2.2.1 (fun c _ _ => g6 c (by omega))) (sm_sf hB (Or.inr ⟨rfl, rfl⟩) hI.2.2.2.2.1 (fun c _ _ => g6 c (by omega))) ⟨⟨g1, fun k k0 k1 => by
              rw [g2] at k1
              rw [g7]
              by_cases hk : k = M 51 3
              · rw [hk, uF_s]
              · rw [uF_n hk]; exact hI.2.2.2.2.2.1.2 k k0 (by omega)⟩, by unfold BeA; rw [g2, g3, g5]⟩ (sm_fo hI.2.2.2.2.2.2.1 (fun c _ _ => g6 c (by omega)))
          rw [if_pos (by omega), if_pos (by omega), if_pos h1]
          exact ⟨rfl, r2, r1, fun c hc => g6 c (by omega)⟩
      · refine R_iconst (pc := 15) dX7_bent_15 ?_
        refine R_iret (pc := 16) dX7_bent_16 ?_
        rw [if_neg (by omega), if_neg (by omega)]
        exact QS_ro hI FrC_r rfl
  · rw [if_neg h1, if_neg h1] at hk
    rw [if_neg (fun q => h1 q.2), if_neg h1]
    refine MC_of (ls := [some (vr b 0), some (vi i), some (vi y)]) (by decide) rfl (Nat.le_of_ble_eq_true rfl) ?_
    refine R_aload_n (pc := 0) dX7_bent_0 rfl ?_
    refine R_iload_n (pc := 1) dX7_bent_1 rfl ?_
    refine R_V1i (pc := 2) dX7_bent_2 sv_RX7_121 (hsh _ _ rfl) (k_isPost b sh M hsh i hi (by omega)) (Nat.le_of_ble_eq_true rfl) (by decide) ?_
    refine R_if_eq (pc := 5) (tgt := 15) dX7_bent_5 (by decide) (by omega) (fun h_5 => ?_) (fun h_5 => ?_)
    · refine R_iconst (pc := 15) dX7_bent_15 ?_
      refine R_iret (pc := 16) dX7_bent_16 ?_
      exact QS_ro hI FrC_r (by omega)
    · refine R_iload_n (pc := 8) dX7_bent_8 rfl ?_
      refine R_S1i (pc := 9) dX7_bent_9 ss_RX7_196 (k_isYard b sh M y hy) (Nat.le_of_ble_eq_true rfl) (by decide) ?_
      refine R_if_ne (pc := 12) (tgt := 17) dX7_bent_12 (by decide) (by omega) (fun h_12 => ?_) (fun h_12 => ?_)
      · refine R_aload_n (pc := 17) dX7_bent_17 rfl ?_
        refine R_getR (pc := 18) dX7_bent_18 fl_RX7_60 rfl (hsh _ _ rfl) rfl ?_
        refine R_iload_n (pc := 21) dX7_bent_21 rfl ?_
        refine R_iconst (pc := 22) dX7_bent_22 ?_
        refine R_iload_n (pc := 23) dX7_bent_23 rfl ?_
        refine R_V3i (pc := 24) dX7_bent_24 sv_RX7_213 (hsh _ _ rfl) (hk) (Nat.le_of_ble_eq_true rfl) (by decide) ?_
        refine R_if_eq (pc := 27) (tgt := 40) dX7_bent_27 (by decide) (by omega) (fun h_27 => ?_) (fun h_27 => ?_)
        · refine R_bipush (pc := 40) dX7_bent_40 rfl ?_
          refine R_iret (pc := 42) dX7_bent_42 ?_
          exact QS_ro hI FrC_r (by omega)
        · exact absurd h_27 (by omega)
      · refine R_iconst (pc := 15) dX7_bent_15 ?_
        refine R_iret (pc := 16) dX7_bent_16 ?_
        exact QS_ro hI FrC_r (by omega)
theorem k_found (b : Nat) (sh : Shp) (M : Mem) {B : Int} (hsh : Hc sh) (hI : IC M B) (i t y : Int) (hi : inR i) (hti : inR t) (hy : inR y) : C0 2 mX7_found b sh M [vr b 0, vi i, vi t, vi y] (QS M B (nx_found (absC M) i t y) (a_found (absC M) i t y)) := by
  obtain ⟨hn, hw, ht, hd⟩ := IC_n hI
  have hB : B ≤ B ∧ B ≤ 100000 := ⟨Int.le_refl _, hI.2.2.1.1.2.2.2.2.2⟩
  have hC := hI.2.2.2.2.2.2.1
  have hs := hC.1
  have ea : a_found (absC M) i t y = if (0 ≤ i ∧ i ≤ M 5 0 - 1) ∧ (1 ≤ t ∧ t ≤ 10) ∧ 0 ≤ y ∧ y ≤ 60 then (if M 55 3 < 6 then M 55 3 + 1 else -3) else -1 := rfl
  have et : nx_found (absC M) i t y = if ((0 ≤ i ∧ i ≤ M 5 0 - 1) ∧ (1 ≤ t ∧ t ≤ 10) ∧ 0 ≤ y ∧ y ≤ 60) ∧ M 55 3 < 6 then (M 1 1, txC M, moC M 5, roC M 23, SfA M 27, SfA M 45, BeA M, (M 55 3 + 1, uF (clC M 55 1) (M 55 3) i, uF (clC M 55 2) (M 55 3) t, uF (clC M 55 3) (M 55 3) y)) else absC M := rfl
  rw [et, ea]
  have hk := k_cadd b sh M 55 (cl_of hsh (Or.inr rfl)) hC i t y hi hti hy
  by_cases h1 : M 55 3 < 6
  · rw [if_pos h1, if_pos h1] at hk
    refine MC_of (ls := [some (vr b 0), some (vi i), some (vi t), some (vi y)]) (by decide) rfl (Nat.le_of_ble_eq_true rfl) ?_
    refine R_aload_n (pc := 0) dX7_found_0 rfl ?_
    refine R_iload_n (pc := 1) dX7_found_1 rfl ?_
    refine R_V1i (pc := 2) dX7_found_2 sv_RX7_121 (hsh _ _ rfl) (k_isPost b sh M hsh i hi (by omega)) (Nat.le_of_ble_eq_true rfl) (by decide) ?_
    refine R_if_eq (pc := 5) (tgt := 25) dX7_found_5 (by decide) (by omega) (fun h_5 => ?_) (fun h_5 => ?_)
    · refine R_iconst (pc := 25) dX7_found_25 ?_
      refine R_iret (pc := 26) dX7_found_26 ?_
      rw [if_neg (by omega), if_neg (by omega)]
      exact QS_ro hI FrC_r rfl
    · refine R_iload_n (pc := 8) dX7_found_8 rfl ?_
      refine R_iconst (pc := 9) dX7_found_9 ?_
      refine R_bipush (pc := 10) dX7_found_10 rfl ?_
      refine R_S3i (pc := 12) dX7_found_12 ss_RX7_108 (k_within b sh _ _ _ _ hti (by omega) (by omega)) (Nat.le_of_ble_eq_true rfl) (by decide) ?_
      refine R_if_eq (pc := 15) (tgt := 25) dX7_found_15 (by decide) (by omega) (fun h_15 => ?_) (fun h_15 => ?_)
      · refine R_iconst (pc := 25) dX7_found_25 ?_
        refine R_iret (pc := 26) dX7_found_26 ?_
        rw [if_neg (by omega), if_neg (by omega)]
        exact QS_ro hI FrC_r rfl
      · refine R_iload_n (pc := 18) dX7_found_18 rfl ?_
        refine R_S1i (pc := 19) dX7_found_19 ss_RX7_196 (k_isYard b sh M y hy) (Nat.le_of_ble_eq_true rfl) (by decide) ?_
        refine R_if_ne (pc := 22) (tgt := 27) dX7_found_22 (by decide) (by omega) (fun h_22 => ?_) (fun h_22 => ?_)
        · refine R_aload_n (pc := 27) dX7_found_27 rfl ?_
          refine R_getR (pc := 28) dX7_found_28 fl_RX7_64 rfl (hsh _ _ rfl) rfl ?_
          refine R_iload_n (pc := 31) dX7_found_31 rfl ?_
          refine R_iload_n (pc := 32) dX7_found_32 rfl ?_
          refine R_iload_n (pc := 33) dX7_found_33 rfl ?_
          refine R_V3i (pc := 34) dX7_found_34 sv_RX7_213 (hsh _ _ rfl) (hk) (Nat.le_of_ble_eq_true rfl) (by decide) ?_
          refine R_if_eq (pc := 37) (tgt := 50) dX7_found_37 (by decide) (by omega) (fun h_37 => ?_) (fun h_37 => ?_)
          · exact absurd h_37 (by omega)
          · refine R_aload_n (pc := 40) dX7_found_40 rfl ?_
            refine R_getR (pc := 41) dX7_found_41 fl_RX7_64 rfl (hsh _ _ rfl) rfl ?_
            refine R_getI (pc := 44) (J := 3) dX7_found_44 fl_RX7_215 rfl rfl (hsh _ _ rfl) ((show addC M 55 i t y 55 3 = M 55 3 + 1 from up_s)) ?_
            refine R_goto (pc := 47) (tgt := 52) dX7_found_47 (by decide) ?_
            refine R_iret (pc := 52) dX7_found_52 ?_
            obtain ⟨g1, g2, g3, g4, g5, g6, g7⟩ := add_f (i := i) (t := t) (y := y) hC h1 (by omega) (by omega) (by omega)
            obtain ⟨r1, r2⟩ := IC_gen (M' := addC M 55 i t y) (B' := B) (fo := (M 55 3 + 1, uF (clC M 55 1) (M 55 3) i, uF (clC M 55 2) (M 55 3) t, uF (clC M 55 3) (M 55 3) y)) hI (fun c hc => g6 c (by omega)) (sm_ro hI hB (g6 _ (by omega)) (g6 _ (by omega))) (sm_sf hB (Or.inl ⟨rfl, rfl⟩) hI.2.2.2.1 (fun c _ _ => g6 c (by omega))) (sm_sf hB (Or.inr ⟨rfl, rfl⟩) hI.2.2.2.2.1 (fun c _ _ => g6 c (by omega))) (sm_be hI.2.2.2.2.2.1 (fun c _ _ => g6 c (by omega))) ⟨g1, by unfold FoA; rw [g2, g3, g4, g5]⟩
            rw [if_pos (by omega), if_pos (by omega), if_pos h1]
            exact ⟨rfl, r2, r1, fun c hc => g6 c (by omega)⟩
        · refine R_iconst (pc := 25) dX7_found_25 ?_
          refine R_iret (pc := 26) dX7_found_26 ?_
          rw [if_neg (by omega), if_neg (by omega)]
          exact QS_ro hI FrC_r rfl
  · rw [if_neg h1, if_neg h1] at hk
    rw [if_neg (fun q => h1 q.2), if_neg h1]
    refine MC_of (ls := [some (vr b 0), some (vi i), some (vi t), some (vi y)]) (by decide) rfl (Nat.le_of_ble_eq_true rfl) ?_
    refine R_aload_n (pc := 0) dX7_found_0 rfl ?_
    refine R_iload_n (pc := 1) dX7_found_1 rfl ?_
    refine R_V1i (pc := 2) dX7_found_2 sv_RX7_121 (hsh _ _ rfl) (k_isPost b sh M hsh i hi (by omega)) (Nat.le_of_ble_eq_true rfl) (by decide) ?_
    refine R_if_eq (pc := 5) (tgt := 25) dX7_found_5 (by decide) (by omega) (fun h_5 => ?_) (fun h_5 => ?_)
    · refine R_iconst (pc := 25) dX7_found_25 ?_
      refine R_iret (pc := 26) dX7_found_26 ?_
      exact QS_ro hI FrC_r (by omega)
    · refine R_iload_n (pc := 8) dX7_found_8 rfl ?_
      refine R_iconst (pc := 9) dX7_found_9 ?_
      refine R_bipush (pc := 10) dX7_found_10 rfl ?_
      refine R_S3i (pc := 12) dX7_found_12 ss_RX7_108 (k_within b sh _ _ _ _ hti (by omega) (by omega)) (Nat.le_of_ble_eq_true rfl) (by decide) ?_
      refine R_if_eq (pc := 15) (tgt := 25) dX7_found_15 (by decide) (by omega) (fun h_15 => ?_) (fun h_15 => ?_)
      · refine R_iconst (pc := 25) dX7_found_25 ?_
        refine R_iret (pc := 26) dX7_found_26 ?_
        exact QS_ro hI FrC_r (by omega)
      · refine R_iload_n (pc := 18) dX7_found_18 rfl ?_
        refine R_S1i (pc := 19) dX7_found_19 ss_RX7_196 (k_isYard b sh M y hy) (Nat.le_of_ble_eq_true rfl) (by decide) ?_
        refine R_if_ne (pc := 22) (tgt := 27) dX7_found_22 (by decide) (by omega) (fun h_22 => ?_) (fun h_22 => ?_)
        · refine R_aload_n (pc := 27) dX7_found_27 rfl ?_
          refine R_getR (pc := 28) dX7_found_28 fl_RX7_64 rfl (hsh _ _ rfl) rfl ?_
          refine R_iload_n (pc := 31) dX7_found_31 rfl ?_
          refine R_iload_n (pc := 32) dX7_found_32 rfl ?_
          refine R_iload_n (pc := 33) dX7_found_33 rfl ?_
          refine R_V3i (pc := 34) dX7_found_34 sv_RX7_213 (hsh _ _ rfl) (hk) (Nat.le_of_ble_eq_true rfl) (by decide) ?_
          refine R_if_eq (pc := 37) (tgt := 50) dX7_found_37 (by decide) (by omega) (fun h_37 => ?_) (fun h_37 => ?_)
          · refine R_bipush (pc := 50) dX7_found_50 rfl ?_
            refine R_iret (pc := 52) dX7_found_52 ?_
            exact QS_ro hI FrC_r (by omega)
          · exact absurd h_37 (by omega)
        · refine R_iconst (pc := 25) dX7_found_25 ?_
          refine R_iret (pc := 26) dX7_found_26 ?_
          exact QS_ro hI FrC_r (by omega)
theorem k_forget (b : Nat) (sh : Shp) (M : Mem) {B : Int} (hsh : Hc sh) (hI : IC M B) : C0 2 mX7_forget b sh M [vr b 0] (QS M B (nx_forget (absC M)) (a_forget (absC M))) := by
  have hB : B ≤ B ∧ B ≤ 100000 := ⟨Int.le_refl _, hI.2.2.1.1.2.2.2.2.2⟩
  have h1 := hI.2.2.2.2.2.1.1.1
  have h2 := hI.2.2.2.2.2.2.1.1
  refine MC_of (ls := [some (vr b 0), none]) (by decide) rfl (Nat.le_of_ble_eq_true rfl) ?_
  refine R_aload_n (pc := 0) dX7_forget_0 rfl ?_
  refine R_getR (pc := 1) dX7_forget_1 fl_RX7_60 rfl (hsh _ _ rfl) rfl ?_
  refine R_getI (pc := 4) (J := 3) dX7_forget_4 fl_RX7_215 rfl rfl (hsh _ _ rfl) (rfl) ?_
  refine R_aload_n (pc := 7) dX7_forget_7 rfl ?_
  refine R_getR (pc := 8) dX7_forget_8 fl_RX7_64 rfl (hsh _ _ rfl) rfl ?_
  refine R_getI (pc := 11) (J := 3) dX7_forget_11 fl_RX7_215 rfl rfl (hsh _ _ rfl) (rfl) ?_
  refine R_iadd (pc := 14) dX7_forget_14 ?_
  refine R_istore_n (pc := 15) dX7_forget_15 (by decide) rfl rfl ?_
  refine R_aload_n (pc := 16) dX7_forget_16 rfl ?_
  refine R_getR (pc := 17) dX7_forget_17 fl_RX7_60 rfl (hsh _ _ rfl) rfl ?_
  refine R_V0v (pc := 20) dX7_forget_20 sv_RX7_117 (hsh _ _ rfl) (k_cclear b sh _ 51 (cl_of hsh (Or.inl rfl))) (Nat.le_of_ble_eq_true rfl) (by decide) ?_
  refine R_aload_n (pc := 23) dX7_forget_23 rfl ?_
  refine R_getR (pc := 24) dX7_forget_24 fl_RX7_64 rfl (hsh _ _ rfl) rfl ?_
  refine R_V0v (pc := 27) dX7_forget_27 sv_RX7_117 (hsh _ _ rfl) (k_cclear b sh _ 55 (cl_of hsh (Or.inr rfl))) (Nat.le_of_ble_eq_true rfl) (by decide) ?_
  refine R_iload_n (pc := 30) dX7_forget_30 rfl ?_
  refine R_iret (pc := 31) dX7_forget_31 ?_
  have e : ∀ c, c ≠ 51 → c ≠ 55 → up (up M 51 3 0) 55 3 0 c = M c := fun c c1 c2 => by rw [up_o c c2, up_o c c1]
  have z1 : up (up M 51 3 0) 55 3 0 51 3 = 0 := by rw [up_k (by omega), up_s]
  have z2 : up (up M 51 3 0) 55 3 0 55 3 = 0 := up_s
  obtain ⟨r1, r2⟩ := IC_gen (M' := up (up M 51 3 0) 55 3 0) (B' := B) (be := (0, zF, zF)) (fo := (0, zF, zF, zF)) hI (fun c hc => e c (by omega) (by omega)) (sm_ro hI hB (e _ (by omega) (by omega)) (e _ (by omega) (by omega))) (sm_sf hB (Or.inl ⟨rfl, rfl⟩) hI.2.2.2.1 (fun c _ _ => e c (by omega) (by omega))) (sm_sf hB (Or.inr ⟨rfl, rfl⟩) hI.2.2.2.2.1 (fun c _ _ => e c (by omega) (by omega))) ⟨⟨⟨by rw [z1]; omega, fun k a c => by rw [z1] at c; omega⟩, fun k a c => by rw [z1] at c; omega⟩, by unfold BeA clC; rw [z1, msk_0, msk_0]⟩ ⟨⟨by rw [z2]; omega, fun k a c => by rw [z2] at c; omega⟩, by unfold FoA clC; rw [z2, msk_0, msk_0, msk_0]⟩
  exact ⟨rfl, r2, r1, fun c hc => e c (by omega) (by omega)⟩
/-! the fewest walks -/
def rowD (mo : Mo) (g v : Int) (ro : Rd) (k : Int) : Int := enc (mo 0 2) (dgt (nAll mo) (few mo g v ro).toNat (fw mo g v (few mo g v ro).toNat ro) (k - 1).toNat)
def a_door (S : AS) (i y k : Int) : Int := if oP S i ∧ oY y ∧ 0 ≤ k ∧ k ≤ 3 then (if k = 0 then few S.2.2.1 i y S.2.2.2.1 else if k ≤ few S.2.2.1 i y S.2.2.2.1 then rowD S.2.2.1 i y S.2.2.2.1 k else -4) else -1
def a_mile (S : AS) (m : Int) : Int := if 0 ≤ m ∧ m ≤ 999 then few S.2.2.1 (-1) m S.2.2.2.1 else -1
theorem few_in {mo : Mo} {g v : Int} {ro : Rd} : few mo g v ro = -4 ∨ (0 ≤ few mo g v ro ∧ few mo g v ro ≤ 3) := by
  unfold few
  repeat' split
  all_goals omega
theorem QF_fr {mo : Mo} {g v : Int} {ro : Rd} {M M' : Mem} {x : Option Value} (h : QF mo g v ro M x M') : FrC M M' := fun c hc => by
  by_cases h60 : c = 60
  · subst h60; exact h.2.2.1
  · exact h.2.1 c (by unfold SC at hc; omega)
theorem k_door (b : Nat) (sh : Shp) (M : Mem) {B : Int} (hsh : Hc sh) (hI : IC M B) (i y k : Int) (hi : inR i) (hy : inR y) (hk : inR k) : C0 8 mX7_door b sh M [vr b 0, vi i, vi y, vi k] (QS M B (absC M) (a_door (absC M) i y k)) := by
  obtain ⟨hn, hw, ht, hd⟩ := IC_n hI
  have ea : a_door (absC M) i y k = if (0 ≤ i ∧ i ≤ M 5 0 - 1) ∧ (0 ≤ y ∧ y ≤ 60) ∧ 0 ≤ k ∧ k ≤ 3 then (if k = 0 then few (moC M 5) i y (roC M 23) else if k ≤ few (moC M 5) i y (roC M 23) then rowD (moC M 5) i y (roC M 23) k else -4) else -1 := rfl
  have hfi := few_in (mo := moC M 5) (g := i) (v := y) (ro := roC M 23)
  refine MC_of (ls := [some (vr b 0), some (vi i), some (vi y), some (vi k), none]) (by decide) rfl (Nat.le_of_ble_eq_true rfl) ?_
  refine R_rng fun hM => ?_
  refine R_aload_n (pc := 0) dX7_door_0 rfl ?_
  refine R_iload_n (pc := 1) dX7_door_1 rfl ?_
  refine R_V1i (pc := 2) dX7_door_2 sv_RX7_121 (hsh _ _ rfl) (k_isPost b sh M hsh i hi (by omega)) (Nat.le_of_ble_eq_true rfl) (by decide) ?_
  refine R_if_eq (pc := 5) (tgt := 24) dX7_door_5 (by decide) (by omega) (fun h_5 => ?_) (fun h_5 => ?_)
  · refine R_iconst (pc := 24) dX7_door_24 ?_
    refine R_iret (pc := 25) dX7_door_25 ?_
    exact QS_ro hI FrC_r (by rw [ea]; omega)
  · refine R_iload_n (pc := 8) dX7_door_8 rfl ?_
    refine R_S1i (pc := 9) dX7_door_9 ss_RX7_196 (k_isYard b sh M y hy) (Nat.le_of_ble_eq_true rfl) (by decide) ?_
    refine R_if_eq (pc := 12) (tgt := 24) dX7_door_12 (by decide) (by omega) (fun h_12 => ?_) (fun h_12 => ?_)
    · refine R_iconst (pc := 24) dX7_door_24 ?_
      refine R_iret (pc := 25) dX7_door_25 ?_
      exact QS_ro hI FrC_r (by rw [ea]; omega)
    · refine R_iload_n (pc := 15) dX7_door_15 rfl ?_
      refine R_iconst (pc := 16) dX7_door_16 ?_
      refine R_iconst (pc := 17) dX7_door_17 ?_
      refine R_S3i (pc := 18) dX7_door_18 ss_RX7_108 (k_within b sh _ _ _ _ hk (by omega) (by omega)) (Nat.le_of_ble_eq_true rfl) (by decide) ?_
      refine R_if_ne (pc := 21) (tgt := 26) dX7_door_21 (by decide) (by omega) (fun h_21 => ?_) (fun h_21 => ?_)
      · refine R_aload_n (pc := 26) dX7_door_26 rfl ?_
        refine R_getR (pc := 27) dX7_door_27 fl_RX7_70 rfl (hsh _ _ rfl) rfl ?_
        refine R_aload_n (pc := 30) dX7_door_30 rfl ?_
        refine R_getR (pc := 31) dX7_door_31 fl_RX7_28 rfl (hsh _ _ rfl) rfl ?_
        refine R_aload_n (pc := 34) dX7_door_34 rfl ?_
        refine R_getR (pc := 35) dX7_door_35 fl_RX7_38 rfl (hsh _ _ rfl) rfl ?_
        refine R_iload_n (pc := 38) dX7_door_38 rfl ?_
        refine R_iload_n (pc := 39) dX7_door_39 rfl ?_
        refine R_V4 (pc := 40) dX7_door_40 sv_RX7_199 (k_fewestWalks b sh M hsh (moC M 5) i y rfl hI.1 (by omega) (by omega) (roC M 23) rfl hI.2.2.1.1 hI.2.2.1.2 hI.2.2.2.2.2.2.2 hM) (hsh _ _ rfl) (Nat.le_of_ble_eq_true rfl) (by decide) (fun v_40 M_40 hq_40 => ?_)
        have hF := QF_fr hq_40
        obtain ⟨rfl, -, -, hrow⟩ := hq_40
        refine R_istore (pc := 43) dX7_door_43 (by decide) rfl rfl ?_
        refine R_iload_n (pc := 45) dX7_door_45 rfl ?_
        refine R_if_ne (pc := 46) (tgt := 52) dX7_door_46 (by decide) (by omega) (fun h_46 => ?_) (fun h_46 => ?_)
        · refine R_iload_n (pc := 52) dX7_door_52 rfl ?_
          refine R_iload (pc := 53) dX7_door_53 rfl ?_
          refine R_cmp_gt (pc := 55) (tgt := 72) dX7_door_55 (by decide) (by omega) (fun h_55 => ?_) (fun h_55 => ?_)
          · refine R_bipush (pc := 72) dX7_door_72 rfl ?_
            refine R_iret (pc := 74) dX7_door_74 ?_
            exact QS_ro hI hF (by rw [ea]; omega)
          · refine R_aload_n (pc := 58) dX7_door_58 rfl ?_
            refine R_getR (pc := 59) dX7_door_59 fl_RX7_70 rfl (hsh _ _ rfl) rfl ?_
            refine R_getR (pc := 62) dX7_door_62 fl_RX7_203 rfl (hsh _ _ rfl) rfl ?_
            refine R_iload_n (pc := 65) dX7_door_65 rfl ?_
            refine R_iconst (pc := 66) dX7_door_66 ?_
            refine R_isub (pc := 67) dX7_door_67 ?_
            refine R_iald (pc := 68) dX7_door_68 (hsh _ _ rfl) (by omega) ((show M_40 61 (k - 1) = rowD (moC M 5) i y (roC M 23) k by
              have := hrow (k - 1).toNat (by omega)
              rw [Int.toNat_of_nonneg (by omega)] at this
              exact this)) ?_
            refine R_goto (pc := 69) (tgt := 74) dX7_door_69 (by decide) ?_
            refine R_iret (pc := 74) dX7_door_74 ?_
            exact QS_ro hI hF (by rw [ea]; omega)
        · refine R_iload (pc := 49) dX7_door_49 rfl ?_
          refine R_iret (pc := 51) dX7_door_51 ?_
          exact QS_ro hI hF (by rw [ea, if_pos (by omega), if_pos (by omega)])
      · refine R_iconst (pc := 24) dX7_door_24 ?_
        refine R_iret (pc := 25) dX7_door_25 ?_
        exact QS_ro hI FrC_r (by rw [ea]; omega)
theorem k_mile (b : Nat) (sh : Shp) (M : Mem) {B : Int} (hsh : Hc sh) (hI : IC M B) (m : Int) (hi : inR m) : C0 8 mX7_mile b sh M [vr b 0, vi m] (QS M B (absC M) (a_mile (absC M) m)) := by
  have ea : a_mile (absC M) m = if 0 ≤ m ∧ m ≤ 999 then few (moC M 5) (-1) m (roC M 23) else -1 := rfl
  refine MC_of (ls := [some (vr b 0), some (vi m)]) (by decide) rfl (Nat.le_of_ble_eq_true rfl) ?_
  refine R_rng fun hM => ?_
  refine R_iload_n (pc := 0) dX7_mile_0 rfl ?_
  refine R_iconst (pc := 1) dX7_mile_1 ?_
  refine R_sipush (pc := 2) dX7_mile_2 rfl ?_
  refine R_S3i (pc := 5) dX7_mile_5 ss_RX7_108 (k_within b sh _ _ _ _ hi (by omega) (by omega)) (Nat.le_of_ble_eq_true rfl) (by decide) ?_
  refine R_if_ne (pc := 8) (tgt := 13) dX7_mile_8 (by decide) (by omega) (fun h_8 => ?_) (fun h_8 => ?_)
  · refine R_aload_n (pc := 13) dX7_mile_13 rfl ?_
    refine R_getR (pc := 14) dX7_mile_14 fl_RX7_70 rfl (hsh _ _ rfl) rfl ?_
    refine R_aload_n (pc := 17) dX7_mile_17 rfl ?_
    refine R_getR (pc := 18) dX7_mile_18 fl_RX7_28 rfl (hsh _ _ rfl) rfl ?_
    refine R_aload_n (pc := 21) dX7_mile_21 rfl ?_
    refine R_getR (pc := 22) dX7_mile_22 fl_RX7_38 rfl (hsh _ _ rfl) rfl ?_
    refine R_iconst (pc := 25) dX7_mile_25 ?_
    refine R_iload_n (pc := 26) dX7_mile_26 rfl ?_
    refine R_V4 (pc := 27) dX7_mile_27 sv_RX7_199 (k_fewestWalks b sh M hsh (moC M 5) (-1) m rfl hI.1 (by omega) (by omega) (roC M 23) rfl hI.2.2.1.1 hI.2.2.1.2 hI.2.2.2.2.2.2.2 hM) (hsh _ _ rfl) (Nat.le_of_ble_eq_true rfl) (by decide) (fun v_27 M_27 hq_27 => ?_)
    have hF := QF_fr hq_27
    obtain ⟨rfl, -, -, hrow⟩ := hq_27
    refine R_iret (pc := 30) dX7_mile_30 ?_
    exact QS_ro hI hF (by rw [ea, if_pos (by omega)])
  · refine R_iconst (pc := 11) dX7_mile_11 ?_
    refine R_iret (pc := 12) dX7_mile_12 ?_
    exact QS_ro hI FrC_r (by rw [ea]; omega)
