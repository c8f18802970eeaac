/-! the face, third part: what changes road, shelves, clues -/
def SfI (M : Mem) (f n : Nat) (B p : Int) : Prop := ShOK M f n ∧ ∀ k : Int, 0 ≤ k → k < M f 1 → WFr (shR M f k) B ∧ M (ix M f k) 0 = p
abbrev SfA (M : Mem) (f : Nat) : Int × (Int → Rd) := (M f 1, mskR (M f 1) (shR M f))
def BeI (M : Mem) : Prop := ClOK M 51 ∧ ∀ k : Int, 0 ≤ k → k < M 51 3 → M 53 k = 1
abbrev BeA (M : Mem) : Int × Rd × Rd := (M 51 3, clC M 51 1, clC M 51 3)
abbrev FoA (M : Mem) : Int × Rd × Rd × Rd := (M 55 3, clC M 55 1, clC M 55 2, clC M 55 3)
theorem IC_gen {M M' : Mem} {B B' : Int} (hI : IC M B)
    (h0 : ∀ c, (c = 1 ∨ c = 2 ∨ (5 ≤ c ∧ c ≤ 13) ∨ c = 60) → M' c = M c)
    {ro : Rd} (hr : roC M' 23 = ro ∧ WFr ro B' ∧ M' 23 0 = M 5 0)
    {u : Int × (Int → Rd)} (hu : SfI M' 27 8 B' (M 5 0) ∧ SfA M' 27 = u)
    {k : Int × (Int → Rd)} (hk : SfI M' 45 2 B' (M 5 0) ∧ SfA M' 45 = k)
    {be : Int × Rd × Rd} (hb : BeI M' ∧ BeA M' = be) {fo : Int × Rd × Rd × Rd} (hf : ClOK M' 55 ∧ FoA M' = fo) :
    IC M' B' ∧ absC M' = (M 1 1, txC M, moC M 5, ro, u, k, be, fo) := by
  have e1 := h0 1 (by omega)
  have e2 := h0 2 (by omega)
  have e5 := h0 5 (by omega)
  have em : moC M' 5 = moC M 5 := moC_c (fun c c1 c2 => h0 c (by omega))
  obtain ⟨h1, h2, -, -, -, -, -, h8⟩ := hI
  refine ⟨⟨by rw [em]; exact h1, by rw [e1]; exact h2, ⟨by rw [hr.1]; exact hr.2.1, by rw [e5]; exact hr.2.2⟩, by rw [e5]; exact hu.1, by rw [e5]; exact hk.1, hb.1, hf.1, fun q a c => by rw [h0 60 (by omega)]; exact h8 q a c⟩, ?_⟩
  show (M' 1 1, txC M', moC M' 5, roC M' 23, SfA M' 27, SfA M' 45, BeA M', FoA M') = _
  rw [em, hr.1, hu.2, hk.2, hb.2, hf.2, txC_o e1 e2, e1]
theorem sm_ro {M M' : Mem} {B B' : Int} (hI : IC M B) (hB : B ≤ B' ∧ B' ≤ 100000) (h1 : M' 23 = M 23) (h2 : M' 24 = M 24) : roC M' 23 = roC M 23 ∧ WFr (roC M 23) B' ∧ M' 23 0 = M 5 0 := ⟨roC_c h1 h2, WFr_B hI.2.2.1.1 hB.1 hB.2, by rw [h1]; exact hI.2.2.1.2⟩
theorem sm_sf {M M' : Mem} {f n : Nat} {B B' p : Int} (hB : B ≤ B' ∧ B' ≤ 100000) (hf : (f = 27 ∧ n = 8) ∨ (f = 45 ∧ n = 2)) (h : SfI M f n B p) (e : ∀ c, f ≤ c → c ≤ f + 1 + 2 * n → M' c = M c) : SfI M' f n B' p ∧ SfA M' f = SfA M f := by
  obtain ⟨s1, s2, s3⟩ := shR_e h.1 hf e
  have hs := h.1.1
  refine ⟨⟨s1, fun k a1 a2 => ?_⟩, ?_⟩
  · rw [s2] at a2
    obtain ⟨g1, g2⟩ := s3 k a1 (by omega)
    rw [g1, g2]
    exact ⟨WFr_B (h.2 k a1 a2).1 hB.1 hB.2, (h.2 k a1 a2).2⟩
  · unfold SfA
    rw [s2, mskR_e (fun k a1 a2 => (s3 k a1 (by omega)).1)]
theorem sm_be {M M' : Mem} (h : BeI M) (e : ∀ c, 51 ≤ c → c ≤ 54 → M' c = M c) : BeI M' ∧ BeA M' = BeA M := by
  refine ⟨⟨?_, ?_⟩, ?_⟩
  · unfold ClOK
    rw [e 51 (by omega) (by omega), e (51 + 1) (by omega) (by omega), e (51 + 2) (by omega) (by omega), e (51 + 3) (by omega) (by omega)]
    exact h.1
  · rw [e 51 (by omega) (by omega), e 53 (by omega) (by omega)]
    exact h.2
  · unfold BeA clC
    rw [e 51 (by omega) (by omega), e (51 + 1) (by omega) (by omega), e (51 + 3) (by omega) (by omega)]
theorem sm_fo {M M' : Mem} (h : ClOK M 55) (e : ∀ c, 55 ≤ c → c ≤ 58 → M' c = M c) : ClOK M' 55 ∧ FoA M' = FoA M := by
  refine ⟨?_, ?_⟩
  · unfold ClOK
    rw [e 55 (by omega) (by omega), e (55 + 1) (by omega) (by omega), e (55 + 2) (by omega) (by omega), e (55 + 3) (by omega) (by omega)]
    exact h
  · unfold FoA clC
    rw [e 55 (by omega) (by omega), e (55 + 1) (by omega) (by omega), e (55 + 2) (by omega) (by omega), e (55 + 3) (by omega) (by omega)]
theorem IC_B {M : Mem} {B B' : Int} (hI : IC M B) (hB : B ≤ B' ∧ B' ≤ 100000) : IC M B' := 
  (IC_gen hI (fun _ _ => rfl) (sm_ro hI hB rfl rfl) (sm_sf hB (Or.inl ⟨rfl, rfl⟩) hI.2.2.2.1 (fun _ _ _ => rfl)) (sm_sf hB (Or.inr ⟨rfl, rfl⟩) hI.2.2.2.2.1 (fun _ _ _ => rfl)) (sm_be hI.2.2.2.2.2.1 (fun _ _ _ => rfl)) (sm_fo hI.2.2.2.2.2.2.1 (fun _ _ _ => rfl))).1
/-- one more on the shelf of eight: the oldest falls -/
def pu (u : Int × (Int → Rd)) (r : Rd) : Int × (Int → Rd) := if u.1 < 8 then (u.1 + 1, fun k => if k = u.1 then r else u.2 k) else (8, fun k => if k = 7 then r else if 0 ≤ k ∧ k < 7 then u.2 (k + 1) else zF)
def ad (u : Int × (Int → Rd)) (r : Rd) : Int × (Int → Rd) := (u.1 + 1, fun k => if k = u.1 then r else u.2 k)
def po (u : Int × (Int → Rd)) : Int × (Int → Rd) := (u.1 - 1, mskR (u.1 - 1) u.2)
theorem pu_sf {M : Mem} {B p : Int} (h : SfI M 27 8 B p) (hr : WFr (roC M 23) B) (hp : M 23 0 = p) : SfI (poS M 27 8) 27 8 B p ∧ SfA (poS M 27 8) 27 = pu (SfA M 27) (roC M 23) ∧ ∀ c, (c < 27 ∨ 44 < c) → poS M 27 8 c = M c := by
  obtain ⟨g1, g2, g3, g4, g5, g6⟩ := poS_f h.1 (Or.inl ⟨rfl, rfl⟩)
  have hs := h.1.1
  have g3' : poS M 27 8 27 1 = if M 27 1 < 8 then M 27 1 + 1 else 8 := g3
  refine ⟨⟨g1, fun k a1 a2 => ?_⟩, ?_, fun c hc => g2 c (by omega)⟩
  · by_cases hk : k = poS M 27 8 27 1 - 1
    · rw [hk, g5, g6]; exact ⟨hr, hp⟩
    · obtain ⟨q1, q2⟩ := g4 k a1 (by omega)
      rw [q1, q2]
      by_cases hlt : M 27 1 < 8
      · rw [if_pos hlt] at g3'
        rw [if_pos (by omega)]; exact h.2 k a1 (by omega)
      · rw [if_neg hlt] at g3'
        rw [if_neg (by omega)]; exact h.2 (k + 1) (by omega) (by omega)
  · unfold pu SfA
    by_cases hlt : M 27 1 < 8
    · rw [if_pos hlt] at g3'
      rw [if_pos hlt, g3']
      congr 1
      funext k
      unfold mskR
      by_cases hk : k = M 27 1
      · rw [if_pos (by omega), if_pos hk, ← g5, g3', hk]
        congr 1; omega
      · rw [if_neg hk]
        dsimp only
        by_cases hk2 : 0 ≤ k ∧ k < M 27 1
        · rw [if_pos (by omega), if_pos hk2, (g4 k hk2.1 (by omega)).1, if_pos (by omega)]
        · rw [if_neg (by omega), if_neg hk2]
    · rw [if_neg hlt] at g3'
      rw [if_neg hlt, g3']
      congr 1
      funext k
      unfold mskR
      by_cases hk : k = 7
      · rw [if_pos (by omega), if_pos hk, ← g5, g3', hk]
        congr 1
      · rw [if_neg hk]
        dsimp only
        by_cases hk2 : 0 ≤ k ∧ k < 7
        · rw [if_pos (by omega), if_pos hk2, (g4 k hk2.1 (by omega)).1, if_neg (by omega), if_pos (by omega)]
        · rw [if_neg (by omega), if_neg hk2]
theorem ad_sf {M : Mem} {B p : Int} (h : SfI M 45 2 B p) (hr : WFr (roC M 23) B) (hp : M 23 0 = p) (hlt : M 45 1 < 2) : SfI (putS M 45) 45 2 B p ∧ SfA (putS M 45) 45 = ad (SfA M 45) (roC M 23) ∧ ∀ c, (c < 45 ∨ 50 < c) → putS M 45 c = M c := by
  obtain ⟨g1, g2, g3, g4, g5, g6, g7⟩ := putS_f h.1 (Or.inr ⟨rfl, rfl⟩) hlt
  have hs := h.1.1
  have eix : ∀ k, ix (putS M 45) 45 k = ix M 45 k := fun k => by unfold ix; rw [g2]
  refine ⟨⟨g3, fun k a1 a2 => ?_⟩, ?_, fun c hc => g4 c (by omega)⟩
  · rw [g1] at a2
    rw [eix]
    by_cases hk : k = M 45 1
    · rw [hk, g6, g7]; exact ⟨hr, hp⟩
    · obtain ⟨q1, q2⟩ := g5 k a1 (by omega) hk
      rw [q1, q2]
      exact h.2 k a1 (by omega)
  · unfold ad SfA
    rw [g1]
    congr 1
    funext k
    unfold mskR
    by_cases hk : k = M 45 1
    · rw [if_pos (by omega), if_pos hk, ← g6, hk]
    · rw [if_neg hk]
      dsimp only
      by_cases hk2 : 0 ≤ k ∧ k < M 45 1
      · rw [if_pos (by omega), if_pos hk2, (g5 k hk2.1 (by omega) hk).1]
      · rw [if_neg (by omega), if_neg hk2]
theorem po_sf {M M' : Mem} {f n : Nat} {B p : Int} (hf : (f = 27 ∧ n = 8) ∨ (f = 45 ∧ n = 2)) (h : SfI M f n B p) (h1 : 1 ≤ M f 1) (e : ∀ c, f + 1 ≤ c → c ≤ f + 1 + 2 * n → M' c = M c) (e1 : M' f 1 = M f 1 - 1) : SfI M' f n B p ∧ SfA M' f = po (SfA M f) := by
  have hs := h.1.1
  have e2 := e (f + 1) (by omega) (by omega)
  have eix : ∀ k, ix M' f k = ix M f k := fun k => by unfold ix; rw [e2]
  have er : ∀ k : Int, 0 ≤ k → k < n → shR M' f k = shR M f k ∧ M' (ix M' f k) 0 = M (ix M f k) 0 := fun k h0 h1 => by
    obtain ⟨-, -, g1, g2, -⟩ := ix_of h.1 h0 h1
    unfold shR
    rw [eix]
    exact ⟨roC_c (e _ (by omega) (by omega)) (e _ (by omega) (by omega)), by rw [e _ (by omega) (by omega)]⟩
  refine ⟨⟨⟨by rw [e1]; omega, fun k a c => by rw [e2]; exact h.1.2.1 k a c, fun j k a1 a2 a3 a4 a5 => by rw [e2] at a5; exact h.1.2.2 j k a1 a2 a3 a4 a5⟩, fun k a1 a2 => ?_⟩, ?_⟩
  · rw [e1] at a2
    rw [(er k a1 (by omega)).1, (er k a1 (by omega)).2]
    exact h.2 k a1 (by omega)
  · unfold po SfA
    rw [e1, mskR_m (by omega), mskR_e (fun k a1 a2 => (er k a1 (by omega)).1)]
theorem cl_sf {M M' : Mem} {f n : Nat} {B p : Int} (h : SfI M f n B p) (e : M' (f + 1) = M (f + 1)) (e1 : M' f 1 = 0) : SfI M' f n B p ∧ SfA M' f = (0, zR) := by
  refine ⟨⟨ShOK_c h.1 e e1, fun k a1 a2 => by rw [e1] at a2; omega⟩, ?_⟩
  unfold SfA
  rw [e1, mskR_0]
/-! the states behind a call -/
def nx_pass (S : AS) (n : Int) : AS := if 1 ≤ n ∧ n ≤ 20 then (S.1, S.2.1, S.2.2.1, days S.2.2.1 S.2.2.2.1 n.toNat, pu S.2.2.2.2.1 S.2.2.2.1, S.2.2.2.2.2) else S
def a_pass (S : AS) (n : Int) : Int := if 1 ≤ n ∧ n ≤ 20 then days S.2.2.1 S.2.2.2.1 n.toNat 16 else -1
def nx_walk (S : AS) (w t : Int) : AS := if oW S w ∧ oT S t then (S.1, S.2.1, S.2.2.1, (wlk S.2.2.1 (fogAt S.2.2.1 (S.2.2.2.1 16)) S.2.2.2.1 w t).1, pu S.2.2.2.2.1 S.2.2.2.1, S.2.2.2.2.2) else S
def a_walk (S : AS) (w t : Int) : Int := if oW S w ∧ oT S t then (wlk S.2.2.1 (fogAt S.2.2.1 (S.2.2.2.1 16)) S.2.2.2.1 w t).2 else -1
def nx_shut (S : AS) (t z : Int) : AS := if oT S t ∧ ¬ sb (S.2.2.2.1 17) t = z then (S.1, S.2.1, S.2.2.1, uF S.2.2.2.1 17 (xr (S.2.2.2.1 17) t), pu S.2.2.2.2.1 S.2.2.2.1, S.2.2.2.2.2) else S
def a_shut (S : AS) (t z : Int) : Int := if oT S t then (if sb (S.2.2.2.1 17) t = z then -2 else cnt (xr (S.2.2.2.1 17) t)) else -1
def nx_undo (S : AS) : AS := if 1 ≤ S.2.2.2.2.1.1 then (S.1, S.2.1, S.2.2.1, S.2.2.2.2.1.2 (S.2.2.2.2.1.1 - 1), po S.2.2.2.2.1, S.2.2.2.2.2) else S
def a_undo (S : AS) : Int := if 1 ≤ S.2.2.2.2.1.1 then S.2.2.2.2.1.1 - 1 else -2
def nx_keep (S : AS) : AS := if S.2.2.2.2.2.1.1 < 2 then (S.1, S.2.1, S.2.2.1, S.2.2.2.1, S.2.2.2.2.1, ad S.2.2.2.2.2.1 S.2.2.2.1, S.2.2.2.2.2.2) else S
def a_keep (S : AS) : Int := if S.2.2.2.2.2.1.1 < 2 then S.2.2.2.2.2.1.1 + 1 else -3
def nx_back (S : AS) : AS := if 1 ≤ S.2.2.2.2.2.1.1 then (S.1, S.2.1, S.2.2.1, S.2.2.2.2.2.1.2 (S.2.2.2.2.2.1.1 - 1), (0, zR), po S.2.2.2.2.2.1, S.2.2.2.2.2.2) else S
def a_back (S : AS) : Int := if 1 ≤ S.2.2.2.2.2.1.1 then S.2.2.2.2.2.1.1 - 1 else -2
theorem IC_pn {M : Mem} {B B' : Int} (hI : IC M B) (hB : B ≤ B' ∧ B' ≤ 100000) {f : Rd} (hf : WFr f B') : IC (putC (poS M 27 8) 23 f) B' ∧ absC (putC (poS M 27 8) 23 f) = (M 1 1, txC M, moC M 5, f, pu (SfA M 27) (roC M 23), SfA M 45, BeA M, FoA M) ∧ ∀ c, 72 ≤ c → putC (poS M 27 8) 23 f c = M c := by
  obtain ⟨g1, g2, g3⟩ := pu_sf hI.2.2.2.1 hI.2.2.1.1 hI.2.2.1.2
  have e : ∀ c, c ≠ 23 → c ≠ 24 → (c < 27 ∨ 44 < c) → putC (poS M 27 8) 23 f c = M c := fun c c1 c2 c3 => (pc_co c1 c2).trans (g3 c c3)
  obtain ⟨u1, u2⟩ := sm_sf (M' := putC (poS M 27 8) 23 f) hB (Or.inl ⟨rfl, rfl⟩) g1 (fun c _ _ => pc_co (by omega) (by omega))
  obtain ⟨r1, r2⟩ := IC_gen (M' := putC (poS M 27 8) 23 f) (B' := B') hI (fun c hc => e c (by omega) (by omega) (by omega)) ⟨ro_pc hf.2.2.2.2.1, hf, by rw [pc_n (Or.inl rfl), g3 23 (by omega)]; exact hI.2.2.1.2⟩ ⟨u1, u2.trans g2⟩ (sm_sf hB (Or.inr ⟨rfl, rfl⟩) hI.2.2.2.2.1 (fun c _ _ => e c (by omega) (by omega) (by omega))) (sm_be hI.2.2.2.2.2.1 (fun c _ _ => e c (by omega) (by omega) (by omega))) (sm_fo hI.2.2.2.2.2.2.1 (fun c _ _ => e c (by omega) (by omega) (by omega)))
  exact ⟨r1, r2, fun c hc => e c (by omega) (by omega) (by omega)⟩
theorem po_keep {M : Mem} {B : Int} (hI : IC M B) : moC (poS M 27 8) 5 = moC M 5 ∧ roC (poS M 27 8) 23 = roC M 23 ∧ poS M 27 8 23 0 = poS M 27 8 5 0 ∧ ∀ c, (c < 27 ∨ 44 < c) → poS M 27 8 c = M c := by
  obtain ⟨g1, g2, g3⟩ := pu_sf hI.2.2.2.1 hI.2.2.1.1 hI.2.2.1.2
  exact ⟨moC_c (fun c _ _ => g3 c (by omega)), roC_c (g3 _ (by omega)) (g3 _ (by omega)), by rw [g3 23 (by omega), g3 5 (by omega)]; exact hI.2.2.1.2, g3⟩
theorem ro_w {M : Mem} {r : Nat} : M r 4 = roC M r 18 := by simp [roC]
theorem ro_s {M : Mem} {r : Nat} : M r 3 = roC M r 17 := by simp [roC]
theorem ro_d {M : Mem} {r : Nat} : M r 2 = roC M r 16 := by simp [roC]
theorem k_push (b : Nat) (sh : Shp) (M : Mem) {B : Int} (hsh : Hc sh) (hI : IC M B) (hM : ∀ k j, inR (M k j)) : Ex 3 mX6_putOverOldest b sh M [vr b 27, vr b 23] none (putC (poS M 27 8) 23 (roC M 23)) := by
  have h := k_putOverOldest b sh M 27 8 hsh (sf27 hsh) hI.2.2.2.1.1 hM (by rw [ro_w (M := M) (r := 23)]; exact hI.2.2.1.1.2.2.2.1)
  rw [← (po_keep hI).2.1, pc_self]
  exact h
theorem k_pass (b : Nat) (sh : Shp) (M : Mem) {B : Int} (hsh : Hc sh) (hI : IC M B) (hB : B ≤ 90000) (n : Int) (hn : inR n) : C0 5 mX7_pass b sh M [vr b 0, vi n] (QS M (B + 20) (nx_pass (absC M) n) (a_pass (absC M) n)) := by
  have ea : a_pass (absC M) n = if 1 ≤ n ∧ n ≤ 20 then days (moC M 5) (roC M 23) n.toNat 16 else -1 := rfl
  have et : nx_pass (absC M) n = if 1 ≤ n ∧ n ≤ 20 then (M 1 1, txC M, moC M 5, days (moC M 5) (roC M 23) n.toNat, pu (SfA M 27) (roC M 23), SfA M 45, BeA M, FoA M) else absC M := rfl
  have h23 : isRd sh 23 := rd_of hsh (by decide)
  obtain ⟨p1, p2, p3, p4⟩ := po_keep hI
  refine MC_of (ls := [some (vr b 0), some (vi n)]) (by decide) rfl (Nat.le_of_ble_eq_true rfl) ?_
  refine R_rng fun hM => ?_
  refine R_iload_n (pc := 0) dX7_pass_0 rfl ?_
  refine R_iconst (pc := 1) dX7_pass_1 ?_
  refine R_bipush (pc := 2) dX7_pass_2 rfl ?_
  refine R_S3i (pc := 4) dX7_pass_4 ss_RX7_108 (k_within b sh _ _ _ _ hn (by omega) (by omega)) (Nat.le_of_ble_eq_true rfl) (by decide) ?_
  refine R_if_ne (pc := 7) (tgt := 12) dX7_pass_7 (by decide) (by omega) (fun h_7 => ?_) (fun h_7 => ?_)
  · refine R_aload_n (pc := 12) dX7_pass_12 rfl ?_
    refine R_getR (pc := 13) dX7_pass_13 fl_RX7_50 rfl (hsh _ _ rfl) rfl ?_
    refine R_aload_n (pc := 16) dX7_pass_16 rfl ?_
    refine R_getR (pc := 17) dX7_pass_17 fl_RX7_38 rfl (hsh _ _ rfl) rfl ?_
    refine R_V1v (pc := 20) dX7_pass_20 sv_RX7_155 (hsh _ _ rfl) (k_push b sh M hsh hI hM) (Nat.le_of_ble_eq_true rfl) (by decide) ?_
    refine R_aload_n (pc := 23) dX7_pass_23 rfl ?_
    refine R_getR (pc := 24) dX7_pass_24 fl_RX7_38 rfl (hsh _ _ rfl) rfl ?_
    refine R_aload_n (pc := 27) dX7_pass_27 rfl ?_
    refine R_getR (pc := 28) dX7_pass_28 fl_RX7_28 rfl (hsh _ _ rfl) rfl ?_
    refine R_iload_n (pc := 31) dX7_pass_31 rfl ?_
    refine R_V2 (pc := 32) dX7_pass_32 sv_RX7_159 (k_goDays b sh (poS M 27 8) 23 hsh h23 (by rw [p1]; exact hI.1) (by rw [p4 5 (by omega)]; exact hM 5 13) (roC M 23) hI.2.2.1.1 p3 n (by omega)) (hsh _ _ rfl) (Nat.le_of_ble_eq_true rfl) (by decide) (fun v_32 M_32 hq_32 => ?_)
    obtain ⟨rfl, rfl⟩ := hq_32
    rw [p1]
    obtain ⟨d1, d2⟩ := days_in hI.1 hI.2.2.1.1 n.toNat (by omega)
    refine R_aload_n (pc := 35) dX7_pass_35 rfl ?_
    refine R_getR (pc := 36) dX7_pass_36 fl_RX7_38 rfl (hsh _ _ rfl) rfl ?_
    refine R_getI (pc := 39) (J := 2) dX7_pass_39 fl_RX7_163 rfl rfl (hsh _ _ rfl) (pc_d) ?_
    refine R_iret (pc := 42) dX7_pass_42 ?_
    obtain ⟨i1, i2, i3⟩ := IC_pn hI (B' := B + 20) (by omega) (WFr_B d1 (by omega) (by omega))
    rw [et, ea, if_pos (by omega), if_pos (by omega)]
    exact ⟨rfl, i2, i1, i3⟩
  · refine R_iconst (pc := 10) dX7_pass_10 ?_
    refine R_iret (pc := 11) dX7_pass_11 ?_
    rw [et, ea, if_neg (by omega), if_neg (by omega)]
    exact QS_ro (IC_B hI (by omega)) FrC_r rfl
theorem wlk_in {mo : Mo} {ro : Rd} {fog k t B : Int} (hm : WFm mo) (hw : WFr ro B) : WFr (wlk mo fog ro k t).1 B := by
  unfold wlk
  have h4 := WFr_w hw (x := 1) (by omega)
  split
  · exact h4
  · exact (bend_in hm h4).1
theorem k_walk (b : Nat) (sh : Shp) (M : Mem) {B : Int} (hsh : Hc sh) (hI : IC M B) (hB : B ≤ 90000) (w t : Int) (hi : inR w) (hj : inR t) : C0 5 mX7_walk b sh M [vr b 0, vi w, vi t] (QS M (B + 20) (nx_walk (absC M) w t) (a_walk (absC M) w t)) := by
  obtain ⟨hn, hw, ht, hd⟩ := IC_n hI
  have ea : a_walk (absC M) w t = if (0 ≤ w ∧ w ≤ M 5 2 - 1) ∧ 0 ≤ t ∧ t ≤ M 5 5 - 1 then (wlk (moC M 5) (fogAt (moC M 5) (roC M 23 16)) (roC M 23) w t).2 else -1 := rfl
  have et : nx_walk (absC M) w t = if (0 ≤ w ∧ w ≤ M 5 2 - 1) ∧ 0 ≤ t ∧ t ≤ M 5 5 - 1 then (M 1 1, txC M, moC M 5, (wlk (moC M 5) (fogAt (moC M 5) (roC M 23 16)) (roC M 23) w t).1, pu (SfA M 27) (roC M 23), SfA M 45, BeA M, FoA M) else absC M := rfl
  have h23 : isRd sh 23 := rd_of hsh (by decide)
  obtain ⟨p1, p2, p3, p4⟩ := po_keep hI
  have p5 := p4 5 (by omega)
  have h16 := hI.2.2.1.1.2.1
  have hfg : fogAt (moC M 5) (roC M 23 16) = 0 ∨ fogAt (moC M 5) (roC M 23 16) = 1 := hI.1.2.2.2.2.2.2.2.2.2.2.2.2 _
  refine MC_of (ls := [some (vr b 0), some (vi w), some (vi t)]) (by decide) rfl (Nat.le_of_ble_eq_true rfl) ?_
  refine R_rng fun hM => ?_
  have hfo := k_isFoggy b sh (putC (poS M 27 8) 23 (roC M 23)) hsh (roC M 23 16) (by omega) (by rw [pc_o (by omega) (by omega), p5]; exact hM 5 13)
  rw [moC_pc (by omega) (by omega), p1] at hfo
  refine R_aload_n (pc := 0) dX7_walk_0 rfl ?_
  refine R_iload_n (pc := 1) dX7_walk_1 rfl ?_
  refine R_V1i (pc := 2) dX7_walk_2 sv_RX7_127 (hsh _ _ rfl) (k_isWalker b sh M hsh w hi (by omega)) (Nat.le_of_ble_eq_true rfl) (by decide) ?_
  refine R_if_eq (pc := 5) (tgt := 16) dX7_walk_5 (by decide) (by omega) (fun h_5 => ?_) (fun h_5 => ?_)
  · refine R_iconst (pc := 16) dX7_walk_16 ?_
    refine R_iret (pc := 17) dX7_walk_17 ?_
    rw [et, ea, if_neg (by omega), if_neg (by omega)]
    exact QS_ro (IC_B hI (by omega)) FrC_r rfl
  · refine R_aload_n (pc := 8) dX7_walk_8 rfl ?_
    refine R_iload_n (pc := 9) dX7_walk_9 rfl ?_
    refine R_V1i (pc := 10) dX7_walk_10 sv_RX7_136 (hsh _ _ rfl) (k_isThing b sh M hsh t hj (by omega)) (Nat.le_of_ble_eq_true rfl) (by decide) ?_
    refine R_if_ne (pc := 13) (tgt := 18) dX7_walk_13 (by decide) (by omega) (fun h_13 => ?_) (fun h_13 => ?_)
    · refine R_aload_n (pc := 18) dX7_walk_18 rfl ?_
      refine R_getR (pc := 19) dX7_walk_19 fl_RX7_50 rfl (hsh _ _ rfl) rfl ?_
      refine R_aload_n (pc := 22) dX7_walk_22 rfl ?_
      refine R_getR (pc := 23) dX7_walk_23 fl_RX7_38 rfl (hsh _ _ rfl) rfl ?_
      refine R_V1v (pc := 26) dX7_walk_26 sv_RX7_155 (hsh _ _ rfl) (k_push b sh M hsh hI hM) (Nat.le_of_ble_eq_true rfl) (by decide) ?_
      refine R_aload_n (pc := 29) dX7_walk_29 rfl ?_
      refine R_getR (pc := 30) dX7_walk_30 fl_RX7_38 rfl (hsh _ _ rfl) rfl ?_
      refine R_aload_n (pc := 33) dX7_walk_33 rfl ?_
      refine R_getR (pc := 34) dX7_walk_34 fl_RX7_28 rfl (hsh _ _ rfl) rfl ?_
      refine R_iload_n (pc := 37) dX7_walk_37 rfl ?_
      refine R_iload_n (pc := 38) dX7_walk_38 rfl ?_
      refine R_aload_n (pc := 39) dX7_walk_39 rfl ?_
      refine R_getR (pc := 40) dX7_walk_40 fl_RX7_28 rfl (hsh _ _ rfl) rfl ?_
      refine R_aload_n (pc := 43) dX7_walk_43 rfl ?_
      refine R_getR (pc := 44) dX7_walk_44 fl_RX7_38 rfl (hsh _ _ rfl) rfl ?_
      refine R_getI (pc := 47) (J := 2) dX7_walk_47 fl_RX7_163 rfl rfl (hsh _ _ rfl) (pc_d) ?_
      refine R_V1i (pc := 50) dX7_walk_50 sv_RX7_152 (hsh _ _ rfl) (hfo) (Nat.le_of_ble_eq_true rfl) (by decide) ?_
      refine R_V4i (pc := 53) dX7_walk_53 sv_RX7_166 (hsh _ _ rfl) (k_takeWalk b sh (poS M 27 8) 23 hsh h23 (by rw [p1]; exact hI.1) (roC M 23) hI.2.2.1.1 p3 w t _ (by rw [p5]; omega) (by rw [p5]; omega) hfg) (Nat.le_of_ble_eq_true rfl) (by decide) ?_
      refine R_iret (pc := 56) dX7_walk_56 ?_
      rw [p1]
      obtain ⟨i1, i2, i3⟩ := IC_pn hI (B' := B + 20) (by omega) (WFr_B (wlk_in (fog := fogAt (moC M 5) (roC M 23 16)) (k := w) (t := t) hI.1 hI.2.2.1.1) (by omega) (by omega))
      rw [et, ea, if_pos (by omega), if_pos (by omega)]
      exact ⟨rfl, i2, i1, i3⟩
    · refine R_iconst (pc := 16) dX7_walk_16 ?_
      refine R_iret (pc := 17) dX7_walk_17 ?_
      rw [et, ea, if_neg (by omega), if_neg (by omega)]
      exact QS_ro (IC_B hI (by omega)) FrC_r rfl
theorem k_shut (b : Nat) (sh : Shp) (M : Mem) {B : Int} (hsh : Hc sh) (hI : IC M B) (hB : B ≤ 90000) (t z : Int) (hi : inR t) (hz : z = 0 ∨ z = 1) : C0 5 mX7_shut b sh M [vr b 0, vi t, vi z] (QS M (B + 20) (nx_shut (absC M) t z) (a_shut (absC M) t z)) := by
  obtain ⟨hn, hw, ht, hd⟩ := IC_n hI
  have ea : a_shut (absC M) t z = if 0 ≤ t ∧ t ≤ M 5 5 - 1 then (if sb (roC M 23 17) t = z then -2 else cnt (xr (roC M 23 17) t)) else -1 := rfl
  have et : nx_shut (absC M) t z = if (0 ≤ t ∧ t ≤ M 5 5 - 1) ∧ ¬ sb (roC M 23 17) t = z then (M 1 1, txC M, moC M 5, uF (roC M 23) 17 (xr (roC M 23 17) t), pu (SfA M 27) (roC M 23), SfA M 45, BeA M, FoA M) else absC M := rfl
  have h23 : isRd sh 23 := rd_of hsh (by decide)
  have h17 := hI.2.2.1.1.2.2.1
  have h01 := sb01 (roC M 23 17) t
  have hsd : (0 ≤ t ∧ t < 10) → Ex 0 mX4_isShut b sh M [vr b 23, vi t] (some (vi (sb (roC M 23 17) t))) M := fun h => by
    have := k_isShut b sh M 23 h23 (roC M 23) h17 t h
    rw [pc_self] at this
    exact this
  refine MC_of (ls := [some (vr b 0), some (vi t), some (vi z)]) (by decide) rfl (Nat.le_of_ble_eq_true rfl) ?_
  refine R_rng fun hM => ?_
  refine R_aload_n (pc := 0) dX7_shut_0 rfl ?_
  refine R_iload_n (pc := 1) dX7_shut_1 rfl ?_
  refine R_V1i (pc := 2) dX7_shut_2 sv_RX7_136 (hsh _ _ rfl) (k_isThing b sh M hsh t hi (by omega)) (Nat.le_of_ble_eq_true rfl) (by decide) ?_
  refine R_if_ne (pc := 5) (tgt := 10) dX7_shut_5 (by decide) (by omega) (fun h_5 => ?_) (fun h_5 => ?_)
  · refine R_aload_n (pc := 10) dX7_shut_10 rfl ?_
    refine R_getR (pc := 11) dX7_shut_11 fl_RX7_38 rfl (hsh _ _ rfl) rfl ?_
    refine R_iload_n (pc := 14) dX7_shut_14 rfl ?_
    refine R_V1i (pc := 15) dX7_shut_15 sv_RX7_139 (hsh _ _ rfl) (hsd (by omega)) (Nat.le_of_ble_eq_true rfl) (by decide) ?_
    refine R_iload_n (pc := 18) dX7_shut_18 rfl ?_
    refine R_cmp_ne (pc := 19) (tgt := 25) dX7_shut_19 (by decide) (by omega) (fun h_19 => ?_) (fun h_19 => ?_)
    · refine R_aload_n (pc := 25) dX7_shut_25 rfl ?_
      refine R_getR (pc := 26) dX7_shut_26 fl_RX7_50 rfl (hsh _ _ rfl) rfl ?_
      refine R_aload_n (pc := 29) dX7_shut_29 rfl ?_
      refine R_getR (pc := 30) dX7_shut_30 fl_RX7_38 rfl (hsh _ _ rfl) rfl ?_
      refine R_V1v (pc := 33) dX7_shut_33 sv_RX7_155 (hsh _ _ rfl) (k_push b sh M hsh hI hM) (Nat.le_of_ble_eq_true rfl) (by decide) ?_
      have hx := xr_in h17 (t := t) (by omega)
      have hws := WFr_s hI.2.2.1.1 hx
      refine R_aload_n (pc := 36) dX7_shut_36 rfl ?_
      refine R_getR (pc := 37) dX7_shut_37 fl_RX7_38 rfl (hsh _ _ rfl) rfl ?_
      refine R_iload_n (pc := 40) dX7_shut_40 rfl ?_
      refine R_V1v (pc := 41) dX7_shut_41 sv_RX7_170 (hsh _ _ rfl) (k_turnWindow b sh (poS M 27 8) 23 h23 (roC M 23) hI.2.2.1.1 t (by omega)) (Nat.le_of_ble_eq_true rfl) (by decide) ?_
      refine R_aload_n (pc := 44) dX7_shut_44 rfl ?_
      refine R_getR (pc := 45) dX7_shut_45 fl_RX7_38 rfl (hsh _ _ rfl) rfl ?_
      refine R_V0i (pc := 48) dX7_shut_48 sv_RX7_173 (hsh _ _ rfl) (k_shutWindows b sh (poS M 27 8) 23 h23 _ hws) (Nat.le_of_ble_eq_true rfl) (by decide) ?_
      refine R_iret (pc := 51) dX7_shut_51 ?_
      obtain ⟨i1, i2, i3⟩ := IC_pn hI (B' := B + 20) (by omega) (WFr_B hws (by omega) (by omega))
      rw [et, ea, if_pos ⟨by omega, h_19⟩, if_pos (by omega), if_neg h_19]
      exact ⟨by rw [uF_s], i2, i1, i3⟩
    · refine R_bipush (pc := 22) dX7_shut_22 rfl ?_
      refine R_iret (pc := 24) dX7_shut_24 ?_
      rw [et, ea, if_neg (fun q => q.2 h_19), if_pos (by omega), if_pos h_19]
      exact QS_ro (IC_B hI (by omega)) FrC_r rfl
  · refine R_iconst (pc := 8) dX7_shut_8 ?_
    refine R_iret (pc := 9) dX7_shut_9 ?_
    rw [et, ea, if_neg (by omega), if_neg (by omega)]
    exact QS_ro (IC_B hI (by omega)) FrC_r rfl
