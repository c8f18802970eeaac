/-! the face, sixth part: fog, parishes, year, count -/
/-- the road behind t days when the fog is on day d only -/
def ffR (mo : Mo) (ro : Rd) (d : Int) : Nat → Rd
  | 0 => ro
  | t + 1 => day mo (if (t : Int) = d then 1 else 0) (ffR mo ro d t)
def ffS (mo : Mo) (ro : Rd) (cp ct cy : Rd) (n : Nat) (d : Int) : Nat → Int
  | 0 => 1
  | t + 1 => if ffS mo ro cp ct cy n d t = 1 ∧ hld cp ct cy (ffR mo ro d (t + 1)) ((t : Int) + 1) n = 1 then 1 else 0
theorem ff01 {mo : Mo} {ro cp ct cy : Rd} {n : Nat} {d : Int} : ∀ t, ffS mo ro cp ct cy n d t = 0 ∨ ffS mo ro cp ct cy n d t = 1
  | 0 => Or.inr rfl
  | t + 1 => by unfold ffS; split <;> omega
theorem ff_0 {mo : Mo} {ro cp ct cy : Rd} {n : Nat} {d : Int} : ∀ {t k : Nat}, k ≤ t → ffS mo ro cp ct cy n d k = 0 → ffS mo ro cp ct cy n d t = 0
  | 0, k, h, h0 => by
    have : k = 0 := by omega
    subst this; exact h0
  | t + 1, k, h, h0 => by
    by_cases hk : k = t + 1
    · subst hk; exact h0
    · have := ff_0 (t := t) (k := k) (by omega) h0
      unfold ffS
      rw [if_neg (by omega)]
theorem ffR_in {mo : Mo} {ro : Rd} {d B : Int} (hm : WFm mo) (hw : WFr ro B) : ∀ t : Nat, B + t ≤ 100000 → WFr (ffR mo ro d t) (B + t)
  | 0, _ => by simpa [ffR] using hw
  | t + 1, h => by
    have h1 := ffR_in (d := d) hm hw t (by omega)
    have e : B + ((t + 1 : Nat) : Int) = B + t + 1 := by omega
    rw [e]
    exact (day_in hm h1 (by omega)).1
def fitF (S : AS) (d : Int) : Int := ffS S.2.2.1 S.2.2.2.1 S.2.2.2.2.2.2.2.2.1 S.2.2.2.2.2.2.2.2.2.1 S.2.2.2.2.2.2.2.2.2.2 S.2.2.2.2.2.2.2.1.toNat d 10
def bts (P : Int → Int) : Nat → Int
  | 0 => 0
  | d + 1 => if P d = 1 then (((bts P d).toNat ||| ((2 : Int) ^ d).toNat : Nat) : Int) else bts P d
def a_fog (S : AS) : Int := bts (fitF S) 10
theorem bts_in {P : Int → Int} : ∀ n : Nat, n ≤ 10 → 0 ≤ bts P n ∧ bts P n < 1024
  | 0, _ => by show (0 : Int) ≤ 0 ∧ (0 : Int) < 1024; omega
  | n + 1, h => by
    have h1 := bts_in (P := P) n (by omega)
    unfold bts
    split
    · have h2 : ((2 : Int) ^ n).toNat < 1024 := by
        have : ∀ k : Fin 10, ((2 : Int) ^ k.val).toNat < 1024 := by decide
        exact this ⟨n, by omega⟩
      have := Nat.or_lt_two_pow (n := 10) (x := (bts P n).toNat) (y := ((2 : Int) ^ n).toNat) (by omega) (by omega)
      omega
    · exact h1
theorem k_fitsFound (b : Nat) (sh : Shp) (M : Mem) {B : Int} (hsh : Hc sh) (hI : IC M B) (hB : B ≤ 90000) (d : Int) (hd : 0 ≤ d ∧ d < 10) : C0 4 mX7_fitsFound b sh M [vr b 0, vi d] (QH M (fitF (absC M) d)) := by
  obtain ⟨t1, t2, t3, t4⟩ := tr_h hI
  have h25 : isRd sh 25 := rd_of hsh (by decide)
  have hcl : ClOK (tr0 M) 55 := by
    have := hI.2.2.2.2.2.2.1
    unfold ClOK at this ⊢
    rw [t4 55 (by omega), t4 (55 + 1) (by omega), t4 (55 + 2) (by omega), t4 (55 + 3) (by omega)]
    exact this
  have ec : ∀ a, a ≤ 3 → clC (tr0 M) 55 a = clC M 55 a := fun a ha => by unfold clC; rw [t4 55 (by omega), t4 (55 + a) (by omega)]
  have ea : fitF (absC M) d = ffS (moC M 5) (roC M 23) (clC M 55 1) (clC M 55 2) (clC M 55 3) (M 55 3).toNat d 10 := rfl
  have L : ∀ (n k : Nat) (t : Int), t = k + 1 → k ≤ 10 → 10 - k < n → ffS (moC M 5) (roC M 23) (clC M 55 1) (clC M 55 2) (clC M 55 3) (M 55 3).toNat d k = 1 → MW yX7_fitsFound cX7_fitsFound 3 (some .boolean) (rmD 4 0 0) (FM (QH M (fitF (absC M) d)) b sh 0 0) b sh.length 0 0 13 [some (vr b 0), some (vi d), some (vi t)] [] sh (putC (tr0 M) 25 (ffR (moC M 5) (roC M 23) d k)) := by
    intro n
    induction n with
    | zero => intro k t h0 h1 h2; exact absurd h2 (by omega)
    | succ n ih =>
      intro k t h0 h1 h2 h3
      have hwk := ffR_in (d := d) hI.1 hI.2.2.1.1 k (by omega)
      by_cases hk : k < 10
      · have hwk1 := ffR_in (d := d) hI.1 hI.2.2.1.1 (k + 1) (by omega)
        have hh := k_holdOn b sh (tr0 M) 55 25 (cl_of hsh (Or.inr rfl)) h25 (by omega) hcl (ffR (moC M 5) (roC M 23) d (k + 1)) hwk1 t (by omega)
        rw [ec 1 (by omega), ec 2 (by omega), ec 3 (by omega), t4 55 (by omega)] at hh
        have hst : ffS (moC M 5) (roC M 23) (clC M 55 1) (clC M 55 2) (clC M 55 3) (M 55 3).toNat d (k + 1) = if ffS (moC M 5) (roC M 23) (clC M 55 1) (clC M 55 2) (clC M 55 3) (M 55 3).toNat d k = 1 ∧ hld (clC M 55 1) (clC M 55 2) (clC M 55 3) (ffR (moC M 5) (roC M 23) d (k + 1)) ((k : Int) + 1) (M 55 3).toNat = 1 then 1 else 0 := rfl
        rw [← h0] at hst
        have h01 := hld01 (cp := clC M 55 1) (ct := clC M 55 2) (cy := clC M 55 3) (f := ffR (moC M 5) (roC M 23) d (k + 1)) (time := t) (M 55 3).toNat
        have hday : ∀ fog : Int, fog = (if (k : Int) = d then 1 else 0) → Ex 3 mX4_goDay b sh (putC (tr0 M) 25 (ffR (moC M 5) (roC M 23) d k)) [vr b 25, vr b 5, vi fog] none (putC (tr0 M) 25 (ffR (moC M 5) (roC M 23) d (k + 1))) := fun fog hf => by
          have := k_goDay b sh (tr0 M) 25 hsh h25 (by rw [t1]; exact hI.1) (ffR (moC M 5) (roC M 23) d k) hwk t2 fog (by rw [hf]; split <;> omega)
          rw [t1, hf] at this
          rw [hf]
          exact this
        refine R_iload_n (pc := 13) dX7_fitsFound_13 rfl ?_
        refine R_bipush (pc := 14) dX7_fitsFound_14 rfl ?_
        refine R_cmp_gt (pc := 16) (tgt := 65) dX7_fitsFound_16 (by decide) (by omega) (fun h_16 => ?_) (fun h_16 => ?_)
        · exact absurd h_16 (by omega)
        · refine R_aload_n (pc := 19) dX7_fitsFound_19 rfl ?_
          refine R_getR (pc := 20) dX7_fitsFound_20 fl_RX7_42 rfl (hsh _ _ rfl) rfl ?_
          refine R_aload_n (pc := 23) dX7_fitsFound_23 rfl ?_
          refine R_getR (pc := 24) dX7_fitsFound_24 fl_RX7_28 rfl (hsh _ _ rfl) rfl ?_
          refine R_iload_n (pc := 27) dX7_fitsFound_27 rfl ?_
          refine R_iconst (pc := 28) dX7_fitsFound_28 ?_
          refine R_isub (pc := 29) dX7_fitsFound_29 ?_
          refine R_iload_n (pc := 30) dX7_fitsFound_30 rfl ?_
          refine R_cmp_ne (pc := 31) (tgt := 38) dX7_fitsFound_31 (by decide) (by omega) (fun h_31 => ?_) (fun h_31 => ?_)
          · refine R_iconst (pc := 38) dX7_fitsFound_38 ?_
            refine R_V2v (pc := 39) dX7_fitsFound_39 sv_RX7_258 (hsh _ _ rfl) (hday _ (by first | rw [if_pos (by omega)] | rw [if_neg (by omega)])) (Nat.le_of_ble_eq_true rfl) (by decide) ?_
            refine R_aload_n (pc := 42) dX7_fitsFound_42 rfl ?_
            refine R_getR (pc := 43) dX7_fitsFound_43 fl_RX7_64 rfl (hsh _ _ rfl) rfl ?_
            refine R_aload_n (pc := 46) dX7_fitsFound_46 rfl ?_
            refine R_getR (pc := 47) dX7_fitsFound_47 fl_RX7_42 rfl (hsh _ _ rfl) rfl ?_
            refine R_iload_n (pc := 50) dX7_fitsFound_50 rfl ?_
            refine R_V2i (pc := 51) dX7_fitsFound_51 sv_RX7_254 (hsh _ _ rfl) (hh) (Nat.le_of_ble_eq_true rfl) (by decide) ?_
            refine R_if_ne (pc := 54) (tgt := 59) dX7_fitsFound_54 (by decide) (by omega) (fun h_54 => ?_) (fun h_54 => ?_)
            · refine R_iinc (pc := 59) dX7_fitsFound_59 rfl (by decide) rfl rfl ?_
              refine R_goto (pc := 62) (tgt := 13) dX7_fitsFound_62 (by decide) ?_
              exact ih (k + 1) (t + 1) (by omega) (by omega) (by omega) (by rw [hst, if_pos ⟨h3, by omega⟩])
            · refine R_iconst (pc := 57) dX7_fitsFound_57 ?_
              refine R_zret (pc := 58) dX7_fitsFound_58 (by first | exact Or.inl rfl | exact Or.inr rfl | omega) ?_
              exact ⟨by rw [ea, ff_0 (k := k + 1) (by omega) (by rw [hst, if_neg (by omega)])], FrC_pc t3⟩
          · refine R_iconst (pc := 34) dX7_fitsFound_34 ?_
            refine R_goto (pc := 35) (tgt := 39) dX7_fitsFound_35 (by decide) ?_
            refine R_V2v (pc := 39) dX7_fitsFound_39 sv_RX7_258 (hsh _ _ rfl) (hday _ (by first | rw [if_pos (by omega)] | rw [if_neg (by omega)])) (Nat.le_of_ble_eq_true rfl) (by decide) ?_
            refine R_aload_n (pc := 42) dX7_fitsFound_42 rfl ?_
            refine R_getR (pc := 43) dX7_fitsFound_43 fl_RX7_64 rfl (hsh _ _ rfl) rfl ?_
            refine R_aload_n (pc := 46) dX7_fitsFound_46 rfl ?_
            refine R_getR (pc := 47) dX7_fitsFound_47 fl_RX7_42 rfl (hsh _ _ rfl) rfl ?_
            refine R_iload_n (pc := 50) dX7_fitsFound_50 rfl ?_
            refine R_V2i (pc := 51) dX7_fitsFound_51 sv_RX7_254 (hsh _ _ rfl) (hh) (Nat.le_of_ble_eq_true rfl) (by decide) ?_
            refine R_if_ne (pc := 54) (tgt := 59) dX7_fitsFound_54 (by decide) (by omega) (fun h_54 => ?_) (fun h_54 => ?_)
            · refine R_iinc (pc := 59) dX7_fitsFound_59 rfl (by decide) rfl rfl ?_
              refine R_goto (pc := 62) (tgt := 13) dX7_fitsFound_62 (by decide) ?_
              exact ih (k + 1) (t + 1) (by omega) (by omega) (by omega) (by rw [hst, if_pos ⟨h3, by omega⟩])
            · refine R_iconst (pc := 57) dX7_fitsFound_57 ?_
              refine R_zret (pc := 58) dX7_fitsFound_58 (by first | exact Or.inl rfl | exact Or.inr rfl | omega) ?_
              exact ⟨by rw [ea, ff_0 (k := k + 1) (by omega) (by rw [hst, if_neg (by omega)])], FrC_pc t3⟩
      · have ek : k = 10 := by omega
        subst ek
        refine R_iload_n (pc := 13) dX7_fitsFound_13 rfl ?_
        refine R_bipush (pc := 14) dX7_fitsFound_14 rfl ?_
        refine R_cmp_gt (pc := 16) (tgt := 65) dX7_fitsFound_16 (by decide) (by omega) (fun h_16 => ?_) (fun h_16 => ?_)
        · refine R_iconst (pc := 65) dX7_fitsFound_65 ?_
          refine R_zret (pc := 66) dX7_fitsFound_66 (by first | exact Or.inl rfl | exact Or.inr rfl | omega) ?_
          exact ⟨by rw [ea, h3], FrC_pc t3⟩
        · exact absurd h_16 (by omega)
  refine MC_of (ls := [some (vr b 0), some (vi d), none]) (by decide) rfl (Nat.le_of_ble_eq_true rfl) ?_
  refine R_rng fun hM => ?_
  refine R_aload_n (pc := 0) dX7_fitsFound_0 rfl ?_
  refine R_getR (pc := 1) dX7_fitsFound_1 fl_RX7_42 rfl (hsh _ _ rfl) rfl ?_
  refine R_aload_n (pc := 4) dX7_fitsFound_4 rfl ?_
  refine R_getR (pc := 5) dX7_fitsFound_5 fl_RX7_38 rfl (hsh _ _ rfl) rfl ?_
  refine R_V1v (pc := 8) dX7_fitsFound_8 sv_RX7_193 (hsh _ _ rfl) (k_trial b sh M M hsh hI FrC_r hM) (Nat.le_of_ble_eq_true rfl) (by decide) ?_
  refine R_iconst (pc := 11) dX7_fitsFound_11 ?_
  refine R_istore_n (pc := 12) dX7_fitsFound_12 (by decide) rfl rfl ?_
  exact L 20 0 1 (by omega) (by omega) (by omega) rfl
theorem k_fog (b : Nat) (sh : Shp) (M : Mem) {B : Int} (hsh : Hc sh) (hI : IC M B) (hB : B ≤ 90000) : C0 5 mX7_fog b sh M [vr b 0] (QS M B (absC M) (a_fog (absC M))) := by
  have L : ∀ (n k : Nat) (d : Int) (N : Mem), d = k → k ≤ 10 → 10 - k < n → FrC M N → MW yX7_fog cX7_fog 3 (some .int) (rmD 5 0 0) (FM (QS M B (absC M) (a_fog (absC M))) b sh 0 0) b sh.length 0 0 4 [some (vr b 0), some (vi (bts (fitF (absC M)) k)), some (vi d)] [] sh (N) := by
    intro n
    induction n with
    | zero => intro k d N h0 h1 h2; exact absurd h2 (by omega)
    | succ n ih =>
      intro k d N h0 h1 h2 hF
      obtain ⟨g1, g2, -⟩ := IC_fr hI hF
      have hbt := bts_in (P := fitF (absC M)) k (by omega)
      by_cases hk : k < 10
      · have hff := k_fitsFound b sh N hsh g1 hB d (by omega)
        rw [g2] at hff
        have h01 : fitF (absC M) d = 0 ∨ fitF (absC M) d = 1 := ff01 _
        have hst : bts (fitF (absC M)) (k + 1) = if fitF (absC M) k = 1 then (((bts (fitF (absC M)) k).toNat ||| ((2 : Int) ^ k).toNat : Nat) : Int) else bts (fitF (absC M)) k := rfl
        rw [← h0] at hst
        have hp := pow_le10 (v := d) (by omega)
        have hnext : ∀ (N' : Mem) (l : Int), FrC M N' → l = bts (fitF (absC M)) (k + 1) → MW yX7_fog cX7_fog 3 (some .int) (rmD 5 0 0) (FM (QS M B (absC M) (a_fog (absC M))) b sh 0 0) b sh.length 0 0 24 [some (vr b 0), some (vi l), some (vi d)] [] sh (N') := by
          intro N' l hF' he
          refine R_iinc (pc := 24) dX7_fog_24 rfl (by decide) rfl rfl ?_
          refine R_goto (pc := 27) (tgt := 4) dX7_fog_27 (by decide) ?_
          have hx := ih (k + 1) (d + 1) N' (by omega) (by omega) (by omega) hF'
          rw [← he] at hx
          exact hx
        refine R_iload_n (pc := 4) dX7_fog_4 rfl ?_
        refine R_bipush (pc := 5) dX7_fog_5 rfl ?_
        refine R_cmp_ge (pc := 7) (tgt := 30) dX7_fog_7 (by decide) (by omega) (fun h_7 => ?_) (fun h_7 => ?_)
        · exact absurd h_7 (by omega)
        · refine R_aload_n (pc := 10) dX7_fog_10 rfl ?_
          refine R_iload_n (pc := 11) dX7_fog_11 rfl ?_
          refine R_V1 (pc := 12) dX7_fog_12 sv_RX7_223 (hff) (hsh _ _ rfl) (Nat.le_of_ble_eq_true rfl) (by decide) (fun v_12 M_12 hq_12 => ?_)
          obtain ⟨rfl, hF2⟩ := hq_12
          refine R_if_eq (pc := 15) (tgt := 24) dX7_fog_15 (by decide) (by omega) (fun h_15 => ?_) (fun h_15 => ?_)
          · exact hnext _ _ (FrC_t hF hF2) (by rw [hst, if_neg (by omega)])
          · refine R_iload_n (pc := 18) dX7_fog_18 rfl ?_
            refine R_iconst (pc := 19) dX7_fog_19 ?_
            refine R_iload_n (pc := 20) dX7_fog_20 rfl ?_
            refine R_ishl (pc := 21) dX7_fog_21 (by omega) ?_
            refine R_ior (pc := 22) dX7_fog_22 (by omega) ?_
            refine R_istore_n (pc := 23) dX7_fog_23 (by decide) rfl rfl ?_
            exact hnext _ _ (FrC_t hF hF2) (by rw [hst, if_pos (by omega), show d.toNat = k by omega])
      · have ek : k = 10 := by omega
        subst ek
        refine R_iload_n (pc := 4) dX7_fog_4 rfl ?_
        refine R_bipush (pc := 5) dX7_fog_5 rfl ?_
        refine R_cmp_ge (pc := 7) (tgt := 30) dX7_fog_7 (by decide) (by omega) (fun h_7 => ?_) (fun h_7 => ?_)
        · refine R_iload_n (pc := 30) dX7_fog_30 rfl ?_
          refine R_iret (pc := 31) dX7_fog_31 ?_
          exact QS_ro hI hF rfl
        · exact absurd h_7 (by omega)
  refine MC_of (ls := [some (vr b 0), none, none]) (by decide) rfl (Nat.le_of_ble_eq_true rfl) ?_
  refine R_iconst (pc := 0) dX7_fog_0 ?_
  refine R_istore_n (pc := 1) dX7_fog_1 (by decide) rfl rfl ?_
  refine R_iconst (pc := 2) dX7_fog_2 ?_
  refine R_istore_n (pc := 3) dX7_fog_3 (by decide) rfl rfl ?_
  exact L 20 0 0 M rfl (by omega) (by omega) FrC_r
/-! parishes -/
/-- the yard of post i when walker v goes to a and then walker w to c -/
def hgt (mo : Mo) (ro : Rd) (v w i a c : Int) : Int := (bend mo (bend mo ro v a).1 w c).1 i
/-- are both content with (a, c), the others below n looked at -/
def rsS (h1 h2 : Int → Int → Int) (a c : Int) : Nat → Int
  | 0 => 1
  | t + 1 => if rsS h1 h2 a c t = 1 ∧ h1 t c ≤ h1 a c ∧ h2 a t ≤ h2 a c then 1 else 0
theorem rs01 {h1 h2 : Int → Int → Int} {a c : Int} : ∀ t, rsS h1 h2 a c t = 0 ∨ rsS h1 h2 a c t = 1
  | 0 => Or.inr rfl
  | t + 1 => by unfold rsS; split <;> omega
theorem rs_0 {h1 h2 : Int → Int → Int} {a c : Int} : ∀ {t k : Nat}, k ≤ t → rsS h1 h2 a c k = 0 → rsS h1 h2 a c t = 0
  | 0, k, h, h0 => by
    have : k = 0 := by omega
    subst this; exact h0
  | t + 1, k, h, h0 => by
    by_cases hk : k = t + 1
    · subst hk; exact h0
    · have := rs_0 (t := t) (k := k) (by omega) h0
      unfold rsS
      rw [if_neg (by omega)]
theorem rs_s {h1 h2 : Int → Int → Int} {a c t : Int} (h : 0 ≤ t) : rsS h1 h2 a c (t + 1).toNat = if rsS h1 h2 a c t.toNat = 1 ∧ h1 t c ≤ h1 a c ∧ h2 a t ≤ h2 a c then 1 else 0 := by
  rw [show (t + 1).toNat = t.toNat + 1 by omega]
  show (if rsS h1 h2 a c t.toNat = 1 ∧ h1 ((t.toNat : Nat) : Int) c ≤ h1 a c ∧ h2 a ((t.toNat : Nat) : Int) ≤ h2 a c then (1 : Int) else 0) = _
  rw [Int.toNat_of_nonneg h]
def fitP (S : AS) (v i w j c : Int) : Int := rsS (hgt S.2.2.1 S.2.2.2.1 v w i) (hgt S.2.2.1 S.2.2.2.1 v w j) (c / S.2.2.1 0 2) (c % S.2.2.1 0 2) (S.2.2.1 0 2).toNat
def a_parishes (S : AS) (v i w j what : Int) : Int := if (oW S v ∧ oP S i ∧ oW S w ∧ oP S j) ∧ ¬ i = j ∧ 0 ≤ what ∧ what ≤ 1 then (if what = 0 then (lkS (fitP S v i w j) (S.2.2.1 0 2) (S.2.2.1 0 2 * S.2.2.1 0 2).toNat).1 else (lkS (fitP S v i w j) (S.2.2.1 0 2) (S.2.2.1 0 2 * S.2.2.1 0 2).toNat).2) else -1
theorem hgt_in {mo : Mo} {ro : Rd} {v w i a c B : Int} (hm : WFm mo) (hw : WFr ro B) (hi : 0 ≤ i ∧ i < 16) : 0 ≤ hgt mo ro v w i a c ∧ hgt mo ro v w i a c ≤ 60 := (bend_in hm (bend_in hm hw).1).1.1 i hi.1 hi.2
/-- the heights written, of the pairs ahead of code n -/
def HtOK (M : Mem) (T n : Int) (h1 h2 : Int → Int → Int) : Prop := ∀ a c : Int, 0 ≤ a → a < T → 0 ≤ c → c < T → a * T + c < n → M 70 (a * 6 + c) = h1 a c ∧ M 71 (a * 6 + c) = h2 a c
def QHt (M : Mem) (T : Int) (h1 h2 : Int → Int → Int) : Option Value → Mem → Prop := fun v M' => v = none ∧ FrC M M' ∧ HtOK M' T (T * T) h1 h2
theorem cd_lt {a c a' c' T : Int} (h0 : 0 ≤ c) (h1 : c < T) (h2 : 0 ≤ c') (h3 : c' < T) (h : a * T + c < a' * T + c') : a < a' ∨ (a = a' ∧ c < c') := by
  rcases Int.lt_trichotomy a a' with h4 | h4 | h4
  · exact Or.inl h4
  · subst h4; exact Or.inr ⟨rfl, by omega⟩
  · have : (a' + 1) * T ≤ a * T := Int.mul_le_mul_of_nonneg_right (by omega) (by omega)
    rw [Int.add_mul, Int.one_mul] at this
    omega
theorem k_reckonHeights (b : Nat) (sh : Shp) (M : Mem) {B : Int} (hsh : Hc sh) (hI : IC M B) (v i w j : Int) (hv : 0 ≤ v ∧ v < M 5 2) (hw : 0 ≤ w ∧ w < M 5 2) (hi : 0 ≤ i ∧ i < 16) (hj : 0 ≤ j ∧ j < 16) : C0 3 mX7_reckonHeights b sh M [vr b 0, vi v, vi i, vi w, vi j] (QHt M (M 5 5) (hgt (moC M 5) (roC M 23) v w i) (hgt (moC M 5) (roC M 23) v w j)) := by
  obtain ⟨-, -, ht, -⟩ := IC_n hI
  have h25 : isRd sh 25 := rd_of hsh (by decide)
  have LO : ∀ (n : Nat) (a : Int) (N : Mem), 0 ≤ a → a ≤ M 5 5 → M 5 5 - a < n → FrC M N → HtOK N (M 5 5) (a * M 5 5) (hgt (moC M 5) (roC M 23) v w i) (hgt (moC M 5) (roC M 23) v w j) → MW yX7_reckonHeights cX7_reckonHeights 7 none (rmD 3 0 0) (FM (QHt M (M 5 5) (hgt (moC M 5) (roC M 23) v w i) (hgt (moC M 5) (roC M 23) v w j)) b sh 0 0) b sh.length 0 0 3 [some (vr b 0), some (vi v), some (vi i), some (vi w), some (vi j), some (vi a), none] [] sh (N) := by
    intro n
    induction n with
    | zero => intro a N h1 h2 h3; exact absurd h3 (by omega)
    | succ n ihO =>
      intro a N h1 h2 h3 hF hH
      have k4 : N 5 = M 5 := hF 5 (by unfold SC; omega)
      by_cases hal : a < M 5 5
      · have haT : (a + 1) * M 5 5 = a * M 5 5 + M 5 5 := by rw [Int.add_mul, Int.one_mul]
        have LI : ∀ (n2 : Nat) (c : Int) (N : Mem), 0 ≤ c → c ≤ M 5 5 → M 5 5 - c < n2 → FrC M N → HtOK N (M 5 5) (a * M 5 5 + c) (hgt (moC M 5) (roC M 23) v w i) (hgt (moC M 5) (roC M 23) v w j) → MW yX7_reckonHeights cX7_reckonHeights 7 none (rmD 3 0 0) (FM (QHt M (M 5 5) (hgt (moC M 5) (roC M 23) v w i) (hgt (moC M 5) (roC M 23) v w j)) b sh 0 0) b sh.length 0 0 18 [some (vr b 0), some (vi v), some (vi i), some (vi w), some (vi j), some (vi a), some (vi c)] [] sh (N) := by
          intro n2
          induction n2 with
          | zero => intro c N h1 h2 h3; exact absurd h3 (by omega)
          | succ n2 ihI =>
            intro c N c1 c2 c3 hF hH
            obtain ⟨g1, g2, g3, k4⟩ := fr_k hI hF
            by_cases hcl : c < M 5 5
            · obtain ⟨t1, t2, t3, t4⟩ := tr_h g1
              have hN5 := t4 5 (by omega)
              have hcp : (∀ k j, inR (N k j)) → Ex 1 mX4_copyFrom b sh N [vr b 25, vr b 23] none (putC (tr0 N) 25 (roC M 23)) := fun hN => k_trial b sh M N hsh hI hF hN
              have hb1 := k_bendBy b sh (tr0 N) 25 hsh h25 (by rw [t1, g2]; exact hI.1) (roC M 23) hI.2.2.1.1 t2 v a (by rw [hN5, k4]; exact hv) (by rw [hN5, k4]; omega)
              have hbi := bend_in (k := v) (t := a) hI.1 hI.2.2.1.1
              have hb2 := k_bendBy b sh (tr0 N) 25 hsh h25 (by rw [t1, g2]; exact hI.1) (bend (moC M 5) (roC M 23) v a).1 hbi.1 t2 w c (by rw [hN5, k4]; exact hw) (by rw [hN5, k4]; omega)
              rw [t1, g2] at hb1 hb2
              have v1 := hgt_in (v := v) (w := w) (i := i) (a := a) (c := c) hI.1 hI.2.2.1.1 hi
              have v2 := hgt_in (v := v) (w := w) (i := j) (a := a) (c := c) hI.1 hI.2.2.1.1 hj
              refine R_rng fun hN => ?_
              refine R_iload (pc := 18) dX7_reckonHeights_18 rfl ?_
              refine R_aload_n (pc := 20) dX7_reckonHeights_20 rfl ?_
              refine R_getR (pc := 21) dX7_reckonHeights_21 fl_RX7_28 rfl (hsh _ _ rfl) rfl ?_
              refine R_getI (pc := 24) (J := 5) dX7_reckonHeights_24 fl_RX7_206 rfl rfl (hsh _ _ rfl) ((show N 5 5 = M 5 5 by rw [k4])) ?_
              refine R_cmp_ge (pc := 27) (tgt := 122) dX7_reckonHeights_27 (by decide) (by omega) (fun h_27 => ?_) (fun h_27 => ?_)
              · exact absurd h_27 (by omega)
              · refine R_aload_n (pc := 30) dX7_reckonHeights_30 rfl ?_
                refine R_getR (pc := 31) dX7_reckonHeights_31 fl_RX7_42 rfl (hsh _ _ rfl) rfl ?_
                refine R_aload_n (pc := 34) dX7_reckonHeights_34 rfl ?_
                refine R_getR (pc := 35) dX7_reckonHeights_35 fl_RX7_38 rfl (hsh _ _ rfl) rfl ?_
                refine R_V1v (pc := 38) dX7_reckonHeights_38 sv_RX7_193 (hsh _ _ rfl) (hcp hN) (Nat.le_of_ble_eq_true rfl) (by decide) ?_
                refine R_aload_n (pc := 41) dX7_reckonHeights_41 rfl ?_
                refine R_getR (pc := 42) dX7_reckonHeights_42 fl_RX7_42 rfl (hsh _ _ rfl) rfl ?_
                refine R_aload_n (pc := 45) dX7_reckonHeights_45 rfl ?_
                refine R_getR (pc := 46) dX7_reckonHeights_46 fl_RX7_28 rfl (hsh _ _ rfl) rfl ?_
                refine R_iload_n (pc := 49) dX7_reckonHeights_49 rfl ?_
                refine R_iload (pc := 50) dX7_reckonHeights_50 rfl ?_
                refine R_V3i (pc := 52) dX7_reckonHeights_52 sv_RX7_250 (hsh _ _ rfl) (hb1) (Nat.le_of_ble_eq_true rfl) (by decide) ?_
                refine R_pop (pc := 55) dX7_reckonHeights_55 rfl ?_
                refine R_aload_n (pc := 56) dX7_reckonHeights_56 rfl ?_
                refine R_getR (pc := 57) dX7_reckonHeights_57 fl_RX7_42 rfl (hsh _ _ rfl) rfl ?_
                refine R_aload_n (pc := 60) dX7_reckonHeights_60 rfl ?_
                refine R_getR (pc := 61) dX7_reckonHeights_61 fl_RX7_28 rfl (hsh _ _ rfl) rfl ?_
                refine R_iload_n (pc := 64) dX7_reckonHeights_64 rfl ?_
                refine R_iload (pc := 65) dX7_reckonHeights_65 rfl ?_
                refine R_V3i (pc := 67) dX7_reckonHeights_67 sv_RX7_250 (hsh _ _ rfl) (hb2) (Nat.le_of_ble_eq_true rfl) (by decide) ?_
                refine R_pop (pc := 70) dX7_reckonHeights_70 rfl ?_
                refine R_aload_n (pc := 71) dX7_reckonHeights_71 rfl ?_
                refine R_getR (pc := 72) dX7_reckonHeights_72 fl_RX7_74 rfl (hsh _ _ rfl) rfl ?_
                refine R_iload (pc := 75) dX7_reckonHeights_75 rfl ?_
                refine R_bipush (pc := 77) dX7_reckonHeights_77 rfl ?_
                refine R_imul (pc := 79) dX7_reckonHeights_79 ?_
                refine R_iload (pc := 80) dX7_reckonHeights_80 rfl ?_
                refine R_iadd (pc := 82) dX7_reckonHeights_82 ?_
                refine R_aload_n (pc := 83) dX7_reckonHeights_83 rfl ?_
                refine R_getR (pc := 84) dX7_reckonHeights_84 fl_RX7_42 rfl (hsh _ _ rfl) rfl ?_
                refine R_getR (pc := 87) dX7_reckonHeights_87 fl_RX7_124 rfl (hsh _ _ rfl) rfl ?_
                refine R_iload_n (pc := 90) dX7_reckonHeights_90 rfl ?_
                refine R_iald (pc := 91) dX7_reckonHeights_91 (hsh _ _ rfl) (by omega) ((show putC (tr0 N) 25 (bend (moC M 5) (bend (moC M 5) (roC M 23) v a).1 w c).1 26 i = hgt (moC M 5) (roC M 23) v w i a c from pc_y (r := 25) hi)) ?_
                refine R_iast (pc := 92) dX7_reckonHeights_92 (hsh _ _ rfl) (by omega) (by omega) ?_
                refine R_aload_n (pc := 93) dX7_reckonHeights_93 rfl ?_
                refine R_getR (pc := 94) dX7_reckonHeights_94 fl_RX7_78 rfl (hsh _ _ rfl) rfl ?_
                refine R_iload (pc := 97) dX7_reckonHeights_97 rfl ?_
                refine R_bipush (pc := 99) dX7_reckonHeights_99 rfl ?_
                refine R_imul (pc := 101) dX7_reckonHeights_101 ?_
                refine R_iload (pc := 102) dX7_reckonHeights_102 rfl ?_
                refine R_iadd (pc := 104) dX7_reckonHeights_104 ?_
                refine R_aload_n (pc := 105) dX7_reckonHeights_105 rfl ?_
                refine R_getR (pc := 106) dX7_reckonHeights_106 fl_RX7_42 rfl (hsh _ _ rfl) rfl ?_
                refine R_getR (pc := 109) dX7_reckonHeights_109 fl_RX7_124 rfl (hsh _ _ rfl) rfl ?_
                refine R_iload (pc := 112) dX7_reckonHeights_112 rfl ?_
                refine R_iald (pc := 114) dX7_reckonHeights_114 (hsh _ _ rfl) (by omega) ((show up (putC (tr0 N) 25 (bend (moC M 5) (bend (moC M 5) (roC M 23) v a).1 w c).1) 70 (a * 6 + c) (hgt (moC M 5) (roC M 23) v w i a c) 26 j = hgt (moC M 5) (roC M 23) v w j a c from (up_k (by omega)).trans (pc_y (r := 25) hj))) ?_
                refine R_iast (pc := 115) dX7_reckonHeights_115 (hsh _ _ rfl) (by omega) (by omega) ?_
                refine R_iinc (pc := 116) dX7_reckonHeights_116 rfl (by decide) rfl rfl ?_
                refine R_goto (pc := 119) (tgt := 18) dX7_reckonHeights_119 (by decide) ?_
                refine ihI (c + 1) _ (by omega) (by omega) (by omega) (FrC_up (FrC_up (FrC_t hF (FrC_pc t3)) (by unfold SC; omega)) (by unfold SC; omega)) ?_
                intro a' c' a0 a1 b0 b1 hlt
                by_cases hac : a' = a ∧ c' = c
                · obtain ⟨rfl, rfl⟩ := hac
                  exact ⟨by rw [up_k (by omega), up_s], by rw [up_s]⟩
                · have hne : a' * 6 + c' ≠ a * 6 + c := by omega
                  rw [up_k (show (70 : Nat) ≠ 71 by omega), up_j hne, up_j hne, up_k (show (71 : Nat) ≠ 70 by omega), pc_o (by omega) (by omega), pc_o (by omega) (by omega), t4 70 (by omega), t4 71 (by omega)]
                  refine hH a' c' a0 a1 b0 b1 ?_
                  by_cases he : a' * M 5 5 + c' = a * M 5 5 + c
                  · have e1 : (a' * M 5 5 + c') / M 5 5 = (a * M 5 5 + c) / M 5 5 := by rw [he]
                    have e2 : (a' * M 5 5 + c') % M 5 5 = (a * M 5 5 + c) % M 5 5 := by rw [he]
                    rw [(cd_dm b0 b1).1, (cd_dm c1 hcl).1] at e1
                    rw [(cd_dm b0 b1).2, (cd_dm c1 hcl).2] at e2
                    exact absurd ⟨e1, e2⟩ hac
                  · omega
            · have et : c = M 5 5 := by omega
              refine R_iload (pc := 18) dX7_reckonHeights_18 rfl ?_
              refine R_aload_n (pc := 20) dX7_reckonHeights_20 rfl ?_
              refine R_getR (pc := 21) dX7_reckonHeights_21 fl_RX7_28 rfl (hsh _ _ rfl) rfl ?_
              refine R_getI (pc := 24) (J := 5) dX7_reckonHeights_24 fl_RX7_206 rfl rfl (hsh _ _ rfl) ((show N 5 5 = M 5 5 by rw [k4])) ?_
              refine R_cmp_ge (pc := 27) (tgt := 122) dX7_reckonHeights_27 (by decide) (by omega) (fun h_27 => ?_) (fun h_27 => ?_)
              · refine R_iinc (pc := 122) dX7_reckonHeights_122 rfl (by decide) rfl rfl ?_
                refine R_goto (pc := 125) (tgt := 3) dX7_reckonHeights_125 (by decide) ?_
                refine R_drop 6 rfl ?_
                refine ihO (a + 1) N (by omega) (by omega) (by omega) hF ?_
                rw [haT]
                subst et
                exact hH
              · exact absurd h_27 (by omega)
        refine R_iload (pc := 3) dX7_reckonHeights_3 rfl ?_
        refine R_aload_n (pc := 5) dX7_reckonHeights_5 rfl ?_
        refine R_getR (pc := 6) dX7_reckonHeights_6 fl_RX7_28 rfl (hsh _ _ rfl) rfl ?_
        refine R_getI (pc := 9) (J := 5) dX7_reckonHeights_9 fl_RX7_206 rfl rfl (hsh _ _ rfl) ((show N 5 5 = M 5 5 by rw [k4])) ?_
        refine R_cmp_ge (pc := 12) (tgt := 128) dX7_reckonHeights_12 (by decide) (by omega) (fun h_12 => ?_) (fun h_12 => ?_)
        · exact absurd h_12 (by omega)
        · refine R_iconst (pc := 15) dX7_reckonHeights_15 ?_
          refine R_istore (pc := 16) dX7_reckonHeights_16 (by decide) rfl rfl ?_
          exact LI 20 0 N (by omega) (by omega) (by omega) hF (by rw [Int.add_zero]; exact hH)
      · have ew : a = M 5 5 := by omega
        refine R_iload (pc := 3) dX7_reckonHeights_3 rfl ?_
        refine R_aload_n (pc := 5) dX7_reckonHeights_5 rfl ?_
        refine R_getR (pc := 6) dX7_reckonHeights_6 fl_RX7_28 rfl (hsh _ _ rfl) rfl ?_
        refine R_getI (pc := 9) (J := 5) dX7_reckonHeights_9 fl_RX7_206 rfl rfl (hsh _ _ rfl) ((show N 5 5 = M 5 5 by rw [k4])) ?_
        refine R_cmp_ge (pc := 12) (tgt := 128) dX7_reckonHeights_12 (by decide) (by omega) (fun h_12 => ?_) (fun h_12 => ?_)
        · refine R_vret (pc := 128) dX7_reckonHeights_128 ?_
          rw [ew] at hH
          exact ⟨rfl, hF, hH⟩
        · exact absurd h_12 (by omega)
  refine MC_of (ls := [some (vr b 0), some (vi v), some (vi i), some (vi w), some (vi j), none, none]) (by decide) rfl (Nat.le_of_ble_eq_true rfl) ?_
  refine R_iconst (pc := 0) dX7_reckonHeights_0 ?_
  refine R_istore (pc := 1) dX7_reckonHeights_1 (by decide) rfl rfl ?_
  exact LO 20 0 M (by omega) (by omega) (by omega) FrC_r (fun a c a0 a1 c0 c1 hlt => by have := Int.mul_nonneg a0 ht.1; omega)
theorem k_contentsBoth (b : Nat) (sh : Shp) (M : Mem) (hsh : Hc sh) (ht : 0 ≤ M 5 5 ∧ M 5 5 ≤ 6) (h1 h2 : Int → Int → Int) (hh : ∀ a c, (0 ≤ h1 a c ∧ h1 a c ≤ 60) ∧ 0 ≤ h2 a c ∧ h2 a c ≤ 60) (hH : HtOK M (M 5 5) (M 5 5 * M 5 5) h1 h2) (a c : Int) (ha : 0 ≤ a ∧ a < M 5 5) (hc : 0 ≤ c ∧ c < M 5 5) : Ex 0 mX7_contentsBoth b sh M [vr b 0, vi a, vi c] (some (vi (rsS h1 h2 a c (M 5 5).toNat))) M := by
  have hcd : ∀ a c : Int, 0 ≤ a → a < M 5 5 → 0 ≤ c → c < M 5 5 → a * M 5 5 + c < M 5 5 * M 5 5 := fun a c a0 a1 c0 c1 => by
    have : (a + 1) * M 5 5 ≤ M 5 5 * M 5 5 := Int.mul_le_mul_of_nonneg_right (by omega) ht.1
    rw [Int.add_mul, Int.one_mul] at this
    omega
  have hv : ∀ a c : Int, 0 ≤ a → a < M 5 5 → 0 ≤ c → c < M 5 5 → M 70 (a * 6 + c) = h1 a c ∧ M 71 (a * 6 + c) = h2 a c := fun a c a0 a1 c0 c1 => hH a c a0 a1 c0 c1 (hcd a c a0 a1 c0 c1)
  have hac := hh a c
  have L : ∀ (n : Nat) (t : Int), 0 ≤ t → t ≤ M 5 5 → M 5 5 - t < n → rsS h1 h2 a c t.toNat = 1 → MW yX7_contentsBoth cX7_contentsBoth 6 (some .boolean) (rmD 0 0 0) (FM (EQ (some (vi (rsS h1 h2 a c (M 5 5).toNat))) M) b sh 0 0) b sh.length 0 0 28 [some (vr b 0), some (vi a), some (vi c), some (vi (h1 a c)), some (vi (h2 a c)), some (vi t)] [] sh M := by
    intro n
    induction n with
    | zero => intro t h1 h2 h3; exact absurd h3 (by omega)
    | succ n ih =>
      intro t t1 t2 t3 h4
      by_cases htl : t < M 5 5
      · have hst := rs_s (h1 := h1) (h2 := h2) (a := a) (c := c) t1
        have x1 := hh t c
        have x2 := hh a t
        refine R_iload (pc := 28) dX7_contentsBoth_28 rfl ?_
        refine R_aload_n (pc := 30) dX7_contentsBoth_30 rfl ?_
        refine R_getR (pc := 31) dX7_contentsBoth_31 fl_RX7_28 rfl (hsh _ _ rfl) rfl ?_
        refine R_getI (pc := 34) (J := 5) dX7_contentsBoth_34 fl_RX7_206 rfl rfl (hsh _ _ rfl) (rfl) ?_
        refine R_cmp_ge (pc := 37) (tgt := 81) dX7_contentsBoth_37 (by decide) (by omega) (fun h_37 => ?_) (fun h_37 => ?_)
        · exact absurd h_37 (by omega)
        · refine R_aload_n (pc := 40) dX7_contentsBoth_40 rfl ?_
          refine R_getR (pc := 41) dX7_contentsBoth_41 fl_RX7_74 rfl (hsh _ _ rfl) rfl ?_
          refine R_iload (pc := 44) dX7_contentsBoth_44 rfl ?_
          refine R_bipush (pc := 46) dX7_contentsBoth_46 rfl ?_
          refine R_imul (pc := 48) dX7_contentsBoth_48 ?_
          refine R_iload_n (pc := 49) dX7_contentsBoth_49 rfl ?_
          refine R_iadd (pc := 50) dX7_contentsBoth_50 ?_
          refine R_iald (pc := 51) dX7_contentsBoth_51 (hsh _ _ rfl) (by omega) ((hv t c t1 htl hc.1 hc.2).1) ?_
          refine R_iload_n (pc := 52) dX7_contentsBoth_52 rfl ?_
          refine R_cmp_gt (pc := 53) (tgt := 73) dX7_contentsBoth_53 (by decide) (by omega) (fun h_53 => ?_) (fun h_53 => ?_)
          · refine R_iconst (pc := 73) dX7_contentsBoth_73 ?_
            refine R_zret (pc := 74) dX7_contentsBoth_74 (by first | exact Or.inl rfl | exact Or.inr rfl | omega) ?_
            exact eqi (rs_0 (k := (t + 1).toNat) (by omega) (by rw [hst, if_neg (by omega)])).symm rfl
          · refine R_aload_n (pc := 56) dX7_contentsBoth_56 rfl ?_
            refine R_getR (pc := 57) dX7_contentsBoth_57 fl_RX7_78 rfl (hsh _ _ rfl) rfl ?_
            refine R_iload_n (pc := 60) dX7_contentsBoth_60 rfl ?_
            refine R_bipush (pc := 61) dX7_contentsBoth_61 rfl ?_
            refine R_imul (pc := 63) dX7_contentsBoth_63 ?_
            refine R_iload (pc := 64) dX7_contentsBoth_64 rfl ?_
            refine R_iadd (pc := 66) dX7_contentsBoth_66 ?_
            refine R_iald (pc := 67) dX7_contentsBoth_67 (hsh _ _ rfl) (by omega) ((hv a t ha.1 ha.2 t1 htl).2) ?_
            refine R_iload (pc := 68) dX7_contentsBoth_68 rfl ?_
            refine R_cmp_le (pc := 70) (tgt := 75) dX7_contentsBoth_70 (by decide) (by omega) (fun h_70 => ?_) (fun h_70 => ?_)
            · refine R_iinc (pc := 75) dX7_contentsBoth_75 rfl (by decide) rfl rfl ?_
              refine R_goto (pc := 78) (tgt := 28) dX7_contentsBoth_78 (by decide) ?_
              exact ih (t + 1) (by omega) (by omega) (by omega) (by rw [hst, if_pos ⟨h4, by omega, by omega⟩])
            · refine R_iconst (pc := 73) dX7_contentsBoth_73 ?_
              refine R_zret (pc := 74) dX7_contentsBoth_74 (by first | exact Or.inl rfl | exact Or.inr rfl | omega) ?_
              exact eqi (rs_0 (k := (t + 1).toNat) (by omega) (by rw [hst, if_neg (by omega)])).symm rfl
      · have et : t = M 5 5 := by omega
        refine R_iload (pc := 28) dX7_contentsBoth_28 rfl ?_
        refine R_aload_n (pc := 30) dX7_contentsBoth_30 rfl ?_
        refine R_getR (pc := 31) dX7_contentsBoth_31 fl_RX7_28 rfl (hsh _ _ rfl) rfl ?_
        refine R_getI (pc := 34) (J := 5) dX7_contentsBoth_34 fl_RX7_206 rfl rfl (hsh _ _ rfl) (rfl) ?_
        refine R_cmp_ge (pc := 37) (tgt := 81) dX7_contentsBoth_37 (by decide) (by omega) (fun h_37 => ?_) (fun h_37 => ?_)
        · refine R_iconst (pc := 81) dX7_contentsBoth_81 ?_
          refine R_zret (pc := 82) dX7_contentsBoth_82 (by first | exact Or.inl rfl | exact Or.inr rfl | omega) ?_
          rw [et] at h4
          exact eqi h4.symm rfl
        · exact absurd h_37 (by omega)
  refine MC_of (ls := [some (vr b 0), some (vi a), some (vi c), none, none, none]) (by decide) rfl (Nat.le_of_ble_eq_true rfl) ?_
  refine R_aload_n (pc := 0) dX7_contentsBoth_0 rfl ?_
  refine R_getR (pc := 1) dX7_contentsBoth_1 fl_RX7_74 rfl (hsh _ _ rfl) rfl ?_
  refine R_iload_n (pc := 4) dX7_contentsBoth_4 rfl ?_
  refine R_bipush (pc := 5) dX7_contentsBoth_5 rfl ?_
  refine R_imul (pc := 7) dX7_contentsBoth_7 ?_
  refine R_iload_n (pc := 8) dX7_contentsBoth_8 rfl ?_
  refine R_iadd (pc := 9) dX7_contentsBoth_9 ?_
  refine R_iald (pc := 10) dX7_contentsBoth_10 (hsh _ _ rfl) (by omega) ((hv a c ha.1 ha.2 hc.1 hc.2).1) ?_
  refine R_istore_n (pc := 11) dX7_contentsBoth_11 (by decide) rfl rfl ?_
  refine R_aload_n (pc := 12) dX7_contentsBoth_12 rfl ?_
  refine R_getR (pc := 13) dX7_contentsBoth_13 fl_RX7_78 rfl (hsh _ _ rfl) rfl ?_
  refine R_iload_n (pc := 16) dX7_contentsBoth_16 rfl ?_
  refine R_bipush (pc := 17) dX7_contentsBoth_17 rfl ?_
  refine R_imul (pc := 19) dX7_contentsBoth_19 ?_
  refine R_iload_n (pc := 20) dX7_contentsBoth_20 rfl ?_
  refine R_iadd (pc := 21) dX7_contentsBoth_21 ?_
  refine R_iald (pc := 22) dX7_contentsBoth_22 (hsh _ _ rfl) (by omega) ((hv a c ha.1 ha.2 hc.1 hc.2).2) ?_
  refine R_istore (pc := 23) dX7_contentsBoth_23 (by decide) rfl rfl ?_
  refine R_iconst (pc := 25) dX7_contentsBoth_25 ?_
  refine R_istore (pc := 26) dX7_contentsBoth_26 (by decide) rfl rfl ?_
  exact L 20 0 (by omega) (by omega) (by omega) rfl
theorem k_parishes (b : Nat) (sh : Shp) (M : Mem) {B : Int} (hsh : Hc sh) (hI : IC M B) (v i w j what : Int) (hv : inR v) (hi : inR i) (hw0 : inR w) (hj0 : inR j) (hj : inR what) : C0 4 mX7_parishes b sh M [vr b 0, vi v, vi i, vi w, vi j, vi what] (QS M B (absC M) (a_parishes (absC M) v i w j what)) := by
  obtain ⟨hn, hw, ht, hd⟩ := IC_n hI
  have ea : a_parishes (absC M) v i w j what = if ((0 ≤ v ∧ v ≤ M 5 2 - 1) ∧ (0 ≤ i ∧ i ≤ M 5 0 - 1) ∧ (0 ≤ w ∧ w ≤ M 5 2 - 1) ∧ (0 ≤ j ∧ j ≤ M 5 0 - 1)) ∧ ¬ i = j ∧ 0 ≤ what ∧ what ≤ 1 then (if what = 0 then (lkS (fitP (absC M) v i w j) (M 5 5) (M 5 5 * M 5 5).toNat).1 else (lkS (fitP (absC M) v i w j) (M 5 5) (M 5 5 * M 5 5).toNat).2) else -1 := rfl
  have LO : (((0 ≤ v ∧ v ≤ M 5 2 - 1) ∧ (0 ≤ i ∧ i ≤ M 5 0 - 1) ∧ (0 ≤ w ∧ w ≤ M 5 2 - 1) ∧ (0 ≤ j ∧ j ≤ M 5 0 - 1)) ∧ ¬ i = j ∧ 0 ≤ what ∧ what ≤ 1) → ∀ N, FrC M N → HtOK N (M 5 5) (M 5 5 * M 5 5) (hgt (moC M 5) (roC M 23) v w i) (hgt (moC M 5) (roC M 23) v w j) → ∀ (n : Nat) (a : Int), 0 ≤ a → a ≤ M 5 5 → M 5 5 - a < n → MW yX7_parishes cX7_parishes 10 (some .int) (rmD 4 0 0) (FM (QS M B (absC M) (a_parishes (absC M) v i w j what)) b sh 0 0) b sh.length 0 0 70 [some (vr b 0), some (vi v), some (vi i), some (vi w), some (vi j), some (vi what), some (vi (lkS (fitP (absC M) v i w j) (M 5 5) (a * M 5 5).toNat).1), some (vi (lkS (fitP (absC M) v i w j) (M 5 5) (a * M 5 5).toNat).2), some (vi a), none] [] sh (N) := by
    intro harg N hF hH n
    have k4 : N 5 = M 5 := hF 5 (by unfold SC; omega)
    induction n with
    | zero => intro a h1 h2 h3; exact absurd h3 (by omega)
    | succ n ihO =>
      intro a h1 h2 h3
      by_cases hal : a < M 5 5
      · have haT : (a + 1) * M 5 5 = a * M 5 5 + M 5 5 := by rw [Int.add_mul, Int.one_mul]
        have haA : (a + 1) * M 5 5 ≤ M 5 5 * M 5 5 := Int.mul_le_mul_of_nonneg_right (by omega) ht.1
        have ha0 : 0 ≤ a * M 5 5 := Int.mul_nonneg h1 ht.1
        have hTT : M 5 5 * M 5 5 ≤ 6 * 6 := Int.mul_le_mul (by omega) (by omega) (by omega) (by omega)
        have LI : ∀ (n2 : Nat) (c : Int), 0 ≤ c → c ≤ M 5 5 → M 5 5 - c < n2 → MW yX7_parishes cX7_parishes 10 (some .int) (rmD 4 0 0) (FM (QS M B (absC M) (a_parishes (absC M) v i w j what)) b sh 0 0) b sh.length 0 0 85 [some (vr b 0), some (vi v), some (vi i), some (vi w), some (vi j), some (vi what), some (vi (lkS (fitP (absC M) v i w j) (M 5 5) (a * M 5 5 + c).toNat).1), some (vi (lkS (fitP (absC M) v i w j) (M 5 5) (a * M 5 5 + c).toNat).2), some (vi a), some (vi c)] [] sh (N) := by
          intro n2
          induction n2 with
          | zero => intro c h1 h2 h3; exact absurd h3 (by omega)
          | succ n2 ihI =>
            intro c c1 c2 c3
            have hin := lkS_in (P := fitP (absC M) v i w j) (T := M 5 5) (a * M 5 5 + c).toNat
            by_cases hcl : c < M 5 5
            · have hst := lkS_s (P := fitP (absC M) v i w j) (T := M 5 5) (c := a * M 5 5 + c) (by omega)
              rw [(cd_dm c1 hcl).1, (cd_dm c1 hcl).2] at hst
              have hfp : fitP (absC M) v i w j (a * M 5 5 + c) = rsS (hgt (moC M 5) (roC M 23) v w i) (hgt (moC M 5) (roC M 23) v w j) a c (M 5 5).toNat := by
                show rsS (hgt (moC M 5) (roC M 23) v w i) (hgt (moC M 5) (roC M 23) v w j) ((a * M 5 5 + c) / M 5 5) ((a * M 5 5 + c) % M 5 5) (M 5 5).toNat = _
                rw [(cd_dm c1 hcl).1, (cd_dm c1 hcl).2]
              have hcb := k_contentsBoth b sh N hsh (by rw [k4]; exact ht) (hgt (moC M 5) (roC M 23) v w i) (hgt (moC M 5) (roC M 23) v w j) (fun a c => ⟨hgt_in hI.1 hI.2.2.1.1 (by omega), hgt_in hI.1 hI.2.2.1.1 (by omega)⟩) (by rw [k4]; exact hH) a c (by rw [k4]; omega) (by rw [k4]; omega)
              rw [k4, ← hfp] at hcb
              have h01 : fitP (absC M) v i w j (a * M 5 5 + c) = 0 ∨ fitP (absC M) v i w j (a * M 5 5 + c) = 1 := rs01 _
              have hnext : ∀ (l f : Int), (l, f) = lkS (fitP (absC M) v i w j) (M 5 5) (a * M 5 5 + c + 1).toNat → MW yX7_parishes cX7_parishes 10 (some .int) (rmD 4 0 0) (FM (QS M B (absC M) (a_parishes (absC M) v i w j what)) b sh 0 0) b sh.length 0 0 131 [some (vr b 0), some (vi v), some (vi i), some (vi w), some (vi j), some (vi what), some (vi l), some (vi f), some (vi a), some (vi c)] [] sh (N) := by
                intro l f he
                refine R_iinc (pc := 131) dX7_parishes_131 rfl (by decide) rfl rfl ?_
                refine R_goto (pc := 134) (tgt := 85) dX7_parishes_134 (by decide) ?_
                have hx := ihI (c + 1) (by omega) (by omega) (by omega)
                rw [show a * M 5 5 + (c + 1) = a * M 5 5 + c + 1 by omega, ← he] at hx
                exact hx
              refine R_iload (pc := 85) dX7_parishes_85 rfl ?_
              refine R_aload_n (pc := 87) dX7_parishes_87 rfl ?_
              refine R_getR (pc := 88) dX7_parishes_88 fl_RX7_28 rfl (hsh _ _ rfl) rfl ?_
              refine R_getI (pc := 91) (J := 5) dX7_parishes_91 fl_RX7_206 rfl rfl (hsh _ _ rfl) ((show N 5 5 = M 5 5 by rw [k4])) ?_
              refine R_cmp_ge (pc := 94) (tgt := 137) dX7_parishes_94 (by decide) (by omega) (fun h_94 => ?_) (fun h_94 => ?_)
              · exact absurd h_94 (by omega)
              · refine R_aload_n (pc := 97) dX7_parishes_97 rfl ?_
                refine R_iload (pc := 98) dX7_parishes_98 rfl ?_
                refine R_iload (pc := 100) dX7_parishes_100 rfl ?_
                refine R_V2i (pc := 102) dX7_parishes_102 sv_RX7_230 (hsh _ _ rfl) (hcb) (Nat.le_of_ble_eq_true rfl) (by decide) ?_
                refine R_if_eq (pc := 105) (tgt := 131) dX7_parishes_105 (by decide) (by omega) (fun h_105 => ?_) (fun h_105 => ?_)
                · exact hnext _ _ (by rw [hst, if_neg (by omega)])
                · refine R_iload (pc := 108) dX7_parishes_108 rfl ?_
                  refine R_if_ne (pc := 110) (tgt := 124) dX7_parishes_110 (by decide) (by omega) (fun h_110 => ?_) (fun h_110 => ?_)
                  · refine R_iload (pc := 124) dX7_parishes_124 rfl ?_
                    refine R_istore (pc := 126) dX7_parishes_126 (by decide) rfl rfl ?_
                    refine R_iinc (pc := 128) dX7_parishes_128 rfl (by decide) rfl rfl ?_
                    first
                      | exact hnext _ _ (by rw [hst, if_pos (by omega), if_neg h_110])
                      | exact hnext _ _ (by rw [hst, if_pos (by omega), if_pos h_110])
                  · refine R_bipush (pc := 113) dX7_parishes_113 rfl ?_
                    refine R_iload (pc := 115) dX7_parishes_115 rfl ?_
                    refine R_imul (pc := 117) dX7_parishes_117 ?_
                    refine R_iload (pc := 118) dX7_parishes_118 rfl ?_
                    refine R_iadd (pc := 120) dX7_parishes_120 ?_
                    refine R_goto (pc := 121) (tgt := 126) dX7_parishes_121 (by decide) ?_
                    refine R_istore (pc := 126) dX7_parishes_126 (by decide) rfl rfl ?_
                    refine R_iinc (pc := 128) dX7_parishes_128 rfl (by decide) rfl rfl ?_
                    first
                      | exact hnext _ _ (by rw [hst, if_pos (by omega), if_neg h_110])
                      | exact hnext _ _ (by rw [hst, if_pos (by omega), if_pos h_110])
            · have et : c = M 5 5 := by omega
              refine R_iload (pc := 85) dX7_parishes_85 rfl ?_
              refine R_aload_n (pc := 87) dX7_parishes_87 rfl ?_
              refine R_getR (pc := 88) dX7_parishes_88 fl_RX7_28 rfl (hsh _ _ rfl) rfl ?_
              refine R_getI (pc := 91) (J := 5) dX7_parishes_91 fl_RX7_206 rfl rfl (hsh _ _ rfl) ((show N 5 5 = M 5 5 by rw [k4])) ?_
              refine R_cmp_ge (pc := 94) (tgt := 137) dX7_parishes_94 (by decide) (by omega) (fun h_94 => ?_) (fun h_94 => ?_)
              · refine R_iinc (pc := 137) dX7_parishes_137 rfl (by decide) rfl rfl ?_
                refine R_goto (pc := 140) (tgt := 70) dX7_parishes_140 (by decide) ?_
                refine R_drop 9 rfl ?_
                have hx := ihO (a + 1) (by omega) (by omega) (by omega)
                rw [haT] at hx
                subst et
                exact hx
              · exact absurd h_94 (by omega)
        refine R_iload (pc := 70) dX7_parishes_70 rfl ?_
        refine R_aload_n (pc := 72) dX7_parishes_72 rfl ?_
        refine R_getR (pc := 73) dX7_parishes_73 fl_RX7_28 rfl (hsh _ _ rfl) rfl ?_
        refine R_getI (pc := 76) (J := 5) dX7_parishes_76 fl_RX7_206 rfl rfl (hsh _ _ rfl) ((show N 5 5 = M 5 5 by rw [k4])) ?_
        refine R_cmp_ge (pc := 79) (tgt := 143) dX7_parishes_79 (by decide) (by omega) (fun h_79 => ?_) (fun h_79 => ?_)
        · exact absurd h_79 (by omega)
        · refine R_iconst (pc := 82) dX7_parishes_82 ?_
          refine R_istore (pc := 83) dX7_parishes_83 (by decide) rfl rfl ?_
          have hx := LI 20 0 (by omega) (by omega) (by omega)
          rw [Int.add_zero] at hx
          exact hx
      · have ew : a = M 5 5 := by omega
        subst ew
        refine R_iload (pc := 70) dX7_parishes_70 rfl ?_
        refine R_aload_n (pc := 72) dX7_parishes_72 rfl ?_
        refine R_getR (pc := 73) dX7_parishes_73 fl_RX7_28 rfl (hsh _ _ rfl) rfl ?_
        refine R_getI (pc := 76) (J := 5) dX7_parishes_76 fl_RX7_206 rfl rfl (hsh _ _ rfl) ((show N 5 5 = M 5 5 by rw [k4])) ?_
        refine R_cmp_ge (pc := 79) (tgt := 143) dX7_parishes_79 (by decide) (by omega) (fun h_79 => ?_) (fun h_79 => ?_)
        · refine R_iload (pc := 143) dX7_parishes_143 rfl ?_
          refine R_if_ne (pc := 145) (tgt := 153) dX7_parishes_145 (by decide) (by omega) (fun h_145 => ?_) (fun h_145 => ?_)
          · refine R_iload (pc := 153) dX7_parishes_153 rfl ?_
            refine R_iret (pc := 155) dX7_parishes_155 ?_
            exact QS_ro hI hF (by rw [ea]; omega)
          · refine R_iload (pc := 148) dX7_parishes_148 rfl ?_
            refine R_goto (pc := 150) (tgt := 155) dX7_parishes_150 (by decide) ?_
            refine R_iret (pc := 155) dX7_parishes_155 ?_
            exact QS_ro hI hF (by rw [ea]; omega)
        · exact absurd h_79 (by omega)
  refine MC_of (ls := [some (vr b 0), some (vi v), some (vi i), some (vi w), some (vi j), some (vi what), none, none, none, none]) (by decide) rfl (Nat.le_of_ble_eq_true rfl) ?_
  refine R_aload_n (pc := 0) dX7_parishes_0 rfl ?_
  refine R_iload_n (pc := 1) dX7_parishes_1 rfl ?_
  refine R_V1i (pc := 2) dX7_parishes_2 sv_RX7_127 (hsh _ _ rfl) (k_isWalker b sh M hsh v hv (by omega)) (Nat.le_of_ble_eq_true rfl) (by decide) ?_
  refine R_if_eq (pc := 5) (tgt := 49) dX7_parishes_5 (by decide) (by omega) (fun h_5 => ?_) (fun h_5 => ?_)
  · refine R_iconst (pc := 49) dX7_parishes_49 ?_
    refine R_iret (pc := 50) dX7_parishes_50 ?_
    exact QS_ro hI FrC_r (by rw [ea, if_neg (by omega)])
  · refine R_aload_n (pc := 8) dX7_parishes_8 rfl ?_
    refine R_iload_n (pc := 9) dX7_parishes_9 rfl ?_
    refine R_V1i (pc := 10) dX7_parishes_10 sv_RX7_121 (hsh _ _ rfl) (k_isPost b sh M hsh i hi (by omega)) (Nat.le_of_ble_eq_true rfl) (by decide) ?_
    refine R_if_eq (pc := 13) (tgt := 49) dX7_parishes_13 (by decide) (by omega) (fun h_13 => ?_) (fun h_13 => ?_)
    · refine R_iconst (pc := 49) dX7_parishes_49 ?_
      refine R_iret (pc := 50) dX7_parishes_50 ?_
      exact QS_ro hI FrC_r (by rw [ea, if_neg (by omega)])
    · refine R_aload_n (pc := 16) dX7_parishes_16 rfl ?_
      refine R_iload_n (pc := 17) dX7_parishes_17 rfl ?_
      refine R_V1i (pc := 18) dX7_parishes_18 sv_RX7_127 (hsh _ _ rfl) (k_isWalker b sh M hsh w hw0 (by omega)) (Nat.le_of_ble_eq_true rfl) (by decide) ?_
      refine R_if_eq (pc := 21) (tgt := 49) dX7_parishes_21 (by decide) (by omega) (fun h_21 => ?_) (fun h_21 => ?_)
      · refine R_iconst (pc := 49) dX7_parishes_49 ?_
        refine R_iret (pc := 50) dX7_parishes_50 ?_
        exact QS_ro hI FrC_r (by rw [ea, if_neg (by omega)])
      · refine R_aload_n (pc := 24) dX7_parishes_24 rfl ?_
        refine R_iload (pc := 25) dX7_parishes_25 rfl ?_
        refine R_V1i (pc := 27) dX7_parishes_27 sv_RX7_121 (hsh _ _ rfl) (k_isPost b sh M hsh j hj0 (by omega)) (Nat.le_of_ble_eq_true rfl) (by decide) ?_
        refine R_if_eq (pc := 30) (tgt := 49) dX7_parishes_30 (by decide) (by omega) (fun h_30 => ?_) (fun h_30 => ?_)
        · refine R_iconst (pc := 49) dX7_parishes_49 ?_
          refine R_iret (pc := 50) dX7_parishes_50 ?_
          exact QS_ro hI FrC_r (by rw [ea, if_neg (by omega)])
        · refine R_iload_n (pc := 33) dX7_parishes_33 rfl ?_
          refine R_iload (pc := 34) dX7_parishes_34 rfl ?_
          refine R_cmp_eq (pc := 36) (tgt := 49) dX7_parishes_36 (by decide) (by omega) (fun h_36 => ?_) (fun h_36 => ?_)
          · refine R_iconst (pc := 49) dX7_parishes_49 ?_
            refine R_iret (pc := 50) dX7_parishes_50 ?_
            exact QS_ro hI FrC_r (by rw [ea, if_neg (by omega)])
          · refine R_iload (pc := 39) dX7_parishes_39 rfl ?_
            refine R_iconst (pc := 41) dX7_parishes_41 ?_
            refine R_iconst (pc := 42) dX7_parishes_42 ?_
            refine R_S3i (pc := 43) dX7_parishes_43 ss_RX7_108 (k_within b sh _ _ _ _ hj (by omega) (by omega)) (Nat.le_of_ble_eq_true rfl) (by decide) ?_
            refine R_if_ne (pc := 46) (tgt := 51) dX7_parishes_46 (by decide) (by omega) (fun h_46 => ?_) (fun h_46 => ?_)
            · refine R_aload_n (pc := 51) dX7_parishes_51 rfl ?_
              refine R_iload_n (pc := 52) dX7_parishes_52 rfl ?_
              refine R_iload_n (pc := 53) dX7_parishes_53 rfl ?_
              refine R_iload_n (pc := 54) dX7_parishes_54 rfl ?_
              refine R_iload (pc := 55) dX7_parishes_55 rfl ?_
              refine R_V4 (pc := 57) dX7_parishes_57 sv_RX7_226 (k_reckonHeights b sh M hsh hI v i w j (by omega) (by omega) (by omega) (by omega)) (hsh _ _ rfl) (Nat.le_of_ble_eq_true rfl) (by decide) (fun v_57 M_57 hq_57 => ?_)
              obtain ⟨rfl, hF, hH⟩ := hq_57
              refine R_iconst (pc := 60) dX7_parishes_60 ?_
              refine R_istore (pc := 61) dX7_parishes_61 (by decide) rfl rfl ?_
              refine R_bipush (pc := 63) dX7_parishes_63 rfl ?_
              refine R_istore (pc := 65) dX7_parishes_65 (by decide) rfl rfl ?_
              refine R_iconst (pc := 67) dX7_parishes_67 ?_
              refine R_istore (pc := 68) dX7_parishes_68 (by decide) rfl rfl ?_
              have hx := LO (by omega) M_57 hF hH 20 0 (by omega) (by omega) (by omega)
              rw [Int.zero_mul] at hx
              exact hx
            · refine R_iconst (pc := 49) dX7_parishes_49 ?_
              refine R_iret (pc := 50) dX7_parishes_50 ?_
              exact QS_ro hI FrC_r (by rw [ea, if_neg (by omega)])
