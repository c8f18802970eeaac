/-! THE REFERENCE'S FEWEST WALKS -/
theorem dm_a {A c : Int} (hA : 0 < A) (hc : 0 ≤ c) (k : Nat) : c / A ^ (k + 1) = c / A / A ^ k ∧ c % A ^ (k + 1) / A = c / A % A ^ k ∧ c % A ^ (k + 1) % A = c % A := by
  obtain ⟨n, rfl⟩ := Int.eq_ofNat_of_zero_le hc
  obtain ⟨a, rfl⟩ := Int.eq_ofNat_of_zero_le (Int.le_of_lt hA)
  have ha : 0 < a := by omega
  have e : ((a : Int)) ^ (k + 1) = ((a * a ^ k : Nat) : Int) := by
    rw [Int.pow_succ, Int.mul_comm]
    push_cast
    rfl
  rw [e]
  refine ⟨?_, ?_, ?_⟩
  · exact_mod_cast (Nat.div_div_eq_div_mul n a (a ^ k)).symm
  · exact_mod_cast Nat.mod_mul_right_div_self n a (a ^ k)
  · exact_mod_cast Nat.mod_mul_right_mod n a (a ^ k)
/-- the last walk last -/
theorem rnF_l {mo : Mo} (hA : 0 < nAll mo) : ∀ (k : Nat) (ro : Rd) (c : Int), 0 ≤ c → rnF mo (k + 1) ro c = stp mo (rnF mo k ro (c / nAll mo)) (if k = 0 then c else c % nAll mo)
  | 0, ro, c, hc => by
    show stp mo ro (c / nAll mo ^ 0) = stp mo ro c
    rw [Int.pow_zero, Int.ediv_one]
  | k + 1, ro, c, hc => by
    obtain ⟨h1, h2, h3⟩ := dm_a hA hc k
    have hp := pw_pos hA (k + 1)
    have hm : 0 ≤ c % nAll mo ^ (k + 1) := Int.emod_nonneg _ (by omega)
    show rnF mo (k + 1) (stp mo ro (c / nAll mo ^ (k + 1))) (c % nAll mo ^ (k + 1)) = stp mo (rnF mo (k + 1) ro (c / nAll mo)) (if k + 1 = 0 then c else c % nAll mo)
    rw [rnF_l hA k _ _ hm, if_neg (show ¬ k + 1 = 0 by omega), h2]
    have e2 : rnF mo (k + 1) ro (c / nAll mo) = rnF mo k (stp mo ro (c / nAll mo / nAll mo ^ k)) (c / nAll mo % nAll mo ^ k) := rfl
    rw [e2, ← h1]
    congr 1
    by_cases hk : k = 0
    · subst hk
      rw [if_pos rfl, Int.pow_succ, Int.pow_zero, Int.one_mul]
    · rw [if_neg hk, h3]
theorem rnF_in {mo : Mo} {B : Int} (hm : WFm mo) : ∀ (k : Nat) (ro : Rd) (c : Int), WFr ro B → WFr (rnF mo k ro c) B
  | 0, ro, c, h => h
  | k + 1, ro, c, h => rnF_in hm k _ _ (bend_in hm h).1
theorem fw_is {mo : Mo} {g v : Int} (hA : 0 ≤ nAll mo) {k : Nat} {ro : Rd} {c : Int} (h0 : 0 ≤ c) (h1 : c < nAll mo ^ k) (hp : gl mo g v (rnF mo k ro c) = true) (hl : ∀ d : Int, 0 ≤ d → d < c → gl mo g v (rnF mo k ro d) = false) : fw mo g v k ro = c := by
  rw [← fw_l hA]
  exact lst_is h0 (by omega) hp hl
theorem fw_no {mo : Mo} {g v : Int} (hA : 0 ≤ nAll mo) {k : Nat} {ro : Rd} (hl : ∀ d : Int, 0 ≤ d → d < nAll mo ^ k → gl mo g v (rnF mo k ro d) = false) : fw mo g v k ro = -1 := by
  rw [← fw_l hA]
  exact lst_no (fun d d0 d1 => hl d d0 (by omega))
theorem j_isSo (b : Nat) (sh : Shp) (M : Mem) (hsh : Hm sh) (h : Int) (hh : 0 ≤ h ∧ h + 19 ≤ 304) (hm : WFm (moM M)) (f : Rd) {B : Int} (hf : WFr f B) (g v : Int) (hg : g = -1 ∨ (0 ≤ g ∧ g ≤ 15)) (hv : 0 ≤ v ∧ v ≤ 1000) : Ex 2 mX8_isSo b sh (putM M h f) [vr b 72, vi h, vi g, vi v] (some (vi (if gl (moM M) g v f = true then 1 else 0))) (putM M h f) := by
  have hN := hm.1
  have hl := len_in hf hN
  by_cases hneg : g < 0
  · have eg : (if gl (moM M) g v f = true then (1 : Int) else 0) = if v ≤ len (moM M 0 0) f then 1 else 0 := by
      simp only [gl, decide_eq_true_eq, if_pos hneg]
    rw [eg]
    refine MC_of (ls := [some (vr b 72), some (vi h), some (vi g), some (vi v)]) (by decide) rfl (Nat.le_of_ble_eq_true rfl) ?_
    refine R_iload_n (pc := 0) dX8_isSo_0 rfl ?_
    refine R_if_ge (pc := 1) (tgt := 21) dX8_isSo_1 (by decide) (by omega) (fun h_1 => ?_) (fun h_1 => ?_)
    · exact absurd h_1 (by omega)
    · refine R_aload_n (pc := 4) dX8_isSo_4 rfl ?_
      refine R_iload_n (pc := 5) dX8_isSo_5 rfl ?_
      refine R_V1i (pc := 6) dX8_isSo_6 sv_RX8_189 (hsh _ _ rfl) (j_lengthOf b sh M hsh h hh rfl hN f hf) (Nat.le_of_ble_eq_true rfl) (by decide) ?_
      refine R_iload_n (pc := 9) dX8_isSo_9 rfl ?_
      refine R_cmp_lt (pc := 10) (tgt := 17) dX8_isSo_10 (by decide) (by omega) (fun h_10 => ?_) (fun h_10 => ?_)
      · refine R_iconst (pc := 17) dX8_isSo_17 ?_
        refine R_goto (pc := 18) (tgt := 38) dX8_isSo_18 (by decide) ?_
        refine R_zret (pc := 38) dX8_isSo_38 (by first | exact Or.inl rfl | exact Or.inr rfl | omega) ?_
        exact eqi (by omega) rfl
      · refine R_iconst (pc := 13) dX8_isSo_13 ?_
        refine R_goto (pc := 14) (tgt := 38) dX8_isSo_14 (by decide) ?_
        refine R_zret (pc := 38) dX8_isSo_38 (by first | exact Or.inl rfl | exact Or.inr rfl | omega) ?_
        exact eqi (by omega) rfl
  · have eg : (if gl (moM M) g v f = true then (1 : Int) else 0) = if f g = v then 1 else 0 := by
      simp only [gl, decide_eq_true_eq, if_neg hneg]
    rw [eg]
    have hv := hf.1 g (by omega) (by omega)
    refine MC_of (ls := [some (vr b 72), some (vi h), some (vi g), some (vi v)]) (by decide) rfl (Nat.le_of_ble_eq_true rfl) ?_
    refine R_iload_n (pc := 0) dX8_isSo_0 rfl ?_
    refine R_if_ge (pc := 1) (tgt := 21) dX8_isSo_1 (by decide) (by omega) (fun h_1 => ?_) (fun h_1 => ?_)
    · refine R_aload_n (pc := 21) dX8_isSo_21 rfl ?_
      refine R_getR (pc := 22) dX8_isSo_22 fl_RX8_13 rfl (hsh _ _ rfl) rfl ?_
      refine R_iload_n (pc := 25) dX8_isSo_25 rfl ?_
      refine R_iload_n (pc := 26) dX8_isSo_26 rfl ?_
      refine R_iadd (pc := 27) dX8_isSo_27 ?_
      refine R_iald (pc := 28) dX8_isSo_28 (hsh _ _ rfl) (by omega) (pm_i (by omega)) ?_
      refine R_iload_n (pc := 29) dX8_isSo_29 rfl ?_
      refine R_cmp_ne (pc := 30) (tgt := 37) dX8_isSo_30 (by decide) (by omega) (fun h_30 => ?_) (fun h_30 => ?_)
      · refine R_iconst (pc := 37) dX8_isSo_37 ?_
        refine R_zret (pc := 38) dX8_isSo_38 (by first | exact Or.inl rfl | exact Or.inr rfl | omega) ?_
        exact eqi (by omega) rfl
      · refine R_iconst (pc := 33) dX8_isSo_33 ?_
        refine R_goto (pc := 34) (tgt := 38) dX8_isSo_34 (by decide) ?_
        refine R_zret (pc := 38) dX8_isSo_38 (by first | exact Or.inl rfl | exact Or.inr rfl | omega) ?_
        exact eqi (by omega) rfl
    · exact absurd h_1 (by omega)
/-- the digits in the model's row -/
def fdg (A z c : Int) : Int := if z = 3 then c / A / A else if z = 2 then c / A % A else c % A
def QFm (mo : Mo) (g v : Int) (ro : Rd) (M : Mem) : Option Value → Mem → Prop := fun x M' => x = some (vi (few mo g v ro)) ∧ FrM M M' ∧ ∀ j : Nat, (j : Int) < few mo g v ro → M' 77 j = dgt (nAll mo) (few mo g v ro).toNat (fw mo g v (few mo g v ro).toNat ro) j ∧ 0 ≤ M' 77 j ∧ M' 77 j < nAll mo
theorem dgt_row {A c : Int} (hA : 0 < A) (hc : 0 ≤ c) {n : Nat} (hn : 1 ≤ n ∧ n ≤ 3) (hlt : c < A ^ n) {f : Int → Int} (h0 : f 0 = fdg A n c) (h1 : f 1 = if (n : Int) = 3 then c / A % A else c % A) (h2 : f 2 = c % A) (j : Nat) (hj : j < n) : f j = dgt A n c j := by
  obtain ⟨a1, a2, a3⟩ := dm_a hA hc 1
  have p1 : A ^ 1 = A := by rw [Int.pow_succ, Int.pow_zero, Int.one_mul]
  have p0 : A ^ 0 = 1 := Int.pow_zero A
  rcases (show n = 1 ∨ n = 2 ∨ n = 3 by omega) with rfl | rfl | rfl
  · have : j = 0 := by omega
    subst this
    show f 0 = c / A ^ 0
    rw [h0, p0, Int.ediv_one]
    show c % A = c
    rw [p1] at hlt
    exact Int.emod_eq_of_lt hc hlt
  · rcases (show j = 0 ∨ j = 1 by omega) with rfl | rfl
    · show f 0 = c / A ^ 1
      rw [h0, p1]
      show c / A % A = c / A
      refine Int.emod_eq_of_lt (Int.ediv_nonneg hc (by omega)) (Int.ediv_lt_of_lt_mul hA ?_)
      rw [Int.pow_succ, p1] at hlt
      exact hlt
    · show f 1 = c % A ^ 1 / A ^ 0
      rw [h1, p0, p1, Int.ediv_one]
      rfl
  · rcases (show j = 0 ∨ j = 1 ∨ j = 2 by omega) with rfl | rfl | rfl
    · show f 0 = c / A ^ 2
      rw [h0, a1, p1]
      rfl
    · show f 1 = c % A ^ 2 / A ^ 1
      rw [h1, p1, a2, p1]
      rfl
    · show f 2 = c % A ^ 2 % A ^ 1 / A ^ 0
      rw [h2, p0, Int.ediv_one, p1, a3]
theorem pw_bd {A : Int} (h0 : 0 ≤ A) (h : A ≤ 24) : A * A ≤ 576 ∧ 0 ≤ A * A ∧ A * A * A ≤ 13824 ∧ 0 ≤ A * A * A := by
  have h1 : A * A ≤ 24 * 24 := Int.mul_le_mul h h h0 (by omega)
  have h2 : 0 ≤ A * A := Int.mul_nonneg h0 h0
  have h3 : A * A * A ≤ 576 * 24 := Int.mul_le_mul (by omega) h h0 (by omega)
  exact ⟨by omega, h2, by omega, Int.mul_nonneg h2 h0⟩
theorem j_fewest (b : Nat) (sh : Shp) (M : Mem) {B : Int} (hsh : Hm sh) (hI : IS (absM M) B) (g v : Int) (hg : g = -1 ∨ (0 ≤ g ∧ g ≤ 15)) (hv : 0 ≤ v ∧ v ≤ 1000) : C0 4 mX8_fewest b sh M [vr b 72, vi g, vi v] (QFm (moM M) g v (roM M 0) M) := by
  have hm : WFm (moM M) := hI.1
  have hr : WFr (roM M 0) B := hI.2.2.1
  have hA := nAll_in hm
  obtain ⟨q1, q2, q3, q4⟩ := pw_bd hA.1 hA.2
  generalize hmo : moM M = mo at *
  generalize hro : roM M 0 = ro at *
  -- one length of rows
  have LI : ∀ (n : Nat) (z R : Int), z = n → 1 ≤ n → n ≤ 3 → R = nAll mo ^ n → 0 ≤ R ∧ R ≤ 13824 → (∀ k : Nat, k < n → fw mo g v k ro = -1) → (∀ N, FrM M N → fw mo g v n ro = -1 → MW yX8_fewest cX8_fewest 12 (some .int) (rmD 4 0 0) (FM (QFm mo g v ro M) b sh 0 0) b sh.length 0 0 251 [some (vr b 72), some (vi g), some (vi v), some (vi (nAll mo)), some (vi z), none, none, none, none, none, none, none] [] sh (N)) → ∀ (m : Nat) (c bef : Int) (N : Mem), 0 ≤ c → c ≤ R → R - c < m → FrM M N → (∀ d : Int, 0 ≤ d → d < c → gl mo g v (rnF mo n ro d) = false) → (n = 1 ∨ (-1 ≤ bef ∧ bef ≤ 13824 ∧ (bef = -1 ∨ roM N 228 = rnF mo (n - 1) ro bef))) → inR bef → MW yX8_fewest cX8_fewest 12 (some .int) (rmD 4 0 0) (FM (QFm mo g v ro M) b sh 0 0) b sh.length 0 0 61 [some (vr b 72), some (vi g), some (vi v), some (vi (nAll mo)), some (vi z), some (vi R), some (vi bef), some (vi c), none, none, none, none] [] sh (N) := by
    intro n z R hz hn1 hn3 hR hR2 hno hend m
    induction m with
    | zero => intro c bef N h1 h2 h3; exact absurd h3 (by omega)
    | succ m ih =>
      intro c bef N h1 h2 h3 hF hb hbf hbr
      obtain ⟨k1, k2, k3, k4⟩ := frm_k hI hF
      rw [hmo] at k3
      rw [hro] at k4
      by_cases hcl : c < R
      · have hApos : 0 < nAll mo := by
          rcases (show nAll mo = 0 ∨ 0 < nAll mo by omega) with h | h
          · rw [h] at hR
            rcases (show n = 1 ∨ n = 2 ∨ n = 3 by omega) with rfl | rfl | rfl
            · have : R = 0 := hR
              omega
            · have : R = 0 := hR
              omega
            · have : R = 0 := hR
              omega
          · exact h
        have hq0 : 0 ≤ c / nAll mo := Int.ediv_nonneg h1 (by omega)
        have hqc : c / nAll mo ≤ c := Int.ediv_le_self _ h1
        have hl0 : 0 ≤ c % nAll mo := Int.emod_nonneg _ (by omega)
        have hl1 : c % nAll mo < nAll mo := Int.emod_lt_of_pos _ hApos
        have hm0 : 0 ≤ c / nAll mo % nAll mo := Int.emod_nonneg _ (by omega)
        have hm1 : c / nAll mo % nAll mo < nAll mo := Int.emod_lt_of_pos _ hApos
        have hf0 : 0 ≤ c / nAll mo / nAll mo := Int.ediv_nonneg hq0 (by omega)
        have hf1 : c / nAll mo / nAll mo ≤ c / nAll mo := Int.ediv_le_self _ hq0
        have p1 : nAll mo ^ 1 = nAll mo := by rw [Int.pow_succ, Int.pow_zero, Int.one_mul]
        have p2 : nAll mo ^ 2 = nAll mo * nAll mo := by rw [Int.pow_succ, p1]
        have p3 : nAll mo ^ 3 = nAll mo * nAll mo * nAll mo := by rw [Int.pow_succ, p2]
        have c1 : n = 1 → c % nAll mo = c := fun h => by
          rw [h, p1] at hR
          exact Int.emod_eq_of_lt h1 (by omega)
        have c2 : n = 2 → c / nAll mo % nAll mo = c / nAll mo := fun h => by
          rw [h, p2] at hR
          exact Int.emod_eq_of_lt hq0 (Int.ediv_lt_of_lt_mul hApos (by omega))
        have c3 : n = 3 → c / nAll mo / nAll mo < nAll mo := fun h => by
          rw [h, p3] at hR
          exact Int.ediv_lt_of_lt_mul hApos (Int.ediv_lt_of_lt_mul hApos (by omega))
        have hfd : 0 ≤ fdg (nAll mo) z c ∧ fdg (nAll mo) z c < nAll mo := by
          unfold fdg
          split
          · exact ⟨hf0, c3 (by omega)⟩
          · split
            · exact ⟨hm0, hm1⟩
            · exact ⟨hl0, hl1⟩
        -- the road behind the row
        have hrn : rnF mo n ro c = stp mo (rnF mo (n - 1) ro (c / nAll mo)) (c % nAll mo) := by
          have := rnF_l hApos (n - 1) ro c h1
          rw [show n - 1 + 1 = n by omega] at this
          rw [this]
          split
          · rw [c1 (by omega)]
          · rfl
        have hwn : WFr (rnF mo n ro c) B := rnF_in hm _ _ _ hr
        -- the last walk of a row, and what follows
        have hfin : ∀ (N' : Mem) (p bef' : Int), FrM M N' → (z = 1 → p = 0) → (¬ z = 1 → p = 228) → roM N' p = rnF mo (n - 1) ro (c / nAll mo) → (n = 1 ∨ (-1 ≤ bef' ∧ bef' ≤ 13824 ∧ (bef' = -1 ∨ roM N' 228 = rnF mo (n - 1) ro bef'))) → inR bef' → MW yX8_fewest cX8_fewest 12 (some .int) (rmD 4 0 0) (FM (QFm mo g v ro M) b sh 0 0) b sh.length 0 0 187 [some (vr b 72), some (vi g), some (vi v), some (vi (nAll mo)), some (vi z), some (vi R), some (vi bef'), some (vi c), some (vi (c % nAll mo)), some (vi (c / nAll mo % nAll mo)), some (vi (fdg (nAll mo) z c)), some (vi (c / nAll mo))] [vi p, vr b 72] sh (N') := by
          intro N' p bef' hF' hp1 hp2 hrp hbf' hbr'
          obtain ⟨g1, g2, g3, g4⟩ := frm_k hI hF'
          rw [hmo] at g3
          have hpp : p = 0 ∨ p = 228 := by omega
          have htr := j_tries b sh N' hsh (by rw [g3]; exact hm) p 247 (c % nAll mo) (by omega) (by omega) (by omega) (by rw [hrp]; exact rnF_in hm _ _ _ hr) (by rw [g3]; exact ⟨hl0, hl1⟩)
          rw [g3, hrp, ← hrn] at htr
          have hso := j_isSo b sh N' hsh 247 (by omega) (by rw [g3]; exact hm) (rnF mo n ro c) hwn g v hg hv
          rw [g3] at hso
          have hFP : FrM M (putM N' 247 (rnF mo n ro c)) := FrM_pm hF' (by omega)
          refine R_sipush (pc := 187) dX8_fewest_187 rfl ?_
          refine R_iload (pc := 190) dX8_fewest_190 rfl ?_
          refine R_V3v (pc := 192) dX8_fewest_192 sv_RX8_202 (hsh _ _ rfl) (htr) (Nat.le_of_ble_eq_true rfl) (by decide) ?_
          refine R_aload_n (pc := 195) dX8_fewest_195 rfl ?_
          refine R_sipush (pc := 196) dX8_fewest_196 rfl ?_
          refine R_iload_n (pc := 199) dX8_fewest_199 rfl ?_
          refine R_iload_n (pc := 200) dX8_fewest_200 rfl ?_
          refine R_V3i (pc := 201) dX8_fewest_201 sv_RX8_196 (hsh _ _ rfl) (hso) (Nat.le_of_ble_eq_true rfl) (by decide) ?_
          refine R_if_eq (pc := 204) (tgt := 245) dX8_fewest_204 (by decide) (by split <;> omega) (fun h_204 => ?_) (fun h_204 => ?_)
          · have hfalse : gl mo g v (rnF mo n ro c) = false := by
              by_cases hq : gl mo g v (rnF mo n ro c) = true
              · rw [if_pos hq] at h_204; omega
              · simpa using hq
            refine R_iinc (pc := 245) dX8_fewest_245 rfl (by decide) rfl rfl ?_
            refine R_goto (pc := 248) (tgt := 61) dX8_fewest_248 (by decide) ?_
            refine R_drop 8 rfl ?_
            refine R_drop 9 rfl ?_
            refine R_drop 10 rfl ?_
            refine R_drop 11 rfl ?_
            refine ih (c + 1) bef' _ (by omega) (by omega) (by omega) hFP (fun d d0 d1 => ?_) ?_ hbr'
            · by_cases hd : d = c
              · rw [hd]; exact hfalse
              · exact hb d d0 (by omega)
            · rw [ro_pmo (by omega)]; exact hbf'
          · refine R_aload_n (pc := 207) dX8_fewest_207 rfl ?_
            refine R_getR (pc := 208) dX8_fewest_208 fl_RX8_22 rfl (hsh _ _ rfl) rfl ?_
            refine R_iconst (pc := 211) dX8_fewest_211 ?_
            refine R_iload (pc := 212) dX8_fewest_212 rfl ?_
            refine R_iast (pc := 214) dX8_fewest_214 (hsh _ _ rfl) (by omega) (by omega) ?_
            refine R_aload_n (pc := 215) dX8_fewest_215 rfl ?_
            refine R_getR (pc := 216) dX8_fewest_216 fl_RX8_22 rfl (hsh _ _ rfl) rfl ?_
            refine R_iconst (pc := 219) dX8_fewest_219 ?_
            refine R_iload (pc := 220) dX8_fewest_220 rfl ?_
            refine R_iconst (pc := 222) dX8_fewest_222 ?_
            refine R_cmp_ne (pc := 223) (tgt := 231) dX8_fewest_223 (by decide) (by omega) (fun h_223 => ?_) (fun h_223 => ?_)
            · refine R_iload (pc := 231) dX8_fewest_231 rfl ?_
              refine R_iast (pc := 233) dX8_fewest_233 (hsh _ _ rfl) (by omega) (by omega) ?_
              refine R_aload_n (pc := 234) dX8_fewest_234 rfl ?_
              refine R_getR (pc := 235) dX8_fewest_235 fl_RX8_22 rfl (hsh _ _ rfl) rfl ?_
              refine R_iconst (pc := 238) dX8_fewest_238 ?_
              refine R_iload (pc := 239) dX8_fewest_239 rfl ?_
              refine R_iast (pc := 241) dX8_fewest_241 (hsh _ _ rfl) (by omega) (by omega) ?_
              refine R_iload (pc := 242) dX8_fewest_242 rfl ?_
              refine R_iret (pc := 244) dX8_fewest_244 ?_
              have htrue : gl mo g v (rnF mo n ro c) = true := by
                by_cases hq : gl mo g v (rnF mo n ro c) = true
                · exact hq
                · rw [if_neg hq] at h_204; omega
              have hval : fw mo g v n ro = c := fw_is hA.1 h1 (by rw [← hR]; exact hcl) htrue hb
              have hfew : few mo g v ro = z := by
                unfold few
                have hhit : 0 ≤ fw mo g v n ro := by rw [hval]; exact h1
                rcases (show n = 1 ∨ n = 2 ∨ n = 3 by omega) with rfl | rfl | rfl
                · rw [if_neg (by rw [hno 0 (by omega)]; omega), if_pos hhit]; omega
                · rw [if_neg (by rw [hno 0 (by omega)]; omega), if_neg (by rw [hno 1 (by omega)]; omega), if_pos hhit]; omega
                · rw [if_neg (by rw [hno 0 (by omega)]; omega), if_neg (by rw [hno 1 (by omega)]; omega), if_neg (by rw [hno 2 (by omega)]; omega), if_pos hhit]; omega
              refine ⟨by rw [hfew], FrM_up (FrM_up (FrM_up hFP (by unfold SM; omega)) (by unfold SM; omega)) (by unfold SM; omega), fun j hj => ?_⟩
              rw [hfew] at hj ⊢
              rw [show z.toNat = n by omega, hval]
              generalize hE : up (up (up (putM N' 247 (rnF mo n ro c)) 77 0 (fdg (nAll mo) z c)) 77 1 _) 77 2 (c % nAll mo) = E
              have w0 : E 77 0 = fdg (nAll mo) n c := by rw [← hE, up_j (by omega), up_j (by omega), up_s, hz]
              have w1 : E 77 1 = if (n : Int) = 3 then c / nAll mo % nAll mo else c % nAll mo := by
                rw [← hE, up_j (by omega), up_s]
                first | rw [if_pos (by omega)] | rw [if_neg (by omega)]
              have w2 : E 77 2 = c % nAll mo := by rw [← hE, up_s]
              refine ⟨dgt_row (f := E 77) hApos h1 ⟨hn1, hn3⟩ (by rw [← hR]; exact hcl) w0 w1 w2 j (by omega), ?_⟩
              rcases (show j = 0 ∨ j = 1 ∨ j = 2 by omega) with rfl | rfl | rfl
              · show 0 ≤ E 77 0 ∧ E 77 0 < nAll mo
                rw [w0, ← hz]; exact hfd
              · show 0 ≤ E 77 1 ∧ E 77 1 < nAll mo
                rw [w1]; split <;> omega
              · show 0 ≤ E 77 2 ∧ E 77 2 < nAll mo
                rw [w2]; omega
            · refine R_iload (pc := 226) dX8_fewest_226 rfl ?_
              refine R_goto (pc := 228) (tgt := 233) dX8_fewest_228 (by decide) ?_
              refine R_iast (pc := 233) dX8_fewest_233 (hsh _ _ rfl) (by omega) (by omega) ?_
              refine R_aload_n (pc := 234) dX8_fewest_234 rfl ?_
              refine R_getR (pc := 235) dX8_fewest_235 fl_RX8_22 rfl (hsh _ _ rfl) rfl ?_
              refine R_iconst (pc := 238) dX8_fewest_238 ?_
              refine R_iload (pc := 239) dX8_fewest_239 rfl ?_
              refine R_iast (pc := 241) dX8_fewest_241 (hsh _ _ rfl) (by omega) (by omega) ?_
              refine R_iload (pc := 242) dX8_fewest_242 rfl ?_
              refine R_iret (pc := 244) dX8_fewest_244 ?_
              have htrue : gl mo g v (rnF mo n ro c) = true := by
                by_cases hq : gl mo g v (rnF mo n ro c) = true
                · exact hq
                · rw [if_neg hq] at h_204; omega
              have hval : fw mo g v n ro = c := fw_is hA.1 h1 (by rw [← hR]; exact hcl) htrue hb
              have hfew : few mo g v ro = z := by
                unfold few
                have hhit : 0 ≤ fw mo g v n ro := by rw [hval]; exact h1
                rcases (show n = 1 ∨ n = 2 ∨ n = 3 by omega) with rfl | rfl | rfl
                · rw [if_neg (by rw [hno 0 (by omega)]; omega), if_pos hhit]; omega
                · rw [if_neg (by rw [hno 0 (by omega)]; omega), if_neg (by rw [hno 1 (by omega)]; omega), if_pos hhit]; omega
                · rw [if_neg (by rw [hno 0 (by omega)]; omega), if_neg (by rw [hno 1 (by omega)]; omega), if_neg (by rw [hno 2 (by omega)]; omega), if_pos hhit]; omega
              refine ⟨by rw [hfew], FrM_up (FrM_up (FrM_up hFP (by unfold SM; omega)) (by unfold SM; omega)) (by unfold SM; omega), fun j hj => ?_⟩
              rw [hfew] at hj ⊢
              rw [show z.toNat = n by omega, hval]
              generalize hE : up (up (up (putM N' 247 (rnF mo n ro c)) 77 0 (fdg (nAll mo) z c)) 77 1 _) 77 2 (c % nAll mo) = E
              have w0 : E 77 0 = fdg (nAll mo) n c := by rw [← hE, up_j (by omega), up_j (by omega), up_s, hz]
              have w1 : E 77 1 = if (n : Int) = 3 then c / nAll mo % nAll mo else c % nAll mo := by
                rw [← hE, up_j (by omega), up_s]
                first | rw [if_pos (by omega)] | rw [if_neg (by omega)]
              have w2 : E 77 2 = c % nAll mo := by rw [← hE, up_s]
              refine ⟨dgt_row (f := E 77) hApos h1 ⟨hn1, hn3⟩ (by rw [← hR]; exact hcl) w0 w1 w2 j (by omega), ?_⟩
              rcases (show j = 0 ∨ j = 1 ∨ j = 2 by omega) with rfl | rfl | rfl
              · show 0 ≤ E 77 0 ∧ E 77 0 < nAll mo
                rw [w0, ← hz]; exact hfd
              · show 0 ≤ E 77 1 ∧ E 77 1 < nAll mo
                rw [w1]; split <;> omega
              · show 0 ≤ E 77 2 ∧ E 77 2 < nAll mo
                rw [w2]; omega
        have hfin1 : ∀ (N' : Mem) (bef' : Int), FrM M N' → (n = 1 ∨ (bef' = c / nAll mo ∧ roM N' 228 = rnF mo (n - 1) ro (c / nAll mo))) → inR bef' → MW yX8_fewest cX8_fewest 12 (some .int) (rmD 4 0 0) (FM (QFm mo g v ro M) b sh 0 0) b sh.length 0 0 173 [some (vr b 72), some (vi g), some (vi v), some (vi (nAll mo)), some (vi z), some (vi R), some (vi bef'), some (vi c), some (vi (c % nAll mo)), some (vi (c / nAll mo % nAll mo)), some (vi (fdg (nAll mo) z c)), some (vi (c / nAll mo))] [] sh (N') := by
          intro N' bef' hF' hc' hbr'
          obtain ⟨g1, g2, g3, g4⟩ := frm_k hI hF'
          rw [hro] at g4
          by_cases hz1 : z = 1
          · have hn1' : n = 1 := by omega
            have hx := hfin N' 0 bef' hF' (fun _ => rfl) (fun q => absurd hz1 q) (by rw [g4, hn1']; rfl) (Or.inl hn1') hbr'
            refine R_aload_n (pc := 173) dX8_fewest_173 rfl ?_
            refine R_iload (pc := 174) dX8_fewest_174 rfl ?_
            refine R_iconst (pc := 176) dX8_fewest_176 ?_
            refine R_cmp_ne (pc := 177) (tgt := 184) dX8_fewest_177 (by decide) (by omega) (fun h_177 => ?_) (fun h_177 => ?_)
            · exact absurd hz1 h_177
            · refine R_iconst (pc := 180) dX8_fewest_180 ?_
              refine R_goto (pc := 181) (tgt := 187) dX8_fewest_181 (by decide) ?_
              exact hx
          · have hc2 := hc'.resolve_left (by omega)
            have hx := hfin N' 228 bef' hF' (fun q => absurd q hz1) (fun _ => rfl) hc2.2 (Or.inr ⟨by omega, by omega, Or.inr (by rw [hc2.1]; exact hc2.2)⟩) hbr'
            refine R_aload_n (pc := 173) dX8_fewest_173 rfl ?_
            refine R_iload (pc := 174) dX8_fewest_174 rfl ?_
            refine R_iconst (pc := 176) dX8_fewest_176 ?_
            refine R_cmp_ne (pc := 177) (tgt := 184) dX8_fewest_177 (by decide) (by omega) (fun h_177 => ?_) (fun h_177 => ?_)
            · refine R_sipush (pc := 184) dX8_fewest_184 rfl ?_
              exact hx
            · exact absurd h_177 hz1
        have hmid : ∀ F0, F0 = fdg (nAll mo) z c → MW yX8_fewest cX8_fewest 12 (some .int) (rmD 4 0 0) (FM (QFm mo g v ro M) b sh 0 0) b sh.length 0 0 110 [some (vr b 72), some (vi g), some (vi v), some (vi (nAll mo)), some (vi z), some (vi R), some (vi bef), some (vi c), some (vi (c % nAll mo)), some (vi (c / nAll mo % nAll mo)), none, none] [vi F0] sh (N) := by
          intro F0 hF0
          rw [hF0]
          by_cases hz1 : z = 1
          · have hx := hfin1 N bef hF (Or.inl (by omega)) hbr
            refine R_istore (pc := 110) dX8_fewest_110 (by decide) rfl rfl ?_
            refine R_iload (pc := 112) dX8_fewest_112 rfl ?_
            refine R_iload_n (pc := 114) dX8_fewest_114 rfl ?_
            refine R_idiv (pc := 115) dX8_fewest_115 (by omega) ?_
            refine R_istore (pc := 116) dX8_fewest_116 (by decide) rfl rfl ?_
            refine R_iload (pc := 118) dX8_fewest_118 rfl ?_
            refine R_iconst (pc := 120) dX8_fewest_120 ?_
            refine R_cmp_le (pc := 121) (tgt := 173) dX8_fewest_121 (by decide) (by omega) (fun h_121 => ?_) (fun h_121 => ?_)
            · exact hx
            · exact absurd h_121 (by omega)
          · have hb2 := hbf.resolve_left (by omega)
            by_cases hsame : c / nAll mo = bef
            · have hx := hfin1 N bef hF (Or.inr ⟨hsame.symm, by rw [hsame]; exact hb2.2.2.resolve_left (by omega)⟩) hbr
              refine R_istore (pc := 110) dX8_fewest_110 (by decide) rfl rfl ?_
              refine R_iload (pc := 112) dX8_fewest_112 rfl ?_
              refine R_iload_n (pc := 114) dX8_fewest_114 rfl ?_
              refine R_idiv (pc := 115) dX8_fewest_115 (by omega) ?_
              refine R_istore (pc := 116) dX8_fewest_116 (by decide) rfl rfl ?_
              refine R_iload (pc := 118) dX8_fewest_118 rfl ?_
              refine R_iconst (pc := 120) dX8_fewest_120 ?_
              refine R_cmp_le (pc := 121) (tgt := 173) dX8_fewest_121 (by decide) (by omega) (fun h_121 => ?_) (fun h_121 => ?_)
              · exact absurd h_121 (by omega)
              · refine R_iload (pc := 124) dX8_fewest_124 rfl ?_
                refine R_iload (pc := 126) dX8_fewest_126 rfl ?_
                refine R_cmp_eq (pc := 128) (tgt := 173) dX8_fewest_128 (by decide) (by omega) (fun h_128 => ?_) (fun h_128 => ?_)
                · exact hx
                · exact absurd hsame h_128
            · have ht1 := j_tries b sh N hsh (by rw [k3]; exact hm) 0 209 (fdg (nAll mo) z c) (by omega) (by omega) (by omega) (by rw [k4]; exact hr) (by rw [k3]; exact hfd)
              rw [k3, k4] at ht1
              have hw1 : WFr (stp mo ro (fdg (nAll mo) z c)) B := (bend_in hm hr).1
              generalize hX : stp mo ro (fdg (nAll mo) z c) = X at ht1 hw1
              have hc1 := j_copy b sh (putM N 209 X) hsh 209 228 (by omega) (by omega) (by omega)
              rw [ro_pm hw1.2.2.2.2.1] at hc1
              generalize hP : putM (putM N 209 X) 228 X = P at hc1
              have hFP : FrM M P := by rw [← hP]; exact FrM_pm (FrM_pm hF (by omega)) (by omega)
              have r209 : roM P 209 = X := by rw [← hP, ro_pmo (by omega)]; exact ro_pm hw1.2.2.2.2.1
              have r228 : roM P 228 = X := by rw [← hP]; exact ro_pm hw1.2.2.2.2.1
              obtain ⟨g1, g2, g3, g4⟩ := frm_k hI hFP
              rw [hmo] at g3
              by_cases hz3 : z = 3
              · have en : n = 3 := by omega
                have ht2 := j_tries b sh P hsh (by rw [g3]; exact hm) 209 228 (c / nAll mo % nAll mo) (by omega) (by omega) (by omega) (by rw [r209]; exact hw1) (by rw [g3]; exact ⟨hm0, hm1⟩)
                rw [g3, r209] at ht2
                have hw2 : WFr (stp mo X (c / nAll mo % nAll mo)) B := (bend_in hm hw1).1
                have hx := hfin1 (putM P 228 (stp mo X (c / nAll mo % nAll mo))) (c / nAll mo) (FrM_pm hFP (by omega)) (Or.inr ⟨rfl, by
                  rw [ro_pm hw2.2.2.2.2.1, en, ← hX]
                  have e1 := rnF_l hApos 1 ro (c / nAll mo) hq0
                  rw [if_neg (by omega)] at e1
                  have e2 := rnF_l hApos 0 ro (c / nAll mo / nAll mo) hf0
                  rw [if_pos rfl] at e2
                  show _ = rnF mo 2 ro (c / nAll mo)
                  rw [e1, e2]
                  have e3 : fdg (nAll mo) z c = c / nAll mo / nAll mo := by unfold fdg; rw [if_pos hz3]
                  rw [e3]
                  rfl⟩) (by omega)
                refine R_istore (pc := 110) dX8_fewest_110 (by decide) rfl rfl ?_
                refine R_iload (pc := 112) dX8_fewest_112 rfl ?_
                refine R_iload_n (pc := 114) dX8_fewest_114 rfl ?_
                refine R_idiv (pc := 115) dX8_fewest_115 (by omega) ?_
                refine R_istore (pc := 116) dX8_fewest_116 (by decide) rfl rfl ?_
                refine R_iload (pc := 118) dX8_fewest_118 rfl ?_
                refine R_iconst (pc := 120) dX8_fewest_120 ?_
                refine R_cmp_le (pc := 121) (tgt := 173) dX8_fewest_121 (by decide) (by omega) (fun h_121 => ?_) (fun h_121 => ?_)
                · exact absurd h_121 (by omega)
                · refine R_iload (pc := 124) dX8_fewest_124 rfl ?_
                  refine R_iload (pc := 126) dX8_fewest_126 rfl ?_
                  refine R_cmp_eq (pc := 128) (tgt := 173) dX8_fewest_128 (by decide) (by omega) (fun h_128 => ?_) (fun h_128 => ?_)
                  · exact absurd h_128 hsame
                  · refine R_aload_n (pc := 131) dX8_fewest_131 rfl ?_
                    refine R_iconst (pc := 132) dX8_fewest_132 ?_
                    refine R_sipush (pc := 133) dX8_fewest_133 rfl ?_
                    refine R_iload (pc := 136) dX8_fewest_136 rfl ?_
                    refine R_V3v (pc := 138) dX8_fewest_138 sv_RX8_202 (hsh _ _ rfl) (ht1) (Nat.le_of_ble_eq_true rfl) (by decide) ?_
                    refine R_aload_n (pc := 141) dX8_fewest_141 rfl ?_
                    refine R_sipush (pc := 142) dX8_fewest_142 rfl ?_
                    refine R_sipush (pc := 145) dX8_fewest_145 rfl ?_
                    refine R_V2v (pc := 148) dX8_fewest_148 sv_RX8_174 (hsh _ _ rfl) (hc1) (Nat.le_of_ble_eq_true rfl) (by decide) ?_
                    refine R_iload (pc := 151) dX8_fewest_151 rfl ?_
                    refine R_iconst (pc := 153) dX8_fewest_153 ?_
                    refine R_cmp_ne (pc := 154) (tgt := 169) dX8_fewest_154 (by decide) (by omega) (fun h_154 => ?_) (fun h_154 => ?_)
                    · exact absurd hz3 h_154
                    · refine R_aload_n (pc := 157) dX8_fewest_157 rfl ?_
                      refine R_sipush (pc := 158) dX8_fewest_158 rfl ?_
                      refine R_sipush (pc := 161) dX8_fewest_161 rfl ?_
                      refine R_iload (pc := 164) dX8_fewest_164 rfl ?_
                      refine R_V3v (pc := 166) dX8_fewest_166 sv_RX8_202 (hsh _ _ rfl) (ht2) (Nat.le_of_ble_eq_true rfl) (by decide) ?_
                      refine R_iload (pc := 169) dX8_fewest_169 rfl ?_
                      refine R_istore (pc := 171) dX8_fewest_171 (by decide) rfl rfl ?_
                      exact hx
              · have en : n = 2 := by omega
                have hx := hfin1 P (c / nAll mo) hFP (Or.inr ⟨rfl, by
                  rw [r228, en, ← hX]
                  have e2 := rnF_l hApos 0 ro (c / nAll mo) hq0
                  rw [if_pos rfl] at e2
                  show _ = rnF mo 1 ro (c / nAll mo)
                  rw [e2]
                  have e3 : fdg (nAll mo) z c = c / nAll mo := by
                    unfold fdg
                    rw [if_neg hz3, if_pos (by omega)]
                    exact c2 en
                  rw [e3]
                  rfl⟩) (by omega)
                refine R_istore (pc := 110) dX8_fewest_110 (by decide) rfl rfl ?_
                refine R_iload (pc := 112) dX8_fewest_112 rfl ?_
                refine R_iload_n (pc := 114) dX8_fewest_114 rfl ?_
                refine R_idiv (pc := 115) dX8_fewest_115 (by omega) ?_
                refine R_istore (pc := 116) dX8_fewest_116 (by decide) rfl rfl ?_
                refine R_iload (pc := 118) dX8_fewest_118 rfl ?_
                refine R_iconst (pc := 120) dX8_fewest_120 ?_
                refine R_cmp_le (pc := 121) (tgt := 173) dX8_fewest_121 (by decide) (by omega) (fun h_121 => ?_) (fun h_121 => ?_)
                · exact absurd h_121 (by omega)
                · refine R_iload (pc := 124) dX8_fewest_124 rfl ?_
                  refine R_iload (pc := 126) dX8_fewest_126 rfl ?_
                  refine R_cmp_eq (pc := 128) (tgt := 173) dX8_fewest_128 (by decide) (by omega) (fun h_128 => ?_) (fun h_128 => ?_)
                  · exact absurd h_128 hsame
                  · refine R_aload_n (pc := 131) dX8_fewest_131 rfl ?_
                    refine R_iconst (pc := 132) dX8_fewest_132 ?_
                    refine R_sipush (pc := 133) dX8_fewest_133 rfl ?_
                    refine R_iload (pc := 136) dX8_fewest_136 rfl ?_
                    refine R_V3v (pc := 138) dX8_fewest_138 sv_RX8_202 (hsh _ _ rfl) (ht1) (Nat.le_of_ble_eq_true rfl) (by decide) ?_
                    refine R_aload_n (pc := 141) dX8_fewest_141 rfl ?_
                    refine R_sipush (pc := 142) dX8_fewest_142 rfl ?_
                    refine R_sipush (pc := 145) dX8_fewest_145 rfl ?_
                    refine R_V2v (pc := 148) dX8_fewest_148 sv_RX8_174 (hsh _ _ rfl) (hc1) (Nat.le_of_ble_eq_true rfl) (by decide) ?_
                    refine R_iload (pc := 151) dX8_fewest_151 rfl ?_
                    refine R_iconst (pc := 153) dX8_fewest_153 ?_
                    refine R_cmp_ne (pc := 154) (tgt := 169) dX8_fewest_154 (by decide) (by omega) (fun h_154 => ?_) (fun h_154 => ?_)
                    · refine R_iload (pc := 169) dX8_fewest_169 rfl ?_
                      refine R_istore (pc := 171) dX8_fewest_171 (by decide) rfl rfl ?_
                      exact hx
                    · exact absurd h_154 hz3
        refine R_iload (pc := 61) dX8_fewest_61 rfl ?_
        refine R_iload (pc := 63) dX8_fewest_63 rfl ?_
        refine R_cmp_ge (pc := 65) (tgt := 251) dX8_fewest_65 (by decide) (by omega) (fun h_65 => ?_) (fun h_65 => ?_)
        · exact absurd h_65 (by omega)
        · refine R_iload (pc := 68) dX8_fewest_68 rfl ?_
          refine R_iload_n (pc := 70) dX8_fewest_70 rfl ?_
          refine R_irem (pc := 71) dX8_fewest_71 (by omega) ?_
          refine R_istore (pc := 72) dX8_fewest_72 (by decide) rfl rfl ?_
          refine R_iload (pc := 74) dX8_fewest_74 rfl ?_
          refine R_iload_n (pc := 76) dX8_fewest_76 rfl ?_
          refine R_idiv (pc := 77) dX8_fewest_77 (by omega) ?_
          refine R_iload_n (pc := 78) dX8_fewest_78 rfl ?_
          refine R_irem (pc := 79) dX8_fewest_79 (by omega) ?_
          refine R_istore (pc := 80) dX8_fewest_80 (by decide) rfl rfl ?_
          refine R_iload (pc := 82) dX8_fewest_82 rfl ?_
          refine R_iconst (pc := 84) dX8_fewest_84 ?_
          refine R_cmp_ne (pc := 85) (tgt := 97) dX8_fewest_85 (by decide) (by omega) (fun h_85 => ?_) (fun h_85 => ?_)
          · refine R_iload (pc := 97) dX8_fewest_97 rfl ?_
            refine R_iconst (pc := 99) dX8_fewest_99 ?_
            refine R_cmp_ne (pc := 100) (tgt := 108) dX8_fewest_100 (by decide) (by omega) (fun h_100 => ?_) (fun h_100 => ?_)
            · refine R_iload (pc := 108) dX8_fewest_108 rfl ?_
              first
                | exact hmid _ (by unfold fdg; rw [if_pos h_85])
                | exact hmid _ (by unfold fdg; rw [if_neg h_85, if_pos h_100])
                | exact hmid _ (by unfold fdg; rw [if_neg h_85, if_neg h_100])
            · refine R_iload (pc := 103) dX8_fewest_103 rfl ?_
              refine R_goto (pc := 105) (tgt := 110) dX8_fewest_105 (by decide) ?_
              first
                | exact hmid _ (by unfold fdg; rw [if_pos h_85])
                | exact hmid _ (by unfold fdg; rw [if_neg h_85, if_pos h_100])
                | exact hmid _ (by unfold fdg; rw [if_neg h_85, if_neg h_100])
          · refine R_iload (pc := 88) dX8_fewest_88 rfl ?_
            refine R_iload_n (pc := 90) dX8_fewest_90 rfl ?_
            refine R_idiv (pc := 91) dX8_fewest_91 (by omega) ?_
            refine R_iload_n (pc := 92) dX8_fewest_92 rfl ?_
            refine R_idiv (pc := 93) dX8_fewest_93 (by omega) ?_
            refine R_goto (pc := 94) (tgt := 110) dX8_fewest_94 (by decide) ?_
            first
              | exact hmid _ (by unfold fdg; rw [if_pos h_85])
              | exact hmid _ (by unfold fdg; rw [if_neg h_85, if_pos h_100])
              | exact hmid _ (by unfold fdg; rw [if_neg h_85, if_neg h_100])
      · have ec : c = R := by omega
        have hx := hend N hF (fw_no hA.1 (by rw [← hR, ← ec]; exact hb))
        refine R_iload (pc := 61) dX8_fewest_61 rfl ?_
        refine R_iload (pc := 63) dX8_fewest_63 rfl ?_
        refine R_cmp_ge (pc := 65) (tgt := 251) dX8_fewest_65 (by decide) (by omega) (fun h_65 => ?_) (fun h_65 => ?_)
        · refine R_drop 5 rfl ?_
          refine R_drop 6 rfl ?_
          refine R_drop 7 rfl ?_
          exact hx
        · exact absurd h_65 (by omega)
  -- the lengths
  have LO : ∀ (m n : Nat) (z : Int) (N : Mem), z = n → 1 ≤ n → n ≤ 4 → 4 - n < m → FrM M N → (∀ k : Nat, k < n → fw mo g v k ro = -1) → MW yX8_fewest cX8_fewest 12 (some .int) (rmD 4 0 0) (FM (QFm mo g v ro M) b sh 0 0) b sh.length 0 0 20 [some (vr b 72), some (vi g), some (vi v), some (vi (nAll mo)), some (vi z), none, none, none, none, none, none, none] [] sh (N) := by
    intro m
    induction m with
    | zero => intro n z N h0 h1 h2 h3; exact absurd h3 (by omega)
    | succ m ihO =>
      intro n z N h0 h1 h2 h3 hF hno
      by_cases hn : n ≤ 3
      · have hend : ∀ N, FrM M N → fw mo g v n ro = -1 → MW yX8_fewest cX8_fewest 12 (some .int) (rmD 4 0 0) (FM (QFm mo g v ro M) b sh 0 0) b sh.length 0 0 251 [some (vr b 72), some (vi g), some (vi v), some (vi (nAll mo)), some (vi z), none, none, none, none, none, none, none] [] sh (N) := by
          intro N hF hn1
          refine R_iinc (pc := 251) dX8_fewest_251 rfl (by decide) rfl rfl ?_
          refine R_goto (pc := 254) (tgt := 20) dX8_fewest_254 (by decide) ?_
          refine ihO (n + 1) (z + 1) N (by omega) (by omega) (by omega) (by omega) hF (fun k hk => ?_)
          by_cases hkn : k = n
          · rw [hkn]; exact hn1
          · exact hno k (by omega)
        have hgo : ∀ R, R = nAll mo ^ n → 0 ≤ R ∧ R ≤ 13824 → MW yX8_fewest cX8_fewest 12 (some .int) (rmD 4 0 0) (FM (QFm mo g v ro M) b sh 0 0) b sh.length 0 0 61 [some (vr b 72), some (vi g), some (vi v), some (vi (nAll mo)), some (vi z), some (vi R), some (vi (-1)), some (vi 0), none, none, none, none] [] sh (N) := fun R hR hR2 => LI n z R h0 h1 hn hR hR2 hno hend 14000 0 (-1) N (by omega) (by omega) (by omega) hF (fun d d0 d1 => by omega) (Or.inr ⟨by omega, by omega, Or.inl rfl⟩) (by omega)
        have p1 : nAll mo ^ 1 = nAll mo := by rw [Int.pow_succ, Int.pow_zero, Int.one_mul]
        have p2 : nAll mo ^ 2 = nAll mo * nAll mo := by rw [Int.pow_succ, p1]
        have p3 : nAll mo ^ 3 = nAll mo * nAll mo * nAll mo := by rw [Int.pow_succ, p2]
        refine R_iload (pc := 20) dX8_fewest_20 rfl ?_
        refine R_iconst (pc := 22) dX8_fewest_22 ?_
        refine R_cmp_ge (pc := 23) (tgt := 257) dX8_fewest_23 (by decide) (by omega) (fun h_23 => ?_) (fun h_23 => ?_)
        · exact absurd h_23 (by omega)
        · refine R_iload (pc := 26) dX8_fewest_26 rfl ?_
          refine R_iconst (pc := 28) dX8_fewest_28 ?_
          refine R_cmp_ne (pc := 29) (tgt := 36) dX8_fewest_29 (by decide) (by omega) (fun h_29 => ?_) (fun h_29 => ?_)
          · refine R_iload (pc := 36) dX8_fewest_36 rfl ?_
            refine R_iconst (pc := 38) dX8_fewest_38 ?_
            refine R_cmp_ne (pc := 39) (tgt := 48) dX8_fewest_39 (by decide) (by omega) (fun h_39 => ?_) (fun h_39 => ?_)
            · refine R_iload_n (pc := 48) dX8_fewest_48 rfl ?_
              refine R_iload_n (pc := 49) dX8_fewest_49 rfl ?_
              refine R_imul (pc := 50) dX8_fewest_50 ?_
              refine R_iload_n (pc := 51) dX8_fewest_51 rfl ?_
              refine R_imul (pc := 52) dX8_fewest_52 ?_
              refine R_istore (pc := 53) dX8_fewest_53 (by decide) rfl rfl ?_
              refine R_iconst (pc := 55) dX8_fewest_55 ?_
              refine R_istore (pc := 56) dX8_fewest_56 (by decide) rfl rfl ?_
              refine R_iconst (pc := 58) dX8_fewest_58 ?_
              refine R_istore (pc := 59) dX8_fewest_59 (by decide) rfl rfl ?_
              first
                | exact hgo _ (by rw [show n = 1 by omega, p1]) (by omega)
                | exact hgo _ (by rw [show n = 2 by omega, p2]) (by omega)
                | exact hgo _ (by rw [show n = 3 by omega, p3]) (by omega)
            · refine R_iload_n (pc := 42) dX8_fewest_42 rfl ?_
              refine R_iload_n (pc := 43) dX8_fewest_43 rfl ?_
              refine R_imul (pc := 44) dX8_fewest_44 ?_
              refine R_goto (pc := 45) (tgt := 53) dX8_fewest_45 (by decide) ?_
              refine R_istore (pc := 53) dX8_fewest_53 (by decide) rfl rfl ?_
              refine R_iconst (pc := 55) dX8_fewest_55 ?_
              refine R_istore (pc := 56) dX8_fewest_56 (by decide) rfl rfl ?_
              refine R_iconst (pc := 58) dX8_fewest_58 ?_
              refine R_istore (pc := 59) dX8_fewest_59 (by decide) rfl rfl ?_
              first
                | exact hgo _ (by rw [show n = 1 by omega, p1]) (by omega)
                | exact hgo _ (by rw [show n = 2 by omega, p2]) (by omega)
                | exact hgo _ (by rw [show n = 3 by omega, p3]) (by omega)
          · refine R_iload_n (pc := 32) dX8_fewest_32 rfl ?_
            refine R_goto (pc := 33) (tgt := 53) dX8_fewest_33 (by decide) ?_
            refine R_istore (pc := 53) dX8_fewest_53 (by decide) rfl rfl ?_
            refine R_iconst (pc := 55) dX8_fewest_55 ?_
            refine R_istore (pc := 56) dX8_fewest_56 (by decide) rfl rfl ?_
            refine R_iconst (pc := 58) dX8_fewest_58 ?_
            refine R_istore (pc := 59) dX8_fewest_59 (by decide) rfl rfl ?_
            first
              | exact hgo _ (by rw [show n = 1 by omega, p1]) (by omega)
              | exact hgo _ (by rw [show n = 2 by omega, p2]) (by omega)
              | exact hgo _ (by rw [show n = 3 by omega, p3]) (by omega)
      · have en : n = 4 := by omega
        subst en
        refine R_iload (pc := 20) dX8_fewest_20 rfl ?_
        refine R_iconst (pc := 22) dX8_fewest_22 ?_
        refine R_cmp_ge (pc := 23) (tgt := 257) dX8_fewest_23 (by decide) (by omega) (fun h_23 => ?_) (fun h_23 => ?_)
        · refine R_bipush (pc := 257) dX8_fewest_257 rfl ?_
          refine R_iret (pc := 259) dX8_fewest_259 ?_
          have hfew : few mo g v ro = -4 := by
            unfold few
            rw [if_neg (by rw [hno 0 (by omega)]; omega), if_neg (by rw [hno 1 (by omega)]; omega), if_neg (by rw [hno 2 (by omega)]; omega), if_neg (by rw [hno 3 (by omega)]; omega)]
          exact ⟨by rw [hfew], hF, fun j hj => by rw [hfew] at hj; omega⟩
        · exact absurd h_23 (by omega)
  have hso := j_isSo b sh M hsh 0 (by omega) (by rw [hmo]; exact hm) ro hr g v hg hv
  rw [hmo, ← hro, pm_self, hro] at hso
  have hwm := j_walksMany b sh M hsh
  rw [hmo] at hwm
  have efw : fw mo g v 0 ro = if gl mo g v ro = true then 0 else -1 := rfl
  refine MC_of (ls := [some (vr b 72), some (vi g), some (vi v), none, none, none, none, none, none, none, none, none]) (by decide) rfl (Nat.le_of_ble_eq_true rfl) ?_
  refine R_aload_n (pc := 0) dX8_fewest_0 rfl ?_
  refine R_iconst (pc := 1) dX8_fewest_1 ?_
  refine R_iload_n (pc := 2) dX8_fewest_2 rfl ?_
  refine R_iload_n (pc := 3) dX8_fewest_3 rfl ?_
  refine R_V3i (pc := 4) dX8_fewest_4 sv_RX8_196 (hsh _ _ rfl) (hso) (Nat.le_of_ble_eq_true rfl) (by decide) ?_
  refine R_if_eq (pc := 7) (tgt := 12) dX8_fewest_7 (by decide) (by split <;> omega) (fun h_7 => ?_) (fun h_7 => ?_)
  · refine R_aload_n (pc := 12) dX8_fewest_12 rfl ?_
    refine R_V0i (pc := 13) dX8_fewest_13 sv_RX8_199 (hsh _ _ rfl) (hwm) (Nat.le_of_ble_eq_true rfl) (by decide) ?_
    refine R_istore_n (pc := 16) dX8_fewest_16 (by decide) rfl rfl ?_
    refine R_iconst (pc := 17) dX8_fewest_17 ?_
    refine R_istore (pc := 18) dX8_fewest_18 (by decide) rfl rfl ?_
    refine LO 10 1 1 M rfl (by omega) (by omega) (by omega) FrM_r (fun k hk => ?_)
    rw [show k = 0 by omega, efw]
    by_cases hq : gl mo g v ro = true
    · rw [if_pos hq] at h_7; omega
    · rw [if_neg hq]
  · refine R_iconst (pc := 10) dX8_fewest_10 ?_
    refine R_iret (pc := 11) dX8_fewest_11 ?_
    have htrue : gl mo g v ro = true := by
      by_cases hq : gl mo g v ro = true
      · exact hq
      · rw [if_neg hq] at h_7; omega
    have hfew : few mo g v ro = 0 := by
      unfold few
      rw [efw, if_pos htrue, if_pos (by omega)]
    exact ⟨by rw [hfew], FrM_r, fun j hj => by rw [hfew] at hj; omega⟩
theorem j_door (b : Nat) (sh : Shp) (M : Mem) {B : Int} (hsh : Hm sh) (hI : IS (absM M) B) (i y k : Int) (hi : inR i) (hy : inR y) (hk : inR k) : C0 5 mX8_door b sh M [vr b 72, vi i, vi y, vi k] (QM M (absM M) (a_door (absM M) i y k)) := by
  have hn : 5 ≤ moM M 0 0 ∧ moM M 0 0 ≤ 16 := hI.1.1
  have hT : 0 ≤ moM M 0 2 ∧ moM M 0 2 ≤ 6 := hI.1.2.2.1
  have hm : WFm (moM M) := hI.1
  have hA : 0 ≤ nAll (moM M) ∧ nAll (moM M) ≤ 24 := nAll_in hm
  have ea : a_door (absM M) i y k = if (0 ≤ i ∧ i ≤ moM M 0 0 - 1) ∧ (0 ≤ y ∧ y ≤ 60) ∧ 0 ≤ k ∧ k ≤ 3 then (if k = 0 then few (moM M) i y (roM M 0) else if k ≤ few (moM M) i y (roM M 0) then rowD (moM M) i y (roM M 0) k else -4) else -1 := rfl
  have hfi := few_in (mo := moM M) (g := i) (v := y) (ro := roM M 0)
  refine MC_of (ls := [some (vr b 72), some (vi i), some (vi y), some (vi k), none]) (by decide) rfl (Nat.le_of_ble_eq_true rfl) ?_
  refine R_aload_n (pc := 0) dX8_door_0 rfl ?_
  refine R_iload_n (pc := 1) dX8_door_1 rfl ?_
  refine R_V1i (pc := 2) dX8_door_2 sv_RX8_129 (hsh _ _ rfl) (j_isPost b sh M hsh i hi (by omega)) (Nat.le_of_ble_eq_true rfl) (by decide) ?_
  refine R_if_eq (pc := 5) (tgt := 27) dX8_door_5 (by decide) (by omega) (fun h_5 => ?_) (fun h_5 => ?_)
  · refine R_iconst (pc := 27) dX8_door_27 ?_
    refine R_iret (pc := 28) dX8_door_28 ?_
    exact QM_ro hI FrM_r (by rw [ea]; omega)
  · refine R_iload_n (pc := 8) dX8_door_8 rfl ?_
    refine R_S1i (pc := 9) dX8_door_9 ss_RX8_206 (j_isYard b sh M y hy) (Nat.le_of_ble_eq_true rfl) (by decide) ?_
    refine R_if_eq (pc := 12) (tgt := 27) dX8_door_12 (by decide) (by omega) (fun h_12 => ?_) (fun h_12 => ?_)
    · refine R_iconst (pc := 27) dX8_door_27 ?_
      refine R_iret (pc := 28) dX8_door_28 ?_
      exact QM_ro hI FrM_r (by rw [ea]; omega)
    · refine R_iload_n (pc := 15) dX8_door_15 rfl ?_
      refine R_i2l (pc := 16) dX8_door_16 (by omega) ?_
      refine R_lconst (pc := 17) dX8_door_17 (x := 0) rfl ?_
      refine R_ldc2 (pc := 18) (x := 3) dX8_door_18 kl_RX8_209 rfl ?_
      refine R_S3i (pc := 21) dX8_door_21 ss_RX8_69 (j_in b sh _ _ _ _ hk (by omega) (by omega)) (Nat.le_of_ble_eq_true rfl) (by decide) ?_
      refine R_if_ne (pc := 24) (tgt := 29) dX8_door_24 (by decide) (by omega) (fun h_24 => ?_) (fun h_24 => ?_)
      · refine R_aload_n (pc := 29) dX8_door_29 rfl ?_
        refine R_iload_n (pc := 30) dX8_door_30 rfl ?_
        refine R_iload_n (pc := 31) dX8_door_31 rfl ?_
        refine R_V2 (pc := 32) dX8_door_32 sv_RX8_211 (j_fewest b sh M hsh hI i y (by omega) (by omega)) (hsh _ _ rfl) (Nat.le_of_ble_eq_true rfl) (by decide) (fun v_32 M_32 hq_32 => ?_)
        obtain ⟨rfl, hF, hrow⟩ := hq_32
        refine R_istore (pc := 35) dX8_door_35 (by decide) rfl rfl ?_
        refine R_iload (pc := 37) dX8_door_37 rfl ?_
        refine R_bipush (pc := 39) dX8_door_39 rfl ?_
        refine R_cmp_eq (pc := 41) (tgt := 48) dX8_door_41 (by decide) (by omega) (fun h_41 => ?_) (fun h_41 => ?_)
        · refine R_iload (pc := 48) dX8_door_48 rfl ?_
          refine R_iret (pc := 50) dX8_door_50 ?_
          exact QM_ro hI hF (by rw [ea]; omega)
        · refine R_iload_n (pc := 44) dX8_door_44 rfl ?_
          refine R_if_ne (pc := 45) (tgt := 51) dX8_door_45 (by decide) (by omega) (fun h_45 => ?_) (fun h_45 => ?_)
          · refine R_iload_n (pc := 51) dX8_door_51 rfl ?_
            refine R_iload (pc := 52) dX8_door_52 rfl ?_
            refine R_cmp_le (pc := 54) (tgt := 62) dX8_door_54 (by decide) (by omega) (fun h_54 => ?_) (fun h_54 => ?_)
            · have hd := hrow (k - 1).toNat (by omega)
              rw [Int.toNat_of_nonneg (by omega)] at hd
              obtain ⟨hd, hd0, hd1⟩ := hd
              obtain ⟨hTp, hdw, hdt⟩ := cd_in hm hd0 hd1
              have eT : M_32 73 2 = moM M 0 2 := (hF _ _ (by unfold SM; omega)).trans mM_2
              refine R_bipush (pc := 62) dX8_door_62 rfl ?_
              refine R_aload_n (pc := 64) dX8_door_64 rfl ?_
              refine R_getR (pc := 65) dX8_door_65 fl_RX8_22 rfl (hsh _ _ rfl) rfl ?_
              refine R_iload_n (pc := 68) dX8_door_68 rfl ?_
              refine R_iconst (pc := 69) dX8_door_69 ?_
              refine R_isub (pc := 70) dX8_door_70 ?_
              refine R_iald (pc := 71) dX8_door_71 (hsh _ _ rfl) (by omega) (rfl) ?_
              refine R_aload_n (pc := 72) dX8_door_72 rfl ?_
              refine R_getR (pc := 73) dX8_door_73 fl_RX8_7 rfl (hsh _ _ rfl) rfl ?_
              refine R_iconst (pc := 76) dX8_door_76 ?_
              refine R_iald (pc := 77) dX8_door_77 (hsh _ _ rfl) (by omega) (eT) ?_
              refine R_idiv (pc := 78) dX8_door_78 (by omega) ?_
              refine R_imul (pc := 79) dX8_door_79 ?_
              refine R_aload_n (pc := 80) dX8_door_80 rfl ?_
              refine R_getR (pc := 81) dX8_door_81 fl_RX8_22 rfl (hsh _ _ rfl) rfl ?_
              refine R_iload_n (pc := 84) dX8_door_84 rfl ?_
              refine R_iconst (pc := 85) dX8_door_85 ?_
              refine R_isub (pc := 86) dX8_door_86 ?_
              refine R_iald (pc := 87) dX8_door_87 (hsh _ _ rfl) (by omega) (rfl) ?_
              refine R_aload_n (pc := 88) dX8_door_88 rfl ?_
              refine R_getR (pc := 89) dX8_door_89 fl_RX8_7 rfl (hsh _ _ rfl) rfl ?_
              refine R_iconst (pc := 92) dX8_door_92 ?_
              refine R_iald (pc := 93) dX8_door_93 (hsh _ _ rfl) (by omega) (eT) ?_
              refine R_irem (pc := 94) dX8_door_94 (by omega) ?_
              refine R_iadd (pc := 95) dX8_door_95 ?_
              refine R_iret (pc := 96) dX8_door_96 ?_
              first
                | exact QM_ro hI hF (by rw [ea]; omega)
                | exact QM_ro hI hF (by rw [ea, if_pos (by omega), if_neg (by omega), if_pos (by omega)]; unfold rowD; rw [hd])
            · refine R_bipush (pc := 57) dX8_door_57 rfl ?_
              refine R_goto (pc := 59) (tgt := 96) dX8_door_59 (by decide) ?_
              refine R_iret (pc := 96) dX8_door_96 ?_
              first
                | exact QM_ro hI hF (by rw [ea]; omega)
                | exact QM_ro hI hF (by rw [ea, if_pos (by omega), if_neg (by omega), if_pos (by omega)]; unfold rowD; rw [hd])
          · refine R_iload (pc := 48) dX8_door_48 rfl ?_
            refine R_iret (pc := 50) dX8_door_50 ?_
            exact QM_ro hI hF (by rw [ea]; omega)
      · refine R_iconst (pc := 27) dX8_door_27 ?_
        refine R_iret (pc := 28) dX8_door_28 ?_
        exact QM_ro hI FrM_r (by rw [ea]; omega)
theorem j_mile (b : Nat) (sh : Shp) (M : Mem) {B : Int} (hsh : Hm sh) (hI : IS (absM M) B) (m : Int) (hi : inR m) : C0 5 mX8_mile b sh M [vr b 72, vi m] (QM M (absM M) (a_mile (absM M) m)) := by
  have ea : a_mile (absM M) m = if 0 ≤ m ∧ m ≤ 999 then few (moM M) (-1) m (roM M 0) else -1 := rfl
  refine MC_of (ls := [some (vr b 72), some (vi m)]) (by decide) rfl (Nat.le_of_ble_eq_true rfl) ?_
  refine R_iload_n (pc := 0) dX8_mile_0 rfl ?_
  refine R_i2l (pc := 1) dX8_mile_1 (by omega) ?_
  refine R_lconst (pc := 2) dX8_mile_2 (x := 0) rfl ?_
  refine R_ldc2 (pc := 3) (x := 999) dX8_mile_3 kl_RX8_214 rfl ?_
  refine R_S3i (pc := 6) dX8_mile_6 ss_RX8_69 (j_in b sh _ _ _ _ hi (by omega) (by omega)) (Nat.le_of_ble_eq_true rfl) (by decide) ?_
  refine R_if_eq (pc := 9) (tgt := 21) dX8_mile_9 (by decide) (by omega) (fun h_9 => ?_) (fun h_9 => ?_)
  · refine R_iconst (pc := 21) dX8_mile_21 ?_
    refine R_iret (pc := 22) dX8_mile_22 ?_
    first
      | exact QM_ro hI hF (by rw [ea, if_pos (by omega)])
      | exact QM_ro hI FrM_r (by rw [ea, if_neg (by omega)])
  · refine R_aload_n (pc := 12) dX8_mile_12 rfl ?_
    refine R_iconst (pc := 13) dX8_mile_13 ?_
    refine R_iload_n (pc := 14) dX8_mile_14 rfl ?_
    refine R_V2 (pc := 15) dX8_mile_15 sv_RX8_211 (j_fewest b sh M hsh hI (-1) m (by omega) (by omega)) (hsh _ _ rfl) (Nat.le_of_ble_eq_true rfl) (by decide) (fun v_15 M_15 hq_15 => ?_)
    obtain ⟨rfl, hF, hrow⟩ := hq_15
    refine R_goto (pc := 18) (tgt := 22) dX8_mile_18 (by decide) ?_
    refine R_iret (pc := 22) dX8_mile_22 ?_
    first
      | exact QM_ro hI hF (by rw [ea, if_pos (by omega)])
      | exact QM_ro hI FrM_r (by rw [ea, if_neg (by omega)])
