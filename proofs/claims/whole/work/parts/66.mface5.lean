/-! the reference's face, fifth part: parishes, year -/
def HtM (M : Mem) (T n : Int) (h1 h2 : Int → Int → Int) : Prop := ∀ a c : Int, 0 ≤ a → a < T → 0 ≤ c → c < T → a * T + c < n → M 83 (6 * a + c) = h1 a c ∧ M 84 (6 * a + c) = h2 a c
theorem j_parishes (b : Nat) (sh : Shp) (M : Mem) {B : Int} (hsh : Hm sh) (hI : IS (absM M) B) (v i w j what : Int) (hv : inR v) (hi : inR i) (hw0 : inR w) (hj0 : inR j) (hj : inR what) : C0 4 mX8_parishes b sh M [vr b 72, vi v, vi i, vi w, vi j, vi what] (QM M (absM M) (a_parishes (absM M) v i w j what)) := by
  have hm : WFm (moM M) := hI.1
  have hr : WFr (roM M 0) B := hI.2.2.1
  have hn : 5 ≤ moM M 0 0 ∧ moM M 0 0 ≤ 16 := hI.1.1
  have hw : 0 ≤ moM M 0 1 ∧ moM M 0 1 ≤ 4 := hI.1.2.1
  have ht : 0 ≤ moM M 0 2 ∧ moM M 0 2 ≤ 6 := hI.1.2.2.1
  have ea : a_parishes (absM M) v i w j what = if ((0 ≤ v ∧ v ≤ moM M 0 1 - 1) ∧ (0 ≤ i ∧ i ≤ moM M 0 0 - 1) ∧ (0 ≤ w ∧ w ≤ moM M 0 1 - 1) ∧ (0 ≤ j ∧ j ≤ moM M 0 0 - 1)) ∧ ¬ i = j ∧ 0 ≤ what ∧ what ≤ 1 then (if what = 0 then (lkS (fitP (absM M) v i w j) (moM M 0 2) (moM M 0 2 * moM M 0 2).toNat).1 else (lkS (fitP (absM M) v i w j) (moM M 0 2) (moM M 0 2 * moM M 0 2).toNat).2) else -1 := rfl
  -- the second half
  have LB : (((0 ≤ v ∧ v ≤ moM M 0 1 - 1) ∧ (0 ≤ i ∧ i ≤ moM M 0 0 - 1) ∧ (0 ≤ w ∧ w ≤ moM M 0 1 - 1) ∧ (0 ≤ j ∧ j ≤ moM M 0 0 - 1)) ∧ ¬ i = j ∧ 0 ≤ what ∧ what ≤ 1) → ∀ N, FrM M N → HtM N (moM M 0 2) (moM M 0 2 * moM M 0 2) (hgt (moM M) (roM M 0) v w i) (hgt (moM M) (roM M 0) v w j) → ∀ (n : Nat) (a : Int), 0 ≤ a → a ≤ moM M 0 2 → moM M 0 2 - a < n → MW yX8_parishes cX8_parishes 13 (some .int) (rmD 4 0 0) (FM (QM M (absM M) (a_parishes (absM M) v i w j what)) b sh 0 0) b sh.length 0 0 179 [some (vr b 72), some (vi v), some (vi i), some (vi w), some (vi j), some (vi what), some (vi (moM M 0 2)), some (vi (lkS (fitP (absM M) v i w j) (moM M 0 2) (a * moM M 0 2).toNat).1), some (vi (lkS (fitP (absM M) v i w j) (moM M 0 2) (a * moM M 0 2).toNat).2), some (vi a), none, none, none] [] sh (N) := by
    intro harg N hF hH n
    have hh : ∀ a c, (0 ≤ hgt (moM M) (roM M 0) v w i a c ∧ hgt (moM M) (roM M 0) v w i a c ≤ 60) ∧ 0 ≤ hgt (moM M) (roM M 0) v w j a c ∧ hgt (moM M) (roM M 0) v w j a c ≤ 60 := fun a c => ⟨hgt_in hm hr (by omega), hgt_in hm hr (by omega)⟩
    have hcd : ∀ a c : Int, 0 ≤ a → a < moM M 0 2 → 0 ≤ c → c < moM M 0 2 → a * moM M 0 2 + c < moM M 0 2 * moM M 0 2 := fun a c a0 a1 c0 c1 => by
      have : (a + 1) * moM M 0 2 ≤ moM M 0 2 * moM M 0 2 := Int.mul_le_mul_of_nonneg_right (by omega) ht.1
      rw [Int.add_mul, Int.one_mul] at this
      omega
    have hvv : ∀ a c : Int, 0 ≤ a → a < moM M 0 2 → 0 ≤ c → c < moM M 0 2 → N 83 (6 * a + c) = hgt (moM M) (roM M 0) v w i a c ∧ N 84 (6 * a + c) = hgt (moM M) (roM M 0) v w j a c := fun a c a0 a1 c0 c1 => hH a c a0 a1 c0 c1 (hcd a c a0 a1 c0 c1)
    induction n with
    | zero => intro a h1 h2 h3; exact absurd h3 (by omega)
    | succ n ihO =>
      intro a h1 h2 h3
      by_cases hal : a < moM M 0 2
      · have haT : (a + 1) * moM M 0 2 = a * moM M 0 2 + moM M 0 2 := by rw [Int.add_mul, Int.one_mul]
        have haA : (a + 1) * moM M 0 2 ≤ moM M 0 2 * moM M 0 2 := Int.mul_le_mul_of_nonneg_right (by omega) ht.1
        have ha0 : 0 ≤ a * moM M 0 2 := Int.mul_nonneg h1 ht.1
        have hTT : moM M 0 2 * moM M 0 2 ≤ 6 * 6 := Int.mul_le_mul (by omega) (by omega) (by omega) (by omega)
        have LI : ∀ (n2 : Nat) (c : Int), 0 ≤ c → c ≤ moM M 0 2 → moM M 0 2 - c < n2 → MW yX8_parishes cX8_parishes 13 (some .int) (rmD 4 0 0) (FM (QM M (absM M) (a_parishes (absM M) v i w j what)) b sh 0 0) b sh.length 0 0 189 [some (vr b 72), some (vi v), some (vi i), some (vi w), some (vi j), some (vi what), some (vi (moM M 0 2)), some (vi (lkS (fitP (absM M) v i w j) (moM M 0 2) (a * moM M 0 2 + c).toNat).1), some (vi (lkS (fitP (absM M) v i w j) (moM M 0 2) (a * moM M 0 2 + c).toNat).2), some (vi a), some (vi c), none, none] [] sh (N) := by
          intro n2
          induction n2 with
          | zero => intro c h1 h2 h3; exact absurd h3 (by omega)
          | succ n2 ihI =>
            intro c c1 c2 c3
            have hin := lkS_in (P := fitP (absM M) v i w j) (T := moM M 0 2) (a * moM M 0 2 + c).toNat
            by_cases hcl : c < moM M 0 2
            · have hst := lkS_s (P := fitP (absM M) v i w j) (T := moM M 0 2) (c := a * moM M 0 2 + c) (by omega)
              rw [(cd_dm c1 hcl).1, (cd_dm c1 hcl).2] at hst
              have hfp : fitP (absM M) v i w j (a * moM M 0 2 + c) = rsS (hgt (moM M) (roM M 0) v w i) (hgt (moM M) (roM M 0) v w j) a c (moM M 0 2).toNat := by
                show rsS (hgt (moM M) (roM M 0) v w i) (hgt (moM M) (roM M 0) v w j) ((a * moM M 0 2 + c) / moM M 0 2) ((a * moM M 0 2 + c) % moM M 0 2) (moM M 0 2).toNat = _
                rw [(cd_dm c1 hcl).1, (cd_dm c1 hcl).2]
              have h01 : fitP (absM M) v i w j (a * moM M 0 2 + c) = 0 ∨ fitP (absM M) v i w j (a * moM M 0 2 + c) = 1 := rs01 _
              have hnext : ∀ (l f : Int), (l, f) = lkS (fitP (absM M) v i w j) (moM M 0 2) (a * moM M 0 2 + c + 1).toNat → MW yX8_parishes cX8_parishes 13 (some .int) (rmD 4 0 0) (FM (QM M (absM M) (a_parishes (absM M) v i w j what)) b sh 0 0) b sh.length 0 0 325 [some (vr b 72), some (vi v), some (vi i), some (vi w), some (vi j), some (vi what), some (vi (moM M 0 2)), some (vi l), some (vi f), some (vi a), some (vi c), none, none] [] sh (N) := by
                intro l f he
                refine R_iinc (pc := 325) dX8_parishes_325 rfl (by decide) rfl rfl ?_
                refine R_goto (pc := 328) (tgt := 189) dX8_parishes_328 (by decide) ?_
                have hx := ihI (c + 1) (by omega) (by omega) (by omega)
                rw [show a * moM M 0 2 + (c + 1) = a * moM M 0 2 + c + 1 by omega, ← he] at hx
                exact hx
              have hac := hh a c
              have LE : ∀ (n3 : Nat) (e : Int), 0 ≤ e → e ≤ moM M 0 2 → moM M 0 2 - e < n3 → MW yX8_parishes cX8_parishes 13 (some .int) (rmD 4 0 0) (FM (QM M (absM M) (a_parishes (absM M) v i w j what)) b sh 0 0) b sh.length 0 0 202 [some (vr b 72), some (vi v), some (vi i), some (vi w), some (vi j), some (vi what), some (vi (moM M 0 2)), some (vi (lkS (fitP (absM M) v i w j) (moM M 0 2) (a * moM M 0 2 + c).toNat).1), some (vi (lkS (fitP (absM M) v i w j) (moM M 0 2) (a * moM M 0 2 + c).toNat).2), some (vi a), some (vi c), some (vi (rsS (hgt (moM M) (roM M 0) v w i) (hgt (moM M) (roM M 0) v w j) a c e.toNat)), some (vi e)] [] sh (N) := by
                intro n3
                induction n3 with
                | zero => intro e e1 e2 e3; exact absurd e3 (by omega)
                | succ n3 ihE =>
                  intro e e1 e2 e3
                  have hr01 := rs01 (h1 := hgt (moM M) (roM M 0) v w i) (h2 := hgt (moM M) (roM M 0) v w j) (a := a) (c := c) e.toNat
                  by_cases hel : e < moM M 0 2
                  · have hse := rs_s (h1 := hgt (moM M) (roM M 0) v w i) (h2 := hgt (moM M) (roM M 0) v w j) (a := a) (c := c) e1
                    have x1 := hh e c
                    have x2 := hh a e
                    have hnx : ∀ z, z = rsS (hgt (moM M) (roM M 0) v w i) (hgt (moM M) (roM M 0) v w j) a c (e + 1).toNat → MW yX8_parishes cX8_parishes 13 (some .int) (rmD 4 0 0) (FM (QM M (absM M) (a_parishes (absM M) v i w j what)) b sh 0 0) b sh.length 0 0 279 [some (vr b 72), some (vi v), some (vi i), some (vi w), some (vi j), some (vi what), some (vi (moM M 0 2)), some (vi (lkS (fitP (absM M) v i w j) (moM M 0 2) (a * moM M 0 2 + c).toNat).1), some (vi (lkS (fitP (absM M) v i w j) (moM M 0 2) (a * moM M 0 2 + c).toNat).2), some (vi a), some (vi c), some (vi z), some (vi e)] [] sh (N) := by
                      intro z hz
                      refine R_iinc (pc := 279) dX8_parishes_279 rfl (by decide) rfl rfl ?_
                      refine R_goto (pc := 282) (tgt := 202) dX8_parishes_282 (by decide) ?_
                      have hx := ihE (e + 1) (by omega) (by omega) (by omega)
                      rw [← hz] at hx
                      exact hx
                    rw [hse] at hnx
                    refine R_iload (pc := 202) dX8_parishes_202 rfl ?_
                    refine R_iload (pc := 204) dX8_parishes_204 rfl ?_
                    refine R_cmp_ge (pc := 206) (tgt := 285) dX8_parishes_206 (by decide) (by omega) (fun h_206 => ?_) (fun h_206 => ?_)
                    · exact absurd h_206 (by omega)
                    · refine R_iload (pc := 209) dX8_parishes_209 rfl ?_
                      refine R_if_eq (pc := 211) (tgt := 276) dX8_parishes_211 (by decide) (by omega) (fun h_211 => ?_) (fun h_211 => ?_)
                      · refine R_iconst (pc := 276) dX8_parishes_276 ?_
                        refine R_istore (pc := 277) dX8_parishes_277 (by decide) rfl rfl ?_
                        exact hnx _ (by omega)
                      · refine R_aload_n (pc := 214) dX8_parishes_214 rfl ?_
                        refine R_getR (pc := 215) dX8_parishes_215 fl_RX8_40 rfl (hsh _ _ rfl) rfl ?_
                        refine R_bipush (pc := 218) dX8_parishes_218 rfl ?_
                        refine R_iload (pc := 220) dX8_parishes_220 rfl ?_
                        refine R_imul (pc := 222) dX8_parishes_222 ?_
                        refine R_iload (pc := 223) dX8_parishes_223 rfl ?_
                        refine R_iadd (pc := 225) dX8_parishes_225 ?_
                        refine R_iald (pc := 226) dX8_parishes_226 (hsh _ _ rfl) (by omega) ((hvv e c e1 hel c1 hcl).1) ?_
                        refine R_aload_n (pc := 227) dX8_parishes_227 rfl ?_
                        refine R_getR (pc := 228) dX8_parishes_228 fl_RX8_40 rfl (hsh _ _ rfl) rfl ?_
                        refine R_bipush (pc := 231) dX8_parishes_231 rfl ?_
                        refine R_iload (pc := 233) dX8_parishes_233 rfl ?_
                        refine R_imul (pc := 235) dX8_parishes_235 ?_
                        refine R_iload (pc := 236) dX8_parishes_236 rfl ?_
                        refine R_iadd (pc := 238) dX8_parishes_238 ?_
                        refine R_iald (pc := 239) dX8_parishes_239 (hsh _ _ rfl) (by omega) ((hvv a c h1 hal c1 hcl).1) ?_
                        refine R_cmp_gt (pc := 240) (tgt := 276) dX8_parishes_240 (by decide) (by omega) (fun h_240 => ?_) (fun h_240 => ?_)
                        · refine R_iconst (pc := 276) dX8_parishes_276 ?_
                          refine R_istore (pc := 277) dX8_parishes_277 (by decide) rfl rfl ?_
                          exact hnx _ (by omega)
                        · refine R_aload_n (pc := 243) dX8_parishes_243 rfl ?_
                          refine R_getR (pc := 244) dX8_parishes_244 fl_RX8_43 rfl (hsh _ _ rfl) rfl ?_
                          refine R_bipush (pc := 247) dX8_parishes_247 rfl ?_
                          refine R_iload (pc := 249) dX8_parishes_249 rfl ?_
                          refine R_imul (pc := 251) dX8_parishes_251 ?_
                          refine R_iload (pc := 252) dX8_parishes_252 rfl ?_
                          refine R_iadd (pc := 254) dX8_parishes_254 ?_
                          refine R_iald (pc := 255) dX8_parishes_255 (hsh _ _ rfl) (by omega) ((hvv a e h1 hal e1 hel).2) ?_
                          refine R_aload_n (pc := 256) dX8_parishes_256 rfl ?_
                          refine R_getR (pc := 257) dX8_parishes_257 fl_RX8_43 rfl (hsh _ _ rfl) rfl ?_
                          refine R_bipush (pc := 260) dX8_parishes_260 rfl ?_
                          refine R_iload (pc := 262) dX8_parishes_262 rfl ?_
                          refine R_imul (pc := 264) dX8_parishes_264 ?_
                          refine R_iload (pc := 265) dX8_parishes_265 rfl ?_
                          refine R_iadd (pc := 267) dX8_parishes_267 ?_
                          refine R_iald (pc := 268) dX8_parishes_268 (hsh _ _ rfl) (by omega) ((hvv a c h1 hal c1 hcl).2) ?_
                          refine R_cmp_gt (pc := 269) (tgt := 276) dX8_parishes_269 (by decide) (by omega) (fun h_269 => ?_) (fun h_269 => ?_)
                          · refine R_iconst (pc := 276) dX8_parishes_276 ?_
                            refine R_istore (pc := 277) dX8_parishes_277 (by decide) rfl rfl ?_
                            exact hnx _ (by omega)
                          · refine R_iconst (pc := 272) dX8_parishes_272 ?_
                            refine R_goto (pc := 273) (tgt := 277) dX8_parishes_273 (by decide) ?_
                            refine R_istore (pc := 277) dX8_parishes_277 (by decide) rfl rfl ?_
                            exact hnx _ (by omega)
                  · have ee : e = moM M 0 2 := by omega
                    rw [ee, ← hfp]
                    refine R_iload (pc := 202) dX8_parishes_202 rfl ?_
                    refine R_iload (pc := 204) dX8_parishes_204 rfl ?_
                    refine R_cmp_ge (pc := 206) (tgt := 285) dX8_parishes_206 (by decide) (by omega) (fun h_206 => ?_) (fun h_206 => ?_)
                    · refine R_iload (pc := 285) dX8_parishes_285 rfl ?_
                      refine R_if_eq (pc := 287) (tgt := 306) dX8_parishes_287 (by decide) (by omega) (fun h_287 => ?_) (fun h_287 => ?_)
                      · refine R_iload (pc := 306) dX8_parishes_306 rfl ?_
                        refine R_istore (pc := 308) dX8_parishes_308 (by decide) rfl rfl ?_
                        refine R_iload (pc := 310) dX8_parishes_310 rfl ?_
                        refine R_iload (pc := 312) dX8_parishes_312 rfl ?_
                        refine R_if_eq (pc := 314) (tgt := 321) dX8_parishes_314 (by decide) (by omega) (fun h_314 => ?_) (fun h_314 => ?_)
                        · refine R_iconst (pc := 321) dX8_parishes_321 ?_
                          refine R_iadd (pc := 322) dX8_parishes_322 ?_
                          refine R_istore (pc := 323) dX8_parishes_323 (by decide) rfl rfl ?_
                          refine R_drop 11 rfl ?_
                          refine R_drop 12 rfl ?_
                          first
                            | exact absurd h_314 (by omega)
                            | exact hnext _ _ (by rw [hst, if_pos (by omega), if_neg h_292])
                            | exact hnext _ _ (by rw [hst, if_pos (by omega), if_pos h_292])
                            | exact hnext _ _ (by rw [hst, if_neg (by omega), Int.add_zero])
                        · refine R_iconst (pc := 317) dX8_parishes_317 ?_
                          refine R_goto (pc := 318) (tgt := 322) dX8_parishes_318 (by decide) ?_
                          refine R_iadd (pc := 322) dX8_parishes_322 ?_
                          refine R_istore (pc := 323) dX8_parishes_323 (by decide) rfl rfl ?_
                          refine R_drop 11 rfl ?_
                          refine R_drop 12 rfl ?_
                          first
                            | exact absurd h_314 (by omega)
                            | exact hnext _ _ (by rw [hst, if_pos (by omega), if_neg h_292])
                            | exact hnext _ _ (by rw [hst, if_pos (by omega), if_pos h_292])
                            | exact hnext _ _ (by rw [hst, if_neg (by omega), Int.add_zero])
                      · refine R_iload (pc := 290) dX8_parishes_290 rfl ?_
                        refine R_if_ne (pc := 292) (tgt := 306) dX8_parishes_292 (by decide) (by omega) (fun h_292 => ?_) (fun h_292 => ?_)
                        · refine R_iload (pc := 306) dX8_parishes_306 rfl ?_
                          refine R_istore (pc := 308) dX8_parishes_308 (by decide) rfl rfl ?_
                          refine R_iload (pc := 310) dX8_parishes_310 rfl ?_
                          refine R_iload (pc := 312) dX8_parishes_312 rfl ?_
                          refine R_if_eq (pc := 314) (tgt := 321) dX8_parishes_314 (by decide) (by omega) (fun h_314 => ?_) (fun h_314 => ?_)
                          · refine R_iconst (pc := 321) dX8_parishes_321 ?_
                            refine R_iadd (pc := 322) dX8_parishes_322 ?_
                            refine R_istore (pc := 323) dX8_parishes_323 (by decide) rfl rfl ?_
                            refine R_drop 11 rfl ?_
                            refine R_drop 12 rfl ?_
                            first
                              | exact absurd h_314 (by omega)
                              | exact hnext _ _ (by rw [hst, if_pos (by omega), if_neg h_292])
                              | exact hnext _ _ (by rw [hst, if_pos (by omega), if_pos h_292])
                              | exact hnext _ _ (by rw [hst, if_neg (by omega), Int.add_zero])
                          · refine R_iconst (pc := 317) dX8_parishes_317 ?_
                            refine R_goto (pc := 318) (tgt := 322) dX8_parishes_318 (by decide) ?_
                            refine R_iadd (pc := 322) dX8_parishes_322 ?_
                            refine R_istore (pc := 323) dX8_parishes_323 (by decide) rfl rfl ?_
                            refine R_drop 11 rfl ?_
                            refine R_drop 12 rfl ?_
                            first
                              | exact absurd h_314 (by omega)
                              | exact hnext _ _ (by rw [hst, if_pos (by omega), if_neg h_292])
                              | exact hnext _ _ (by rw [hst, if_pos (by omega), if_pos h_292])
                              | exact hnext _ _ (by rw [hst, if_neg (by omega), Int.add_zero])
                        · refine R_bipush (pc := 295) dX8_parishes_295 rfl ?_
                          refine R_iload (pc := 297) dX8_parishes_297 rfl ?_
                          refine R_imul (pc := 299) dX8_parishes_299 ?_
                          refine R_iload (pc := 300) dX8_parishes_300 rfl ?_
                          refine R_iadd (pc := 302) dX8_parishes_302 ?_
                          refine R_goto (pc := 303) (tgt := 308) dX8_parishes_303 (by decide) ?_
                          refine R_istore (pc := 308) dX8_parishes_308 (by decide) rfl rfl ?_
                          refine R_iload (pc := 310) dX8_parishes_310 rfl ?_
                          refine R_iload (pc := 312) dX8_parishes_312 rfl ?_
                          refine R_if_eq (pc := 314) (tgt := 321) dX8_parishes_314 (by decide) (by omega) (fun h_314 => ?_) (fun h_314 => ?_)
                          · refine R_iconst (pc := 321) dX8_parishes_321 ?_
                            refine R_iadd (pc := 322) dX8_parishes_322 ?_
                            refine R_istore (pc := 323) dX8_parishes_323 (by decide) rfl rfl ?_
                            refine R_drop 11 rfl ?_
                            refine R_drop 12 rfl ?_
                            first
                              | exact absurd h_314 (by omega)
                              | exact hnext _ _ (by rw [hst, if_pos (by omega), if_neg h_292])
                              | exact hnext _ _ (by rw [hst, if_pos (by omega), if_pos h_292])
                              | exact hnext _ _ (by rw [hst, if_neg (by omega), Int.add_zero])
                          · refine R_iconst (pc := 317) dX8_parishes_317 ?_
                            refine R_goto (pc := 318) (tgt := 322) dX8_parishes_318 (by decide) ?_
                            refine R_iadd (pc := 322) dX8_parishes_322 ?_
                            refine R_istore (pc := 323) dX8_parishes_323 (by decide) rfl rfl ?_
                            refine R_drop 11 rfl ?_
                            refine R_drop 12 rfl ?_
                            first
                              | exact absurd h_314 (by omega)
                              | exact hnext _ _ (by rw [hst, if_pos (by omega), if_neg h_292])
                              | exact hnext _ _ (by rw [hst, if_pos (by omega), if_pos h_292])
                              | exact hnext _ _ (by rw [hst, if_neg (by omega), Int.add_zero])
                    · exact absurd h_206 (by omega)
              refine R_iload (pc := 189) dX8_parishes_189 rfl ?_
              refine R_iload (pc := 191) dX8_parishes_191 rfl ?_
              refine R_cmp_ge (pc := 193) (tgt := 331) dX8_parishes_193 (by decide) (by omega) (fun h_193 => ?_) (fun h_193 => ?_)
              · exact absurd h_193 (by omega)
              · refine R_iconst (pc := 196) dX8_parishes_196 ?_
                refine R_istore (pc := 197) dX8_parishes_197 (by decide) rfl rfl ?_
                refine R_iconst (pc := 199) dX8_parishes_199 ?_
                refine R_istore (pc := 200) dX8_parishes_200 (by decide) rfl rfl ?_
                exact LE 20 0 (by omega) (by omega) (by omega)
            · have et : c = moM M 0 2 := by omega
              refine R_iload (pc := 189) dX8_parishes_189 rfl ?_
              refine R_iload (pc := 191) dX8_parishes_191 rfl ?_
              refine R_cmp_ge (pc := 193) (tgt := 331) dX8_parishes_193 (by decide) (by omega) (fun h_193 => ?_) (fun h_193 => ?_)
              · refine R_iinc (pc := 331) dX8_parishes_331 rfl (by decide) rfl rfl ?_
                refine R_goto (pc := 334) (tgt := 179) dX8_parishes_334 (by decide) ?_
                refine R_drop 10 rfl ?_
                have hx := ihO (a + 1) (by omega) (by omega) (by omega)
                rw [haT] at hx
                rw [et]
                exact hx
              · exact absurd h_193 (by omega)
        refine R_iload (pc := 179) dX8_parishes_179 rfl ?_
        refine R_iload (pc := 181) dX8_parishes_181 rfl ?_
        refine R_cmp_ge (pc := 183) (tgt := 337) dX8_parishes_183 (by decide) (by omega) (fun h_183 => ?_) (fun h_183 => ?_)
        · exact absurd h_183 (by omega)
        · refine R_iconst (pc := 186) dX8_parishes_186 ?_
          refine R_istore (pc := 187) dX8_parishes_187 (by decide) rfl rfl ?_
          have hx := LI 20 0 (by omega) (by omega) (by omega)
          rw [Int.add_zero] at hx
          exact hx
      · have ew : a = moM M 0 2 := by omega
        subst ew
        refine R_iload (pc := 179) dX8_parishes_179 rfl ?_
        refine R_iload (pc := 181) dX8_parishes_181 rfl ?_
        refine R_cmp_ge (pc := 183) (tgt := 337) dX8_parishes_183 (by decide) (by omega) (fun h_183 => ?_) (fun h_183 => ?_)
        · refine R_iload (pc := 337) dX8_parishes_337 rfl ?_
          refine R_if_ne (pc := 339) (tgt := 347) dX8_parishes_339 (by decide) (by omega) (fun h_339 => ?_) (fun h_339 => ?_)
          · refine R_iload (pc := 347) dX8_parishes_347 rfl ?_
            refine R_iret (pc := 349) dX8_parishes_349 ?_
            exact QM_ro hI hF (by rw [ea]; omega)
          · refine R_iload (pc := 342) dX8_parishes_342 rfl ?_
            refine R_goto (pc := 344) (tgt := 349) dX8_parishes_344 (by decide) ?_
            refine R_iret (pc := 349) dX8_parishes_349 ?_
            exact QM_ro hI hF (by rw [ea]; omega)
        · exact absurd h_183 (by omega)
  -- the first half
  have LA : (((0 ≤ v ∧ v ≤ moM M 0 1 - 1) ∧ (0 ≤ i ∧ i ≤ moM M 0 0 - 1) ∧ (0 ≤ w ∧ w ≤ moM M 0 1 - 1) ∧ (0 ≤ j ∧ j ≤ moM M 0 0 - 1)) ∧ ¬ i = j ∧ 0 ≤ what ∧ what ≤ 1) → ∀ (n : Nat) (a : Int) (N : Mem), 0 ≤ a → a ≤ moM M 0 2 → moM M 0 2 - a < n → FrM M N → HtM N (moM M 0 2) (a * moM M 0 2) (hgt (moM M) (roM M 0) v w i) (hgt (moM M) (roM M 0) v w j) → MW yX8_parishes cX8_parishes 13 (some .int) (rmD 4 0 0) (FM (QM M (absM M) (a_parishes (absM M) v i w j what)) b sh 0 0) b sh.length 0 0 63 [some (vr b 72), some (vi v), some (vi i), some (vi w), some (vi j), some (vi what), some (vi (moM M 0 2)), some (vi a), none, none, none, none, none] [] sh (N) := by
    intro harg n
    induction n with
    | zero => intro a N h1 h2 h3; exact absurd h3 (by omega)
    | succ n ihO =>
      intro a N h1 h2 h3 hF hH
      by_cases hal : a < moM M 0 2
      · have haT : (a + 1) * moM M 0 2 = a * moM M 0 2 + moM M 0 2 := by rw [Int.add_mul, Int.one_mul]
        have LI : ∀ (n2 : Nat) (c : Int) (N : Mem), 0 ≤ c → c ≤ moM M 0 2 → moM M 0 2 - c < n2 → FrM M N → HtM N (moM M 0 2) (a * moM M 0 2 + c) (hgt (moM M) (roM M 0) v w i) (hgt (moM M) (roM M 0) v w j) → MW yX8_parishes cX8_parishes 13 (some .int) (rmD 4 0 0) (FM (QM M (absM M) (a_parishes (absM M) v i w j what)) b sh 0 0) b sh.length 0 0 73 [some (vr b 72), some (vi v), some (vi i), some (vi w), some (vi j), some (vi what), some (vi (moM M 0 2)), some (vi a), some (vi c), none, none, none, none] [] sh (N) := by
          intro n2
          induction n2 with
          | zero => intro c N h1 h2 h3; exact absurd h3 (by omega)
          | succ n2 ihI =>
            intro c N c1 c2 c3 hF hH
            obtain ⟨k1, k2, k3, k4⟩ := frm_k hI hF
            by_cases hcl : c < moM M 0 2
            · have hcp := j_copy b sh N hsh 0 209 (by omega) (by omega) (by omega)
              rw [k4] at hcp
              have hb1 := j_bends b sh N hsh 209 (by omega) (by rw [k3]; exact hm) (roM M 0) hr v a (by rw [k3]; omega) (by rw [k3]; omega)
              have hbi := bend_in (k := v) (t := a) hm hr
              have hb2 := j_bends b sh N hsh 209 (by omega) (by rw [k3]; exact hm) (bend (moM M) (roM M 0) v a).1 hbi.1 w c (by rw [k3]; omega) (by rw [k3]; omega)
              rw [k3] at hb1 hb2
              have v1 := hgt_in (v := v) (w := w) (i := i) (a := a) (c := c) hm hr (by omega)
              have v2 := hgt_in (v := v) (w := w) (i := j) (a := a) (c := c) hm hr (by omega)
              refine R_iload (pc := 73) dX8_parishes_73 rfl ?_
              refine R_iload (pc := 75) dX8_parishes_75 rfl ?_
              refine R_cmp_ge (pc := 77) (tgt := 163) dX8_parishes_77 (by decide) (by omega) (fun h_77 => ?_) (fun h_77 => ?_)
              · exact absurd h_77 (by omega)
              · refine R_aload_n (pc := 80) dX8_parishes_80 rfl ?_
                refine R_iconst (pc := 81) dX8_parishes_81 ?_
                refine R_sipush (pc := 82) dX8_parishes_82 rfl ?_
                refine R_V2v (pc := 85) dX8_parishes_85 sv_RX8_174 (hsh _ _ rfl) (hcp) (Nat.le_of_ble_eq_true rfl) (by decide) ?_
                refine R_aload_n (pc := 88) dX8_parishes_88 rfl ?_
                refine R_sipush (pc := 89) dX8_parishes_89 rfl ?_
                refine R_iload_n (pc := 92) dX8_parishes_92 rfl ?_
                refine R_iload (pc := 93) dX8_parishes_93 rfl ?_
                refine R_V3i (pc := 95) dX8_parishes_95 sv_RX8_162 (hsh _ _ rfl) (hb1) (Nat.le_of_ble_eq_true rfl) (by decide) ?_
                refine R_pop (pc := 98) dX8_parishes_98 rfl ?_
                refine R_aload_n (pc := 99) dX8_parishes_99 rfl ?_
                refine R_sipush (pc := 100) dX8_parishes_100 rfl ?_
                refine R_iload_n (pc := 103) dX8_parishes_103 rfl ?_
                refine R_iload (pc := 104) dX8_parishes_104 rfl ?_
                refine R_V3i (pc := 106) dX8_parishes_106 sv_RX8_162 (hsh _ _ rfl) (hb2) (Nat.le_of_ble_eq_true rfl) (by decide) ?_
                refine R_pop (pc := 109) dX8_parishes_109 rfl ?_
                refine R_aload_n (pc := 110) dX8_parishes_110 rfl ?_
                refine R_getR (pc := 111) dX8_parishes_111 fl_RX8_40 rfl (hsh _ _ rfl) rfl ?_
                refine R_bipush (pc := 114) dX8_parishes_114 rfl ?_
                refine R_iload (pc := 116) dX8_parishes_116 rfl ?_
                refine R_imul (pc := 118) dX8_parishes_118 ?_
                refine R_iload (pc := 119) dX8_parishes_119 rfl ?_
                refine R_iadd (pc := 121) dX8_parishes_121 ?_
                refine R_aload_n (pc := 122) dX8_parishes_122 rfl ?_
                refine R_getR (pc := 123) dX8_parishes_123 fl_RX8_13 rfl (hsh _ _ rfl) rfl ?_
                refine R_sipush (pc := 126) dX8_parishes_126 rfl ?_
                refine R_iload_n (pc := 129) dX8_parishes_129 rfl ?_
                refine R_iadd (pc := 130) dX8_parishes_130 ?_
                refine R_iald (pc := 131) dX8_parishes_131 (hsh _ _ rfl) (by omega) ((show putM N 209 (bend (moM M) (bend (moM M) (roM M 0) v a).1 w c).1 74 (209 + i) = hgt (moM M) (roM M 0) v w i a c from pm_i (by omega))) ?_
                refine R_iast (pc := 132) dX8_parishes_132 (hsh _ _ rfl) (by omega) (by omega) ?_
                refine R_aload_n (pc := 133) dX8_parishes_133 rfl ?_
                refine R_getR (pc := 134) dX8_parishes_134 fl_RX8_43 rfl (hsh _ _ rfl) rfl ?_
                refine R_bipush (pc := 137) dX8_parishes_137 rfl ?_
                refine R_iload (pc := 139) dX8_parishes_139 rfl ?_
                refine R_imul (pc := 141) dX8_parishes_141 ?_
                refine R_iload (pc := 142) dX8_parishes_142 rfl ?_
                refine R_iadd (pc := 144) dX8_parishes_144 ?_
                refine R_aload_n (pc := 145) dX8_parishes_145 rfl ?_
                refine R_getR (pc := 146) dX8_parishes_146 fl_RX8_13 rfl (hsh _ _ rfl) rfl ?_
                refine R_sipush (pc := 149) dX8_parishes_149 rfl ?_
                refine R_iload (pc := 152) dX8_parishes_152 rfl ?_
                refine R_iadd (pc := 154) dX8_parishes_154 ?_
                refine R_iald (pc := 155) dX8_parishes_155 (hsh _ _ rfl) (by omega) ((show up (putM N 209 (bend (moM M) (bend (moM M) (roM M 0) v a).1 w c).1) 83 (6 * a + c) (hgt (moM M) (roM M 0) v w i a c) 74 (209 + j) = hgt (moM M) (roM M 0) v w j a c from (up_k (by omega)).trans (pm_i (by omega)))) ?_
                refine R_iast (pc := 156) dX8_parishes_156 (hsh _ _ rfl) (by omega) (by omega) ?_
                refine R_iinc (pc := 157) dX8_parishes_157 rfl (by decide) rfl rfl ?_
                refine R_goto (pc := 160) (tgt := 73) dX8_parishes_160 (by decide) ?_
                refine ihI (c + 1) _ (by omega) (by omega) (by omega) (FrM_up (FrM_up (FrM_pm hF (by omega)) (by unfold SM; omega)) (by unfold SM; omega)) ?_
                intro a' c' a0 a1 b0 b1 hlt
                by_cases hac : a' = a ∧ c' = c
                · obtain ⟨rfl, rfl⟩ := hac
                  exact ⟨by rw [up_k (by omega), up_s], by rw [up_s]⟩
                · have hne : 6 * a' + c' ≠ 6 * a + c := by omega
                  rw [up_k (show (83 : Nat) ≠ 84 by omega), up_j hne, up_j hne, up_k (show (84 : Nat) ≠ 83 by omega), pm_k (by omega), pm_k (by omega)]
                  refine hH a' c' a0 a1 b0 b1 ?_
                  by_cases he : a' * moM M 0 2 + c' = a * moM M 0 2 + c
                  · have e1 : (a' * moM M 0 2 + c') / moM M 0 2 = (a * moM M 0 2 + c) / moM M 0 2 := by rw [he]
                    have e2 : (a' * moM M 0 2 + c') % moM M 0 2 = (a * moM M 0 2 + c) % moM M 0 2 := by rw [he]
                    rw [(cd_dm b0 b1).1, (cd_dm c1 hcl).1] at e1
                    rw [(cd_dm b0 b1).2, (cd_dm c1 hcl).2] at e2
                    exact absurd ⟨e1, e2⟩ hac
                  · omega
            · have et : c = moM M 0 2 := by omega
              refine R_iload (pc := 73) dX8_parishes_73 rfl ?_
              refine R_iload (pc := 75) dX8_parishes_75 rfl ?_
              refine R_cmp_ge (pc := 77) (tgt := 163) dX8_parishes_77 (by decide) (by omega) (fun h_77 => ?_) (fun h_77 => ?_)
              · refine R_iinc (pc := 163) dX8_parishes_163 rfl (by decide) rfl rfl ?_
                refine R_goto (pc := 166) (tgt := 63) dX8_parishes_166 (by decide) ?_
                refine R_drop 8 rfl ?_
                refine ihO (a + 1) N (by omega) (by omega) (by omega) hF ?_
                rw [haT]
                rw [et] at hH
                exact hH
              · exact absurd h_77 (by omega)
        refine R_iload (pc := 63) dX8_parishes_63 rfl ?_
        refine R_iload (pc := 65) dX8_parishes_65 rfl ?_
        refine R_cmp_ge (pc := 67) (tgt := 169) dX8_parishes_67 (by decide) (by omega) (fun h_67 => ?_) (fun h_67 => ?_)
        · exact absurd h_67 (by omega)
        · refine R_iconst (pc := 70) dX8_parishes_70 ?_
          refine R_istore (pc := 71) dX8_parishes_71 (by decide) rfl rfl ?_
          exact LI 20 0 N (by omega) (by omega) (by omega) hF (by rw [Int.add_zero]; exact hH)
      · have ew : a = moM M 0 2 := by omega
        rw [ew] at hH
        refine R_iload (pc := 63) dX8_parishes_63 rfl ?_
        refine R_iload (pc := 65) dX8_parishes_65 rfl ?_
        refine R_cmp_ge (pc := 67) (tgt := 169) dX8_parishes_67 (by decide) (by omega) (fun h_67 => ?_) (fun h_67 => ?_)
        · refine R_iconst (pc := 169) dX8_parishes_169 ?_
          refine R_istore (pc := 170) dX8_parishes_170 (by decide) rfl rfl ?_
          refine R_bipush (pc := 172) dX8_parishes_172 rfl ?_
          refine R_istore (pc := 174) dX8_parishes_174 (by decide) rfl rfl ?_
          refine R_iconst (pc := 176) dX8_parishes_176 ?_
          refine R_istore (pc := 177) dX8_parishes_177 (by decide) rfl rfl ?_
          have hx := LB harg N hF hH 20 0 (by omega) (by omega) (by omega)
          rw [Int.zero_mul] at hx
          exact hx
        · exact absurd h_67 (by omega)
  refine MC_of (ls := [some (vr b 72), some (vi v), some (vi i), some (vi w), some (vi j), some (vi what), none, none, none, none, none, none, none]) (by decide) rfl (Nat.le_of_ble_eq_true rfl) ?_
  refine R_aload_n (pc := 0) dX8_parishes_0 rfl ?_
  refine R_iload_n (pc := 1) dX8_parishes_1 rfl ?_
  refine R_V1i (pc := 2) dX8_parishes_2 sv_RX8_132 (hsh _ _ rfl) (j_isWalker b sh M hsh v hv (by omega)) (Nat.le_of_ble_eq_true rfl) (by decide) ?_
  refine R_if_eq (pc := 5) (tgt := 50) dX8_parishes_5 (by decide) (by omega) (fun h_5 => ?_) (fun h_5 => ?_)
  · refine R_iconst (pc := 50) dX8_parishes_50 ?_
    refine R_iret (pc := 51) dX8_parishes_51 ?_
    exact QM_ro hI FrM_r (by rw [ea, if_neg (by omega)])
  · refine R_aload_n (pc := 8) dX8_parishes_8 rfl ?_
    refine R_iload_n (pc := 9) dX8_parishes_9 rfl ?_
    refine R_V1i (pc := 10) dX8_parishes_10 sv_RX8_129 (hsh _ _ rfl) (j_isPost b sh M hsh i hi (by omega)) (Nat.le_of_ble_eq_true rfl) (by decide) ?_
    refine R_if_eq (pc := 13) (tgt := 50) dX8_parishes_13 (by decide) (by omega) (fun h_13 => ?_) (fun h_13 => ?_)
    · refine R_iconst (pc := 50) dX8_parishes_50 ?_
      refine R_iret (pc := 51) dX8_parishes_51 ?_
      exact QM_ro hI FrM_r (by rw [ea, if_neg (by omega)])
    · refine R_aload_n (pc := 16) dX8_parishes_16 rfl ?_
      refine R_iload_n (pc := 17) dX8_parishes_17 rfl ?_
      refine R_V1i (pc := 18) dX8_parishes_18 sv_RX8_132 (hsh _ _ rfl) (j_isWalker b sh M hsh w hw0 (by omega)) (Nat.le_of_ble_eq_true rfl) (by decide) ?_
      refine R_if_eq (pc := 21) (tgt := 50) dX8_parishes_21 (by decide) (by omega) (fun h_21 => ?_) (fun h_21 => ?_)
      · refine R_iconst (pc := 50) dX8_parishes_50 ?_
        refine R_iret (pc := 51) dX8_parishes_51 ?_
        exact QM_ro hI FrM_r (by rw [ea, if_neg (by omega)])
      · refine R_aload_n (pc := 24) dX8_parishes_24 rfl ?_
        refine R_iload (pc := 25) dX8_parishes_25 rfl ?_
        refine R_V1i (pc := 27) dX8_parishes_27 sv_RX8_129 (hsh _ _ rfl) (j_isPost b sh M hsh j hj0 (by omega)) (Nat.le_of_ble_eq_true rfl) (by decide) ?_
        refine R_if_eq (pc := 30) (tgt := 50) dX8_parishes_30 (by decide) (by omega) (fun h_30 => ?_) (fun h_30 => ?_)
        · refine R_iconst (pc := 50) dX8_parishes_50 ?_
          refine R_iret (pc := 51) dX8_parishes_51 ?_
          exact QM_ro hI FrM_r (by rw [ea, if_neg (by omega)])
        · refine R_iload_n (pc := 33) dX8_parishes_33 rfl ?_
          refine R_iload (pc := 34) dX8_parishes_34 rfl ?_
          refine R_cmp_eq (pc := 36) (tgt := 50) dX8_parishes_36 (by decide) (by omega) (fun h_36 => ?_) (fun h_36 => ?_)
          · refine R_iconst (pc := 50) dX8_parishes_50 ?_
            refine R_iret (pc := 51) dX8_parishes_51 ?_
            exact QM_ro hI FrM_r (by rw [ea, if_neg (by omega)])
          · refine R_iload (pc := 39) dX8_parishes_39 rfl ?_
            refine R_i2l (pc := 41) dX8_parishes_41 (by omega) ?_
            refine R_lconst (pc := 42) dX8_parishes_42 (x := 0) rfl ?_
            refine R_lconst (pc := 43) dX8_parishes_43 (x := 1) rfl ?_
            refine R_S3i (pc := 44) dX8_parishes_44 ss_RX8_69 (j_in b sh _ _ _ _ hj (by omega) (by omega)) (Nat.le_of_ble_eq_true rfl) (by decide) ?_
            refine R_if_ne (pc := 47) (tgt := 52) dX8_parishes_47 (by decide) (by omega) (fun h_47 => ?_) (fun h_47 => ?_)
            · refine R_aload_n (pc := 52) dX8_parishes_52 rfl ?_
              refine R_getR (pc := 53) dX8_parishes_53 fl_RX8_7 rfl (hsh _ _ rfl) rfl ?_
              refine R_iconst (pc := 56) dX8_parishes_56 ?_
              refine R_iald (pc := 57) dX8_parishes_57 (hsh _ _ rfl) (by omega) (mM_2) ?_
              refine R_istore (pc := 58) dX8_parishes_58 (by decide) rfl rfl ?_
              refine R_iconst (pc := 60) dX8_parishes_60 ?_
              refine R_istore (pc := 61) dX8_parishes_61 (by decide) rfl rfl ?_
              exact LA (by omega) 20 0 M (by omega) (by omega) (by omega) FrM_r (fun a c a0 a1 c0 c1 hlt => by have := Int.mul_nonneg a0 ht.1; omega)
            · refine R_iconst (pc := 50) dX8_parishes_50 ?_
              refine R_iret (pc := 51) dX8_parishes_51 ?_
              exact QM_ro hI FrM_r (by rw [ea, if_neg (by omega)])
/-! the year -/
theorem yr_w {N r : Int} {Y : Rd} : uF (night N (uF Y 18 1)) 16 r = uF (uF Y 16 r) 18 0 := by
  rw [← night_w (by rw [uF_s]; omega)]
  funext j
  simp only [uF]
  repeat' split
  all_goals first | rfl | omega
theorem yr_n {N r : Int} {W : Rd} (h : ¬ W 18 = 0) : uF (night N W) 16 r = uF (uF W 16 r) 18 0 := by
  rw [← night_w h]
  funext j
  simp only [uF]
  repeat' split
  all_goals first | rfl | omega
theorem yr_a {N r : Int} {W : Rd} (h : W 18 = 0) (hN : N ≤ 16) : uF (night N W) 16 r = uF (stf (uF W 16 r) (N - 1)) 18 0 := by
  rw [← night_a h hN]
  funext j
  simp only [uF, stf]
  repeat' split
  all_goals first | rfl | omega | (simp_all; done)
theorem lnS_u {f : Rd} {x : Int} : ∀ n : Nat, n ≤ 15 → lnS (uF f 16 x) n = lnS f n
  | 0, _ => rfl
  | n + 1, h => by
    unfold lnS
    rw [lnS_u n (by omega), uF_n (by omega), uF_n (by omega)]
theorem len_u {f : Rd} {x N : Int} (h : N ≤ 16) : len N (uF f 16 x) = len N f := lnS_u _ (by omega)
theorem WFr_d {ro : Rd} {B x : Int} (hw : WFr ro B) (hx : 0 ≤ x ∧ x ≤ B) : WFr (uF ro 16 x) B := by
  obtain ⟨h1, h2, h3, h4, h5, h6⟩ := hw
  refine ⟨fun j a c => ?_, ?_, ?_, ?_, fun j hj => ?_, h6⟩
  · rw [uF_n (by omega)]; exact h1 j a c
  · rw [uF_s]; exact hx
  · rw [uF_n (by omega)]; exact h3
  · rw [uF_n (by omega)]; exact h4
  · rw [uF_n (by omega)]; exact h5 j hj
theorem j_year (b : Nat) (sh : Shp) (M : Mem) {B : Int} (hsh : Hm sh) (hI : IS (absM M) B) (hB : B ≤ 90000) (z n what : Int) (hz : inR z) (hn0 : inR n) (hj : inR what) : C0 5 mX8_year b sh M [vr b 72, vi z, vi n, vi what] (QM M (absM M) (a_year (absM M) z n what)) := by
  have hm : WFm (moM M) := hI.1
  have hr : WFr (roM M 0) B := hI.2.2.1
  have hn : 5 ≤ moM M 0 0 ∧ moM M 0 0 ≤ 16 := hI.1.1
  have hW : 0 ≤ moM M 0 1 ∧ moM M 0 1 ≤ 4 := hI.1.2.1
  have hT : 0 ≤ moM M 0 2 ∧ moM M 0 2 ≤ 6 := hI.1.2.2.1
  have ea : a_year (absM M) z n what = if (0 ≤ z ∧ z ≤ 9999) ∧ (1 ≤ n ∧ n ≤ 60) ∧ 0 ≤ what ∧ what ≤ 1 then (if what = 0 then len (moM M 0 0) (yrS (moM M) z (roM M 0) n.toNat).1 else (yrS (moM M) z (roM M 0) n.toNat).2) else -1 := rfl
  have e1 : ∀ g, putM M 209 g 73 1 = moM M 0 1 := fun g => (pm_k (by omega)).trans mM_1
  have e2 : ∀ g, putM M 209 g 73 2 = moM M 0 2 := fun g => (pm_k (by omega)).trans mM_2
  have L : (0 ≤ z ∧ z ≤ 9999) ∧ (1 ≤ n ∧ n ≤ 60) ∧ 0 ≤ what ∧ what ≤ 1 → ∀ (m k : Nat) (x : Int), x = k → x ≤ n → n - x < m → MW yX8_year cX8_year 11 (some .int) (rmD 5 0 0) (FM (QM M (absM M) (a_year (absM M) z n what)) b sh 0 0) b sh.length 0 0 50 [some (vr b 72), some (vi z), some (vi n), some (vi what), some (vi (yrS (moM M) z (roM M 0) k).2), some (vi x), none, none, none, none, none] [] sh (putM M 209 (uF (yrS (moM M) z (roM M 0) k).1 16 (roM M 0 16))) := by
    intro hargs m
    induction m with
    | zero => intro k x h0 h1 h2; exact absurd h2 (by omega)
    | succ m ih =>
      intro k x h0 h1 h2
      have hy := yrS_in (z := z) hm hr k (by omega)
      have hf := WFr_d hy.1 (x := roM M 0 16) (by have := hr.2.1; omega)
      have f18 : uF (yrS (moM M) z (roM M 0) k).1 16 (roM M 0 16) 18 = (yrS (moM M) z (roM M 0) k).1 18 := uF_n (by omega)
      have g18 := hy.1.2.2.2.1
      by_cases hk : x < n
      · have hst : yrS (moM M) z (roM M 0) (k + 1) = (night (moM M 0 0) (wdr (moM M) (drw z k) (yrS (moM M) z (roM M 0) k).1), (yrS (moM M) z (roM M 0) k).2 + if wdr (moM M) (drw z k) (yrS (moM M) z (roM M 0) k).1 18 = 0 then 1 else 0) := rfl
        rw [← h0] at hst
        have hnext : ∀ (f : Rd) (s : Int), f = uF (yrS (moM M) z (roM M 0) (k + 1)).1 16 (roM M 0 16) → s = (yrS (moM M) z (roM M 0) (k + 1)).2 → MW yX8_year cX8_year 11 (some .int) (rmD 5 0 0) (FM (QM M (absM M) (a_year (absM M) z n what)) b sh 0 0) b sh.length 0 0 202 [some (vr b 72), some (vi z), some (vi n), some (vi what), some (vi s), some (vi x), none, none, none, none, none] [] sh (putM M 209 f) := by
          intro f s e3 e4
          refine R_iinc (pc := 202) dX8_year_202 rfl (by decide) rfl rfl ?_
          refine R_goto (pc := 205) (tgt := 50) dX8_year_205 (by decide) ?_
          have hx := ih (k + 1) (x + 1) (by omega) (by omega) (by omega)
          rw [← e3, ← e4] at hx
          exact hx
        rw [hst] at hnext
        dsimp only at hnext
        have hx0 : 0 ≤ 7919 * z + 6151 * x + 1 ∧ 7919 * z + 6151 * x + 1 ≤ 80000000 := by omega
        have hxx : 0 ≤ (7919 * z + 6151 * x + 1) * (7919 * z + 6151 * x + 1) ∧ (7919 * z + 6151 * x + 1) * (7919 * z + 6151 * x + 1) ≤ 80000000 * 80000000 := ⟨Int.mul_nonneg hx0.1 hx0.1, Int.mul_le_mul hx0.2 hx0.2 hx0.1 (by omega)⟩
        have hdr := drw_in z x
        have edr : (7919 * z + 6151 * x + 1) * (7919 * z + 6151 * x + 1) % 65521 / 8 = drw z x := rfl
        generalize hD : drw z x = D at hnext hdr edr
        have ew : wdr (moM M) D (yrS (moM M) z (roM M 0) k).1 = if D % (moM M 0 1 + 1) < moM M 0 1 ∧ 0 < moM M 0 2 then (wlk (moM M) (if D / 64 % 4 = 0 then 1 else 0) (yrS (moM M) z (roM M 0) k).1 (D % (moM M 0 1 + 1)) (D / 8 % moM M 0 2)).1 else (yrS (moM M) z (roM M 0) k).1 := rfl
        have r1 : 0 ≤ D % (moM M 0 1 + 1) := Int.emod_nonneg _ (by omega)
        have r2 : D % (moM M 0 1 + 1) < moM M 0 1 + 1 := Int.emod_lt_of_pos _ (by omega)
        by_cases hwk : D % (moM M 0 1 + 1) < moM M 0 1 ∧ 0 < moM M 0 2
        · rw [if_pos hwk] at ew
          have r3 : 0 ≤ D / 8 % moM M 0 2 := Int.emod_nonneg _ (by omega)
          have r4 : D / 8 % moM M 0 2 < moM M 0 2 := Int.emod_lt_of_pos _ (by omega)
          by_cases hfg : D / 64 % 4 = 0
          · rw [if_pos hfg, wlk, if_pos rfl] at ew
            dsimp only at ew
            rw [ew, uF_s, if_neg (by omega), yr_w, Int.add_zero] at hnext
            refine R_iload (pc := 50) dX8_year_50 rfl ?_
            refine R_iload_n (pc := 52) dX8_year_52 rfl ?_
            refine R_cmp_ge (pc := 53) (tgt := 208) dX8_year_53 (by decide) (by omega) (fun h_53 => ?_) (fun h_53 => ?_)
            · exact absurd h_53 (by omega)
            · refine R_ldc2 (pc := 56) (x := 7919) dX8_year_56 kl_RX8_220 rfl ?_
              refine R_iload_n (pc := 59) dX8_year_59 rfl ?_
              refine R_i2l (pc := 60) dX8_year_60 (by omega) ?_
              refine R_lmul (pc := 61) dX8_year_61 ?_
              refine R_ldc2 (pc := 62) (x := 6151) dX8_year_62 kl_RX8_222 rfl ?_
              refine R_iload (pc := 65) dX8_year_65 rfl ?_
              refine R_i2l (pc := 67) dX8_year_67 (by omega) ?_
              refine R_lmul (pc := 68) dX8_year_68 ?_
              refine R_ladd (pc := 69) dX8_year_69 ?_
              refine R_lconst (pc := 70) dX8_year_70 (x := 1) rfl ?_
              refine R_ladd (pc := 71) dX8_year_71 ?_
              refine R_lstore (pc := 72) dX8_year_72 (by decide) rfl rfl ?_
              refine R_lload (pc := 74) dX8_year_74 rfl ?_
              refine R_lload (pc := 76) dX8_year_76 rfl ?_
              refine R_lmul (pc := 78) dX8_year_78 ?_
              refine R_ldc2 (pc := 79) (x := 65521) dX8_year_79 kl_RX8_224 rfl ?_
              refine R_lrem (pc := 82) dX8_year_82 (by omega) ?_
              refine R_ldc2 (pc := 83) (x := 8) dX8_year_83 kl_RX8_226 rfl ?_
              refine R_ldiv (pc := 86) dX8_year_86 (by omega) ?_
              refine R_l2i (pc := 87) dX8_year_87 ?_
              rw [edr]
              refine R_istore (pc := 88) dX8_year_88 (by decide) rfl rfl ?_
              refine R_iload (pc := 90) dX8_year_90 rfl ?_
              refine R_aload_n (pc := 92) dX8_year_92 rfl ?_
              refine R_getR (pc := 93) dX8_year_93 fl_RX8_7 rfl (hsh _ _ rfl) rfl ?_
              refine R_iconst (pc := 96) dX8_year_96 ?_
              refine R_iald (pc := 97) dX8_year_97 (hsh _ _ rfl) (by omega) (e1 _) ?_
              refine R_iconst (pc := 98) dX8_year_98 ?_
              refine R_iadd (pc := 99) dX8_year_99 ?_
              refine R_irem (pc := 100) dX8_year_100 (by omega) ?_
              refine R_istore (pc := 101) dX8_year_101 (by decide) rfl rfl ?_
              refine R_iload (pc := 103) dX8_year_103 rfl ?_
              refine R_aload_n (pc := 105) dX8_year_105 rfl ?_
              refine R_getR (pc := 106) dX8_year_106 fl_RX8_7 rfl (hsh _ _ rfl) rfl ?_
              refine R_iconst (pc := 109) dX8_year_109 ?_
              refine R_iald (pc := 110) dX8_year_110 (hsh _ _ rfl) (by omega) (e1 _) ?_
              refine R_cmp_ge (pc := 111) (tgt := 127) dX8_year_111 (by decide) (by omega) (fun h_111 => ?_) (fun h_111 => ?_)
              · exact absurd h_111 (by omega)
              · refine R_aload_n (pc := 114) dX8_year_114 rfl ?_
                refine R_getR (pc := 115) dX8_year_115 fl_RX8_7 rfl (hsh _ _ rfl) rfl ?_
                refine R_iconst (pc := 118) dX8_year_118 ?_
                refine R_iald (pc := 119) dX8_year_119 (hsh _ _ rfl) (by omega) (e2 _) ?_
                refine R_if_le (pc := 120) (tgt := 127) dX8_year_120 (by decide) (by omega) (fun h_120 => ?_) (fun h_120 => ?_)
                · exact absurd h_120 (by omega)
                · refine R_iconst (pc := 123) dX8_year_123 ?_
                  refine R_goto (pc := 124) (tgt := 128) dX8_year_124 (by decide) ?_
                  refine R_istore (pc := 128) dX8_year_128 (by decide) rfl rfl ?_
                  refine R_iload (pc := 130) dX8_year_130 rfl ?_
                  refine R_if_eq (pc := 132) (tgt := 167) dX8_year_132 (by decide) (by omega) (fun h => absurd h (by decide)) (fun _ => ?_)
                  refine R_iload (pc := 135) dX8_year_135 rfl ?_
                  refine R_bipush (pc := 137) dX8_year_137 rfl ?_
                  refine R_idiv (pc := 139) dX8_year_139 (by omega) ?_
                  refine R_iconst (pc := 140) dX8_year_140 ?_
                  refine R_irem (pc := 141) dX8_year_141 (by omega) ?_
                  refine R_if_eq (pc := 142) (tgt := 167) dX8_year_142 (by decide) (by omega) (fun h_142 => ?_) (fun h_142 => ?_)
                  · refine R_iload (pc := 167) dX8_year_167 rfl ?_
                    refine R_if_ne (pc := 169) (tgt := 193) dX8_year_169 (by decide) (by omega) (fun _ => ?_) (fun h => absurd h (by decide))
                    refine R_aload_n (pc := 193) dX8_year_193 rfl ?_
                    refine R_getR (pc := 194) dX8_year_194 fl_RX8_13 rfl (hsh _ _ rfl) rfl ?_
                    refine R_sipush (pc := 197) dX8_year_197 rfl ?_
                    refine R_iconst (pc := 200) dX8_year_200 ?_
                    refine R_iast (pc := 201) dX8_year_201 (hsh _ _ rfl) (by omega) (by omega) ?_
                    rw [pmu (i := 18) (by omega) (by omega)]
                    refine R_drop 6 rfl ?_
                    refine R_drop 8 rfl ?_
                    refine R_drop 9 rfl ?_
                    refine R_drop 10 rfl ?_
                    exact hnext _ _ rfl rfl
                  · exact absurd hfg h_142
          · rw [if_neg hfg, wlk, if_neg (by omega), bend_u hn.2 (Or.inr rfl)] at ew
            dsimp only at ew
            rw [ew, uF_s, if_neg (by omega), yr_w, Int.add_zero] at hnext
            have hbd := j_bends b sh M hsh 209 (by omega) hm _ hf (D % (moM M 0 1 + 1)) (D / 8 % moM M 0 2) (by omega) (by omega)
            rw [bend_u hn.2 (Or.inl rfl)] at hbd
            dsimp only at hbd
            refine R_iload (pc := 50) dX8_year_50 rfl ?_
            refine R_iload_n (pc := 52) dX8_year_52 rfl ?_
            refine R_cmp_ge (pc := 53) (tgt := 208) dX8_year_53 (by decide) (by omega) (fun h_53 => ?_) (fun h_53 => ?_)
            · exact absurd h_53 (by omega)
            · refine R_ldc2 (pc := 56) (x := 7919) dX8_year_56 kl_RX8_220 rfl ?_
              refine R_iload_n (pc := 59) dX8_year_59 rfl ?_
              refine R_i2l (pc := 60) dX8_year_60 (by omega) ?_
              refine R_lmul (pc := 61) dX8_year_61 ?_
              refine R_ldc2 (pc := 62) (x := 6151) dX8_year_62 kl_RX8_222 rfl ?_
              refine R_iload (pc := 65) dX8_year_65 rfl ?_
              refine R_i2l (pc := 67) dX8_year_67 (by omega) ?_
              refine R_lmul (pc := 68) dX8_year_68 ?_
              refine R_ladd (pc := 69) dX8_year_69 ?_
              refine R_lconst (pc := 70) dX8_year_70 (x := 1) rfl ?_
              refine R_ladd (pc := 71) dX8_year_71 ?_
              refine R_lstore (pc := 72) dX8_year_72 (by decide) rfl rfl ?_
              refine R_lload (pc := 74) dX8_year_74 rfl ?_
              refine R_lload (pc := 76) dX8_year_76 rfl ?_
              refine R_lmul (pc := 78) dX8_year_78 ?_
              refine R_ldc2 (pc := 79) (x := 65521) dX8_year_79 kl_RX8_224 rfl ?_
              refine R_lrem (pc := 82) dX8_year_82 (by omega) ?_
              refine R_ldc2 (pc := 83) (x := 8) dX8_year_83 kl_RX8_226 rfl ?_
              refine R_ldiv (pc := 86) dX8_year_86 (by omega) ?_
              refine R_l2i (pc := 87) dX8_year_87 ?_
              rw [edr]
              refine R_istore (pc := 88) dX8_year_88 (by decide) rfl rfl ?_
              refine R_iload (pc := 90) dX8_year_90 rfl ?_
              refine R_aload_n (pc := 92) dX8_year_92 rfl ?_
              refine R_getR (pc := 93) dX8_year_93 fl_RX8_7 rfl (hsh _ _ rfl) rfl ?_
              refine R_iconst (pc := 96) dX8_year_96 ?_
              refine R_iald (pc := 97) dX8_year_97 (hsh _ _ rfl) (by omega) (e1 _) ?_
              refine R_iconst (pc := 98) dX8_year_98 ?_
              refine R_iadd (pc := 99) dX8_year_99 ?_
              refine R_irem (pc := 100) dX8_year_100 (by omega) ?_
              refine R_istore (pc := 101) dX8_year_101 (by decide) rfl rfl ?_
              refine R_iload (pc := 103) dX8_year_103 rfl ?_
              refine R_aload_n (pc := 105) dX8_year_105 rfl ?_
              refine R_getR (pc := 106) dX8_year_106 fl_RX8_7 rfl (hsh _ _ rfl) rfl ?_
              refine R_iconst (pc := 109) dX8_year_109 ?_
              refine R_iald (pc := 110) dX8_year_110 (hsh _ _ rfl) (by omega) (e1 _) ?_
              refine R_cmp_ge (pc := 111) (tgt := 127) dX8_year_111 (by decide) (by omega) (fun h_111 => ?_) (fun h_111 => ?_)
              · exact absurd h_111 (by omega)
              · refine R_aload_n (pc := 114) dX8_year_114 rfl ?_
                refine R_getR (pc := 115) dX8_year_115 fl_RX8_7 rfl (hsh _ _ rfl) rfl ?_
                refine R_iconst (pc := 118) dX8_year_118 ?_
                refine R_iald (pc := 119) dX8_year_119 (hsh _ _ rfl) (by omega) (e2 _) ?_
                refine R_if_le (pc := 120) (tgt := 127) dX8_year_120 (by decide) (by omega) (fun h_120 => ?_) (fun h_120 => ?_)
                · exact absurd h_120 (by omega)
                · refine R_iconst (pc := 123) dX8_year_123 ?_
                  refine R_goto (pc := 124) (tgt := 128) dX8_year_124 (by decide) ?_
                  refine R_istore (pc := 128) dX8_year_128 (by decide) rfl rfl ?_
                  refine R_iload (pc := 130) dX8_year_130 rfl ?_
                  refine R_if_eq (pc := 132) (tgt := 167) dX8_year_132 (by decide) (by omega) (fun h => absurd h (by decide)) (fun _ => ?_)
                  refine R_iload (pc := 135) dX8_year_135 rfl ?_
                  refine R_bipush (pc := 137) dX8_year_137 rfl ?_
                  refine R_idiv (pc := 139) dX8_year_139 (by omega) ?_
                  refine R_iconst (pc := 140) dX8_year_140 ?_
                  refine R_irem (pc := 141) dX8_year_141 (by omega) ?_
                  refine R_if_eq (pc := 142) (tgt := 167) dX8_year_142 (by decide) (by omega) (fun h_142 => ?_) (fun h_142 => ?_)
                  · exact absurd h_142 hfg
                  · refine R_aload_n (pc := 145) dX8_year_145 rfl ?_
                    refine R_sipush (pc := 146) dX8_year_146 rfl ?_
                    refine R_iload (pc := 149) dX8_year_149 rfl ?_
                    refine R_iload (pc := 151) dX8_year_151 rfl ?_
                    refine R_bipush (pc := 153) dX8_year_153 rfl ?_
                    refine R_idiv (pc := 155) dX8_year_155 (by omega) ?_
                    refine R_aload_n (pc := 156) dX8_year_156 rfl ?_
                    refine R_getR (pc := 157) dX8_year_157 fl_RX8_7 rfl (hsh _ _ rfl) rfl ?_
                    refine R_iconst (pc := 160) dX8_year_160 ?_
                    refine R_iald (pc := 161) dX8_year_161 (hsh _ _ rfl) (by omega) (e2 _) ?_
                    refine R_irem (pc := 162) dX8_year_162 (by omega) ?_
                    refine R_V3i (pc := 163) dX8_year_163 sv_RX8_162 (hsh _ _ rfl) (hbd) (Nat.le_of_ble_eq_true rfl) (by decide) ?_
                    refine R_pop (pc := 166) dX8_year_166 rfl ?_
                    refine R_iload (pc := 167) dX8_year_167 rfl ?_
                    refine R_if_ne (pc := 169) (tgt := 193) dX8_year_169 (by decide) (by omega) (fun _ => ?_) (fun h => absurd h (by decide))
                    refine R_aload_n (pc := 193) dX8_year_193 rfl ?_
                    refine R_getR (pc := 194) dX8_year_194 fl_RX8_13 rfl (hsh _ _ rfl) rfl ?_
                    refine R_sipush (pc := 197) dX8_year_197 rfl ?_
                    refine R_iconst (pc := 200) dX8_year_200 ?_
                    refine R_iast (pc := 201) dX8_year_201 (hsh _ _ rfl) (by omega) (by omega) ?_
                    rw [pmu (i := 18) (by omega) (by omega)]
                    refine R_drop 6 rfl ?_
                    refine R_drop 8 rfl ?_
                    refine R_drop 9 rfl ?_
                    refine R_drop 10 rfl ?_
                    exact hnext _ _ rfl rfl
        · rw [if_neg hwk] at ew
          rw [ew] at hnext
          by_cases hz18 : (yrS (moM M) z (roM M 0) k).1 18 = 0
          · rw [if_pos hz18, yr_a hz18 hn.2] at hnext
            refine R_iload (pc := 50) dX8_year_50 rfl ?_
            refine R_iload_n (pc := 52) dX8_year_52 rfl ?_
            refine R_cmp_ge (pc := 53) (tgt := 208) dX8_year_53 (by decide) (by omega) (fun h_53 => ?_) (fun h_53 => ?_)
            · exact absurd h_53 (by omega)
            · refine R_ldc2 (pc := 56) (x := 7919) dX8_year_56 kl_RX8_220 rfl ?_
              refine R_iload_n (pc := 59) dX8_year_59 rfl ?_
              refine R_i2l (pc := 60) dX8_year_60 (by omega) ?_
              refine R_lmul (pc := 61) dX8_year_61 ?_
              refine R_ldc2 (pc := 62) (x := 6151) dX8_year_62 kl_RX8_222 rfl ?_
              refine R_iload (pc := 65) dX8_year_65 rfl ?_
              refine R_i2l (pc := 67) dX8_year_67 (by omega) ?_
              refine R_lmul (pc := 68) dX8_year_68 ?_
              refine R_ladd (pc := 69) dX8_year_69 ?_
              refine R_lconst (pc := 70) dX8_year_70 (x := 1) rfl ?_
              refine R_ladd (pc := 71) dX8_year_71 ?_
              refine R_lstore (pc := 72) dX8_year_72 (by decide) rfl rfl ?_
              refine R_lload (pc := 74) dX8_year_74 rfl ?_
              refine R_lload (pc := 76) dX8_year_76 rfl ?_
              refine R_lmul (pc := 78) dX8_year_78 ?_
              refine R_ldc2 (pc := 79) (x := 65521) dX8_year_79 kl_RX8_224 rfl ?_
              refine R_lrem (pc := 82) dX8_year_82 (by omega) ?_
              refine R_ldc2 (pc := 83) (x := 8) dX8_year_83 kl_RX8_226 rfl ?_
              refine R_ldiv (pc := 86) dX8_year_86 (by omega) ?_
              refine R_l2i (pc := 87) dX8_year_87 ?_
              rw [edr]
              refine R_istore (pc := 88) dX8_year_88 (by decide) rfl rfl ?_
              refine R_iload (pc := 90) dX8_year_90 rfl ?_
              refine R_aload_n (pc := 92) dX8_year_92 rfl ?_
              refine R_getR (pc := 93) dX8_year_93 fl_RX8_7 rfl (hsh _ _ rfl) rfl ?_
              refine R_iconst (pc := 96) dX8_year_96 ?_
              refine R_iald (pc := 97) dX8_year_97 (hsh _ _ rfl) (by omega) (e1 _) ?_
              refine R_iconst (pc := 98) dX8_year_98 ?_
              refine R_iadd (pc := 99) dX8_year_99 ?_
              refine R_irem (pc := 100) dX8_year_100 (by omega) ?_
              refine R_istore (pc := 101) dX8_year_101 (by decide) rfl rfl ?_
              refine R_iload (pc := 103) dX8_year_103 rfl ?_
              refine R_aload_n (pc := 105) dX8_year_105 rfl ?_
              refine R_getR (pc := 106) dX8_year_106 fl_RX8_7 rfl (hsh _ _ rfl) rfl ?_
              refine R_iconst (pc := 109) dX8_year_109 ?_
              refine R_iald (pc := 110) dX8_year_110 (hsh _ _ rfl) (by omega) (e1 _) ?_
              refine R_cmp_ge (pc := 111) (tgt := 127) dX8_year_111 (by decide) (by omega) (fun h_111 => ?_) (fun h_111 => ?_)
              · refine R_iconst (pc := 127) dX8_year_127 ?_
                refine R_istore (pc := 128) dX8_year_128 (by decide) rfl rfl ?_
                refine R_iload (pc := 130) dX8_year_130 rfl ?_
                refine R_if_eq (pc := 132) (tgt := 167) dX8_year_132 (by decide) (by omega) (fun _ => ?_) (fun h => absurd h (by decide))
                refine R_iload (pc := 167) dX8_year_167 rfl ?_
                refine R_if_ne (pc := 169) (tgt := 193) dX8_year_169 (by decide) (by omega) (fun h => absurd h (by decide)) (fun _ => ?_)
                refine R_aload_n (pc := 172) dX8_year_172 rfl ?_
                refine R_getR (pc := 173) dX8_year_173 fl_RX8_13 rfl (hsh _ _ rfl) rfl ?_
                refine R_sipush (pc := 176) dX8_year_176 rfl ?_
                refine R_iald (pc := 179) dX8_year_179 (hsh _ _ rfl) (by omega) ((pm_j (i := 18) (by omega) (by omega)).trans f18) ?_
                refine R_if_ne (pc := 180) (tgt := 193) dX8_year_180 (by decide) (by omega) (fun h_180 => ?_) (fun h_180 => ?_)
                · exact absurd hz18 h_180
                · refine R_aload_n (pc := 183) dX8_year_183 rfl ?_
                  refine R_sipush (pc := 184) dX8_year_184 rfl ?_
                  refine R_V1v (pc := 187) dX8_year_187 sv_RX8_166 (hsh _ _ rfl) (j_straightens b sh M hsh 209 (by omega) rfl hn _ hf) (Nat.le_of_ble_eq_true rfl) (by decide) ?_
                  refine R_iinc (pc := 190) dX8_year_190 rfl (by decide) rfl rfl ?_
                  refine R_aload_n (pc := 193) dX8_year_193 rfl ?_
                  refine R_getR (pc := 194) dX8_year_194 fl_RX8_13 rfl (hsh _ _ rfl) rfl ?_
                  refine R_sipush (pc := 197) dX8_year_197 rfl ?_
                  refine R_iconst (pc := 200) dX8_year_200 ?_
                  refine R_iast (pc := 201) dX8_year_201 (hsh _ _ rfl) (by omega) (by omega) ?_
                  rw [pmu (i := 18) (by omega) (by omega)]
                  refine R_drop 6 rfl ?_
                  refine R_drop 8 rfl ?_
                  refine R_drop 9 rfl ?_
                  refine R_drop 10 rfl ?_
                  exact hnext _ _ rfl rfl
              · refine R_aload_n (pc := 114) dX8_year_114 rfl ?_
                refine R_getR (pc := 115) dX8_year_115 fl_RX8_7 rfl (hsh _ _ rfl) rfl ?_
                refine R_iconst (pc := 118) dX8_year_118 ?_
                refine R_iald (pc := 119) dX8_year_119 (hsh _ _ rfl) (by omega) (e2 _) ?_
                refine R_if_le (pc := 120) (tgt := 127) dX8_year_120 (by decide) (by omega) (fun h_120 => ?_) (fun h_120 => ?_)
                · refine R_iconst (pc := 127) dX8_year_127 ?_
                  refine R_istore (pc := 128) dX8_year_128 (by decide) rfl rfl ?_
                  refine R_iload (pc := 130) dX8_year_130 rfl ?_
                  refine R_if_eq (pc := 132) (tgt := 167) dX8_year_132 (by decide) (by omega) (fun _ => ?_) (fun h => absurd h (by decide))
                  refine R_iload (pc := 167) dX8_year_167 rfl ?_
                  refine R_if_ne (pc := 169) (tgt := 193) dX8_year_169 (by decide) (by omega) (fun h => absurd h (by decide)) (fun _ => ?_)
                  refine R_aload_n (pc := 172) dX8_year_172 rfl ?_
                  refine R_getR (pc := 173) dX8_year_173 fl_RX8_13 rfl (hsh _ _ rfl) rfl ?_
                  refine R_sipush (pc := 176) dX8_year_176 rfl ?_
                  refine R_iald (pc := 179) dX8_year_179 (hsh _ _ rfl) (by omega) ((pm_j (i := 18) (by omega) (by omega)).trans f18) ?_
                  refine R_if_ne (pc := 180) (tgt := 193) dX8_year_180 (by decide) (by omega) (fun h_180 => ?_) (fun h_180 => ?_)
                  · exact absurd hz18 h_180
                  · refine R_aload_n (pc := 183) dX8_year_183 rfl ?_
                    refine R_sipush (pc := 184) dX8_year_184 rfl ?_
                    refine R_V1v (pc := 187) dX8_year_187 sv_RX8_166 (hsh _ _ rfl) (j_straightens b sh M hsh 209 (by omega) rfl hn _ hf) (Nat.le_of_ble_eq_true rfl) (by decide) ?_
                    refine R_iinc (pc := 190) dX8_year_190 rfl (by decide) rfl rfl ?_
                    refine R_aload_n (pc := 193) dX8_year_193 rfl ?_
                    refine R_getR (pc := 194) dX8_year_194 fl_RX8_13 rfl (hsh _ _ rfl) rfl ?_
                    refine R_sipush (pc := 197) dX8_year_197 rfl ?_
                    refine R_iconst (pc := 200) dX8_year_200 ?_
                    refine R_iast (pc := 201) dX8_year_201 (hsh _ _ rfl) (by omega) (by omega) ?_
                    rw [pmu (i := 18) (by omega) (by omega)]
                    refine R_drop 6 rfl ?_
                    refine R_drop 8 rfl ?_
                    refine R_drop 9 rfl ?_
                    refine R_drop 10 rfl ?_
                    exact hnext _ _ rfl rfl
                · exact absurd h_120 (by omega)
          · rw [if_neg hz18, yr_n hz18, Int.add_zero] at hnext
            refine R_iload (pc := 50) dX8_year_50 rfl ?_
            refine R_iload_n (pc := 52) dX8_year_52 rfl ?_
            refine R_cmp_ge (pc := 53) (tgt := 208) dX8_year_53 (by decide) (by omega) (fun h_53 => ?_) (fun h_53 => ?_)
            · exact absurd h_53 (by omega)
            · refine R_ldc2 (pc := 56) (x := 7919) dX8_year_56 kl_RX8_220 rfl ?_
              refine R_iload_n (pc := 59) dX8_year_59 rfl ?_
              refine R_i2l (pc := 60) dX8_year_60 (by omega) ?_
              refine R_lmul (pc := 61) dX8_year_61 ?_
              refine R_ldc2 (pc := 62) (x := 6151) dX8_year_62 kl_RX8_222 rfl ?_
              refine R_iload (pc := 65) dX8_year_65 rfl ?_
              refine R_i2l (pc := 67) dX8_year_67 (by omega) ?_
              refine R_lmul (pc := 68) dX8_year_68 ?_
              refine R_ladd (pc := 69) dX8_year_69 ?_
              refine R_lconst (pc := 70) dX8_year_70 (x := 1) rfl ?_
              refine R_ladd (pc := 71) dX8_year_71 ?_
              refine R_lstore (pc := 72) dX8_year_72 (by decide) rfl rfl ?_
              refine R_lload (pc := 74) dX8_year_74 rfl ?_
              refine R_lload (pc := 76) dX8_year_76 rfl ?_
              refine R_lmul (pc := 78) dX8_year_78 ?_
              refine R_ldc2 (pc := 79) (x := 65521) dX8_year_79 kl_RX8_224 rfl ?_
              refine R_lrem (pc := 82) dX8_year_82 (by omega) ?_
              refine R_ldc2 (pc := 83) (x := 8) dX8_year_83 kl_RX8_226 rfl ?_
              refine R_ldiv (pc := 86) dX8_year_86 (by omega) ?_
              refine R_l2i (pc := 87) dX8_year_87 ?_
              rw [edr]
              refine R_istore (pc := 88) dX8_year_88 (by decide) rfl rfl ?_
              refine R_iload (pc := 90) dX8_year_90 rfl ?_
              refine R_aload_n (pc := 92) dX8_year_92 rfl ?_
              refine R_getR (pc := 93) dX8_year_93 fl_RX8_7 rfl (hsh _ _ rfl) rfl ?_
              refine R_iconst (pc := 96) dX8_year_96 ?_
              refine R_iald (pc := 97) dX8_year_97 (hsh _ _ rfl) (by omega) (e1 _) ?_
              refine R_iconst (pc := 98) dX8_year_98 ?_
              refine R_iadd (pc := 99) dX8_year_99 ?_
              refine R_irem (pc := 100) dX8_year_100 (by omega) ?_
              refine R_istore (pc := 101) dX8_year_101 (by decide) rfl rfl ?_
              refine R_iload (pc := 103) dX8_year_103 rfl ?_
              refine R_aload_n (pc := 105) dX8_year_105 rfl ?_
              refine R_getR (pc := 106) dX8_year_106 fl_RX8_7 rfl (hsh _ _ rfl) rfl ?_
              refine R_iconst (pc := 109) dX8_year_109 ?_
              refine R_iald (pc := 110) dX8_year_110 (hsh _ _ rfl) (by omega) (e1 _) ?_
              refine R_cmp_ge (pc := 111) (tgt := 127) dX8_year_111 (by decide) (by omega) (fun h_111 => ?_) (fun h_111 => ?_)
              · refine R_iconst (pc := 127) dX8_year_127 ?_
                refine R_istore (pc := 128) dX8_year_128 (by decide) rfl rfl ?_
                refine R_iload (pc := 130) dX8_year_130 rfl ?_
                refine R_if_eq (pc := 132) (tgt := 167) dX8_year_132 (by decide) (by omega) (fun _ => ?_) (fun h => absurd h (by decide))
                refine R_iload (pc := 167) dX8_year_167 rfl ?_
                refine R_if_ne (pc := 169) (tgt := 193) dX8_year_169 (by decide) (by omega) (fun h => absurd h (by decide)) (fun _ => ?_)
                refine R_aload_n (pc := 172) dX8_year_172 rfl ?_
                refine R_getR (pc := 173) dX8_year_173 fl_RX8_13 rfl (hsh _ _ rfl) rfl ?_
                refine R_sipush (pc := 176) dX8_year_176 rfl ?_
                refine R_iald (pc := 179) dX8_year_179 (hsh _ _ rfl) (by omega) ((pm_j (i := 18) (by omega) (by omega)).trans f18) ?_
                refine R_if_ne (pc := 180) (tgt := 193) dX8_year_180 (by decide) (by omega) (fun h_180 => ?_) (fun h_180 => ?_)
                · refine R_aload_n (pc := 193) dX8_year_193 rfl ?_
                  refine R_getR (pc := 194) dX8_year_194 fl_RX8_13 rfl (hsh _ _ rfl) rfl ?_
                  refine R_sipush (pc := 197) dX8_year_197 rfl ?_
                  refine R_iconst (pc := 200) dX8_year_200 ?_
                  refine R_iast (pc := 201) dX8_year_201 (hsh _ _ rfl) (by omega) (by omega) ?_
                  rw [pmu (i := 18) (by omega) (by omega)]
                  refine R_drop 6 rfl ?_
                  refine R_drop 8 rfl ?_
                  refine R_drop 9 rfl ?_
                  refine R_drop 10 rfl ?_
                  exact hnext _ _ rfl rfl
                · exact absurd h_180 hz18
              · refine R_aload_n (pc := 114) dX8_year_114 rfl ?_
                refine R_getR (pc := 115) dX8_year_115 fl_RX8_7 rfl (hsh _ _ rfl) rfl ?_
                refine R_iconst (pc := 118) dX8_year_118 ?_
                refine R_iald (pc := 119) dX8_year_119 (hsh _ _ rfl) (by omega) (e2 _) ?_
                refine R_if_le (pc := 120) (tgt := 127) dX8_year_120 (by decide) (by omega) (fun h_120 => ?_) (fun h_120 => ?_)
                · refine R_iconst (pc := 127) dX8_year_127 ?_
                  refine R_istore (pc := 128) dX8_year_128 (by decide) rfl rfl ?_
                  refine R_iload (pc := 130) dX8_year_130 rfl ?_
                  refine R_if_eq (pc := 132) (tgt := 167) dX8_year_132 (by decide) (by omega) (fun _ => ?_) (fun h => absurd h (by decide))
                  refine R_iload (pc := 167) dX8_year_167 rfl ?_
                  refine R_if_ne (pc := 169) (tgt := 193) dX8_year_169 (by decide) (by omega) (fun h => absurd h (by decide)) (fun _ => ?_)
                  refine R_aload_n (pc := 172) dX8_year_172 rfl ?_
                  refine R_getR (pc := 173) dX8_year_173 fl_RX8_13 rfl (hsh _ _ rfl) rfl ?_
                  refine R_sipush (pc := 176) dX8_year_176 rfl ?_
                  refine R_iald (pc := 179) dX8_year_179 (hsh _ _ rfl) (by omega) ((pm_j (i := 18) (by omega) (by omega)).trans f18) ?_
                  refine R_if_ne (pc := 180) (tgt := 193) dX8_year_180 (by decide) (by omega) (fun h_180 => ?_) (fun h_180 => ?_)
                  · refine R_aload_n (pc := 193) dX8_year_193 rfl ?_
                    refine R_getR (pc := 194) dX8_year_194 fl_RX8_13 rfl (hsh _ _ rfl) rfl ?_
                    refine R_sipush (pc := 197) dX8_year_197 rfl ?_
                    refine R_iconst (pc := 200) dX8_year_200 ?_
                    refine R_iast (pc := 201) dX8_year_201 (hsh _ _ rfl) (by omega) (by omega) ?_
                    rw [pmu (i := 18) (by omega) (by omega)]
                    refine R_drop 6 rfl ?_
                    refine R_drop 8 rfl ?_
                    refine R_drop 9 rfl ?_
                    refine R_drop 10 rfl ?_
                    exact hnext _ _ rfl rfl
                  · exact absurd h_180 hz18
                · exact absurd h_120 (by omega)
      · have e1 : n.toNat = k := by omega
        have hl := j_lengthOf b sh M hsh 209 (by omega) rfl hn _ hf
        rw [len_u hn.2] at hl
        refine R_iload (pc := 50) dX8_year_50 rfl ?_
        refine R_iload_n (pc := 52) dX8_year_52 rfl ?_
        refine R_cmp_ge (pc := 53) (tgt := 208) dX8_year_53 (by decide) (by omega) (fun h_53 => ?_) (fun h_53 => ?_)
        · refine R_iload_n (pc := 208) dX8_year_208 rfl ?_
          refine R_if_ne (pc := 209) (tgt := 222) dX8_year_209 (by decide) (by omega) (fun h_209 => ?_) (fun h_209 => ?_)
          · refine R_iload (pc := 222) dX8_year_222 rfl ?_
            refine R_iret (pc := 224) dX8_year_224 ?_
            exact QM_ro hI (FrM_pm FrM_r (by omega)) (by rw [ea, e1]; omega)
          · refine R_aload_n (pc := 212) dX8_year_212 rfl ?_
            refine R_sipush (pc := 213) dX8_year_213 rfl ?_
            refine R_V1i (pc := 216) dX8_year_216 sv_RX8_189 (hsh _ _ rfl) (hl) (Nat.le_of_ble_eq_true rfl) (by decide) ?_
            refine R_goto (pc := 219) (tgt := 224) dX8_year_219 (by decide) ?_
            refine R_iret (pc := 224) dX8_year_224 ?_
            exact QM_ro hI (FrM_pm FrM_r (by omega)) (by rw [ea, e1]; omega)
        · exact absurd h_53 (by omega)
  refine MC_of (ls := [some (vr b 72), some (vi z), some (vi n), some (vi what), none, none, none, none, none, none, none]) (by decide) rfl (Nat.le_of_ble_eq_true rfl) ?_
  refine R_iload_n (pc := 0) dX8_year_0 rfl ?_
  refine R_i2l (pc := 1) dX8_year_1 (by omega) ?_
  refine R_lconst (pc := 2) dX8_year_2 (x := 0) rfl ?_
  refine R_ldc2 (pc := 3) (x := 9999) dX8_year_3 kl_RX8_218 rfl ?_
  refine R_S3i (pc := 6) dX8_year_6 ss_RX8_69 (j_in b sh _ _ _ _ hz (by omega) (by omega)) (Nat.le_of_ble_eq_true rfl) (by decide) ?_
  refine R_if_eq (pc := 9) (tgt := 34) dX8_year_9 (by decide) (by omega) (fun h_9 => ?_) (fun h_9 => ?_)
  · refine R_iconst (pc := 34) dX8_year_34 ?_
    refine R_iret (pc := 35) dX8_year_35 ?_
    exact QM_ro hI FrM_r (by rw [ea]; omega)
  · refine R_iload_n (pc := 12) dX8_year_12 rfl ?_
    refine R_i2l (pc := 13) dX8_year_13 (by omega) ?_
    refine R_lconst (pc := 14) dX8_year_14 (x := 1) rfl ?_
    refine R_ldc2 (pc := 15) (x := 60) dX8_year_15 kl_RX8_127 rfl ?_
    refine R_S3i (pc := 18) dX8_year_18 ss_RX8_69 (j_in b sh _ _ _ _ hn0 (by omega) (by omega)) (Nat.le_of_ble_eq_true rfl) (by decide) ?_
    refine R_if_eq (pc := 21) (tgt := 34) dX8_year_21 (by decide) (by omega) (fun h_21 => ?_) (fun h_21 => ?_)
    · refine R_iconst (pc := 34) dX8_year_34 ?_
      refine R_iret (pc := 35) dX8_year_35 ?_
      exact QM_ro hI FrM_r (by rw [ea]; omega)
    · refine R_iload_n (pc := 24) dX8_year_24 rfl ?_
      refine R_i2l (pc := 25) dX8_year_25 (by omega) ?_
      refine R_lconst (pc := 26) dX8_year_26 (x := 0) rfl ?_
      refine R_lconst (pc := 27) dX8_year_27 (x := 1) rfl ?_
      refine R_S3i (pc := 28) dX8_year_28 ss_RX8_69 (j_in b sh _ _ _ _ hj (by omega) (by omega)) (Nat.le_of_ble_eq_true rfl) (by decide) ?_
      refine R_if_ne (pc := 31) (tgt := 36) dX8_year_31 (by decide) (by omega) (fun h_31 => ?_) (fun h_31 => ?_)
      · refine R_iconst (pc := 36) dX8_year_36 ?_
        refine R_istore (pc := 37) dX8_year_37 (by decide) rfl rfl ?_
        refine R_aload_n (pc := 39) dX8_year_39 rfl ?_
        refine R_iconst (pc := 40) dX8_year_40 ?_
        refine R_sipush (pc := 41) dX8_year_41 rfl ?_
        refine R_V2v (pc := 44) dX8_year_44 sv_RX8_174 (hsh _ _ rfl) (j_copy b sh M hsh 0 209 (by omega) (by omega) (by omega)) (Nat.le_of_ble_eq_true rfl) (by decide) ?_
        refine R_iconst (pc := 47) dX8_year_47 ?_
        refine R_istore (pc := 48) dX8_year_48 (by decide) rfl rfl ?_
        have hx := L (by omega) 100 0 0 rfl (by omega) (by omega)
        rw [show yrS (moM M) z (roM M 0) 0 = (roM M 0, 0) from rfl] at hx
        dsimp only at hx
        rw [uF_id] at hx
        exact hx
      · refine R_iconst (pc := 34) dX8_year_34 ?_
        refine R_iret (pc := 35) dX8_year_35 ?_
        exact QM_ro hI FrM_r (by rw [ea]; omega)
