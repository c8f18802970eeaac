/-! THE REFERENCE'S ROADS -/
theorem uF_id {f : Rd} {i : Int} : uF f i (f i) = f := by
  funext j
  unfold uF
  split
  · rename_i h; rw [h]
  · rfl
theorem uF_u {f : Rd} {i x y : Int} : uF (uF f i x) i y = uF f i y := by
  funext j
  simp only [uF]
  repeat' split
  all_goals first | rfl | omega
theorem uF_c {f : Rd} {i k x y : Int} (h : i ≠ k) : uF (uF f i x) k y = uF (uF f k y) i x := by
  funext j
  simp only [uF]
  repeat' split
  all_goals first | rfl | omega
theorem gy_u {kind yard : Int} {f : Rd} {i j x : Int} (h1 : i ≠ j) (h2 : i - 1 ≠ j) : gy kind yard (uF f j x) i = gy kind yard f i := by
  unfold gy
  rw [uF_n h1, uF_n h2]
theorem bnS_u {kind reach place yard : Int} {f : Rd} {j x : Int} : ∀ n : Nat, (n : Int) < j → bnS kind reach place yard (uF f j x) n = (uF (bnS kind reach place yard f n).1 j x, (bnS kind reach place yard f n).2)
  | 0, _ => rfl
  | n + 1, h => by
    have ih := bnS_u (kind := kind) (reach := reach) (place := place) (yard := yard) (f := f) (j := j) (x := x) n (by omega)
    unfold bnS
    rw [ih]
    dsimp only
    rw [gy_u (by omega) (by omega), uF_n (show (n : Int) + 1 ≠ j by omega)]
    split
    · rw [uF_c (by omega)]
    · rfl
theorem bend_u {mo : Mo} {f : Rd} {k t j x : Int} (hN : mo 0 0 ≤ 16) (hj : j = 16 ∨ j = 18) : bend mo (uF f j x) k t = (uF (bend mo f k t).1 j x, (bend mo f k t).2) := by
  unfold bend
  rw [uF_n (show (17 : Int) ≠ j by omega)]
  split
  · rfl
  · exact bnS_u _ (by omega)
theorem j_goes (b : Nat) (sh : Shp) (M : Mem) (hsh : Hm sh) (h : Int) (hh : 0 ≤ h ∧ h + 19 ≤ 304) (f : Rd) {B : Int} (hf : WFr f B) (i kind yard : Int) (hi : 1 ≤ i ∧ i ≤ 15) (hk : 0 ≤ kind ∧ kind ≤ 4) (ha : 0 ≤ yard ∧ yard ≤ 60) : Ex 1 mX8_goes b sh (putM M h f) [vr b 72, vi h, vi i, vi kind, vi yard] (some (vi (gy kind yard f i))) (putM M h f) := by
  have h1 := hf.1 i (by omega) (by omega)
  have h2 := hf.1 (i - 1) (by omega) (by omega)
  refine MC_of (ls := [some (vr b 72), some (vi h), some (vi i), some (vi kind), some (vi yard), none, none, none]) (by decide) rfl (Nat.le_of_ble_eq_true rfl) ?_
  refine R_aload_n (pc := 0) dX8_goes_0 rfl ?_
  refine R_getR (pc := 1) dX8_goes_1 fl_RX8_13 rfl (hsh _ _ rfl) rfl ?_
  refine R_iload_n (pc := 4) dX8_goes_4 rfl ?_
  refine R_iload_n (pc := 5) dX8_goes_5 rfl ?_
  refine R_iadd (pc := 6) dX8_goes_6 ?_
  refine R_iald (pc := 7) dX8_goes_7 (hsh _ _ rfl) (by (try simp only [ab]); omega) (pm_i (by omega)) ?_
  refine R_istore (pc := 8) dX8_goes_8 (by decide) rfl rfl ?_
  refine R_iload_n (pc := 10) dX8_goes_10 rfl ?_
  by_cases hk11_0 : kind = 2
  · refine R_tabIn (pc := 11) (off := 25) (tgt := 36) dX8_goes_11 (by (try simp only [ab]); omega) (by omega) (by rw [hk11_0]; rfl) (by decide) ?_
    refine R_iload (pc := 36) dX8_goes_36 rfl ?_
    refine R_iload (pc := 38) dX8_goes_38 rfl ?_
    refine R_cmp_ge (pc := 40) (tgt := 50) dX8_goes_40 (by decide) (by (try simp only [ab]); omega) (fun h_40 => ?_) (fun h_40 => ?_)
    · refine R_iload (pc := 50) dX8_goes_50 rfl ?_
      refine R_iconst (pc := 52) dX8_goes_52 ?_
      refine R_iadd (pc := 53) dX8_goes_53 ?_
      refine R_istore (pc := 54) dX8_goes_54 (by decide) rfl rfl ?_
      refine R_iload_n (pc := 56) dX8_goes_56 rfl ?_
      refine R_iconst (pc := 57) dX8_goes_57 ?_
      refine R_irem (pc := 58) dX8_goes_58 (by (try simp only [ab]); omega) ?_
      refine R_iconst (pc := 59) dX8_goes_59 ?_
      refine R_cmp_ne (pc := 60) (tgt := 73) dX8_goes_60 (by decide) (by (try simp only [ab]); omega) (fun h_60 => ?_) (fun h_60 => ?_)
      · refine R_iload (pc := 73) dX8_goes_73 rfl ?_
        refine R_if_ge (pc := 75) (tgt := 82) dX8_goes_75 (by decide) (by (try simp only [ab]); omega) (fun h_75 => ?_) (fun h_75 => ?_)
        · refine R_iload (pc := 82) dX8_goes_82 rfl ?_
          refine R_bipush (pc := 84) dX8_goes_84 rfl ?_
          refine R_cmp_le (pc := 86) (tgt := 94) dX8_goes_86 (by decide) (by (try simp only [ab]); omega) (fun h_86 => ?_) (fun h_86 => ?_)
          · refine R_iload (pc := 94) dX8_goes_94 rfl ?_
            refine R_iret (pc := 96) dX8_goes_96 ?_
            exact eqi (by simp only [gy, tw, tb, aw, mn3, ab] at *; omega) rfl
          · refine R_bipush (pc := 89) dX8_goes_89 rfl ?_
            refine R_goto (pc := 91) (tgt := 96) dX8_goes_91 (by decide) ?_
            refine R_iret (pc := 96) dX8_goes_96 ?_
            exact eqi (by simp only [gy, tw, tb, aw, mn3, ab] at *; omega) rfl
        · refine R_iconst (pc := 78) dX8_goes_78 ?_
          refine R_goto (pc := 79) (tgt := 96) dX8_goes_79 (by decide) ?_
          refine R_iret (pc := 96) dX8_goes_96 ?_
          exact eqi (by simp only [gy, tw, tb, aw, mn3, ab] at *; omega) rfl
      · refine R_iload (pc := 63) dX8_goes_63 rfl ?_
        refine R_iload (pc := 65) dX8_goes_65 rfl ?_
        refine R_S2i (pc := 67) dX8_goes_67 ss_RX8_148 (j_toward b sh _ _ _ (by omega) (by omega)) (Nat.le_of_ble_eq_true rfl) (by decide) ?_
        refine R_goto (pc := 70) (tgt := 96) dX8_goes_70 (by decide) ?_
        refine R_iret (pc := 96) dX8_goes_96 ?_
        exact eqi (by simp only [gy, tw, tb, aw, mn3, ab] at *; omega) rfl
    · refine R_iload (pc := 43) dX8_goes_43 rfl ?_
      refine R_iconst (pc := 45) dX8_goes_45 ?_
      refine R_isub (pc := 46) dX8_goes_46 ?_
      refine R_goto (pc := 47) (tgt := 54) dX8_goes_47 (by decide) ?_
      refine R_istore (pc := 54) dX8_goes_54 (by decide) rfl rfl ?_
      refine R_iload_n (pc := 56) dX8_goes_56 rfl ?_
      refine R_iconst (pc := 57) dX8_goes_57 ?_
      refine R_irem (pc := 58) dX8_goes_58 (by (try simp only [ab]); omega) ?_
      refine R_iconst (pc := 59) dX8_goes_59 ?_
      refine R_cmp_ne (pc := 60) (tgt := 73) dX8_goes_60 (by decide) (by (try simp only [ab]); omega) (fun h_60 => ?_) (fun h_60 => ?_)
      · refine R_iload (pc := 73) dX8_goes_73 rfl ?_
        refine R_if_ge (pc := 75) (tgt := 82) dX8_goes_75 (by decide) (by (try simp only [ab]); omega) (fun h_75 => ?_) (fun h_75 => ?_)
        · refine R_iload (pc := 82) dX8_goes_82 rfl ?_
          refine R_bipush (pc := 84) dX8_goes_84 rfl ?_
          refine R_cmp_le (pc := 86) (tgt := 94) dX8_goes_86 (by decide) (by (try simp only [ab]); omega) (fun h_86 => ?_) (fun h_86 => ?_)
          · refine R_iload (pc := 94) dX8_goes_94 rfl ?_
            refine R_iret (pc := 96) dX8_goes_96 ?_
            exact eqi (by simp only [gy, tw, tb, aw, mn3, ab] at *; omega) rfl
          · refine R_bipush (pc := 89) dX8_goes_89 rfl ?_
            refine R_goto (pc := 91) (tgt := 96) dX8_goes_91 (by decide) ?_
            refine R_iret (pc := 96) dX8_goes_96 ?_
            exact eqi (by simp only [gy, tw, tb, aw, mn3, ab] at *; omega) rfl
        · refine R_iconst (pc := 78) dX8_goes_78 ?_
          refine R_goto (pc := 79) (tgt := 96) dX8_goes_79 (by decide) ?_
          refine R_iret (pc := 96) dX8_goes_96 ?_
          exact eqi (by simp only [gy, tw, tb, aw, mn3, ab] at *; omega) rfl
      · refine R_iload (pc := 63) dX8_goes_63 rfl ?_
        refine R_iload (pc := 65) dX8_goes_65 rfl ?_
        refine R_S2i (pc := 67) dX8_goes_67 ss_RX8_148 (j_toward b sh _ _ _ (by omega) (by omega)) (Nat.le_of_ble_eq_true rfl) (by decide) ?_
        refine R_goto (pc := 70) (tgt := 96) dX8_goes_70 (by decide) ?_
        refine R_iret (pc := 96) dX8_goes_96 ?_
        exact eqi (by simp only [gy, tw, tb, aw, mn3, ab] at *; omega) rfl
  by_cases hk11_1 : kind = 3
  · refine R_tabIn (off := 86) (tgt := 97) dX8_goes_11 (by (try simp only [ab]); omega) (by omega) (by rw [hk11_1]; rfl) (by decide) ?_
    refine R_iload (pc := 97) dX8_goes_97 rfl ?_
    refine R_bipush (pc := 99) dX8_goes_99 rfl ?_
    refine R_S2i (pc := 101) dX8_goes_101 ss_RX8_148 (j_toward b sh _ _ _ (by omega) (by omega)) (Nat.le_of_ble_eq_true rfl) (by decide) ?_
    refine R_iret (pc := 104) dX8_goes_104 ?_
    exact eqi (by simp only [gy, tw, tb, aw, mn3, ab] at *; omega) rfl
  by_cases hk11_2 : kind = 4
  · refine R_tabIn (off := 94) (tgt := 105) dX8_goes_11 (by (try simp only [ab]); omega) (by omega) (by rw [hk11_2]; rfl) (by decide) ?_
    refine R_iload (pc := 105) dX8_goes_105 rfl ?_
    refine R_aload_n (pc := 107) dX8_goes_107 rfl ?_
    refine R_getR (pc := 108) dX8_goes_108 fl_RX8_13 rfl (hsh _ _ rfl) rfl ?_
    refine R_iload_n (pc := 111) dX8_goes_111 rfl ?_
    refine R_iload_n (pc := 112) dX8_goes_112 rfl ?_
    refine R_iadd (pc := 113) dX8_goes_113 ?_
    refine R_iconst (pc := 114) dX8_goes_114 ?_
    refine R_isub (pc := 115) dX8_goes_115 ?_
    refine R_iald (pc := 116) dX8_goes_116 (hsh _ _ rfl) (by (try simp only [ab]); omega) (pm_j (i := i - 1) (by omega) (by omega)) ?_
    refine R_S2i (pc := 117) dX8_goes_117 ss_RX8_152 (j_apart b sh _ _ _ (by omega) (by omega)) (Nat.le_of_ble_eq_true rfl) (by decide) ?_
    refine R_istore (pc := 120) dX8_goes_120 (by decide) rfl rfl ?_
    refine R_iload (pc := 122) dX8_goes_122 rfl ?_
    refine R_iconst (pc := 124) dX8_goes_124 ?_
    refine R_cmp_le (pc := 125) (tgt := 132) dX8_goes_125 (by decide) (by (try simp only [ab]); omega) (fun h_125 => ?_) (fun h_125 => ?_)
    · refine R_iload (pc := 132) dX8_goes_132 rfl ?_
      refine R_istore (pc := 134) dX8_goes_134 (by decide) rfl rfl ?_
      refine R_iload (pc := 136) dX8_goes_136 rfl ?_
      refine R_iload (pc := 138) dX8_goes_138 rfl ?_
      refine R_iload (pc := 140) dX8_goes_140 rfl ?_
      refine R_S2i (pc := 142) dX8_goes_142 ss_RX8_152 (j_apart b sh _ _ _ (by omega) (by omega)) (Nat.le_of_ble_eq_true rfl) (by decide) ?_
      refine R_cmp_le (pc := 145) (tgt := 158) dX8_goes_145 (by decide) (by (try simp only [ab]); omega) (fun h_145 => ?_) (fun h_145 => ?_)
      · refine R_iload (pc := 158) dX8_goes_158 rfl ?_
        refine R_istore (pc := 160) dX8_goes_160 (by decide) rfl rfl ?_
        refine R_iload (pc := 162) dX8_goes_162 rfl ?_
        refine R_iload (pc := 164) dX8_goes_164 rfl ?_
        refine R_cmp_ge (pc := 166) (tgt := 177) dX8_goes_166 (by decide) (by (try simp only [ab]); omega) (fun h_166 => ?_) (fun h_166 => ?_)
        · refine R_iload (pc := 177) dX8_goes_177 rfl ?_
          refine R_iload (pc := 179) dX8_goes_179 rfl ?_
          refine R_isub (pc := 181) dX8_goes_181 ?_
          refine R_iret (pc := 182) dX8_goes_182 ?_
          exact eqi (by simp only [gy, tw, tb, aw, mn3, ab] at *; omega) rfl
        · refine R_iload (pc := 169) dX8_goes_169 rfl ?_
          refine R_iload (pc := 171) dX8_goes_171 rfl ?_
          refine R_iadd (pc := 173) dX8_goes_173 ?_
          refine R_goto (pc := 174) (tgt := 182) dX8_goes_174 (by decide) ?_
          refine R_iret (pc := 182) dX8_goes_182 ?_
          exact eqi (by simp only [gy, tw, tb, aw, mn3, ab] at *; omega) rfl
      · refine R_iload (pc := 148) dX8_goes_148 rfl ?_
        refine R_iload (pc := 150) dX8_goes_150 rfl ?_
        refine R_S2i (pc := 152) dX8_goes_152 ss_RX8_152 (j_apart b sh _ _ _ (by omega) (by omega)) (Nat.le_of_ble_eq_true rfl) (by decide) ?_
        refine R_goto (pc := 155) (tgt := 160) dX8_goes_155 (by decide) ?_
        refine R_istore (pc := 160) dX8_goes_160 (by decide) rfl rfl ?_
        refine R_iload (pc := 162) dX8_goes_162 rfl ?_
        refine R_iload (pc := 164) dX8_goes_164 rfl ?_
        refine R_cmp_ge (pc := 166) (tgt := 177) dX8_goes_166 (by decide) (by (try simp only [ab]); omega) (fun h_166 => ?_) (fun h_166 => ?_)
        · refine R_iload (pc := 177) dX8_goes_177 rfl ?_
          refine R_iload (pc := 179) dX8_goes_179 rfl ?_
          refine R_isub (pc := 181) dX8_goes_181 ?_
          refine R_iret (pc := 182) dX8_goes_182 ?_
          exact eqi (by simp only [gy, tw, tb, aw, mn3, ab] at *; omega) rfl
        · refine R_iload (pc := 169) dX8_goes_169 rfl ?_
          refine R_iload (pc := 171) dX8_goes_171 rfl ?_
          refine R_iadd (pc := 173) dX8_goes_173 ?_
          refine R_goto (pc := 174) (tgt := 182) dX8_goes_174 (by decide) ?_
          refine R_iret (pc := 182) dX8_goes_182 ?_
          exact eqi (by simp only [gy, tw, tb, aw, mn3, ab] at *; omega) rfl
    · refine R_iconst (pc := 128) dX8_goes_128 ?_
      refine R_goto (pc := 129) (tgt := 134) dX8_goes_129 (by decide) ?_
      refine R_istore (pc := 134) dX8_goes_134 (by decide) rfl rfl ?_
      refine R_iload (pc := 136) dX8_goes_136 rfl ?_
      refine R_iload (pc := 138) dX8_goes_138 rfl ?_
      refine R_iload (pc := 140) dX8_goes_140 rfl ?_
      refine R_S2i (pc := 142) dX8_goes_142 ss_RX8_152 (j_apart b sh _ _ _ (by omega) (by omega)) (Nat.le_of_ble_eq_true rfl) (by decide) ?_
      refine R_cmp_le (pc := 145) (tgt := 158) dX8_goes_145 (by decide) (by (try simp only [ab]); omega) (fun h_145 => ?_) (fun h_145 => ?_)
      · refine R_iload (pc := 158) dX8_goes_158 rfl ?_
        refine R_istore (pc := 160) dX8_goes_160 (by decide) rfl rfl ?_
        refine R_iload (pc := 162) dX8_goes_162 rfl ?_
        refine R_iload (pc := 164) dX8_goes_164 rfl ?_
        refine R_cmp_ge (pc := 166) (tgt := 177) dX8_goes_166 (by decide) (by (try simp only [ab]); omega) (fun h_166 => ?_) (fun h_166 => ?_)
        · refine R_iload (pc := 177) dX8_goes_177 rfl ?_
          refine R_iload (pc := 179) dX8_goes_179 rfl ?_
          refine R_isub (pc := 181) dX8_goes_181 ?_
          refine R_iret (pc := 182) dX8_goes_182 ?_
          exact eqi (by simp only [gy, tw, tb, aw, mn3, ab] at *; omega) rfl
        · refine R_iload (pc := 169) dX8_goes_169 rfl ?_
          refine R_iload (pc := 171) dX8_goes_171 rfl ?_
          refine R_iadd (pc := 173) dX8_goes_173 ?_
          refine R_goto (pc := 174) (tgt := 182) dX8_goes_174 (by decide) ?_
          refine R_iret (pc := 182) dX8_goes_182 ?_
          exact eqi (by simp only [gy, tw, tb, aw, mn3, ab] at *; omega) rfl
      · refine R_iload (pc := 148) dX8_goes_148 rfl ?_
        refine R_iload (pc := 150) dX8_goes_150 rfl ?_
        refine R_S2i (pc := 152) dX8_goes_152 ss_RX8_152 (j_apart b sh _ _ _ (by omega) (by omega)) (Nat.le_of_ble_eq_true rfl) (by decide) ?_
        refine R_goto (pc := 155) (tgt := 160) dX8_goes_155 (by decide) ?_
        refine R_istore (pc := 160) dX8_goes_160 (by decide) rfl rfl ?_
        refine R_iload (pc := 162) dX8_goes_162 rfl ?_
        refine R_iload (pc := 164) dX8_goes_164 rfl ?_
        refine R_cmp_ge (pc := 166) (tgt := 177) dX8_goes_166 (by decide) (by (try simp only [ab]); omega) (fun h_166 => ?_) (fun h_166 => ?_)
        · refine R_iload (pc := 177) dX8_goes_177 rfl ?_
          refine R_iload (pc := 179) dX8_goes_179 rfl ?_
          refine R_isub (pc := 181) dX8_goes_181 ?_
          refine R_iret (pc := 182) dX8_goes_182 ?_
          exact eqi (by simp only [gy, tw, tb, aw, mn3, ab] at *; omega) rfl
        · refine R_iload (pc := 169) dX8_goes_169 rfl ?_
          refine R_iload (pc := 171) dX8_goes_171 rfl ?_
          refine R_iadd (pc := 173) dX8_goes_173 ?_
          refine R_goto (pc := 174) (tgt := 182) dX8_goes_174 (by decide) ?_
          refine R_iret (pc := 182) dX8_goes_182 ?_
          exact eqi (by simp only [gy, tw, tb, aw, mn3, ab] at *; omega) rfl
  refine R_tabOut (tgt := 183) dX8_goes_11 (by (try simp only [ab]); omega) (by omega) (by decide) ?_
  refine R_iload (pc := 183) dX8_goes_183 rfl ?_
  refine R_iload (pc := 185) dX8_goes_185 rfl ?_
  refine R_S2i (pc := 187) dX8_goes_187 ss_RX8_148 (j_toward b sh _ _ _ (by omega) (by omega)) (Nat.le_of_ble_eq_true rfl) (by decide) ?_
  refine R_iret (pc := 190) dX8_goes_190 ?_
  exact eqi (by simp only [gy, tw, tb, aw, mn3, ab] at *; omega) rfl
theorem j_bends (b : Nat) (sh : Shp) (M : Mem) (hsh : Hm sh) (h : Int) (hh : 0 ≤ h ∧ h + 19 ≤ 304) (hm : WFm (moM M)) (f : Rd) {B : Int} (hf : WFr f B) (k t : Int) (hk : 0 ≤ k ∧ k < moM M 0 1) (ht : 0 ≤ t ∧ t < moM M 0 2) : Ex 2 mX8_bends b sh (putM M h f) [vr b 72, vi h, vi k, vi t] (some (vi (bend (moM M) f k t).2)) (putM M h (bend (moM M) f k t).1) := by
  have hm0 := hm
  obtain ⟨hN, hW, hT, -, -, -, h2, h3, h4, h5, -⟩ := hm0
  have k2 := h2 k
  have k3 := h3 k
  have k4 := h4 t
  have k5 := h5 t
  have h17 := hf.2.2.1
  have e0 : ∀ g, putM M h g 73 0 = moM M 0 0 := fun g => (pm_k (by omega)).trans mM_0
  have e21 : ∀ g, putM M h g 73 (21 + k) = moM M 2 k := fun g => (pm_k (by omega)).trans (mM_k hk)
  have e25 : ∀ g, putM M h g 73 (25 + k) = moM M 3 k := fun g => (pm_k (by omega)).trans (mM_r hk)
  have e29 : ∀ g, putM M h g 73 (29 + t) = moM M 4 t := fun g => (pm_k (by omega)).trans (mM_p ht)
  have e35 : ∀ g, putM M h g 73 (35 + t) = moM M 5 t := fun g => (pm_k (by omega)).trans (mM_y ht)
  have hrch : rch (moM M) k = if moM M 2 k = 1 then 0 else moM M 3 k := rfl
  by_cases hs : sb (f 17) t = 1
  · rw [bend_sh hs]
    refine MC_of (ls := [some (vr b 72), some (vi h), some (vi k), some (vi t), none, none, none, none, none, none]) (by decide) rfl (Nat.le_of_ble_eq_true rfl) ?_
    refine R_iconst (pc := 0) dX8_bends_0 ?_
    refine R_istore (pc := 1) dX8_bends_1 (by decide) rfl rfl ?_
    refine R_aload_n (pc := 3) dX8_bends_3 rfl ?_
    refine R_getR (pc := 4) dX8_bends_4 fl_RX8_7 rfl (hsh _ _ rfl) rfl ?_
    refine R_bipush (pc := 7) dX8_bends_7 rfl ?_
    refine R_iload_n (pc := 9) dX8_bends_9 rfl ?_
    refine R_iadd (pc := 10) dX8_bends_10 ?_
    refine R_iald (pc := 11) dX8_bends_11 (hsh _ _ rfl) (by omega) (e21 _) ?_
    refine R_istore (pc := 12) dX8_bends_12 (by decide) rfl rfl ?_
    refine R_aload_n (pc := 14) dX8_bends_14 rfl ?_
    refine R_getR (pc := 15) dX8_bends_15 fl_RX8_7 rfl (hsh _ _ rfl) rfl ?_
    refine R_bipush (pc := 18) dX8_bends_18 rfl ?_
    refine R_iload_n (pc := 20) dX8_bends_20 rfl ?_
    refine R_iadd (pc := 21) dX8_bends_21 ?_
    refine R_iald (pc := 22) dX8_bends_22 (hsh _ _ rfl) (by omega) (e29 _) ?_
    refine R_istore (pc := 23) dX8_bends_23 (by decide) rfl rfl ?_
    refine R_iconst (pc := 25) dX8_bends_25 ?_
    refine R_istore (pc := 26) dX8_bends_26 (by decide) rfl rfl ?_
    refine R_iload (pc := 28) dX8_bends_28 rfl ?_
    refine R_aload_n (pc := 30) dX8_bends_30 rfl ?_
    refine R_getR (pc := 31) dX8_bends_31 fl_RX8_7 rfl (hsh _ _ rfl) rfl ?_
    refine R_iconst (pc := 34) dX8_bends_34 ?_
    refine R_iald (pc := 35) dX8_bends_35 (hsh _ _ rfl) (by omega) (e0 _) ?_
    refine R_iconst (pc := 36) dX8_bends_36 ?_
    refine R_isub (pc := 37) dX8_bends_37 ?_
    refine R_cmp_ge (pc := 38) (tgt := 146) dX8_bends_38 (by decide) (by omega) (fun h_38 => ?_) (fun h_38 => ?_)
    · exact absurd h_38 (by omega)
    · refine R_aload_n (pc := 41) dX8_bends_41 rfl ?_
      refine R_getR (pc := 42) dX8_bends_42 fl_RX8_13 rfl (hsh _ _ rfl) rfl ?_
      refine R_iload_n (pc := 45) dX8_bends_45 rfl ?_
      refine R_bipush (pc := 46) dX8_bends_46 rfl ?_
      refine R_iadd (pc := 48) dX8_bends_48 ?_
      refine R_iald (pc := 49) dX8_bends_49 (hsh _ _ rfl) (by omega) (pm_i (by omega)) ?_
      refine R_iload_n (pc := 50) dX8_bends_50 rfl ?_
      refine R_S2i (pc := 51) dX8_bends_51 ss_RX8_155 (j_has b sh _ _ _ h17 (by omega)) (Nat.le_of_ble_eq_true rfl) (by decide) ?_
      refine R_if_ne (pc := 54) (tgt := 146) dX8_bends_54 (by decide) (by omega) (fun h_54 => ?_) (fun h_54 => ?_)
      · refine R_iload (pc := 146) dX8_bends_146 rfl ?_
        refine R_iret (pc := 148) dX8_bends_148 ?_
        exact eqi rfl rfl
      · exact absurd h_54 (by omega)
  · have h01 := sb01 (f 17) t
    rw [bend_eq hs hN.1]
    have L : ∀ (n : Nat) (i : Int), 1 ≤ i → i ≤ moM M 0 0 - 1 → moM M 0 0 - 1 - i < n → MW yX8_bends cX8_bends 10 (some .int) (rmD 2 0 0) (FM (EQ (some (vi (bnI (moM M 2 k) (rch (moM M) k) (moM M 4 t) (moM M 5 t) f (moM M 0 0 - 1)).2)) (putM M h (bnI (moM M 2 k) (rch (moM M) k) (moM M 4 t) (moM M 5 t) f (moM M 0 0 - 1)).1)) b sh 0 0) b sh.length 0 0 28 [some (vr b 72), some (vi h), some (vi k), some (vi t), some (vi (bnI (moM M 2 k) (rch (moM M) k) (moM M 4 t) (moM M 5 t) f i).2), some (vi (moM M 2 k)), some (vi (moM M 4 t)), some (vi i), none, none] [] sh (putM M h (bnI (moM M 2 k) (rch (moM M) k) (moM M 4 t) (moM M 5 t) f i).1) := by
      intro n
      induction n with
      | zero => intro i h1 h2 h3; exact absurd h3 (by omega)
      | succ n ih =>
        intro i i1 i2 i3
        by_cases hlt : i < moM M 0 0 - 1
        · obtain ⟨g1, g2, g3⟩ := bnI_in (kind := moM M 2 k) (reach := rch (moM M) k) (place := moM M 4 t) hf k5 (i := i) (by omega)
          have g4 := gy_in (kind := moM M 2 k) g1 k5 (i := i) (by omega)
          have g5 := g1.1 i (by omega) (by omega)
          have g6 := bnI_s (kind := moM M 2 k) (reach := rch (moM M) k) (place := moM M 4 t) (yard := moM M 5 t) (ro := f) i1
          have g17 : (bnI (moM M 2 k) (rch (moM M) k) (moM M 4 t) (moM M 5 t) f i).1 17 = f 17 := (bnS_in (kind := moM M 2 k) (reach := rch (moM M) k) (place := moM M 4 t) hf k5 (i - 1).toNat (by omega)).2.2.2 17 (by omega)
          have hnx : ∀ (s : Int) (g : Rd), (g, s) = bnI (moM M 2 k) (rch (moM M) k) (moM M 4 t) (moM M 5 t) f (i + 1) → MW yX8_bends cX8_bends 10 (some .int) (rmD 2 0 0) (FM (EQ (some (vi (bnI (moM M 2 k) (rch (moM M) k) (moM M 4 t) (moM M 5 t) f (moM M 0 0 - 1)).2)) (putM M h (bnI (moM M 2 k) (rch (moM M) k) (moM M 4 t) (moM M 5 t) f (moM M 0 0 - 1)).1)) b sh 0 0) b sh.length 0 0 140 [some (vr b 72), some (vi h), some (vi k), some (vi t), some (vi s), some (vi (moM M 2 k)), some (vi (moM M 4 t)), some (vi i), none, none] [] sh (putM M h g) := by
            intro s g he
            refine R_iinc (pc := 140) dX8_bends_140 rfl (by decide) rfl rfl ?_
            refine R_goto (pc := 143) (tgt := 28) dX8_bends_143 (by decide) ?_
            have hx := ih (i + 1) (by omega) (by omega) (by omega)
            rw [← he] at hx
            exact hx
          have hab : 0 ≤ ab i (moM M 4 t) ∧ ab i (moM M 4 t) ≤ 15 := by simp only [ab]; omega
          have hab2 : 0 ≤ ab (gy (moM M 2 k) (moM M 5 t) (bnI (moM M 2 k) (rch (moM M) k) (moM M 4 t) (moM M 5 t) f i).1 i) ((bnI (moM M 2 k) (rch (moM M) k) (moM M 4 t) (moM M 5 t) f i).1 i) ∧ ab (gy (moM M 2 k) (moM M 5 t) (bnI (moM M 2 k) (rch (moM M) k) (moM M 4 t) (moM M 5 t) f i).1 i) ((bnI (moM M 2 k) (rch (moM M) k) (moM M 4 t) (moM M 5 t) f i).1 i) ≤ 60 := by simp only [ab]; omega
          refine R_iload (pc := 28) dX8_bends_28 rfl ?_
          refine R_aload_n (pc := 30) dX8_bends_30 rfl ?_
          refine R_getR (pc := 31) dX8_bends_31 fl_RX8_7 rfl (hsh _ _ rfl) rfl ?_
          refine R_iconst (pc := 34) dX8_bends_34 ?_
          refine R_iald (pc := 35) dX8_bends_35 (hsh _ _ rfl) (by omega) (e0 _) ?_
          refine R_iconst (pc := 36) dX8_bends_36 ?_
          refine R_isub (pc := 37) dX8_bends_37 ?_
          refine R_cmp_ge (pc := 38) (tgt := 146) dX8_bends_38 (by decide) (by omega) (fun h_38 => ?_) (fun h_38 => ?_)
          · exact absurd h_38 (by omega)
          · refine R_aload_n (pc := 41) dX8_bends_41 rfl ?_
            refine R_getR (pc := 42) dX8_bends_42 fl_RX8_13 rfl (hsh _ _ rfl) rfl ?_
            refine R_iload_n (pc := 45) dX8_bends_45 rfl ?_
            refine R_bipush (pc := 46) dX8_bends_46 rfl ?_
            refine R_iadd (pc := 48) dX8_bends_48 ?_
            refine R_iald (pc := 49) dX8_bends_49 (hsh _ _ rfl) (by omega) ((pm_i (by omega)).trans g17) ?_
            refine R_iload_n (pc := 50) dX8_bends_50 rfl ?_
            refine R_S2i (pc := 51) dX8_bends_51 ss_RX8_155 (j_has b sh _ _ _ h17 (by omega)) (Nat.le_of_ble_eq_true rfl) (by decide) ?_
            refine R_if_ne (pc := 54) (tgt := 146) dX8_bends_54 (by decide) (by omega) (fun h_54 => ?_) (fun h_54 => ?_)
            · exact absurd h_54 (by omega)
            · refine R_iload (pc := 57) dX8_bends_57 rfl ?_
              refine R_iconst (pc := 59) dX8_bends_59 ?_
              refine R_cmp_ne (pc := 60) (tgt := 67) dX8_bends_60 (by decide) (by omega) (fun h_60 => ?_) (fun h_60 => ?_)
              · refine R_aload_n (pc := 67) dX8_bends_67 rfl ?_
                refine R_getR (pc := 68) dX8_bends_68 fl_RX8_7 rfl (hsh _ _ rfl) rfl ?_
                refine R_bipush (pc := 71) dX8_bends_71 rfl ?_
                refine R_iload_n (pc := 73) dX8_bends_73 rfl ?_
                refine R_iadd (pc := 74) dX8_bends_74 ?_
                refine R_iald (pc := 75) dX8_bends_75 (hsh _ _ rfl) (by omega) (e25 _) ?_
                refine R_istore (pc := 76) dX8_bends_76 (by decide) rfl rfl ?_
                refine R_iload (pc := 78) dX8_bends_78 rfl ?_
                refine R_iload (pc := 80) dX8_bends_80 rfl ?_
                refine R_S2i (pc := 82) dX8_bends_82 ss_RX8_152 (j_apart b sh _ _ _ (by omega) (by omega)) (Nat.le_of_ble_eq_true rfl) (by decide) ?_
                refine R_iload (pc := 85) dX8_bends_85 rfl ?_
                refine R_cmp_gt (pc := 87) (tgt := 140) dX8_bends_87 (by decide) (by omega) (fun h_87 => ?_) (fun h_87 => ?_)
                · refine R_drop 8 rfl ?_
                  exact hnx _ _ (by rw [g6, if_neg (by rw [hrch]; omega)])
                · refine R_aload_n (pc := 90) dX8_bends_90 rfl ?_
                  refine R_iload_n (pc := 91) dX8_bends_91 rfl ?_
                  refine R_iload (pc := 92) dX8_bends_92 rfl ?_
                  refine R_iload (pc := 94) dX8_bends_94 rfl ?_
                  refine R_aload_n (pc := 96) dX8_bends_96 rfl ?_
                  refine R_getR (pc := 97) dX8_bends_97 fl_RX8_7 rfl (hsh _ _ rfl) rfl ?_
                  refine R_bipush (pc := 100) dX8_bends_100 rfl ?_
                  refine R_iload_n (pc := 102) dX8_bends_102 rfl ?_
                  refine R_iadd (pc := 103) dX8_bends_103 ?_
                  refine R_iald (pc := 104) dX8_bends_104 (hsh _ _ rfl) (by omega) (e35 _) ?_
                  refine R_V4i (pc := 105) dX8_bends_105 sv_RX8_158 (hsh _ _ rfl) (j_goes b sh M hsh h hh _ g1 i (moM M 2 k) (moM M 5 t) (by omega) k2 k5) (Nat.le_of_ble_eq_true rfl) (by decide) ?_
                  refine R_istore (pc := 108) dX8_bends_108 (by decide) rfl rfl ?_
                  refine R_iload (pc := 110) dX8_bends_110 rfl ?_
                  refine R_iload (pc := 112) dX8_bends_112 rfl ?_
                  refine R_aload_n (pc := 114) dX8_bends_114 rfl ?_
                  refine R_getR (pc := 115) dX8_bends_115 fl_RX8_13 rfl (hsh _ _ rfl) rfl ?_
                  refine R_iload_n (pc := 118) dX8_bends_118 rfl ?_
                  refine R_iload (pc := 119) dX8_bends_119 rfl ?_
                  refine R_iadd (pc := 121) dX8_bends_121 ?_
                  refine R_iald (pc := 122) dX8_bends_122 (hsh _ _ rfl) (by omega) (pm_i (by omega)) ?_
                  refine R_S2i (pc := 123) dX8_bends_123 ss_RX8_152 (j_apart b sh _ _ _ (by omega) (by omega)) (Nat.le_of_ble_eq_true rfl) (by decide) ?_
                  refine R_iadd (pc := 126) dX8_bends_126 ?_
                  refine R_istore (pc := 127) dX8_bends_127 (by decide) rfl rfl ?_
                  refine R_aload_n (pc := 129) dX8_bends_129 rfl ?_
                  refine R_getR (pc := 130) dX8_bends_130 fl_RX8_13 rfl (hsh _ _ rfl) rfl ?_
                  refine R_iload_n (pc := 133) dX8_bends_133 rfl ?_
                  refine R_iload (pc := 134) dX8_bends_134 rfl ?_
                  refine R_iadd (pc := 136) dX8_bends_136 ?_
                  refine R_iload (pc := 137) dX8_bends_137 rfl ?_
                  refine R_iast (pc := 139) dX8_bends_139 (hsh _ _ rfl) (by omega) (by omega) ?_
                  rw [pmu rfl (by omega)]
                  refine R_drop 8 rfl ?_
                  refine R_drop 9 rfl ?_
                  exact hnx _ _ (by rw [g6, if_pos (by rw [hrch]; omega)])
              · refine R_iconst (pc := 63) dX8_bends_63 ?_
                refine R_goto (pc := 64) (tgt := 76) dX8_bends_64 (by decide) ?_
                refine R_istore (pc := 76) dX8_bends_76 (by decide) rfl rfl ?_
                refine R_iload (pc := 78) dX8_bends_78 rfl ?_
                refine R_iload (pc := 80) dX8_bends_80 rfl ?_
                refine R_S2i (pc := 82) dX8_bends_82 ss_RX8_152 (j_apart b sh _ _ _ (by omega) (by omega)) (Nat.le_of_ble_eq_true rfl) (by decide) ?_
                refine R_iload (pc := 85) dX8_bends_85 rfl ?_
                refine R_cmp_gt (pc := 87) (tgt := 140) dX8_bends_87 (by decide) (by omega) (fun h_87 => ?_) (fun h_87 => ?_)
                · refine R_drop 8 rfl ?_
                  exact hnx _ _ (by rw [g6, if_neg (by rw [hrch]; omega)])
                · refine R_aload_n (pc := 90) dX8_bends_90 rfl ?_
                  refine R_iload_n (pc := 91) dX8_bends_91 rfl ?_
                  refine R_iload (pc := 92) dX8_bends_92 rfl ?_
                  refine R_iload (pc := 94) dX8_bends_94 rfl ?_
                  refine R_aload_n (pc := 96) dX8_bends_96 rfl ?_
                  refine R_getR (pc := 97) dX8_bends_97 fl_RX8_7 rfl (hsh _ _ rfl) rfl ?_
                  refine R_bipush (pc := 100) dX8_bends_100 rfl ?_
                  refine R_iload_n (pc := 102) dX8_bends_102 rfl ?_
                  refine R_iadd (pc := 103) dX8_bends_103 ?_
                  refine R_iald (pc := 104) dX8_bends_104 (hsh _ _ rfl) (by omega) (e35 _) ?_
                  refine R_V4i (pc := 105) dX8_bends_105 sv_RX8_158 (hsh _ _ rfl) (j_goes b sh M hsh h hh _ g1 i (moM M 2 k) (moM M 5 t) (by omega) k2 k5) (Nat.le_of_ble_eq_true rfl) (by decide) ?_
                  refine R_istore (pc := 108) dX8_bends_108 (by decide) rfl rfl ?_
                  refine R_iload (pc := 110) dX8_bends_110 rfl ?_
                  refine R_iload (pc := 112) dX8_bends_112 rfl ?_
                  refine R_aload_n (pc := 114) dX8_bends_114 rfl ?_
                  refine R_getR (pc := 115) dX8_bends_115 fl_RX8_13 rfl (hsh _ _ rfl) rfl ?_
                  refine R_iload_n (pc := 118) dX8_bends_118 rfl ?_
                  refine R_iload (pc := 119) dX8_bends_119 rfl ?_
                  refine R_iadd (pc := 121) dX8_bends_121 ?_
                  refine R_iald (pc := 122) dX8_bends_122 (hsh _ _ rfl) (by omega) (pm_i (by omega)) ?_
                  refine R_S2i (pc := 123) dX8_bends_123 ss_RX8_152 (j_apart b sh _ _ _ (by omega) (by omega)) (Nat.le_of_ble_eq_true rfl) (by decide) ?_
                  refine R_iadd (pc := 126) dX8_bends_126 ?_
                  refine R_istore (pc := 127) dX8_bends_127 (by decide) rfl rfl ?_
                  refine R_aload_n (pc := 129) dX8_bends_129 rfl ?_
                  refine R_getR (pc := 130) dX8_bends_130 fl_RX8_13 rfl (hsh _ _ rfl) rfl ?_
                  refine R_iload_n (pc := 133) dX8_bends_133 rfl ?_
                  refine R_iload (pc := 134) dX8_bends_134 rfl ?_
                  refine R_iadd (pc := 136) dX8_bends_136 ?_
                  refine R_iload (pc := 137) dX8_bends_137 rfl ?_
                  refine R_iast (pc := 139) dX8_bends_139 (hsh _ _ rfl) (by omega) (by omega) ?_
                  rw [pmu rfl (by omega)]
                  refine R_drop 8 rfl ?_
                  refine R_drop 9 rfl ?_
                  exact hnx _ _ (by rw [g6, if_pos (by rw [hrch]; omega)])
        · have e1 : i = moM M 0 0 - 1 := by omega
          subst e1
          refine R_iload (pc := 28) dX8_bends_28 rfl ?_
          refine R_aload_n (pc := 30) dX8_bends_30 rfl ?_
          refine R_getR (pc := 31) dX8_bends_31 fl_RX8_7 rfl (hsh _ _ rfl) rfl ?_
          refine R_iconst (pc := 34) dX8_bends_34 ?_
          refine R_iald (pc := 35) dX8_bends_35 (hsh _ _ rfl) (by omega) (e0 _) ?_
          refine R_iconst (pc := 36) dX8_bends_36 ?_
          refine R_isub (pc := 37) dX8_bends_37 ?_
          refine R_cmp_ge (pc := 38) (tgt := 146) dX8_bends_38 (by decide) (by omega) (fun h_38 => ?_) (fun h_38 => ?_)
          · refine R_iload (pc := 146) dX8_bends_146 rfl ?_
            refine R_iret (pc := 148) dX8_bends_148 ?_
            exact eqi rfl rfl
          · exact absurd h_38 (by omega)
    refine MC_of (ls := [some (vr b 72), some (vi h), some (vi k), some (vi t), none, none, none, none, none, none]) (by decide) rfl (Nat.le_of_ble_eq_true rfl) ?_
    refine R_iconst (pc := 0) dX8_bends_0 ?_
    refine R_istore (pc := 1) dX8_bends_1 (by decide) rfl rfl ?_
    refine R_aload_n (pc := 3) dX8_bends_3 rfl ?_
    refine R_getR (pc := 4) dX8_bends_4 fl_RX8_7 rfl (hsh _ _ rfl) rfl ?_
    refine R_bipush (pc := 7) dX8_bends_7 rfl ?_
    refine R_iload_n (pc := 9) dX8_bends_9 rfl ?_
    refine R_iadd (pc := 10) dX8_bends_10 ?_
    refine R_iald (pc := 11) dX8_bends_11 (hsh _ _ rfl) (by omega) (e21 _) ?_
    refine R_istore (pc := 12) dX8_bends_12 (by decide) rfl rfl ?_
    refine R_aload_n (pc := 14) dX8_bends_14 rfl ?_
    refine R_getR (pc := 15) dX8_bends_15 fl_RX8_7 rfl (hsh _ _ rfl) rfl ?_
    refine R_bipush (pc := 18) dX8_bends_18 rfl ?_
    refine R_iload_n (pc := 20) dX8_bends_20 rfl ?_
    refine R_iadd (pc := 21) dX8_bends_21 ?_
    refine R_iald (pc := 22) dX8_bends_22 (hsh _ _ rfl) (by omega) (e29 _) ?_
    refine R_istore (pc := 23) dX8_bends_23 (by decide) rfl rfl ?_
    refine R_iconst (pc := 25) dX8_bends_25 ?_
    refine R_istore (pc := 26) dX8_bends_26 (by decide) rfl rfl ?_
    exact L 20 1 (by omega) (by omega) (by omega)
theorem j_straightens (b : Nat) (sh : Shp) (M : Mem) (hsh : Hm sh) (h : Int) (hh : 0 ≤ h ∧ h + 19 ≤ 304) {N : Int} (hN0 : moM M 0 0 = N) (hN : 5 ≤ N ∧ N ≤ 16) (f : Rd) {B : Int} (hf : WFr f B) : Ex 1 mX8_straightens b sh (putM M h f) [vr b 72, vi h] none (putM M h (stf f (N - 1))) := by
  have e0 : ∀ g, putM M h g 73 0 = N := fun g => ((pm_k (by omega)).trans mM_0).trans hN0
  have L : ∀ (n : Nat) (i : Int), 1 ≤ i → i ≤ N - 1 → N - 1 - i < n → MW yX8_straightens cX8_straightens 3 none (rmD 1 0 0) (FM (EQ none (putM M h (stf f (N - 1)))) b sh 0 0) b sh.length 0 0 2 [some (vr b 72), some (vi h), some (vi i)] [] sh (putM M h (stf f i)) := by
    intro n
    induction n with
    | zero => intro i h1 h2 h3; exact absurd h3 (by omega)
    | succ n ih =>
      intro i h1 h2 h3
      refine R_iload_n (pc := 2) dX8_straightens_2 rfl ?_
      refine R_aload_n (pc := 3) dX8_straightens_3 rfl ?_
      refine R_getR (pc := 4) dX8_straightens_4 fl_RX8_7 rfl (hsh _ _ rfl) rfl ?_
      refine R_iconst (pc := 7) dX8_straightens_7 ?_
      refine R_iald (pc := 8) dX8_straightens_8 (hsh _ _ rfl) (by omega) (e0 _) ?_
      refine R_iconst (pc := 9) dX8_straightens_9 ?_
      refine R_isub (pc := 10) dX8_straightens_10 ?_
      refine R_cmp_ge (pc := 11) (tgt := 41) dX8_straightens_11 (by decide) (by omega) (fun h_11 => ?_) (fun h_11 => ?_)
      · refine R_vret (pc := 41) dX8_straightens_41 ?_
        have e1 : i = N - 1 := by omega
        subst e1
        exact eqv rfl
      · have hv := hf.1 i (by omega) (by omega)
        refine R_aload_n (pc := 14) dX8_straightens_14 rfl ?_
        refine R_getR (pc := 15) dX8_straightens_15 fl_RX8_13 rfl (hsh _ _ rfl) rfl ?_
        refine R_iload_n (pc := 18) dX8_straightens_18 rfl ?_
        refine R_iload_n (pc := 19) dX8_straightens_19 rfl ?_
        refine R_iadd (pc := 20) dX8_straightens_20 ?_
        refine R_aload_n (pc := 21) dX8_straightens_21 rfl ?_
        refine R_getR (pc := 22) dX8_straightens_22 fl_RX8_13 rfl (hsh _ _ rfl) rfl ?_
        refine R_iload_n (pc := 25) dX8_straightens_25 rfl ?_
        refine R_iload_n (pc := 26) dX8_straightens_26 rfl ?_
        refine R_iadd (pc := 27) dX8_straightens_27 ?_
        refine R_iald (pc := 28) dX8_straightens_28 (hsh _ _ rfl) (by omega) ((pm_i (by omega)).trans stf_i) ?_
        refine R_bipush (pc := 29) dX8_straightens_29 rfl ?_
        refine R_S2i (pc := 31) dX8_straightens_31 ss_RX8_148 (j_toward b sh _ _ _ (by omega) (by omega)) (Nat.le_of_ble_eq_true rfl) (by decide) ?_
        refine R_iast (pc := 34) dX8_straightens_34 (hsh _ _ rfl) (by omega) (by simp only [tw]; omega) ?_
        rw [pmu rfl (by omega), ← stf_s h1]
        refine R_iinc (pc := 35) dX8_straightens_35 rfl (by decide) rfl rfl ?_
        refine R_goto (pc := 38) (tgt := 2) dX8_straightens_38 (by decide) ?_
        exact ih (i + 1) (by omega) (by omega) (by omega)
  refine MC_of (ls := [some (vr b 72), some (vi h), none]) (by decide) rfl (Nat.le_of_ble_eq_true rfl) ?_
  refine R_iconst (pc := 0) dX8_straightens_0 ?_
  refine R_istore_n (pc := 1) dX8_straightens_1 (by decide) rfl rfl ?_
  have := L 20 1 (by omega) (by omega) (by omega)
  rw [stf_1] at this
  exact this
def fgP (g : Rd) (x k : Int) : Int := if (0 < k ∧ g 65 ≤ x ∧ x ≤ g 67) ∨ (1 < k ∧ g 66 ≤ x ∧ x ≤ g 68) then 1 else 0
theorem j_isFog (b : Nat) (sh : Shp) (M : Mem) (hsh : Hm sh) (hm : 0 ≤ moM M 0 4 ∧ moM M 0 4 ≤ 2) (d : Int) (hd : 0 ≤ d ∧ d ≤ 1000000) : Ex 1 mX8_isFog b sh M [vr b 72, vi d] (some (vi (fogAt (moM M) d))) M := by
  have ef : fogAt (moM M) d = fgP (M 73) (d % 10) (moM M 0 4) := by
    show (if (0 ≤ d % 10 ∧ d % 10 < 10) ∧ ((0 < M 73 4 ∧ M 73 65 ≤ d % 10 ∧ d % 10 ≤ M 73 67) ∨ (1 < M 73 4 ∧ M 73 66 ≤ d % 10 ∧ d % 10 ≤ M 73 68)) then (1 : Int) else 0) = if (0 < M 73 4 ∧ M 73 65 ≤ d % 10 ∧ d % 10 ≤ M 73 67) ∨ (1 < M 73 4 ∧ M 73 66 ≤ d % 10 ∧ d % 10 ≤ M 73 68) then 1 else 0
    split <;> split <;> omega
  rw [ef]
  have L : ∀ (n : Nat) (k : Int), 0 ≤ k → k ≤ moM M 0 4 → moM M 0 4 - k < n → MW yX8_isFog cX8_isFog 4 (some .boolean) (rmD 1 0 0) (FM (EQ (some (vi (fgP (M 73) (d % 10) (moM M 0 4)))) M) b sh 0 0) b sh.length 0 0 4 [some (vr b 72), some (vi d), some (vi (fgP (M 73) (d % 10) k)), some (vi k)] [] sh M := by
    intro n
    induction n with
    | zero => intro k h1 h2 h3; exact absurd h3 (by omega)
    | succ n ih =>
      intro k h1 h2 h3
      have h01 : fgP (M 73) (d % 10) k = 0 ∨ fgP (M 73) (d % 10) k = 1 := by unfold fgP; split <;> omega
      by_cases hlt : k < moM M 0 4
      · have hst : fgP (M 73) (d % 10) (k + 1) = if fgP (M 73) (d % 10) k = 1 ∨ (M 73 (65 + k) ≤ d % 10 ∧ d % 10 ≤ M 73 (67 + k)) then 1 else 0 := by
          unfold fgP
          rcases (show k = 0 ∨ k = 1 by omega) with rfl | rfl
          · show _ = if _ ∨ (M 73 65 ≤ d % 10 ∧ d % 10 ≤ M 73 67) then 1 else 0
            (repeat' split) <;> omega
          · show _ = if _ ∨ (M 73 66 ≤ d % 10 ∧ d % 10 ≤ M 73 68) then 1 else 0
            (repeat' split) <;> omega
        have hx := ih (k + 1) (by omega) (by omega) (by omega)
        rw [hst] at hx
        refine R_rng fun hM => ?_
        have v1 := hM 73 (65 + k)
        have v2 := hM 73 (67 + k)
        refine R_iload_n (pc := 4) dX8_isFog_4 rfl ?_
        refine R_aload_n (pc := 5) dX8_isFog_5 rfl ?_
        refine R_getR (pc := 6) dX8_isFog_6 fl_RX8_7 rfl (hsh _ _ rfl) rfl ?_
        refine R_iconst (pc := 9) dX8_isFog_9 ?_
        refine R_iald (pc := 10) dX8_isFog_10 (hsh _ _ rfl) (by omega) (mM_4) ?_
        refine R_cmp_ge (pc := 11) (tgt := 61) dX8_isFog_11 (by decide) (by omega) (fun h_11 => ?_) (fun h_11 => ?_)
        · exact absurd h_11 (by omega)
        · refine R_iload_n (pc := 14) dX8_isFog_14 rfl ?_
          refine R_if_ne (pc := 15) (tgt := 49) dX8_isFog_15 (by decide) (by omega) (fun h_15 => ?_) (fun h_15 => ?_)
          · refine R_iconst (pc := 49) dX8_isFog_49 ?_
            refine R_goto (pc := 50) (tgt := 54) dX8_isFog_50 (by decide) ?_
            refine R_istore_n (pc := 54) dX8_isFog_54 (by decide) rfl rfl ?_
            refine R_iinc (pc := 55) dX8_isFog_55 rfl (by decide) rfl rfl ?_
            refine R_goto (pc := 58) (tgt := 4) dX8_isFog_58 (by decide) ?_
            first
              | (rw [if_pos (by omega)] at hx; exact hx)
              | (rw [if_neg (by omega)] at hx; exact hx)
          · refine R_iload_n (pc := 18) dX8_isFog_18 rfl ?_
            refine R_bipush (pc := 19) dX8_isFog_19 rfl ?_
            refine R_irem (pc := 21) dX8_isFog_21 (by omega) ?_
            refine R_i2l (pc := 22) dX8_isFog_22 (by omega) ?_
            refine R_aload_n (pc := 23) dX8_isFog_23 rfl ?_
            refine R_getR (pc := 24) dX8_isFog_24 fl_RX8_7 rfl (hsh _ _ rfl) rfl ?_
            refine R_bipush (pc := 27) dX8_isFog_27 rfl ?_
            refine R_iload_n (pc := 29) dX8_isFog_29 rfl ?_
            refine R_iadd (pc := 30) dX8_isFog_30 ?_
            refine R_iald (pc := 31) dX8_isFog_31 (hsh _ _ rfl) (by omega) (rfl) ?_
            refine R_i2l (pc := 32) dX8_isFog_32 (by omega) ?_
            refine R_aload_n (pc := 33) dX8_isFog_33 rfl ?_
            refine R_getR (pc := 34) dX8_isFog_34 fl_RX8_7 rfl (hsh _ _ rfl) rfl ?_
            refine R_bipush (pc := 37) dX8_isFog_37 rfl ?_
            refine R_iload_n (pc := 39) dX8_isFog_39 rfl ?_
            refine R_iadd (pc := 40) dX8_isFog_40 ?_
            refine R_iald (pc := 41) dX8_isFog_41 (hsh _ _ rfl) (by omega) (rfl) ?_
            refine R_i2l (pc := 42) dX8_isFog_42 (by omega) ?_
            refine R_S3i (pc := 43) dX8_isFog_43 ss_RX8_69 (j_in b sh M _ _ _ (by omega) v1 v2) (Nat.le_of_ble_eq_true rfl) (by decide) ?_
            refine R_if_eq (pc := 46) (tgt := 53) dX8_isFog_46 (by decide) (by omega) (fun h_46 => ?_) (fun h_46 => ?_)
            · refine R_iconst (pc := 53) dX8_isFog_53 ?_
              refine R_istore_n (pc := 54) dX8_isFog_54 (by decide) rfl rfl ?_
              refine R_iinc (pc := 55) dX8_isFog_55 rfl (by decide) rfl rfl ?_
              refine R_goto (pc := 58) (tgt := 4) dX8_isFog_58 (by decide) ?_
              first
                | (rw [if_pos (by omega)] at hx; exact hx)
                | (rw [if_neg (by omega)] at hx; exact hx)
            · refine R_iconst (pc := 49) dX8_isFog_49 ?_
              refine R_goto (pc := 50) (tgt := 54) dX8_isFog_50 (by decide) ?_
              refine R_istore_n (pc := 54) dX8_isFog_54 (by decide) rfl rfl ?_
              refine R_iinc (pc := 55) dX8_isFog_55 rfl (by decide) rfl rfl ?_
              refine R_goto (pc := 58) (tgt := 4) dX8_isFog_58 (by decide) ?_
              first
                | (rw [if_pos (by omega)] at hx; exact hx)
                | (rw [if_neg (by omega)] at hx; exact hx)
      · have ek : k = moM M 0 4 := by omega
        subst ek
        refine R_iload_n (pc := 4) dX8_isFog_4 rfl ?_
        refine R_aload_n (pc := 5) dX8_isFog_5 rfl ?_
        refine R_getR (pc := 6) dX8_isFog_6 fl_RX8_7 rfl (hsh _ _ rfl) rfl ?_
        refine R_iconst (pc := 9) dX8_isFog_9 ?_
        refine R_iald (pc := 10) dX8_isFog_10 (hsh _ _ rfl) (by omega) (mM_4) ?_
        refine R_cmp_ge (pc := 11) (tgt := 61) dX8_isFog_11 (by decide) (by omega) (fun h_11 => ?_) (fun h_11 => ?_)
        · refine R_iload_n (pc := 61) dX8_isFog_61 rfl ?_
          refine R_zret (pc := 62) dX8_isFog_62 (by first | exact Or.inl rfl | exact Or.inr rfl | omega) ?_
          exact eqi rfl rfl
        · exact absurd h_11 (by omega)
  refine MC_of (ls := [some (vr b 72), some (vi d), none, none]) (by decide) rfl (Nat.le_of_ble_eq_true rfl) ?_
  refine R_iconst (pc := 0) dX8_isFog_0 ?_
  refine R_istore_n (pc := 1) dX8_isFog_1 (by decide) rfl rfl ?_
  refine R_iconst (pc := 2) dX8_isFog_2 ?_
  refine R_istore_n (pc := 3) dX8_isFog_3 (by decide) rfl rfl ?_
  exact L 20 0 (by omega) (by omega) (by omega)
theorem j_walksOn (b : Nat) (sh : Shp) (M : Mem) (hsh : Hm sh) (hm : WFm (moM M)) (d : Int) (hd : 0 ≤ d ∧ d ≤ 1000000) : Ex 1 mX8_walksOn b sh M [vr b 72, vi d] (some (vi (wkS (moM M) d (moM M 0 3).toNat))) M := by
  obtain ⟨-, -, -, hT, -, -, -, -, -, -, h6, -⟩ := hm
  have L : ∀ (n : Nat) (i : Int), 0 ≤ i → i ≤ moM M 0 3 → moM M 0 3 - i < n → MW yX8_walksOn cX8_walksOn 4 (some .int) (rmD 1 0 0) (FM (EQ (some (vi (wkS (moM M) d (moM M 0 3).toNat))) M) b sh 0 0) b sh.length 0 0 4 [some (vr b 72), some (vi d), some (vi (wkS (moM M) d i.toNat)), some (vi i)] [] sh M := by
    intro n
    induction n with
    | zero => intro i h1 h2 h3; exact absurd h3 (by omega)
    | succ n ih =>
      intro i h1 h2 h3
      have hv := h6 i
      have hs : wkS (moM M) d (i + 1).toNat = wkS (moM M) d i.toNat + (if moM M 6 i = d % 10 then 1 else 0) := by
        rw [show (i + 1).toNat = i.toNat + 1 by omega]
        show wkS _ _ _ + (if moM M 6 ((i.toNat : Nat) : Int) = d % 10 then 1 else 0) = _
        rw [Int.toNat_of_nonneg h1]
      refine R_iload_n (pc := 4) dX8_walksOn_4 rfl ?_
      refine R_aload_n (pc := 5) dX8_walksOn_5 rfl ?_
      refine R_getR (pc := 6) dX8_walksOn_6 fl_RX8_7 rfl (hsh _ _ rfl) rfl ?_
      refine R_iconst (pc := 9) dX8_walksOn_9 ?_
      refine R_iald (pc := 10) dX8_walksOn_10 (hsh _ _ rfl) (by omega) (mM_3) ?_
      refine R_cmp_ge (pc := 11) (tgt := 44) dX8_walksOn_11 (by decide) (by omega) (fun h_11 => ?_) (fun h_11 => ?_)
      · have e1 : i = moM M 0 3 := by omega
        subst e1
        refine R_iload_n (pc := 44) dX8_walksOn_44 rfl ?_
        refine R_iret (pc := 45) dX8_walksOn_45 ?_
        exact eqi rfl rfl
      · refine R_iload_n (pc := 14) dX8_walksOn_14 rfl ?_
        refine R_aload_n (pc := 15) dX8_walksOn_15 rfl ?_
        refine R_getR (pc := 16) dX8_walksOn_16 fl_RX8_7 rfl (hsh _ _ rfl) rfl ?_
        refine R_bipush (pc := 19) dX8_walksOn_19 rfl ?_
        refine R_iload_n (pc := 21) dX8_walksOn_21 rfl ?_
        refine R_iadd (pc := 22) dX8_walksOn_22 ?_
        refine R_iald (pc := 23) dX8_walksOn_23 (hsh _ _ rfl) (by omega) (mM_d (by omega)) ?_
        refine R_iload_n (pc := 24) dX8_walksOn_24 rfl ?_
        refine R_bipush (pc := 25) dX8_walksOn_25 rfl ?_
        refine R_irem (pc := 27) dX8_walksOn_27 (by omega) ?_
        refine R_cmp_ne (pc := 28) (tgt := 35) dX8_walksOn_28 (by decide) (by omega) (fun h_28 => ?_) (fun h_28 => ?_)
        · refine R_iconst (pc := 35) dX8_walksOn_35 ?_
          refine R_iadd (pc := 36) dX8_walksOn_36 ?_
          refine R_istore_n (pc := 37) dX8_walksOn_37 (by decide) rfl rfl ?_
          refine R_iinc (pc := 38) dX8_walksOn_38 rfl (by decide) rfl rfl ?_
          refine R_goto (pc := 41) (tgt := 4) dX8_walksOn_41 (by decide) ?_
          have hn := ih (i + 1) (by omega) (by omega) (by omega)
          rw [hs] at hn
          first
            | (rw [if_pos h_28] at hn; exact hn)
            | (rw [if_neg h_28] at hn; exact hn)
        · refine R_iconst (pc := 31) dX8_walksOn_31 ?_
          refine R_goto (pc := 32) (tgt := 36) dX8_walksOn_32 (by decide) ?_
          refine R_iadd (pc := 36) dX8_walksOn_36 ?_
          refine R_istore_n (pc := 37) dX8_walksOn_37 (by decide) rfl rfl ?_
          refine R_iinc (pc := 38) dX8_walksOn_38 rfl (by decide) rfl rfl ?_
          refine R_goto (pc := 41) (tgt := 4) dX8_walksOn_41 (by decide) ?_
          have hn := ih (i + 1) (by omega) (by omega) (by omega)
          rw [hs] at hn
          first
            | (rw [if_pos h_28] at hn; exact hn)
            | (rw [if_neg h_28] at hn; exact hn)
  refine MC_of (ls := [some (vr b 72), some (vi d), none, none]) (by decide) rfl (Nat.le_of_ble_eq_true rfl) ?_
  refine R_iconst (pc := 0) dX8_walksOn_0 ?_
  refine R_istore_n (pc := 1) dX8_walksOn_1 (by decide) rfl rfl ?_
  refine R_iconst (pc := 2) dX8_walksOn_2 ?_
  refine R_istore_n (pc := 3) dX8_walksOn_3 (by decide) rfl rfl ?_
  exact L 20 0 (by omega) (by omega) (by omega)
theorem nightM_a {N x : Int} {W : Rd} (h : W 18 = 0) (hN : N ≤ 16) : uF (uF (stf (uF W 18 x) (N - 1)) 16 (W 16 + 1)) 18 0 = night N W := by
  rw [← night_a h hN]
  funext j
  unfold uF stf
  repeat' split
  all_goals first | rfl | omega | (simp_all; done)
theorem nightM_w {N x : Int} {W : Rd} (h : ¬ W 18 = 0) : uF (uF (uF W 18 x) 16 (W 16 + 1)) 18 0 = night N W := by
  rw [← night_w h, uF_c (by omega), uF_u, uF_c (by omega)]
theorem j_passes (b : Nat) (sh : Shp) (M : Mem) (hsh : Hm sh) (h : Int) (hh : 0 ≤ h ∧ h + 19 ≤ 304) (hm : WFm (moM M)) (f : Rd) {B : Int} (hf : WFr f B) (fog : Int) (hfog : fog = 0 ∨ fog = 1) : Ex 3 mX8_passes b sh (putM M h f) [vr b 72, vi h, vi fog] none (putM M h (day (moM M) fog f)) := by
  have hm0 := hm
  obtain ⟨hN, hW, hTh, hT, -, -, -, -, -, -, h6, h7, -⟩ := hm0
  have h16 := hf.2.1
  have hB := hf.2.2.2.2.2
  have h18 := hf.2.2.2.1
  have e3 : ∀ g, putM M h g 73 3 = moM M 0 3 := fun g => (pm_k (by omega)).trans mM_3
  have L : ∀ (n : Nat) (i : Int), 0 ≤ i → i ≤ moM M 0 3 → moM M 0 3 - i < n → MW yX8_passes cX8_passes 6 none (rmD 3 0 0) (FM (EQ none (putM M h (day (moM M) fog f))) b sh 0 0) b sh.length 0 0 36 [some (vr b 72), some (vi h), some (vi fog), some (vi (f 16 % 10)), some (vi (tdS (moM M) fog f i.toNat 18)), some (vi i)] [] sh (putM M h (uF (tdS (moM M) fog f i.toNat) 18 (f 18))) := by
    intro n
    induction n with
    | zero => intro i h1 h2 h3; exact absurd h3 (by omega)
    | succ n ih =>
      intro i i1 i2 i3
      obtain ⟨t1, t2, t3⟩ := tdS_in (fog := fog) hm hf i.toNat
      have t18 := t1.2.2.2.1
      have g1 := WFr_w t1 h18
      by_cases hlt : i < moM M 0 3
      · have hs := tdS_s (mo := moM M) (fog := fog) (ro := f) i1
        have hv := h6 i
        have hwt := h7 i i1 hlt
        have hx := ih (i + 1) (by omega) (by omega) (by omega)
        rw [hs] at hx
        have e41 : ∀ g, putM M h g 73 (41 + i) = moM M 6 i := fun g => (pm_k (by omega)).trans (mM_d (by omega))
        have e49 : ∀ g, putM M h g 73 (49 + i) = moM M 7 i := fun g => (pm_k (by omega)).trans (mM_w (by omega))
        have e57 : ∀ g, putM M h g 73 (57 + i) = moM M 8 i := fun g => (pm_k (by omega)).trans (mM_t (by omega))
        refine R_iload (pc := 36) dX8_passes_36 rfl ?_
        refine R_aload_n (pc := 38) dX8_passes_38 rfl ?_
        refine R_getR (pc := 39) dX8_passes_39 fl_RX8_7 rfl (hsh _ _ rfl) rfl ?_
        refine R_iconst (pc := 42) dX8_passes_42 ?_
        refine R_iald (pc := 43) dX8_passes_43 (hsh _ _ rfl) (by omega) (e3 _) ?_
        refine R_cmp_ge (pc := 44) (tgt := 100) dX8_passes_44 (by decide) (by omega) (fun h_44 => ?_) (fun h_44 => ?_)
        · exact absurd h_44 (by omega)
        · refine R_aload_n (pc := 47) dX8_passes_47 rfl ?_
          refine R_getR (pc := 48) dX8_passes_48 fl_RX8_7 rfl (hsh _ _ rfl) rfl ?_
          refine R_bipush (pc := 51) dX8_passes_51 rfl ?_
          refine R_iload (pc := 53) dX8_passes_53 rfl ?_
          refine R_iadd (pc := 55) dX8_passes_55 ?_
          refine R_iald (pc := 56) dX8_passes_56 (hsh _ _ rfl) (by omega) (e41 _) ?_
          refine R_iload_n (pc := 57) dX8_passes_57 rfl ?_
          refine R_cmp_ne (pc := 58) (tgt := 94) dX8_passes_58 (by decide) (by omega) (fun h_58 => ?_) (fun h_58 => ?_)
          · rw [if_neg (by omega)] at hx
            refine R_iinc (pc := 94) dX8_passes_94 rfl (by decide) rfl rfl ?_
            refine R_goto (pc := 97) (tgt := 36) dX8_passes_97 (by decide) ?_
            exact hx
          · refine R_iconst (pc := 61) dX8_passes_61 ?_
            refine R_istore (pc := 62) dX8_passes_62 (by decide) rfl rfl ?_
            refine R_iload_n (pc := 64) dX8_passes_64 rfl ?_
            refine R_if_ne (pc := 65) (tgt := 94) dX8_passes_65 (by decide) (by omega) (fun h_65 => ?_) (fun h_65 => ?_)
            · rw [if_pos (by omega), if_pos (by omega), uF_s, uF_u] at hx
              refine R_iinc (pc := 94) dX8_passes_94 rfl (by decide) rfl rfl ?_
              refine R_goto (pc := 97) (tgt := 36) dX8_passes_97 (by decide) ?_
              exact hx
            · refine R_aload_n (pc := 68) dX8_passes_68 rfl ?_
              refine R_iload_n (pc := 69) dX8_passes_69 rfl ?_
              refine R_aload_n (pc := 70) dX8_passes_70 rfl ?_
              refine R_getR (pc := 71) dX8_passes_71 fl_RX8_7 rfl (hsh _ _ rfl) rfl ?_
              refine R_bipush (pc := 74) dX8_passes_74 rfl ?_
              refine R_iload (pc := 76) dX8_passes_76 rfl ?_
              refine R_iadd (pc := 78) dX8_passes_78 ?_
              refine R_iald (pc := 79) dX8_passes_79 (hsh _ _ rfl) (by omega) (e49 _) ?_
              refine R_aload_n (pc := 80) dX8_passes_80 rfl ?_
              refine R_getR (pc := 81) dX8_passes_81 fl_RX8_7 rfl (hsh _ _ rfl) rfl ?_
              refine R_bipush (pc := 84) dX8_passes_84 rfl ?_
              refine R_iload (pc := 86) dX8_passes_86 rfl ?_
              refine R_iadd (pc := 88) dX8_passes_88 ?_
              refine R_iald (pc := 89) dX8_passes_89 (hsh _ _ rfl) (by omega) (e57 _) ?_
              refine R_V3i (pc := 90) dX8_passes_90 sv_RX8_162 (hsh _ _ rfl) (j_bends b sh M hsh h hh hm _ g1 (moM M 7 i) (moM M 8 i) hwt.1 hwt.2) (Nat.le_of_ble_eq_true rfl) (by decide) ?_
              refine R_pop (pc := 93) dX8_passes_93 rfl ?_
              rw [if_pos (by omega), if_neg (by omega), bend_u hN.2 (Or.inr rfl)] at hx
              dsimp only at hx
              rw [uF_s, uF_u] at hx
              rw [bend_u hN.2 (Or.inr rfl)]
              refine R_iinc (pc := 94) dX8_passes_94 rfl (by decide) rfl rfl ?_
              refine R_goto (pc := 97) (tgt := 36) dX8_passes_97 (by decide) ?_
              exact hx
      · have ei : i = moM M 0 3 := by omega
        have eday : day (moM M) fog f = night (moM M 0 0) (tdS (moM M) fog f i.toNat) := by rw [ei]; rfl
        have v16 : stf (uF (tdS (moM M) fog f i.toNat) 18 (f 18)) (moM M 0 0 - 1) 16 = tdS (moM M) fog f i.toNat 16 := by
          unfold stf
          rw [if_neg (by omega), uF_n (by omega)]
        have v16' : uF (tdS (moM M) fog f i.toNat) 18 (f 18) 16 = tdS (moM M) fog f i.toNat 16 := uF_n (by omega)
        by_cases hw0 : tdS (moM M) fog f i.toNat 18 = 0
        · have t16 := t1.2.1
          refine R_iload (pc := 36) dX8_passes_36 rfl ?_
          refine R_aload_n (pc := 38) dX8_passes_38 rfl ?_
          refine R_getR (pc := 39) dX8_passes_39 fl_RX8_7 rfl (hsh _ _ rfl) rfl ?_
          refine R_iconst (pc := 42) dX8_passes_42 ?_
          refine R_iald (pc := 43) dX8_passes_43 (hsh _ _ rfl) (by omega) (e3 _) ?_
          refine R_cmp_ge (pc := 44) (tgt := 100) dX8_passes_44 (by decide) (by omega) (fun h_44 => ?_) (fun h_44 => ?_)
          · refine R_iload (pc := 100) dX8_passes_100 rfl ?_
            refine R_if_ne (pc := 102) (tgt := 110) dX8_passes_102 (by decide) (by omega) (fun h_102 => ?_) (fun h_102 => ?_)
            · exact absurd hw0 h_102
            · refine R_aload_n (pc := 105) dX8_passes_105 rfl ?_
              refine R_iload_n (pc := 106) dX8_passes_106 rfl ?_
              refine R_V1v (pc := 107) dX8_passes_107 sv_RX8_166 (hsh _ _ rfl) (j_straightens b sh M hsh h hh rfl hN _ g1) (Nat.le_of_ble_eq_true rfl) (by decide) ?_
              refine R_aload_n (pc := 110) dX8_passes_110 rfl ?_
              refine R_getR (pc := 111) dX8_passes_111 fl_RX8_13 rfl (hsh _ _ rfl) rfl ?_
              refine R_iload_n (pc := 114) dX8_passes_114 rfl ?_
              refine R_bipush (pc := 115) dX8_passes_115 rfl ?_
              refine R_iadd (pc := 117) dX8_passes_117 ?_
              refine R_dup2 (pc := 118) dX8_passes_118 rfl rfl ?_
              refine R_iald (pc := 119) dX8_passes_119 (hsh _ _ rfl) (by omega) ((pm_i (by omega)).trans v16) ?_
              refine R_iconst (pc := 120) dX8_passes_120 ?_
              refine R_iadd (pc := 121) dX8_passes_121 ?_
              refine R_iast (pc := 122) dX8_passes_122 (hsh _ _ rfl) (by omega) (by omega) ?_
              rw [pmu rfl (by omega)]
              refine R_aload_n (pc := 123) dX8_passes_123 rfl ?_
              refine R_getR (pc := 124) dX8_passes_124 fl_RX8_13 rfl (hsh _ _ rfl) rfl ?_
              refine R_iload_n (pc := 127) dX8_passes_127 rfl ?_
              refine R_bipush (pc := 128) dX8_passes_128 rfl ?_
              refine R_iadd (pc := 130) dX8_passes_130 ?_
              refine R_iconst (pc := 131) dX8_passes_131 ?_
              refine R_iast (pc := 132) dX8_passes_132 (hsh _ _ rfl) (by omega) (by omega) ?_
              rw [pmu rfl (by omega)]
              refine R_vret (pc := 133) dX8_passes_133 ?_
              exact eqv (by rw [eday, nightM_a hw0 hN.2])
          · exact absurd h_44 (by omega)
        · have t16 := t1.2.1
          refine R_iload (pc := 36) dX8_passes_36 rfl ?_
          refine R_aload_n (pc := 38) dX8_passes_38 rfl ?_
          refine R_getR (pc := 39) dX8_passes_39 fl_RX8_7 rfl (hsh _ _ rfl) rfl ?_
          refine R_iconst (pc := 42) dX8_passes_42 ?_
          refine R_iald (pc := 43) dX8_passes_43 (hsh _ _ rfl) (by omega) (e3 _) ?_
          refine R_cmp_ge (pc := 44) (tgt := 100) dX8_passes_44 (by decide) (by omega) (fun h_44 => ?_) (fun h_44 => ?_)
          · refine R_iload (pc := 100) dX8_passes_100 rfl ?_
            refine R_if_ne (pc := 102) (tgt := 110) dX8_passes_102 (by decide) (by omega) (fun h_102 => ?_) (fun h_102 => ?_)
            · refine R_aload_n (pc := 110) dX8_passes_110 rfl ?_
              refine R_getR (pc := 111) dX8_passes_111 fl_RX8_13 rfl (hsh _ _ rfl) rfl ?_
              refine R_iload_n (pc := 114) dX8_passes_114 rfl ?_
              refine R_bipush (pc := 115) dX8_passes_115 rfl ?_
              refine R_iadd (pc := 117) dX8_passes_117 ?_
              refine R_dup2 (pc := 118) dX8_passes_118 rfl rfl ?_
              refine R_iald (pc := 119) dX8_passes_119 (hsh _ _ rfl) (by omega) ((pm_i (by omega)).trans v16') ?_
              refine R_iconst (pc := 120) dX8_passes_120 ?_
              refine R_iadd (pc := 121) dX8_passes_121 ?_
              refine R_iast (pc := 122) dX8_passes_122 (hsh _ _ rfl) (by omega) (by omega) ?_
              rw [pmu rfl (by omega)]
              refine R_aload_n (pc := 123) dX8_passes_123 rfl ?_
              refine R_getR (pc := 124) dX8_passes_124 fl_RX8_13 rfl (hsh _ _ rfl) rfl ?_
              refine R_iload_n (pc := 127) dX8_passes_127 rfl ?_
              refine R_bipush (pc := 128) dX8_passes_128 rfl ?_
              refine R_iadd (pc := 130) dX8_passes_130 ?_
              refine R_iconst (pc := 131) dX8_passes_131 ?_
              refine R_iast (pc := 132) dX8_passes_132 (hsh _ _ rfl) (by omega) (by omega) ?_
              rw [pmu rfl (by omega)]
              refine R_vret (pc := 133) dX8_passes_133 ?_
              exact eqv (by rw [eday, nightM_w hw0])
            · exact absurd h_102 hw0
          · exact absurd h_44 (by omega)
  refine MC_of (ls := [some (vr b 72), some (vi h), some (vi fog), none, none, none]) (by decide) rfl (Nat.le_of_ble_eq_true rfl) ?_
  refine R_aload_n (pc := 0) dX8_passes_0 rfl ?_
  refine R_getR (pc := 1) dX8_passes_1 fl_RX8_13 rfl (hsh _ _ rfl) rfl ?_
  refine R_iload_n (pc := 4) dX8_passes_4 rfl ?_
  refine R_bipush (pc := 5) dX8_passes_5 rfl ?_
  refine R_iadd (pc := 7) dX8_passes_7 ?_
  refine R_iald (pc := 8) dX8_passes_8 (hsh _ _ rfl) (by omega) (pm_i (by omega)) ?_
  refine R_bipush (pc := 9) dX8_passes_9 rfl ?_
  refine R_irem (pc := 11) dX8_passes_11 (by omega) ?_
  refine R_istore_n (pc := 12) dX8_passes_12 (by decide) rfl rfl ?_
  refine R_aload_n (pc := 13) dX8_passes_13 rfl ?_
  refine R_getR (pc := 14) dX8_passes_14 fl_RX8_13 rfl (hsh _ _ rfl) rfl ?_
  refine R_iload_n (pc := 17) dX8_passes_17 rfl ?_
  refine R_bipush (pc := 18) dX8_passes_18 rfl ?_
  refine R_iadd (pc := 20) dX8_passes_20 ?_
  refine R_iald (pc := 21) dX8_passes_21 (hsh _ _ rfl) (by omega) (pm_i (by omega)) ?_
  refine R_iconst (pc := 22) dX8_passes_22 ?_
  refine R_cmp_ne (pc := 23) (tgt := 30) dX8_passes_23 (by decide) (by omega) (fun h_23 => ?_) (fun h_23 => ?_)
  · refine R_iconst (pc := 30) dX8_passes_30 ?_
    refine R_istore (pc := 31) dX8_passes_31 (by decide) rfl rfl ?_
    refine R_iconst (pc := 33) dX8_passes_33 ?_
    refine R_istore (pc := 34) dX8_passes_34 (by decide) rfl rfl ?_
    have hx := L 20 0 (by omega) (by omega) (by omega)
    rw [show tdS (moM M) fog f (0 : Int).toNat = f from rfl, uF_id] at hx
    first
      | (rw [show f 18 = 1 by omega] at hx; exact hx)
      | (rw [show f 18 = 0 by omega] at hx; exact hx)
  · refine R_iconst (pc := 26) dX8_passes_26 ?_
    refine R_goto (pc := 27) (tgt := 31) dX8_passes_27 (by decide) ?_
    refine R_istore (pc := 31) dX8_passes_31 (by decide) rfl rfl ?_
    refine R_iconst (pc := 33) dX8_passes_33 ?_
    refine R_istore (pc := 34) dX8_passes_34 (by decide) rfl rfl ?_
    have hx := L 20 0 (by omega) (by omega) (by omega)
    rw [show tdS (moM M) fog f (0 : Int).toNat = f from rfl, uF_id] at hx
    first
      | (rw [show f 18 = 1 by omega] at hx; exact hx)
      | (rw [show f 18 = 0 by omega] at hx; exact hx)
