/-! THE REFERENCE'S CONSTRUCTOR -/
theorem mos1_e : mos1 = mo0 := by
  funext a i
  show up mo0 0 0 9 a i = mo0 a i
  unfold up
  split
  · rename_i h; obtain ⟨rfl, rfl⟩ := h; rfl
  · rfl
def QC (N : Mem) (mo : Mo) : Option Value → Mem → Prop := fun v N' => v = some (vi 1) ∧ FrM N N' ∧ moW (N' 73) 69 = mo
section MI
variable {b : Nat} {sh : Shp} {N : Mem} {mo : Mo} {bey : Int}
theorem c_posts (hsh : Hm sh) (hmo : moW (N 73) 69 = mo) (hm : WFm mo) (x y z : Int) (hx : 0 ≤ x ∧ x ≤ 99) (hy : 0 ≤ y ∧ y ≤ 99) (hok : okI mo bey 112 x y z = true) : C0 1 mX8_posts b sh N [vr b 72, vi x, vi y] (QC N (moI mo 112 x y z)) := by
  have e69 : N 73 69 = mo 0 0 := by rw [← hmo]; rfl
  have e70 : N 73 70 = mo 0 1 := by rw [← hmo]; rfl
  have e71 : N 73 71 = mo 0 2 := by rw [← hmo]; rfl
  have e72 : N 73 72 = mo 0 3 := by rw [← hmo]; rfl
  have e73 : N 73 73 = mo 0 4 := by rw [← hmo]; rfl
  have g0 : 5 ≤ N 73 69 ∧ N 73 69 ≤ 16 := by rw [e69]; exact hm.1
  have g1 : 0 ≤ N 73 70 ∧ N 73 70 ≤ 4 := by rw [e70]; exact hm.2.1
  have g2 : 0 ≤ N 73 71 ∧ N 73 71 ≤ 6 := by rw [e71]; exact hm.2.2.1
  have g3 : 0 ≤ N 73 72 ∧ N 73 72 ≤ 8 := by rw [e72]; exact hm.2.2.2.1
  have g4 : 0 ≤ N 73 73 ∧ N 73 73 ≤ 2 := by rw [e73]; exact hm.2.2.2.2.1
  have ho := okI_112.mp hok
  have hc : 1 ≤ x ∧ x ≤ N 73 69 - 2 ∧ y ≤ 60 := by rw [e69]; exact ho
  have hj := j_posts b sh N hsh x y hx hy g0
  rw [if_pos hc, if_pos hc] at hj
  refine MC_mono hj (fun v N' h => ?_)
  obtain ⟨rfl, rfl⟩ := h
  refine ⟨rfl, FrM_up (FrM_r) (by unfold SM; omega), ?_⟩
  rw [up_row, iW_p g1 g2 g3 g4 (by omega), hmo]
  rfl
theorem c_walkers (hsh : Hm sh) (hmo : moW (N 73) 69 = mo) (hm : WFm mo) (x y z : Int) (hx : 0 ≤ x ∧ x ≤ 99) (hy : 0 ≤ y ∧ y ≤ 99) (hok : okI mo bey 119 x y z = true) : C0 0 mX8_walkers b sh N [vr b 72, vi x, vi y] (QC N (moI mo 119 x y z)) := by
  have e69 : N 73 69 = mo 0 0 := by rw [← hmo]; rfl
  have e70 : N 73 70 = mo 0 1 := by rw [← hmo]; rfl
  have e71 : N 73 71 = mo 0 2 := by rw [← hmo]; rfl
  have e72 : N 73 72 = mo 0 3 := by rw [← hmo]; rfl
  have e73 : N 73 73 = mo 0 4 := by rw [← hmo]; rfl
  have g0 : 5 ≤ N 73 69 ∧ N 73 69 ≤ 16 := by rw [e69]; exact hm.1
  have g1 : 0 ≤ N 73 70 ∧ N 73 70 ≤ 4 := by rw [e70]; exact hm.2.1
  have g2 : 0 ≤ N 73 71 ∧ N 73 71 ≤ 6 := by rw [e71]; exact hm.2.2.1
  have g3 : 0 ≤ N 73 72 ∧ N 73 72 ≤ 8 := by rw [e72]; exact hm.2.2.2.1
  have g4 : 0 ≤ N 73 73 ∧ N 73 73 ≤ 2 := by rw [e73]; exact hm.2.2.2.2.1
  have ho := okI_119.mp hok
  have hc : N 73 70 < 4 ∧ x ≤ 4 ∧ y ≤ 9 := by rw [e70]; exact ho
  have hj := j_walkers b sh N hsh x y hx hy g1
  rw [if_pos hc, if_pos hc] at hj
  refine MC_mono hj (fun v N' h => ?_)
  obtain ⟨rfl, rfl⟩ := h
  refine ⟨rfl, FrM_up (FrM_up (FrM_up (FrM_r) (by unfold SM; omega)) (by unfold SM; omega)) (by unfold SM; omega), ?_⟩
  rw [up_row, up_row, up_row, iW_w g1 g2 g3 g4 hc.1, hmo, e70]
  rfl
theorem c_things (hsh : Hm sh) (hmo : moW (N 73) 69 = mo) (hm : WFm mo) (x y z : Int) (hx : 0 ≤ x ∧ x ≤ 99) (hy : 0 ≤ y ∧ y ≤ 99) (hok : okI mo bey 116 x y z = true) : C0 0 mX8_things b sh N [vr b 72, vi x, vi y] (QC N (moI mo 116 x y z)) := by
  have e69 : N 73 69 = mo 0 0 := by rw [← hmo]; rfl
  have e70 : N 73 70 = mo 0 1 := by rw [← hmo]; rfl
  have e71 : N 73 71 = mo 0 2 := by rw [← hmo]; rfl
  have e72 : N 73 72 = mo 0 3 := by rw [← hmo]; rfl
  have e73 : N 73 73 = mo 0 4 := by rw [← hmo]; rfl
  have g0 : 5 ≤ N 73 69 ∧ N 73 69 ≤ 16 := by rw [e69]; exact hm.1
  have g1 : 0 ≤ N 73 70 ∧ N 73 70 ≤ 4 := by rw [e70]; exact hm.2.1
  have g2 : 0 ≤ N 73 71 ∧ N 73 71 ≤ 6 := by rw [e71]; exact hm.2.2.1
  have g3 : 0 ≤ N 73 72 ∧ N 73 72 ≤ 8 := by rw [e72]; exact hm.2.2.2.1
  have g4 : 0 ≤ N 73 73 ∧ N 73 73 ≤ 2 := by rw [e73]; exact hm.2.2.2.2.1
  have ho := okI_116.mp hok
  have hc : N 73 71 < 6 ∧ x < N 73 69 ∧ y ≤ 60 := by rw [e71, e69]; exact ho
  have hj := j_things b sh N hsh x y hx hy g0 g2
  rw [if_pos hc, if_pos hc] at hj
  refine MC_mono hj (fun v N' h => ?_)
  obtain ⟨rfl, rfl⟩ := h
  refine ⟨rfl, FrM_up (FrM_up (FrM_up (FrM_r) (by unfold SM; omega)) (by unfold SM; omega)) (by unfold SM; omega), ?_⟩
  rw [up_row, up_row, up_row, iW_t g1 g2 g3 g4 hc.1, hmo, e71]
  rfl
theorem c_walks (hsh : Hm sh) (hmo : moW (N 73) 69 = mo) (hm : WFm mo) (x y z : Int) (hx : 0 ≤ x ∧ x ≤ 99) (hy : 0 ≤ y ∧ y ≤ 99) (hz : 0 ≤ z ∧ z ≤ 99) (hok : okI mo bey 100 x y z = true) : C0 0 mX8_walks b sh N [vr b 72, vi x, vi y, vi z] (QC N (moI mo 100 x y z)) := by
  have e69 : N 73 69 = mo 0 0 := by rw [← hmo]; rfl
  have e70 : N 73 70 = mo 0 1 := by rw [← hmo]; rfl
  have e71 : N 73 71 = mo 0 2 := by rw [← hmo]; rfl
  have e72 : N 73 72 = mo 0 3 := by rw [← hmo]; rfl
  have e73 : N 73 73 = mo 0 4 := by rw [← hmo]; rfl
  have g0 : 5 ≤ N 73 69 ∧ N 73 69 ≤ 16 := by rw [e69]; exact hm.1
  have g1 : 0 ≤ N 73 70 ∧ N 73 70 ≤ 4 := by rw [e70]; exact hm.2.1
  have g2 : 0 ≤ N 73 71 ∧ N 73 71 ≤ 6 := by rw [e71]; exact hm.2.2.1
  have g3 : 0 ≤ N 73 72 ∧ N 73 72 ≤ 8 := by rw [e72]; exact hm.2.2.2.1
  have g4 : 0 ≤ N 73 73 ∧ N 73 73 ≤ 2 := by rw [e73]; exact hm.2.2.2.2.1
  have ho := okI_100.mp hok
  have hc : N 73 72 < 8 ∧ x ≤ 9 ∧ y < N 73 70 ∧ z < N 73 71 := by rw [e72, e70, e71]; exact ho
  have hj := j_walks b sh N hsh x y z hx hy hz g1 g2 g3
  rw [if_pos hc, if_pos hc] at hj
  refine MC_mono hj (fun v N' h => ?_)
  obtain ⟨rfl, rfl⟩ := h
  refine ⟨rfl, FrM_up (FrM_up (FrM_up (FrM_up (FrM_r) (by unfold SM; omega)) (by unfold SM; omega)) (by unfold SM; omega)) (by unfold SM; omega), ?_⟩
  rw [up_row, up_row, up_row, up_row, iW_d g1 g2 g3 g4 hc.1, hmo, e72]
  rfl
theorem c_fogs (hsh : Hm sh) (hmo : moW (N 73) 69 = mo) (hm : WFm mo) (x y z : Int) (hx : 0 ≤ x ∧ x ≤ 99) (hy : 0 ≤ y ∧ y ≤ 99) (hok : okI mo bey 102 x y z = true) : C0 0 mX8_fogs b sh N [vr b 72, vi x, vi y] (QC N (moI mo 102 x y z)) := by
  have e69 : N 73 69 = mo 0 0 := by rw [← hmo]; rfl
  have e70 : N 73 70 = mo 0 1 := by rw [← hmo]; rfl
  have e71 : N 73 71 = mo 0 2 := by rw [← hmo]; rfl
  have e72 : N 73 72 = mo 0 3 := by rw [← hmo]; rfl
  have e73 : N 73 73 = mo 0 4 := by rw [← hmo]; rfl
  have g0 : 5 ≤ N 73 69 ∧ N 73 69 ≤ 16 := by rw [e69]; exact hm.1
  have g1 : 0 ≤ N 73 70 ∧ N 73 70 ≤ 4 := by rw [e70]; exact hm.2.1
  have g2 : 0 ≤ N 73 71 ∧ N 73 71 ≤ 6 := by rw [e71]; exact hm.2.2.1
  have g3 : 0 ≤ N 73 72 ∧ N 73 72 ≤ 8 := by rw [e72]; exact hm.2.2.2.1
  have g4 : 0 ≤ N 73 73 ∧ N 73 73 ≤ 2 := by rw [e73]; exact hm.2.2.2.2.1
  have ho := okI_102.mp hok
  have hc : N 73 73 < 2 ∧ x ≤ y ∧ y ≤ 9 := by rw [e73]; exact ho
  have hj := j_fogs b sh N hsh x y hx hy g4
  rw [if_pos hc, if_pos hc] at hj
  refine MC_mono hj (fun v N' h => ?_)
  obtain ⟨rfl, rfl⟩ := h
  refine ⟨rfl, FrM_up (FrM_up (FrM_up (FrM_r) (by unfold SM; omega)) (by unfold SM; omega)) (by unfold SM; omega), ?_⟩
  rw [up_row, up_row, up_row, iW_f g1 g2 g3 g4 hc.1 hx.1 hc.2.2, hmo]
  rfl
end MI
theorem i_X8 (b : Nat) (M : Mem) (hz : ∀ j, M 72 j = 0) : MC 2 (yX8_init, cX8_init, 1, none) 12 750 b (SHc ++ [(8, 0, List.replicate (nF 8) none)]) M [vr b 72] SH (fun v M' => v = none ∧ absM M' = AS0 ∧ ∀ c, c < 72 → M' c = M c) := by
  have hP : SHc.length = 72 := rfl
  have hsh : Hm SH := Hm_a
  have rm : ∀ d, d ≤ 1 → roomOK (rmD 2 12 750) 12 750 d 0 0 := fun d hd => ⟨by show d + 1 ≤ 2; omega, by show 64 * d + 60 ≤ 64 * 2; omega, Nat.le_refl _, Nat.le_refl _⟩
  have go : ∀ N0 : Mem, Zc 72 85 M N0 → MW yX8_init cX8_init 1 none (rmD 2 12 750) (FM (fun v M' => v = none ∧ absM M' = AS0 ∧ ∀ c, c < 72 → M' c = M c) b SH 12 750) b (SHc ++ [(8, 0, List.replicate (nF 8) none)]).length 12 750 101 [some (vr b 72)] [] SH N0 := by
    intro N0 hZ
    refine R_aload_n (pc := 101) dX8_init_101 rfl ?_
    refine R_V0v (pc := 102) dX8_init_102 sv_RX8_46 (hsh 72 _ rfl) (j_begins b SH N0 hsh) (Nat.le_of_ble_eq_true rfl) (rm 0 (by omega)) ?_
    have hF1 : FrM N0 (bgM N0) := fun c j hc => by
      unfold bgM
      rw [if_neg (fun q => hc (by unfold SM; omega))]
    have hm1 : moW (bgM N0 73) 69 = mos1 := by rw [bg_mo, mos1_e]
    generalize bgM N0 = N1 at hF1 hm1
    refine R_aload_n (pc := 105) dX8_init_105 rfl ?_
    refine R_iconst (pc := 106) dX8_init_106 ?_
    refine R_bipush (pc := 107) dX8_init_107 rfl ?_
    refine R_V2 (pc := 109) dX8_init_109 sv_RX8_49 (c_posts hsh hm1 moswf1 3 34 644 (by omega) (by omega) mosok1) (hsh 72 _ rfl) (Nat.le_of_ble_eq_true rfl) (rm 1 (by omega)) ?_
    rintro _ N2 ⟨rfl, hq2, hm2⟩
    have hF2 := FrM_t hF1 hq2
    have hm2 : moW (N2 73) 69 = mos2 := hm2
    refine R_pop (pc := 112) dX8_init_112 rfl ?_
    refine R_aload_n (pc := 113) dX8_init_113 rfl ?_
    refine R_iconst (pc := 114) dX8_init_114 ?_
    refine R_bipush (pc := 115) dX8_init_115 rfl ?_
    refine R_V2 (pc := 117) dX8_init_117 sv_RX8_49 (c_posts hsh hm2 moswf2 4 36 645 (by omega) (by omega) mosok2) (hsh 72 _ rfl) (Nat.le_of_ble_eq_true rfl) (rm 1 (by omega)) ?_
    rintro _ N3 ⟨rfl, hq3, hm3⟩
    have hF3 := FrM_t hF2 hq3
    have hm3 : moW (N3 73) 69 = mos3 := hm3
    refine R_pop (pc := 120) dX8_init_120 rfl ?_
    refine R_aload_n (pc := 121) dX8_init_121 rfl ?_
    refine R_iconst (pc := 122) dX8_init_122 ?_
    refine R_bipush (pc := 123) dX8_init_123 rfl ?_
    refine R_V2 (pc := 125) dX8_init_125 sv_RX8_49 (c_posts hsh hm3 moswf3 5 33 710 (by omega) (by omega) mosok3) (hsh 72 _ rfl) (Nat.le_of_ble_eq_true rfl) (rm 1 (by omega)) ?_
    rintro _ N4 ⟨rfl, hq4, hm4⟩
    have hF4 := FrM_t hF3 hq4
    have hm4 : moW (N4 73) 69 = mos4 := hm4
    refine R_pop (pc := 128) dX8_init_128 rfl ?_
    refine R_aload_n (pc := 129) dX8_init_129 rfl ?_
    refine R_iconst (pc := 130) dX8_init_130 ?_
    refine R_iconst (pc := 131) dX8_init_131 ?_
    refine R_V2 (pc := 132) dX8_init_132 sv_RX8_53 (c_walkers hsh hm4 moswf4 0 2 712 (by omega) (by omega) mosok4) (hsh 72 _ rfl) (Nat.le_of_ble_eq_true rfl) (rm 0 (by omega)) ?_
    rintro _ N5 ⟨rfl, hq5, hm5⟩
    have hF5 := FrM_t hF4 hq5
    have hm5 : moW (N5 73) 69 = mos5 := hm5
    refine R_pop (pc := 135) dX8_init_135 rfl ?_
    refine R_aload_n (pc := 136) dX8_init_136 rfl ?_
    refine R_iconst (pc := 137) dX8_init_137 ?_
    refine R_iconst (pc := 138) dX8_init_138 ?_
    refine R_V2 (pc := 139) dX8_init_139 sv_RX8_53 (c_walkers hsh hm5 moswf5 2 3 713 (by omega) (by omega) mosok5) (hsh 72 _ rfl) (Nat.le_of_ble_eq_true rfl) (rm 0 (by omega)) ?_
    rintro _ N6 ⟨rfl, hq6, hm6⟩
    have hF6 := FrM_t hF5 hq6
    have hm6 : moW (N6 73) 69 = mos6 := hm6
    refine R_pop (pc := 142) dX8_init_142 rfl ?_
    refine R_aload_n (pc := 143) dX8_init_143 rfl ?_
    refine R_iconst (pc := 144) dX8_init_144 ?_
    refine R_bipush (pc := 145) dX8_init_145 rfl ?_
    refine R_V2 (pc := 147) dX8_init_147 sv_RX8_53 (c_walkers hsh hm6 moswf6 3 9 683 (by omega) (by omega) mosok6) (hsh 72 _ rfl) (Nat.le_of_ble_eq_true rfl) (rm 0 (by omega)) ?_
    rintro _ N7 ⟨rfl, hq7, hm7⟩
    have hF7 := FrM_t hF6 hq7
    have hm7 : moW (N7 73) 69 = mos7 := hm7
    refine R_pop (pc := 150) dX8_init_150 rfl ?_
    refine R_aload_n (pc := 151) dX8_init_151 rfl ?_
    refine R_iconst (pc := 152) dX8_init_152 ?_
    refine R_bipush (pc := 153) dX8_init_153 rfl ?_
    refine R_V2 (pc := 155) dX8_init_155 sv_RX8_56 (c_things hsh hm7 moswf7 3 50 686 (by omega) (by omega) mosok7) (hsh 72 _ rfl) (Nat.le_of_ble_eq_true rfl) (rm 0 (by omega)) ?_
    rintro _ N8 ⟨rfl, hq8, hm8⟩
    have hF8 := FrM_t hF7 hq8
    have hm8 : moW (N8 73) 69 = mos8 := hm8
    refine R_pop (pc := 158) dX8_init_158 rfl ?_
    refine R_aload_n (pc := 159) dX8_init_159 rfl ?_
    refine R_bipush (pc := 160) dX8_init_160 rfl ?_
    refine R_bipush (pc := 162) dX8_init_162 rfl ?_
    refine R_V2 (pc := 164) dX8_init_164 sv_RX8_56 (c_things hsh hm8 moswf8 6 10 681 (by omega) (by omega) mosok8) (hsh 72 _ rfl) (Nat.le_of_ble_eq_true rfl) (rm 0 (by omega)) ?_
    rintro _ N9 ⟨rfl, hq9, hm9⟩
    have hF9 := FrM_t hF8 hq9
    have hm9 : moW (N9 73) 69 = mos9 := hm9
    refine R_pop (pc := 167) dX8_init_167 rfl ?_
    refine R_aload_n (pc := 168) dX8_init_168 rfl ?_
    refine R_iconst (pc := 169) dX8_init_169 ?_
    refine R_bipush (pc := 170) dX8_init_170 rfl ?_
    refine R_V2 (pc := 172) dX8_init_172 sv_RX8_56 (c_things hsh hm9 moswf9 1 30 520 (by omega) (by omega) mosok9) (hsh 72 _ rfl) (Nat.le_of_ble_eq_true rfl) (rm 0 (by omega)) ?_
    rintro _ N10 ⟨rfl, hq10, hm10⟩
    have hF10 := FrM_t hF9 hq10
    have hm10 : moW (N10 73) 69 = mos10 := hm10
    refine R_pop (pc := 175) dX8_init_175 rfl ?_
    refine R_aload_n (pc := 176) dX8_init_176 rfl ?_
    refine R_iconst (pc := 177) dX8_init_177 ?_
    refine R_iconst (pc := 178) dX8_init_178 ?_
    refine R_iconst (pc := 179) dX8_init_179 ?_
    refine R_V3 (pc := 180) dX8_init_180 sv_RX8_59 (c_walks hsh hm10 moswf10 0 0 0 (by omega) (by omega) (by omega) mosok10) (hsh 72 _ rfl) (Nat.le_of_ble_eq_true rfl) (rm 0 (by omega)) ?_
    rintro _ N11 ⟨rfl, hq11, hm11⟩
    have hF11 := FrM_t hF10 hq11
    have hm11 : moW (N11 73) 69 = mos11 := hm11
    refine R_pop (pc := 183) dX8_init_183 rfl ?_
    refine R_aload_n (pc := 184) dX8_init_184 rfl ?_
    refine R_iconst (pc := 185) dX8_init_185 ?_
    refine R_iconst (pc := 186) dX8_init_186 ?_
    refine R_iconst (pc := 187) dX8_init_187 ?_
    refine R_V3 (pc := 188) dX8_init_188 sv_RX8_59 (c_walks hsh hm11 moswf11 2 1 1 (by omega) (by omega) (by omega) mosok11) (hsh 72 _ rfl) (Nat.le_of_ble_eq_true rfl) (rm 0 (by omega)) ?_
    rintro _ N12 ⟨rfl, hq12, hm12⟩
    have hF12 := FrM_t hF11 hq12
    have hm12 : moW (N12 73) 69 = mos12 := hm12
    refine R_pop (pc := 191) dX8_init_191 rfl ?_
    refine R_aload_n (pc := 192) dX8_init_192 rfl ?_
    refine R_iconst (pc := 193) dX8_init_193 ?_
    refine R_iconst (pc := 194) dX8_init_194 ?_
    refine R_iconst (pc := 195) dX8_init_195 ?_
    refine R_V3 (pc := 196) dX8_init_196 sv_RX8_59 (c_walks hsh hm12 moswf12 3 0 1 (by omega) (by omega) (by omega) mosok12) (hsh 72 _ rfl) (Nat.le_of_ble_eq_true rfl) (rm 0 (by omega)) ?_
    rintro _ N13 ⟨rfl, hq13, hm13⟩
    have hF13 := FrM_t hF12 hq13
    have hm13 : moW (N13 73) 69 = mos13 := hm13
    refine R_pop (pc := 199) dX8_init_199 rfl ?_
    refine R_aload_n (pc := 200) dX8_init_200 rfl ?_
    refine R_iconst (pc := 201) dX8_init_201 ?_
    refine R_iconst (pc := 202) dX8_init_202 ?_
    refine R_iconst (pc := 203) dX8_init_203 ?_
    refine R_V3 (pc := 204) dX8_init_204 sv_RX8_59 (c_walks hsh hm13 moswf13 3 2 2 (by omega) (by omega) (by omega) mosok13) (hsh 72 _ rfl) (Nat.le_of_ble_eq_true rfl) (rm 0 (by omega)) ?_
    rintro _ N14 ⟨rfl, hq14, hm14⟩
    have hF14 := FrM_t hF13 hq14
    have hm14 : moW (N14 73) 69 = mos14 := hm14
    refine R_pop (pc := 207) dX8_init_207 rfl ?_
    refine R_aload_n (pc := 208) dX8_init_208 rfl ?_
    refine R_bipush (pc := 209) dX8_init_209 rfl ?_
    refine R_iconst (pc := 211) dX8_init_211 ?_
    refine R_iconst (pc := 212) dX8_init_212 ?_
    refine R_V3 (pc := 213) dX8_init_213 sv_RX8_59 (c_walks hsh hm14 moswf14 6 0 0 (by omega) (by omega) (by omega) mosok14) (hsh 72 _ rfl) (Nat.le_of_ble_eq_true rfl) (rm 0 (by omega)) ?_
    rintro _ N15 ⟨rfl, hq15, hm15⟩
    have hF15 := FrM_t hF14 hq15
    have hm15 : moW (N15 73) 69 = mos15 := hm15
    refine R_pop (pc := 216) dX8_init_216 rfl ?_
    refine R_aload_n (pc := 217) dX8_init_217 rfl ?_
    refine R_iconst (pc := 218) dX8_init_218 ?_
    refine R_bipush (pc := 219) dX8_init_219 rfl ?_
    refine R_V2 (pc := 221) dX8_init_221 sv_RX8_63 (c_fogs hsh hm15 moswf15 4 6 (-48) (by omega) (by omega) mosok15) (hsh 72 _ rfl) (Nat.le_of_ble_eq_true rfl) (rm 0 (by omega)) ?_
    rintro _ N16 ⟨rfl, hq16, hm16⟩
    have hF16 := FrM_t hF15 hq16
    have hm16 : moW (N16 73) 69 = mos16 := hm16
    refine R_pop (pc := 224) dX8_init_224 rfl ?_
    refine R_aload_n (pc := 225) dX8_init_225 rfl ?_
    refine R_V0v (pc := 226) dX8_init_226 sv_RX8_66 (hsh 72 _ rfl) (j_comes b SH N16 hsh) (Nat.le_of_ble_eq_true rfl) (rm 0 (by omega)) ?_
    refine R_vret (pc := 229) dX8_init_229 ?_
    obtain ⟨c1, c2, -⟩ := cm_abs hF16 (by rw [hm16]; exact moswf16)
    have e5 : N0 72 5 = 0 := hZ.2 72 5 (by omega) (by omega)
    refine ⟨rfl, ?_, fun c hc => ?_⟩
    · rw [c1, hm16, e5]
      have etz : txM N0 = zF := by
        funext j
        unfold txM
        rw [e5, if_neg (by omega)]
        rfl
      rw [etz]
      rfl
    · rw [c2 c hc, FrM_c hF16 (fun j => by unfold SM; omega)]
      exact funext fun j => hZ.1 c j hc
  refine MC_of (ls := [some (vr b 72)]) (by decide) rfl (Nat.le_of_ble_eq_true rfl) ?_
  refine R_aload_n (pc := 0) dX8_init_0 rfl ?_
  refine R_objInit (pc := 1) dX8_init_1 ol_RX8_1 im_obj cw_obj (Nat.le_of_ble_eq_true rfl) ⟨Nat.le_of_ble_eq_true rfl, Nat.le_of_ble_eq_true rfl⟩ ?_
  refine R_aload_n (pc := 4) dX8_init_4 rfl ?_
  refine R_sipush (pc := 5) dX8_init_5 rfl ?_
  refine N_newa (pc := 8) (n := 138) (k := 73) (l' := [(8, 0, List.replicate (nF 8) none), (9, 138, [])]) dX8_init_8 rfl (by omega) (Nat.le_of_ble_eq_true rfl) (Nat.le_of_ble_eq_true rfl) rfl rfl ?_
  refine N_putR (pc := 10) (i := 0) (rs' := [some 73, none, none, none, none, none, none, none, none, none, none, none, none, none, none, none, none, none, none]) (l' := [(8, 0, [some 73, none, none, none, none, none, none, none, none, none, none, none, none, none, none, none, none, none, none]), (9, 138, [])]) dX8_init_10 fl_RX8_7 rfl (fun _ => rfl) fn_RX8_7 rfl hP rfl rfl (Nat.le_of_ble_eq_true rfl) rfl ?_
  refine R_aload_n (pc := 13) dX8_init_13 rfl ?_
  refine R_sipush (pc := 14) dX8_init_14 rfl ?_
  refine N_newa (pc := 17) (n := 304) (k := 74) (l' := [(8, 0, [some 73, none, none, none, none, none, none, none, none, none, none, none, none, none, none, none, none, none, none]), (9, 138, []), (9, 304, [])]) dX8_init_17 rfl (by omega) (Nat.le_of_ble_eq_true rfl) (Nat.le_of_ble_eq_true rfl) rfl rfl ?_
  refine N_putR (pc := 19) (i := 0) (rs' := [some 73, some 74, none, none, none, none, none, none, none, none, none, none, none, none, none, none, none, none, none]) (l' := [(8, 0, [some 73, some 74, none, none, none, none, none, none, none, none, none, none, none, none, none, none, none, none, none]), (9, 138, []), (9, 304, [])]) dX8_init_19 fl_RX8_13 rfl (fun _ => rfl) fn_RX8_13 rfl hP rfl rfl (Nat.le_of_ble_eq_true rfl) rfl ?_
  refine R_aload_n (pc := 22) dX8_init_22 rfl ?_
  refine R_sipush (pc := 23) dX8_init_23 rfl ?_
  refine N_newa (pc := 26) (n := 200) (k := 75) (l' := [(8, 0, [some 73, some 74, none, none, none, none, none, none, none, none, none, none, none, none, none, none, none, none, none]), (9, 138, []), (9, 304, []), (9, 200, [])]) dX8_init_26 rfl (by omega) (Nat.le_of_ble_eq_true rfl) (Nat.le_of_ble_eq_true rfl) rfl rfl ?_
  refine N_putR (pc := 28) (i := 0) (rs' := [some 73, some 74, none, none, some 75, none, none, none, none, none, none, none, none, none, none, none, none, none, none]) (l' := [(8, 0, [some 73, some 74, none, none, some 75, none, none, none, none, none, none, none, none, none, none, none, none, none, none]), (9, 138, []), (9, 304, []), (9, 200, [])]) dX8_init_28 fl_RX8_16 rfl (fun _ => rfl) fn_RX8_16 rfl hP rfl rfl (Nat.le_of_ble_eq_true rfl) rfl ?_
  refine R_aload_n (pc := 31) dX8_init_31 rfl ?_
  refine R_iconst (pc := 32) dX8_init_32 ?_
  refine N_newa (pc := 33) (n := 3) (k := 76) (l' := [(8, 0, [some 73, some 74, none, none, some 75, none, none, none, none, none, none, none, none, none, none, none, none, none, none]), (9, 138, []), (9, 304, []), (9, 200, []), (9, 3, [])]) dX8_init_33 rfl (by omega) (Nat.le_of_ble_eq_true rfl) (Nat.le_of_ble_eq_true rfl) rfl rfl ?_
  refine N_putR (pc := 35) (i := 0) (rs' := [some 73, some 74, none, none, some 75, none, none, none, some 76, none, none, none, none, none, none, none, none, none, none]) (l' := [(8, 0, [some 73, some 74, none, none, some 75, none, none, none, some 76, none, none, none, none, none, none, none, none, none, none]), (9, 138, []), (9, 304, []), (9, 200, []), (9, 3, [])]) dX8_init_35 fl_RX8_19 rfl (fun _ => rfl) fn_RX8_19 rfl hP rfl rfl (Nat.le_of_ble_eq_true rfl) rfl ?_
  refine R_aload_n (pc := 38) dX8_init_38 rfl ?_
  refine R_iconst (pc := 39) dX8_init_39 ?_
  refine N_newa (pc := 40) (n := 3) (k := 77) (l' := [(8, 0, [some 73, some 74, none, none, some 75, none, none, none, some 76, none, none, none, none, none, none, none, none, none, none]), (9, 138, []), (9, 304, []), (9, 200, []), (9, 3, []), (9, 3, [])]) dX8_init_40 rfl (by omega) (Nat.le_of_ble_eq_true rfl) (Nat.le_of_ble_eq_true rfl) rfl rfl ?_
  refine N_putR (pc := 42) (i := 0) (rs' := [some 73, some 74, none, none, some 75, none, none, none, some 76, some 77, none, none, none, none, none, none, none, none, none]) (l' := [(8, 0, [some 73, some 74, none, none, some 75, none, none, none, some 76, some 77, none, none, none, none, none, none, none, none, none]), (9, 138, []), (9, 304, []), (9, 200, []), (9, 3, []), (9, 3, [])]) dX8_init_42 fl_RX8_22 rfl (fun _ => rfl) fn_RX8_22 rfl hP rfl rfl (Nat.le_of_ble_eq_true rfl) rfl ?_
  refine R_aload_n (pc := 45) dX8_init_45 rfl ?_
  refine R_bipush (pc := 46) dX8_init_46 rfl ?_
  refine N_newa (pc := 48) (n := 6) (k := 78) (l' := [(8, 0, [some 73, some 74, none, none, some 75, none, none, none, some 76, some 77, none, none, none, none, none, none, none, none, none]), (9, 138, []), (9, 304, []), (9, 200, []), (9, 3, []), (9, 3, []), (9, 6, [])]) dX8_init_48 rfl (by omega) (Nat.le_of_ble_eq_true rfl) (Nat.le_of_ble_eq_true rfl) rfl rfl ?_
  refine N_putR (pc := 50) (i := 0) (rs' := [some 73, some 74, none, none, some 75, none, none, none, some 76, some 77, none, some 78, none, none, none, none, none, none, none]) (l' := [(8, 0, [some 73, some 74, none, none, some 75, none, none, none, some 76, some 77, none, some 78, none, none, none, none, none, none, none]), (9, 138, []), (9, 304, []), (9, 200, []), (9, 3, []), (9, 3, []), (9, 6, [])]) dX8_init_50 fl_RX8_25 rfl (fun _ => rfl) fn_RX8_25 rfl hP rfl rfl (Nat.le_of_ble_eq_true rfl) rfl ?_
  refine R_aload_n (pc := 53) dX8_init_53 rfl ?_
  refine R_bipush (pc := 54) dX8_init_54 rfl ?_
  refine N_newa (pc := 56) (n := 6) (k := 79) (l' := [(8, 0, [some 73, some 74, none, none, some 75, none, none, none, some 76, some 77, none, some 78, none, none, none, none, none, none, none]), (9, 138, []), (9, 304, []), (9, 200, []), (9, 3, []), (9, 3, []), (9, 6, []), (9, 6, [])]) dX8_init_56 rfl (by omega) (Nat.le_of_ble_eq_true rfl) (Nat.le_of_ble_eq_true rfl) rfl rfl ?_
  refine N_putR (pc := 58) (i := 0) (rs' := [some 73, some 74, none, none, some 75, none, none, none, some 76, some 77, none, some 78, some 79, none, none, none, none, none, none]) (l' := [(8, 0, [some 73, some 74, none, none, some 75, none, none, none, some 76, some 77, none, some 78, some 79, none, none, none, none, none, none]), (9, 138, []), (9, 304, []), (9, 200, []), (9, 3, []), (9, 3, []), (9, 6, []), (9, 6, [])]) dX8_init_58 fl_RX8_28 rfl (fun _ => rfl) fn_RX8_28 rfl hP rfl rfl (Nat.le_of_ble_eq_true rfl) rfl ?_
  refine R_aload_n (pc := 61) dX8_init_61 rfl ?_
  refine R_bipush (pc := 62) dX8_init_62 rfl ?_
  refine N_newa (pc := 64) (n := 6) (k := 80) (l' := [(8, 0, [some 73, some 74, none, none, some 75, none, none, none, some 76, some 77, none, some 78, some 79, none, none, none, none, none, none]), (9, 138, []), (9, 304, []), (9, 200, []), (9, 3, []), (9, 3, []), (9, 6, []), (9, 6, []), (9, 6, [])]) dX8_init_64 rfl (by omega) (Nat.le_of_ble_eq_true rfl) (Nat.le_of_ble_eq_true rfl) rfl rfl ?_
  refine N_putR (pc := 66) (i := 0) (rs' := [some 73, some 74, none, none, some 75, none, none, none, some 76, some 77, none, some 78, some 79, none, some 80, none, none, none, none]) (l' := [(8, 0, [some 73, some 74, none, none, some 75, none, none, none, some 76, some 77, none, some 78, some 79, none, some 80, none, none, none, none]), (9, 138, []), (9, 304, []), (9, 200, []), (9, 3, []), (9, 3, []), (9, 6, []), (9, 6, []), (9, 6, [])]) dX8_init_66 fl_RX8_31 rfl (fun _ => rfl) fn_RX8_31 rfl hP rfl rfl (Nat.le_of_ble_eq_true rfl) rfl ?_
  refine R_aload_n (pc := 69) dX8_init_69 rfl ?_
  refine R_bipush (pc := 70) dX8_init_70 rfl ?_
  refine N_newa (pc := 72) (n := 6) (k := 81) (l' := [(8, 0, [some 73, some 74, none, none, some 75, none, none, none, some 76, some 77, none, some 78, some 79, none, some 80, none, none, none, none]), (9, 138, []), (9, 304, []), (9, 200, []), (9, 3, []), (9, 3, []), (9, 6, []), (9, 6, []), (9, 6, []), (9, 6, [])]) dX8_init_72 rfl (by omega) (Nat.le_of_ble_eq_true rfl) (Nat.le_of_ble_eq_true rfl) rfl rfl ?_
  refine N_putR (pc := 74) (i := 0) (rs' := [some 73, some 74, none, none, some 75, none, none, none, some 76, some 77, none, some 78, some 79, none, some 80, some 81, none, none, none]) (l' := [(8, 0, [some 73, some 74, none, none, some 75, none, none, none, some 76, some 77, none, some 78, some 79, none, some 80, some 81, none, none, none]), (9, 138, []), (9, 304, []), (9, 200, []), (9, 3, []), (9, 3, []), (9, 6, []), (9, 6, []), (9, 6, []), (9, 6, [])]) dX8_init_74 fl_RX8_34 rfl (fun _ => rfl) fn_RX8_34 rfl hP rfl rfl (Nat.le_of_ble_eq_true rfl) rfl ?_
  refine R_aload_n (pc := 77) dX8_init_77 rfl ?_
  refine R_bipush (pc := 78) dX8_init_78 rfl ?_
  refine N_newa (pc := 80) (n := 6) (k := 82) (l' := [(8, 0, [some 73, some 74, none, none, some 75, none, none, none, some 76, some 77, none, some 78, some 79, none, some 80, some 81, none, none, none]), (9, 138, []), (9, 304, []), (9, 200, []), (9, 3, []), (9, 3, []), (9, 6, []), (9, 6, []), (9, 6, []), (9, 6, []), (9, 6, [])]) dX8_init_80 rfl (by omega) (Nat.le_of_ble_eq_true rfl) (Nat.le_of_ble_eq_true rfl) rfl rfl ?_
  refine N_putR (pc := 82) (i := 0) (rs' := [some 73, some 74, none, none, some 75, none, none, none, some 76, some 77, none, some 78, some 79, none, some 80, some 81, some 82, none, none]) (l' := [(8, 0, [some 73, some 74, none, none, some 75, none, none, none, some 76, some 77, none, some 78, some 79, none, some 80, some 81, some 82, none, none]), (9, 138, []), (9, 304, []), (9, 200, []), (9, 3, []), (9, 3, []), (9, 6, []), (9, 6, []), (9, 6, []), (9, 6, []), (9, 6, [])]) dX8_init_82 fl_RX8_37 rfl (fun _ => rfl) fn_RX8_37 rfl hP rfl rfl (Nat.le_of_ble_eq_true rfl) rfl ?_
  refine R_aload_n (pc := 85) dX8_init_85 rfl ?_
  refine R_bipush (pc := 86) dX8_init_86 rfl ?_
  refine N_newa (pc := 88) (n := 36) (k := 83) (l' := [(8, 0, [some 73, some 74, none, none, some 75, none, none, none, some 76, some 77, none, some 78, some 79, none, some 80, some 81, some 82, none, none]), (9, 138, []), (9, 304, []), (9, 200, []), (9, 3, []), (9, 3, []), (9, 6, []), (9, 6, []), (9, 6, []), (9, 6, []), (9, 6, []), (9, 36, [])]) dX8_init_88 rfl (by omega) (Nat.le_of_ble_eq_true rfl) (Nat.le_of_ble_eq_true rfl) rfl rfl ?_
  refine N_putR (pc := 90) (i := 0) (rs' := [some 73, some 74, none, none, some 75, none, none, none, some 76, some 77, none, some 78, some 79, none, some 80, some 81, some 82, some 83, none]) (l' := [(8, 0, [some 73, some 74, none, none, some 75, none, none, none, some 76, some 77, none, some 78, some 79, none, some 80, some 81, some 82, some 83, none]), (9, 138, []), (9, 304, []), (9, 200, []), (9, 3, []), (9, 3, []), (9, 6, []), (9, 6, []), (9, 6, []), (9, 6, []), (9, 6, []), (9, 36, [])]) dX8_init_90 fl_RX8_40 rfl (fun _ => rfl) fn_RX8_40 rfl hP rfl rfl (Nat.le_of_ble_eq_true rfl) rfl ?_
  refine R_aload_n (pc := 93) dX8_init_93 rfl ?_
  refine R_bipush (pc := 94) dX8_init_94 rfl ?_
  refine N_newa (pc := 96) (n := 36) (k := 84) (l' := [(8, 0, [some 73, some 74, none, none, some 75, none, none, none, some 76, some 77, none, some 78, some 79, none, some 80, some 81, some 82, some 83, none]), (9, 138, []), (9, 304, []), (9, 200, []), (9, 3, []), (9, 3, []), (9, 6, []), (9, 6, []), (9, 6, []), (9, 6, []), (9, 6, []), (9, 36, []), (9, 36, [])]) dX8_init_96 rfl (by omega) (Nat.le_of_ble_eq_true rfl) (Nat.le_of_ble_eq_true rfl) rfl rfl ?_
  refine N_putR (pc := 98) (i := 0) (rs' := [some 73, some 74, none, none, some 75, none, none, none, some 76, some 77, none, some 78, some 79, none, some 80, some 81, some 82, some 83, some 84]) (l' := [(8, 0, [some 73, some 74, none, none, some 75, none, none, none, some 76, some 77, none, some 78, some 79, none, some 80, some 81, some 82, some 83, some 84]), (9, 138, []), (9, 304, []), (9, 200, []), (9, 3, []), (9, 3, []), (9, 6, []), (9, 6, []), (9, 6, []), (9, 6, []), (9, 6, []), (9, 36, []), (9, 36, [])]) dX8_init_98 fl_RX8_43 rfl (fun _ => rfl) fn_RX8_43 rfl hP rfl rfl (Nat.le_of_ble_eq_true rfl) rfl ?_
  refine R_shp (sh' := SH) rfl ?_
  exact go _ (Zc_fr (Zc_fr (Zc_fr (Zc_fr (Zc_fr (Zc_fr (Zc_fr (Zc_fr (Zc_fr (Zc_fr (Zc_fr (Zc_fr (Zc_0 hz) (by omega)) (by omega)) (by omega)) (by omega)) (by omega)) (by omega)) (by omega)) (by omega)) (by omega)) (by omega)) (by omega)) (by omega))
