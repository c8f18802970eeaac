/-! THE FIRST TEXT, READ -/
theorem prs_s {tx : Rd} {n p bey c q a b d : Int} {F : Nat} {mo : Mo} (hp : p < n) (hc : tx p = c) (hok : okn tx (p + 1) (nb c) (nb c).toNat = true) (hq : ps tx (p + 1) (nb c).toNat = q) (ha : nv tx (ps tx (p + 1) 0) = a) (hb : nv tx (ps tx (p + 1) 1) = b) (hd : nv tx (ps tx (p + 1) 2) = d) (hI : okI mo bey c a b d = true) : prs tx n (F + 1) p mo bey = prs tx n F q (moI mo c a b d) (if c = 110 then bey else 1) := by
  subst hc; subst ha; subst hb; subst hd; subst hq
  conv => lhs; unfold prs
  rw [if_pos hp, if_pos ⟨hok, hI⟩]
def mos0 : Mo := mo0
def mos1 : Mo := moI mos0 110 9 643 34
def mos2 : Mo := moI mos1 112 3 34 644
def mos3 : Mo := moI mos2 112 4 36 645
def mos4 : Mo := moI mos3 112 5 33 710
def mos5 : Mo := moI mos4 119 0 2 712
def mos6 : Mo := moI mos5 119 2 3 713
def mos7 : Mo := moI mos6 119 3 9 683
def mos8 : Mo := moI mos7 116 3 50 686
def mos9 : Mo := moI mos8 116 6 10 681
def mos10 : Mo := moI mos9 116 1 30 520
def mos11 : Mo := moI mos10 100 0 0 0
def mos12 : Mo := moI mos11 100 2 1 1
def mos13 : Mo := moI mos12 100 3 0 1
def mos14 : Mo := moI mos13 100 3 2 2
def mos15 : Mo := moI mos14 100 6 0 0
def mos16 : Mo := moI mos15 102 4 6 (-48)
theorem mosok0 : okI mos0 0 110 9 643 34 = true := by decide +kernel
theorem mosok1 : okI mos1 0 112 3 34 644 = true := by decide +kernel
theorem mosok2 : okI mos2 1 112 4 36 645 = true := by decide +kernel
theorem mosok3 : okI mos3 1 112 5 33 710 = true := by decide +kernel
theorem mosok4 : okI mos4 1 119 0 2 712 = true := by decide +kernel
theorem mosok5 : okI mos5 1 119 2 3 713 = true := by decide +kernel
theorem mosok6 : okI mos6 1 119 3 9 683 = true := by decide +kernel
theorem mosok7 : okI mos7 1 116 3 50 686 = true := by decide +kernel
theorem mosok8 : okI mos8 1 116 6 10 681 = true := by decide +kernel
theorem mosok9 : okI mos9 1 116 1 30 520 = true := by decide +kernel
theorem mosok10 : okI mos10 1 100 0 0 0 = true := by decide +kernel
theorem mosok11 : okI mos11 1 100 2 1 1 = true := by decide +kernel
theorem mosok12 : okI mos12 1 100 3 0 1 = true := by decide +kernel
theorem mosok13 : okI mos13 1 100 3 2 2 = true := by decide +kernel
theorem mosok14 : okI mos14 1 100 6 0 0 = true := by decide +kernel
theorem mosok15 : okI mos15 1 102 4 6 (-48) = true := by decide +kernel
theorem moswf0 : WFm mos0 := WFm_0
theorem moswf1 : WFm mos1 := WFm_I moswf0 (by decide) (fun _ => by decide) (fun _ => by decide) mosok0
theorem moswf2 : WFm mos2 := WFm_I moswf1 (by decide) (fun _ => by decide) (fun _ => by decide) mosok1
theorem moswf3 : WFm mos3 := WFm_I moswf2 (by decide) (fun _ => by decide) (fun _ => by decide) mosok2
theorem moswf4 : WFm mos4 := WFm_I moswf3 (by decide) (fun _ => by decide) (fun _ => by decide) mosok3
theorem moswf5 : WFm mos5 := WFm_I moswf4 (by decide) (fun _ => by decide) (fun _ => by decide) mosok4
theorem moswf6 : WFm mos6 := WFm_I moswf5 (by decide) (fun _ => by decide) (fun _ => by decide) mosok5
theorem moswf7 : WFm mos7 := WFm_I moswf6 (by decide) (fun _ => by decide) (fun _ => by decide) mosok6
theorem moswf8 : WFm mos8 := WFm_I moswf7 (by decide) (fun _ => by decide) (fun _ => by decide) mosok7
theorem moswf9 : WFm mos9 := WFm_I moswf8 (by decide) (fun _ => by decide) (fun _ => by decide) mosok8
theorem moswf10 : WFm mos10 := WFm_I moswf9 (by decide) (fun _ => by decide) (fun _ => by decide) mosok9
theorem moswf11 : WFm mos11 := WFm_I moswf10 (by decide) (fun _ => by decide) (fun _ => by decide) mosok10
theorem moswf12 : WFm mos12 := WFm_I moswf11 (by decide) (fun _ => by decide) (fun _ => by decide) mosok11
theorem moswf13 : WFm mos13 := WFm_I moswf12 (by decide) (fun _ => by decide) (fun _ => by decide) mosok12
theorem moswf14 : WFm mos14 := WFm_I moswf13 (by decide) (fun _ => by decide) (fun _ => by decide) mosok13
theorem moswf15 : WFm mos15 := WFm_I moswf14 (by decide) (fun _ => by decide) (fun _ => by decide) mosok14
theorem moswf16 : WFm mos16 := WFm_I moswf15 (by decide) (fun _ => by decide) (fun _ => by omega) mosok15
theorem mosst0 : prs tx0 94 201 0 mos0 0 = prs tx0 94 200 3 mos1 0 := prs_s (F := 200) (c := 110) (q := 3) (a := 9) (b := 643) (d := 34) (by decide) (by decide +kernel) (by decide +kernel) (by decide +kernel) (by decide +kernel) (by decide +kernel) (by decide +kernel) mosok0
theorem mosst1 : prs tx0 94 200 3 mos1 0 = prs tx0 94 199 9 mos2 1 := prs_s (F := 199) (c := 112) (q := 9) (a := 3) (b := 34) (d := 644) (by decide) (by decide +kernel) (by decide +kernel) (by decide +kernel) (by decide +kernel) (by decide +kernel) (by decide +kernel) mosok1
theorem mosst2 : prs tx0 94 199 9 mos2 1 = prs tx0 94 198 15 mos3 1 := prs_s (F := 198) (c := 112) (q := 15) (a := 4) (b := 36) (d := 645) (by decide) (by decide +kernel) (by decide +kernel) (by decide +kernel) (by decide +kernel) (by decide +kernel) (by decide +kernel) mosok2
theorem mosst3 : prs tx0 94 198 15 mos3 1 = prs tx0 94 197 21 mos4 1 := prs_s (F := 197) (c := 112) (q := 21) (a := 5) (b := 33) (d := 710) (by decide) (by decide +kernel) (by decide +kernel) (by decide +kernel) (by decide +kernel) (by decide +kernel) (by decide +kernel) mosok3
theorem mosst4 : prs tx0 94 197 21 mos4 1 = prs tx0 94 196 26 mos5 1 := prs_s (F := 196) (c := 119) (q := 26) (a := 0) (b := 2) (d := 712) (by decide) (by decide +kernel) (by decide +kernel) (by decide +kernel) (by decide +kernel) (by decide +kernel) (by decide +kernel) mosok4
theorem mosst5 : prs tx0 94 196 26 mos5 1 = prs tx0 94 195 31 mos6 1 := prs_s (F := 195) (c := 119) (q := 31) (a := 2) (b := 3) (d := 713) (by decide) (by decide +kernel) (by decide +kernel) (by decide +kernel) (by decide +kernel) (by decide +kernel) (by decide +kernel) mosok5
theorem mosst6 : prs tx0 94 195 31 mos6 1 = prs tx0 94 194 36 mos7 1 := prs_s (F := 194) (c := 119) (q := 36) (a := 3) (b := 9) (d := 683) (by decide) (by decide +kernel) (by decide +kernel) (by decide +kernel) (by decide +kernel) (by decide +kernel) (by decide +kernel) mosok6
theorem mosst7 : prs tx0 94 194 36 mos7 1 = prs tx0 94 193 42 mos8 1 := prs_s (F := 193) (c := 116) (q := 42) (a := 3) (b := 50) (d := 686) (by decide) (by decide +kernel) (by decide +kernel) (by decide +kernel) (by decide +kernel) (by decide +kernel) (by decide +kernel) mosok7
theorem mosst8 : prs tx0 94 193 42 mos8 1 = prs tx0 94 192 48 mos9 1 := prs_s (F := 192) (c := 116) (q := 48) (a := 6) (b := 10) (d := 681) (by decide) (by decide +kernel) (by decide +kernel) (by decide +kernel) (by decide +kernel) (by decide +kernel) (by decide +kernel) mosok8
theorem mosst9 : prs tx0 94 192 48 mos9 1 = prs tx0 94 191 54 mos10 1 := prs_s (F := 191) (c := 116) (q := 54) (a := 1) (b := 30) (d := 520) (by decide) (by decide +kernel) (by decide +kernel) (by decide +kernel) (by decide +kernel) (by decide +kernel) (by decide +kernel) mosok9
theorem mosst10 : prs tx0 94 191 54 mos10 1 = prs tx0 94 190 61 mos11 1 := prs_s (F := 190) (c := 100) (q := 61) (a := 0) (b := 0) (d := 0) (by decide) (by decide +kernel) (by decide +kernel) (by decide +kernel) (by decide +kernel) (by decide +kernel) (by decide +kernel) mosok10
theorem mosst11 : prs tx0 94 190 61 mos11 1 = prs tx0 94 189 68 mos12 1 := prs_s (F := 189) (c := 100) (q := 68) (a := 2) (b := 1) (d := 1) (by decide) (by decide +kernel) (by decide +kernel) (by decide +kernel) (by decide +kernel) (by decide +kernel) (by decide +kernel) mosok11
theorem mosst12 : prs tx0 94 189 68 mos12 1 = prs tx0 94 188 75 mos13 1 := prs_s (F := 188) (c := 100) (q := 75) (a := 3) (b := 0) (d := 1) (by decide) (by decide +kernel) (by decide +kernel) (by decide +kernel) (by decide +kernel) (by decide +kernel) (by decide +kernel) mosok12
theorem mosst13 : prs tx0 94 188 75 mos13 1 = prs tx0 94 187 82 mos14 1 := prs_s (F := 187) (c := 100) (q := 82) (a := 3) (b := 2) (d := 2) (by decide) (by decide +kernel) (by decide +kernel) (by decide +kernel) (by decide +kernel) (by decide +kernel) (by decide +kernel) mosok13
theorem mosst14 : prs tx0 94 187 82 mos14 1 = prs tx0 94 186 89 mos15 1 := prs_s (F := 186) (c := 100) (q := 89) (a := 6) (b := 0) (d := 0) (by decide) (by decide +kernel) (by decide +kernel) (by decide +kernel) (by decide +kernel) (by decide +kernel) (by decide +kernel) mosok14
theorem mosst15 : prs tx0 94 186 89 mos15 1 = prs tx0 94 185 94 mos16 1 := prs_s (F := 185) (c := 102) (q := 94) (a := 4) (b := 6) (d := (-48)) (by decide) (by decide +kernel) (by decide +kernel) (by decide +kernel) (by decide +kernel) (by decide +kernel) (by decide +kernel) mosok15
theorem mos_rd : rdg tx0 94 = (-4, mos16) := (mosst0.trans (mosst1.trans (mosst2.trans (mosst3.trans (mosst4.trans (mosst5.trans (mosst6.trans (mosst7.trans (mosst8.trans (mosst9.trans (mosst10.trans (mosst11.trans (mosst12.trans (mosst13.trans (mosst14.trans (mosst15.trans (prs_x (by decide))))))))))))))))))
def AS0 : AS := (0, zF, mos16, strt mos16, (0, zR), (0, zR), (0, zF, zF), (0, zF, zF, zF))
/-! THE CLASS'S CONSTRUCTOR -/
def in0 (k : Nat) (j : Int) : Int := if k = 28 then (if 0 ≤ j ∧ j < 8 then 29 + 2 * j else -1) else if k = 46 then (if 0 ≤ j ∧ j < 2 then 47 + 2 * j else -1) else if k = 60 then (if 0 ≤ j ∧ j < 4 then 62 + 2 * j else -1) else 0
def In0 (n : Nat) (M : Mem) : Prop := ∀ k j, k < n → M k j = in0 k j
theorem in0_z {k : Nat} {j : Int} (h : k ≠ 28 ∧ k ≠ 46 ∧ k ≠ 60) : in0 k j = 0 := by
  unfold in0
  rw [if_neg h.1, if_neg h.2.1, if_neg h.2.2]
theorem In0_Z {c e : Nat} {M N : Mem} (h : In0 c M) (hZ : Zc c e (fr M c 0) N) (hne : ∀ k, c ≤ k → k < e → k ≠ 28 ∧ k ≠ 46 ∧ k ≠ 60) : In0 e N := fun k j hk => by
  by_cases h1 : k < c
  · rw [hZ.1 k j h1, fr_ne (by omega)]; exact h k j h1
  · rw [hZ.2 k j (by omega) hk, in0_z (hne k (by omega) hk)]
theorem In0_fr {c : Nat} {M : Mem} (h : In0 c M) (hne : c ≠ 28 ∧ c ≠ 46 ∧ c ≠ 60) : In0 (c + 1) (fr M c 0) := fun k j hk => by
  by_cases h1 : k = c
  · subst h1; rw [fr_e, in0_z hne]
  · rw [fr_ne h1]; exact h k j (by omega)
theorem In0_R {c a q n e : Nat} {M N : Mem} (h : In0 c M) (hZ : Zr c a q n (fr M c 0) N) (he : q + 2 * n = e) (ha : ∀ j, in0 a j = if 0 ≤ j ∧ j < (n : Int) then (q : Int) + 2 * j else -1) (hne : ∀ k, c ≤ k → k < e → k ≠ a → k ≠ 28 ∧ k ≠ 46 ∧ k ≠ 60) : In0 e N := fun k j hk => by
  obtain ⟨g1, g2, g3, g4⟩ := hZ
  by_cases h1 : k < c
  · rw [g1 k j h1, fr_ne (by omega)]; exact h k j h1
  · by_cases h2 : k = a
    · rw [h2, g3, ha]
    · rw [in0_z (hne k (by omega) hk h2)]
      by_cases h3 : k < q
      · exact g2 k j (by omega) h3 h2
      · exact g4 k j (by omega) (by omega)
theorem roomI {k s d mc ms : Nat} (hd : d + 1 ≤ 5) (hk : k + mc ≤ 71) (hs : s + ms ≤ 834) : roomOK (rmD 5 71 834) k s d mc ms := ⟨hd, by show 64 * d + 60 ≤ 64 * 5; omega, hk, hs⟩
def sx0 : Shp := [(7, 0, [none, none, none, none, none, none, none, none, none, none, none, none, none])]
def sx1 : Shp := [(7, 0, [some 1, none, none, none, none, none, none, none, none, none, none, none, none]), (1, 0, [some 2, none]), (9, 200, [])]
def sx2 : Shp := [(7, 0, [some 1, some 3, none, none, none, none, none, none, none, none, none, none, none]), (1, 0, [some 2, none]), (9, 200, []), (3, 0, [some 1, some 4]), (9, 3, [])]
def sx3 : Shp := [(7, 0, [some 1, some 3, some 5, none, none, none, none, none, none, none, none, none, none]), (1, 0, [some 2, none]), (9, 200, []), (3, 0, [some 1, some 4]), (9, 3, []), (2, 0, [none, some 6, none, some 7, some 8, none, some 9, some 10, none, some 11, some 12, some 13, none, none, none]), (9, 16, []), (9, 4, []), (9, 4, []), (9, 6, []), (9, 6, []), (9, 8, []), (9, 8, []), (9, 8, [])]
def sx4 : Shp := [(7, 0, [some 1, some 3, some 5, some 14, none, none, none, none, none, none, none, none, none]), (1, 0, [some 2, none]), (9, 200, []), (3, 0, [some 1, some 4]), (9, 3, []), (2, 0, [none, some 6, none, some 7, some 8, none, some 9, some 10, none, some 11, some 12, some 13, none, none, none]), (9, 16, []), (9, 4, []), (9, 4, []), (9, 6, []), (9, 6, []), (9, 8, []), (9, 8, []), (9, 8, []), (2, 0, [none, some 15, none, some 16, some 17, none, some 18, some 19, none, some 20, some 21, some 22, none, none, none]), (9, 16, []), (9, 4, []), (9, 4, []), (9, 6, []), (9, 6, []), (9, 8, []), (9, 8, []), (9, 8, [])]
def sx5 : Shp := [(7, 0, [some 1, some 3, some 5, some 14, some 23, none, none, none, none, none, none, none, none]), (1, 0, [some 2, none]), (9, 200, []), (3, 0, [some 1, some 4]), (9, 3, []), (2, 0, [none, some 6, none, some 7, some 8, none, some 9, some 10, none, some 11, some 12, some 13, none, none, none]), (9, 16, []), (9, 4, []), (9, 4, []), (9, 6, []), (9, 6, []), (9, 8, []), (9, 8, []), (9, 8, []), (2, 0, [none, some 15, none, some 16, some 17, none, some 18, some 19, none, some 20, some 21, some 22, none, none, none]), (9, 16, []), (9, 4, []), (9, 4, []), (9, 6, []), (9, 6, []), (9, 8, []), (9, 8, []), (9, 8, []), (4, 0, [none, some 24, none, none, none]), (9, 16, [])]
def sx6 : Shp := [(7, 0, [some 1, some 3, some 5, some 14, some 23, some 25, none, none, none, none, none, none, none]), (1, 0, [some 2, none]), (9, 200, []), (3, 0, [some 1, some 4]), (9, 3, []), (2, 0, [none, some 6, none, some 7, some 8, none, some 9, some 10, none, some 11, some 12, some 13, none, none, none]), (9, 16, []), (9, 4, []), (9, 4, []), (9, 6, []), (9, 6, []), (9, 8, []), (9, 8, []), (9, 8, []), (2, 0, [none, some 15, none, some 16, some 17, none, some 18, some 19, none, some 20, some 21, some 22, none, none, none]), (9, 16, []), (9, 4, []), (9, 4, []), (9, 6, []), (9, 6, []), (9, 8, []), (9, 8, []), (9, 8, []), (4, 0, [none, some 24, none, none, none]), (9, 16, []), (4, 0, [none, some 26, none, none, none]), (9, 16, [])]
def sx7 : Shp := [(7, 0, [some 1, some 3, some 5, some 14, some 23, some 25, some 27, none, none, none, none, none, none]), (1, 0, [some 2, none]), (9, 200, []), (3, 0, [some 1, some 4]), (9, 3, []), (2, 0, [none, some 6, none, some 7, some 8, none, some 9, some 10, none, some 11, some 12, some 13, none, none, none]), (9, 16, []), (9, 4, []), (9, 4, []), (9, 6, []), (9, 6, []), (9, 8, []), (9, 8, []), (9, 8, []), (2, 0, [none, some 15, none, some 16, some 17, none, some 18, some 19, none, some 20, some 21, some 22, none, none, none]), (9, 16, []), (9, 4, []), (9, 4, []), (9, 6, []), (9, 6, []), (9, 8, []), (9, 8, []), (9, 8, []), (4, 0, [none, some 24, none, none, none]), (9, 16, []), (4, 0, [none, some 26, none, none, none]), (9, 16, []), (6, 0, [some 28, none]), (10, 8, []), (4, 0, [none, some 30, none, none, none]), (9, 16, []), (4, 0, [none, some 32, none, none, none]), (9, 16, []), (4, 0, [none, some 34, none, none, none]), (9, 16, []), (4, 0, [none, some 36, none, none, none]), (9, 16, []), (4, 0, [none, some 38, none, none, none]), (9, 16, []), (4, 0, [none, some 40, none, none, none]), (9, 16, []), (4, 0, [none, some 42, none, none, none]), (9, 16, []), (4, 0, [none, some 44, none, none, none]), (9, 16, [])]
def sx8 : Shp := [(7, 0, [some 1, some 3, some 5, some 14, some 23, some 25, some 27, some 45, none, none, none, none, none]), (1, 0, [some 2, none]), (9, 200, []), (3, 0, [some 1, some 4]), (9, 3, []), (2, 0, [none, some 6, none, some 7, some 8, none, some 9, some 10, none, some 11, some 12, some 13, none, none, none]), (9, 16, []), (9, 4, []), (9, 4, []), (9, 6, []), (9, 6, []), (9, 8, []), (9, 8, []), (9, 8, []), (2, 0, [none, some 15, none, some 16, some 17, none, some 18, some 19, none, some 20, some 21, some 22, none, none, none]), (9, 16, []), (9, 4, []), (9, 4, []), (9, 6, []), (9, 6, []), (9, 8, []), (9, 8, []), (9, 8, []), (4, 0, [none, some 24, none, none, none]), (9, 16, []), (4, 0, [none, some 26, none, none, none]), (9, 16, []), (6, 0, [some 28, none]), (10, 8, []), (4, 0, [none, some 30, none, none, none]), (9, 16, []), (4, 0, [none, some 32, none, none, none]), (9, 16, []), (4, 0, [none, some 34, none, none, none]), (9, 16, []), (4, 0, [none, some 36, none, none, none]), (9, 16, []), (4, 0, [none, some 38, none, none, none]), (9, 16, []), (4, 0, [none, some 40, none, none, none]), (9, 16, []), (4, 0, [none, some 42, none, none, none]), (9, 16, []), (4, 0, [none, some 44, none, none, none]), (9, 16, []), (6, 0, [some 46, none]), (10, 2, []), (4, 0, [none, some 48, none, none, none]), (9, 16, []), (4, 0, [none, some 50, none, none, none]), (9, 16, [])]
def sx9 : Shp := [(7, 0, [some 1, some 3, some 5, some 14, some 23, some 25, some 27, some 45, some 51, none, none, none, none]), (1, 0, [some 2, none]), (9, 200, []), (3, 0, [some 1, some 4]), (9, 3, []), (2, 0, [none, some 6, none, some 7, some 8, none, some 9, some 10, none, some 11, some 12, some 13, none, none, none]), (9, 16, []), (9, 4, []), (9, 4, []), (9, 6, []), (9, 6, []), (9, 8, []), (9, 8, []), (9, 8, []), (2, 0, [none, some 15, none, some 16, some 17, none, some 18, some 19, none, some 20, some 21, some 22, none, none, none]), (9, 16, []), (9, 4, []), (9, 4, []), (9, 6, []), (9, 6, []), (9, 8, []), (9, 8, []), (9, 8, []), (4, 0, [none, some 24, none, none, none]), (9, 16, []), (4, 0, [none, some 26, none, none, none]), (9, 16, []), (6, 0, [some 28, none]), (10, 8, []), (4, 0, [none, some 30, none, none, none]), (9, 16, []), (4, 0, [none, some 32, none, none, none]), (9, 16, []), (4, 0, [none, some 34, none, none, none]), (9, 16, []), (4, 0, [none, some 36, none, none, none]), (9, 16, []), (4, 0, [none, some 38, none, none, none]), (9, 16, []), (4, 0, [none, some 40, none, none, none]), (9, 16, []), (4, 0, [none, some 42, none, none, none]), (9, 16, []), (4, 0, [none, some 44, none, none, none]), (9, 16, []), (6, 0, [some 46, none]), (10, 2, []), (4, 0, [none, some 48, none, none, none]), (9, 16, []), (4, 0, [none, some 50, none, none, none]), (9, 16, []), (0, 0, [some 52, some 53, some 54, none]), (9, 6, []), (9, 6, []), (9, 6, [])]
def sx10 : Shp := [(7, 0, [some 1, some 3, some 5, some 14, some 23, some 25, some 27, some 45, some 51, some 55, none, none, none]), (1, 0, [some 2, none]), (9, 200, []), (3, 0, [some 1, some 4]), (9, 3, []), (2, 0, [none, some 6, none, some 7, some 8, none, some 9, some 10, none, some 11, some 12, some 13, none, none, none]), (9, 16, []), (9, 4, []), (9, 4, []), (9, 6, []), (9, 6, []), (9, 8, []), (9, 8, []), (9, 8, []), (2, 0, [none, some 15, none, some 16, some 17, none, some 18, some 19, none, some 20, some 21, some 22, none, none, none]), (9, 16, []), (9, 4, []), (9, 4, []), (9, 6, []), (9, 6, []), (9, 8, []), (9, 8, []), (9, 8, []), (4, 0, [none, some 24, none, none, none]), (9, 16, []), (4, 0, [none, some 26, none, none, none]), (9, 16, []), (6, 0, [some 28, none]), (10, 8, []), (4, 0, [none, some 30, none, none, none]), (9, 16, []), (4, 0, [none, some 32, none, none, none]), (9, 16, []), (4, 0, [none, some 34, none, none, none]), (9, 16, []), (4, 0, [none, some 36, none, none, none]), (9, 16, []), (4, 0, [none, some 38, none, none, none]), (9, 16, []), (4, 0, [none, some 40, none, none, none]), (9, 16, []), (4, 0, [none, some 42, none, none, none]), (9, 16, []), (4, 0, [none, some 44, none, none, none]), (9, 16, []), (6, 0, [some 46, none]), (10, 2, []), (4, 0, [none, some 48, none, none, none]), (9, 16, []), (4, 0, [none, some 50, none, none, none]), (9, 16, []), (0, 0, [some 52, some 53, some 54, none]), (9, 6, []), (9, 6, []), (9, 6, []), (0, 0, [some 56, some 57, some 58, none]), (9, 6, []), (9, 6, []), (9, 6, [])]
def sx11 : Shp := [(7, 0, [some 1, some 3, some 5, some 14, some 23, some 25, some 27, some 45, some 51, some 55, some 59, none, none]), (1, 0, [some 2, none]), (9, 200, []), (3, 0, [some 1, some 4]), (9, 3, []), (2, 0, [none, some 6, none, some 7, some 8, none, some 9, some 10, none, some 11, some 12, some 13, none, none, none]), (9, 16, []), (9, 4, []), (9, 4, []), (9, 6, []), (9, 6, []), (9, 8, []), (9, 8, []), (9, 8, []), (2, 0, [none, some 15, none, some 16, some 17, none, some 18, some 19, none, some 20, some 21, some 22, none, none, none]), (9, 16, []), (9, 4, []), (9, 4, []), (9, 6, []), (9, 6, []), (9, 8, []), (9, 8, []), (9, 8, []), (4, 0, [none, some 24, none, none, none]), (9, 16, []), (4, 0, [none, some 26, none, none, none]), (9, 16, []), (6, 0, [some 28, none]), (10, 8, []), (4, 0, [none, some 30, none, none, none]), (9, 16, []), (4, 0, [none, some 32, none, none, none]), (9, 16, []), (4, 0, [none, some 34, none, none, none]), (9, 16, []), (4, 0, [none, some 36, none, none, none]), (9, 16, []), (4, 0, [none, some 38, none, none, none]), (9, 16, []), (4, 0, [none, some 40, none, none, none]), (9, 16, []), (4, 0, [none, some 42, none, none, none]), (9, 16, []), (4, 0, [none, some 44, none, none, none]), (9, 16, []), (6, 0, [some 46, none]), (10, 2, []), (4, 0, [none, some 48, none, none, none]), (9, 16, []), (4, 0, [none, some 50, none, none, none]), (9, 16, []), (0, 0, [some 52, some 53, some 54, none]), (9, 6, []), (9, 6, []), (9, 6, []), (0, 0, [some 56, some 57, some 58, none]), (9, 6, []), (9, 6, []), (9, 6, []), (5, 0, [some 60, some 61, none, none]), (10, 4, []), (9, 3, []), (4, 0, [none, some 63, none, none, none]), (9, 16, []), (4, 0, [none, some 65, none, none, none]), (9, 16, []), (4, 0, [none, some 67, none, none, none]), (9, 16, []), (4, 0, [none, some 69, none, none, none]), (9, 16, [])]
def sx12 : Shp := [(7, 0, [some 1, some 3, some 5, some 14, some 23, some 25, some 27, some 45, some 51, some 55, some 59, some 70, none]), (1, 0, [some 2, none]), (9, 200, []), (3, 0, [some 1, some 4]), (9, 3, []), (2, 0, [none, some 6, none, some 7, some 8, none, some 9, some 10, none, some 11, some 12, some 13, none, none, none]), (9, 16, []), (9, 4, []), (9, 4, []), (9, 6, []), (9, 6, []), (9, 8, []), (9, 8, []), (9, 8, []), (2, 0, [none, some 15, none, some 16, some 17, none, some 18, some 19, none, some 20, some 21, some 22, none, none, none]), (9, 16, []), (9, 4, []), (9, 4, []), (9, 6, []), (9, 6, []), (9, 8, []), (9, 8, []), (9, 8, []), (4, 0, [none, some 24, none, none, none]), (9, 16, []), (4, 0, [none, some 26, none, none, none]), (9, 16, []), (6, 0, [some 28, none]), (10, 8, []), (4, 0, [none, some 30, none, none, none]), (9, 16, []), (4, 0, [none, some 32, none, none, none]), (9, 16, []), (4, 0, [none, some 34, none, none, none]), (9, 16, []), (4, 0, [none, some 36, none, none, none]), (9, 16, []), (4, 0, [none, some 38, none, none, none]), (9, 16, []), (4, 0, [none, some 40, none, none, none]), (9, 16, []), (4, 0, [none, some 42, none, none, none]), (9, 16, []), (4, 0, [none, some 44, none, none, none]), (9, 16, []), (6, 0, [some 46, none]), (10, 2, []), (4, 0, [none, some 48, none, none, none]), (9, 16, []), (4, 0, [none, some 50, none, none, none]), (9, 16, []), (0, 0, [some 52, some 53, some 54, none]), (9, 6, []), (9, 6, []), (9, 6, []), (0, 0, [some 56, some 57, some 58, none]), (9, 6, []), (9, 6, []), (9, 6, []), (5, 0, [some 60, some 61, none, none]), (10, 4, []), (9, 3, []), (4, 0, [none, some 63, none, none, none]), (9, 16, []), (4, 0, [none, some 65, none, none, none]), (9, 16, []), (4, 0, [none, some 67, none, none, none]), (9, 16, []), (4, 0, [none, some 69, none, none, none]), (9, 16, []), (9, 36, [])]
def sx13 : Shp := [(7, 0, [some 1, some 3, some 5, some 14, some 23, some 25, some 27, some 45, some 51, some 55, some 59, some 70, some 71]), (1, 0, [some 2, none]), (9, 200, []), (3, 0, [some 1, some 4]), (9, 3, []), (2, 0, [none, some 6, none, some 7, some 8, none, some 9, some 10, none, some 11, some 12, some 13, none, none, none]), (9, 16, []), (9, 4, []), (9, 4, []), (9, 6, []), (9, 6, []), (9, 8, []), (9, 8, []), (9, 8, []), (2, 0, [none, some 15, none, some 16, some 17, none, some 18, some 19, none, some 20, some 21, some 22, none, none, none]), (9, 16, []), (9, 4, []), (9, 4, []), (9, 6, []), (9, 6, []), (9, 8, []), (9, 8, []), (9, 8, []), (4, 0, [none, some 24, none, none, none]), (9, 16, []), (4, 0, [none, some 26, none, none, none]), (9, 16, []), (6, 0, [some 28, none]), (10, 8, []), (4, 0, [none, some 30, none, none, none]), (9, 16, []), (4, 0, [none, some 32, none, none, none]), (9, 16, []), (4, 0, [none, some 34, none, none, none]), (9, 16, []), (4, 0, [none, some 36, none, none, none]), (9, 16, []), (4, 0, [none, some 38, none, none, none]), (9, 16, []), (4, 0, [none, some 40, none, none, none]), (9, 16, []), (4, 0, [none, some 42, none, none, none]), (9, 16, []), (4, 0, [none, some 44, none, none, none]), (9, 16, []), (6, 0, [some 46, none]), (10, 2, []), (4, 0, [none, some 48, none, none, none]), (9, 16, []), (4, 0, [none, some 50, none, none, none]), (9, 16, []), (0, 0, [some 52, some 53, some 54, none]), (9, 6, []), (9, 6, []), (9, 6, []), (0, 0, [some 56, some 57, some 58, none]), (9, 6, []), (9, 6, []), (9, 6, []), (5, 0, [some 60, some 61, none, none]), (10, 4, []), (9, 3, []), (4, 0, [none, some 63, none, none, none]), (9, 16, []), (4, 0, [none, some 65, none, none, none]), (9, 16, []), (4, 0, [none, some 67, none, none, none]), (9, 16, []), (4, 0, [none, some 69, none, none, none]), (9, 16, []), (9, 36, []), (9, 36, [])]
theorem sx_end : sx13 = SHc := rfl
theorem i_X7 (b : Nat) (M : Mem) (hz : ∀ j, M 0 j = 0) : MC 5 (yX7_init, cX7_init, 2, none) 71 834 b [(7, 0, List.replicate (nF 7) none)] M [vr b 0] SHc (fun v M' => v = none ∧ IC M' 0 ∧ absC M' = AS0) := by
  have hN : ∀ N : Mem, In0 72 N → MW yX7_init cX7_init 2 none (rmD 5 71 834) (FM (fun v M' => v = none ∧ IC M' 0 ∧ absC M' = AS0) b SHc 71 834) b 1 71 834 148 [some (vr b 0), none] [] SHc N := by
    intro N0 hN0
    have hsh : Hc SHc := Hc_c
    have h23 : isRd SHc 23 := rd_of hsh (by decide)
    have z0 : ∀ k j, k < 72 → k ≠ 28 → k ≠ 46 → k ≠ 60 → N0 k j = 0 := fun k j h1 h2 h3 h4 => by rw [hN0 k j h1, in0_z ⟨h2, h3, h4⟩]
    have T : ∀ N : Mem, N 1 1 = 94 → (∀ j, 0 ≤ j → j < 94 → N 2 j = tx0 j) → (∀ c, c ≠ 1 → c ≠ 2 → N c = N0 c) → MW yX7_init cX7_init 2 none (rmD 5 71 834) (FM (fun v M' => v = none ∧ IC M' 0 ∧ absC M' = AS0) b SHc 71 834) b 1 71 834 179 [some (vr b 0), some (vi 94)] [] SHc N := by
      intro N h94 htx hoth
      have etx : txC N = tx0 := by
        funext j
        unfold txC
        rw [h94]
        by_cases hj : 0 ≤ j ∧ j < 94
        · rw [if_pos hj, htx j hj.1 hj.2]
        · rw [if_neg hj]; unfold tx0; rw [if_neg hj]
      refine R_rng fun hNr => ?_
      refine R_aload_n (pc := 179) dX7_init_179 rfl ?_
      refine R_getR (pc := 180) dX7_init_180 fl_RX7_21 rfl (hsh 0 _ rfl) rfl ?_
      refine R_aload_n (pc := 183) dX7_init_183 rfl ?_
      refine R_getR (pc := 184) dX7_init_184 fl_RX7_28 rfl (hsh 0 _ rfl) rfl ?_
      refine R_V1 (pc := 187) dX7_init_187 sv_RX7_97 (k_readInto b SHc N 5 hsh (mo_of hsh (Or.inl rfl)) hNr (by omega)) (hsh 3 _ rfl) (Nat.le_of_ble_eq_true rfl) (roomI (by omega) (by omega) (by omega)) (fun v N1 hq => ?_)
      obtain ⟨rfl, hof, hok⟩ := hq
      rw [etx, h94, mos_rd] at hok ⊢
      obtain ⟨k1, k2, -⟩ := hok rfl
      have k1 : moC N1 5 = mos16 := k1
      refine R_pop (pc := 190) dX7_init_190 rfl ?_
      refine R_aload_n (pc := 191) dX7_init_191 rfl ?_
      refine R_getR (pc := 192) dX7_init_192 fl_RX7_10 rfl (hsh 0 _ rfl) rfl ?_
      refine R_V0v (pc := 195) dX7_init_195 sv_RX7_101 (hsh 1 _ rfl) (k_lclear b SHc N1 hsh) (Nat.le_of_ble_eq_true rfl) (roomI (by omega) (by omega) (by omega)) ?_
      refine R_aload_n (pc := 198) dX7_init_198 rfl ?_
      refine R_getR (pc := 199) dX7_init_199 fl_RX7_38 rfl (hsh 0 _ rfl) rfl ?_
      refine R_aload_n (pc := 202) dX7_init_202 rfl ?_
      refine R_getR (pc := 203) dX7_init_203 fl_RX7_28 rfl (hsh 0 _ rfl) rfl ?_
      refine R_rng fun hN2 => ?_
      refine R_V1v (pc := 206) dX7_init_206 sv_RX7_104 h23.1 (k_startOn b SHc _ 23 hsh h23 hN2) (Nat.le_of_ble_eq_true rfl) (roomI (by omega) (by omega) (by omega)) ?_
      refine R_vret (pc := 209) dX7_init_209 ?_
      generalize hE : putC (up (up N1 1 1 0) 23 0 (up N1 1 1 0 5 0)) 23 (strt (moC (up N1 1 1 0) 5)) = E
      have em0 : moC (up N1 1 1 0) 5 = mos16 := by rw [moC_c (fun c c1 c2 => up_o c (by omega)), k1]
      have e5 : up N1 1 1 0 5 = N1 5 := up_o 5 (by omega)
      rw [em0, e5] at hE
      have eo : ∀ c, c ≠ 1 → c ≠ 23 → c ≠ 24 → E c = N1 c := fun c c1 c2 c3 => by rw [← hE, pc_co c2 c3, up_o c c2, up_o c c1]
      have en : ∀ c, c ≠ 1 → c ≠ 2 → c ≠ 4 → (c < 5 ∨ 13 < c) → c ≠ 23 → c ≠ 24 → E c = N0 c := fun c c1 c2 c3 c4 c5 c6 => by
        rw [eo c c1 c5 c6, hof c c3 (by omega)]
        exact hoth c c1 c2
      have em : moC E 5 = mos16 := by rw [moC_c (fun c c1 c2 => eo c (by omega) (by omega) (by omega)), k1]
      have e11 : E 1 1 = 0 := by rw [← hE, pc_o (by omega) (by omega), up_k (by omega), up_s]
      have s28 : ∀ f n : Nat, ((f = 27 ∧ n = 8) ∨ (f = 45 ∧ n = 2)) → ShOK E f n := by
        intro f n hf
        have e1 : E (f + 1) = N0 (f + 1) := en _ (by omega) (by omega) (by omega) (by omega) (by omega) (by omega)
        have ef : E f = N0 f := en _ (by omega) (by omega) (by omega) (by omega) (by omega) (by omega)
        have v : ∀ k : Int, 0 ≤ k → k < n → E (f + 1) k = ((f : Int) + 2) + 2 * k := fun k h0 h1 => by
          rw [e1, hN0 _ _ (by omega)]
          rcases hf with ⟨rfl, rfl⟩ | ⟨rfl, rfl⟩
          · unfold in0; rw [if_pos rfl, if_pos (by omega)]; omega
          · unfold in0; rw [if_neg (by omega), if_pos rfl, if_pos (by omega)]; omega
        refine ⟨by rw [ef, z0 _ _ (by omega) (by omega) (by omega) (by omega)]; omega, fun k h0 h1 => ⟨f + 2 + 2 * k.toNat, by rw [v k h0 h1]; omega, ?_, by omega, by omega, by omega⟩, fun j k a1 a2 a3 a4 a5 => by rw [v j a1 a2, v k a3 a4] at a5; omega⟩
        have hk : k.toNat < n := by omega
        have key : ∀ q : Fin 8, 27 + 2 + 2 * q.val ∈ roads := by decide
        have key2 : ∀ q : Fin 2, 45 + 2 + 2 * q.val ∈ roads := by decide
        rcases hf with ⟨rfl, rfl⟩ | ⟨rfl, rfl⟩
        · exact key ⟨k.toNat, hk⟩
        · exact key2 ⟨k.toNat, hk⟩
      have zE : ∀ c j, 25 ≤ c → c < 72 → c ≠ 28 → c ≠ 46 → c ≠ 60 → E c j = 0 := fun c j c0 c1 c2 c3 c4 => by
        rw [en c (by omega) (by omega) (by omega) (by omega) (by omega) (by omega)]
        exact z0 c j c1 c2 c3 c4
      obtain ⟨r1, r2⟩ := IC_0 (F := E) (B := 0) (by omega) (by rw [em]; exact moswf16) (by rw [e11]; omega)
        (by rw [em, ← hE]; exact ro_pc (fun j hj => by unfold strt; rw [if_neg (by omega)]))
        (by rw [eo 5 (by omega) (by omega) (by omega), ← hE, pc_n (Or.inl rfl), up_s])
        (s28 27 8 (by omega)) (s28 45 2 (by omega)) (zE 27 1 (by omega) (by omega) (by omega) (by omega) (by omega)) (zE 45 1 (by omega) (by omega) (by omega) (by omega) (by omega)) (zE 51 3 (by omega) (by omega) (by omega) (by omega) (by omega)) (zE 55 3 (by omega) (by omega) (by omega) (by omega) (by omega))
        (fun k h0 h1 => by rw [en 60 (by omega) (by omega) (by omega) (by omega) (by omega) (by omega), hN0 60 k (by omega)]; unfold in0; rw [if_neg (by omega), if_neg (by omega), if_pos rfl, if_pos (by omega)])
      refine ⟨rfl, r1, ?_⟩
      rw [r2, e11, em]
      have etz : txC E = zF := by
        funext j
        unfold txC
        rw [e11, if_neg (by omega)]
        rfl
      rw [etz]
      rfl
    have L : ∀ (f : Nat) (i : Int) (N : Mem), 0 ≤ i → i ≤ 94 → 94 - i < f → N 1 1 = i → (∀ j, 0 ≤ j → j < i → N 2 j = tx0 j) → (∀ c, c ≠ 1 → c ≠ 2 → N c = N0 c) → MW yX7_init cX7_init 2 none (rmD 5 71 834) (FM (fun v M' => v = none ∧ IC M' 0 ∧ absC M' = AS0) b SHc 71 834) b 1 71 834 150 [some (vr b 0), some (vi i)] [] SHc N := by
      intro f
      induction f with
      | zero => intro i N h0 h1 h2; exact absurd h2 (by omega)
      | succ f ih =>
        intro i N h0 h1 h2 h11 htx hoth
        refine R_iload_n (pc := 150) dX7_init_150 rfl ?_
        refine R_slen (pc := 151) dX7_init_151 dX7_init_153 (Nat.le_of_ble_eq_true rfl) (roomI (by omega) (by omega) (by omega)) ?_
        refine R_cmp_ge (pc := 156) (tgt := 179) dX7_init_156 (by decide) (by omega) (fun h3 => ?_) (fun h3 => ?_)
        · have ei : i = 94 := by omega
          subst ei
          exact T N h11 htx hoth
        · have hq := (tx0_i (i := i) (by omega)).2
          have hadd := k_add b SHc N hsh (by omega) (tx0 i) (by omega)
          rw [if_pos (by omega), if_pos (by omega), h11] at hadd
          refine R_aload_n (pc := 159) dX7_init_159 rfl ?_
          refine R_getR (pc := 160) dX7_init_160 fl_RX7_10 rfl (hsh 0 _ rfl) rfl ?_
          refine R_sat (pc := 163) (i := i) (by omega) dX7_init_163 dX7_init_165 rfl dX7_init_166 (Nat.le_of_ble_eq_true rfl) (roomI (by omega) (by omega) (by omega)) ?_
          refine R_V1i (pc := 169) dX7_init_169 sv_RX7_93 (hsh 1 _ rfl) hadd (Nat.le_of_ble_eq_true rfl) (roomI (by omega) (by omega) (by omega)) ?_
          refine R_pop (pc := 172) dX7_init_172 rfl ?_
          refine R_iinc (pc := 173) dX7_init_173 rfl (by decide) rfl rfl ?_
          refine R_goto (pc := 176) (tgt := 150) dX7_init_176 (by decide) ?_
          refine ih (i + 1) _ (by omega) (by omega) (by omega) up_s (fun j j0 j1 => ?_) (fun c c1 c2 => by rw [up_o c c1, up_o c c2]; exact hoth c c1 c2)
          rw [up_k (by omega)]
          by_cases hj : j = i
          · rw [hj, up_s]
          · rw [up_j hj]; exact htx j j0 (by omega)
    refine R_iconst (pc := 148) dX7_init_148 ?_
    refine R_istore_n (pc := 149) dX7_init_149 (by decide) rfl rfl ?_
    exact L 100 0 N0 (by omega) (by omega) (by omega) (z0 1 1 (by omega) (by omega) (by omega) (by omega)) (fun j j0 j1 => absurd j1 (by omega)) (fun c _ _ => rfl)
  refine MC_of (ls := [some (vr b 0), none]) (by decide) rfl (Nat.le_of_ble_eq_true rfl) ?_
  refine R_aload_n (pc := 0) dX7_init_0 rfl ?_
  refine R_objInit (pc := 1) dX7_init_1 ol_RX7_1 im_obj cw_obj (Nat.le_of_ble_eq_true rfl) ⟨Nat.le_of_ble_eq_true rfl, Nat.le_of_ble_eq_true rfl⟩ ?_
  refine R_shp (sh' := sx0) rfl ?_
  have hI0 : In0 1 M := fun k j hk => by
    have : k = 0 := by omega
    subst this
    rw [hz j]; rfl
  refine R_aload_n (pc := 4) dX7_init_4 rfl ?_
  refine N_new (pc := 5) (ci := 1) (n := 1) dX7_init_5 nl_RX7_7 rfl (Nat.le_of_ble_eq_true rfl) (Nat.le_of_ble_eq_true rfl) ?_
  refine R_dup (pc := 8) dX7_init_8 rfl ?_
  refine R_callI (pc := 9) (as := []) (rest := [vr b 1, vr b 0]) (mc := 1) (ms := 200) (kc := 1) (ks := 2) dX7_init_9 si_RX7_9 (i_X1 b sx0 _ 1 rfl (fun j => fr_e)) rfl rfl (Nat.le_of_ble_eq_true rfl) (roomI (by omega) (by omega) (by omega)) rfl ?_
  rintro _ N1 ⟨rfl, hq1⟩
  have hI1 : In0 3 N1 := In0_Z hI0 hq1 (by omega)
  refine R_putR (pc := 12) (c := 0) (t := 1) (nn := 0) (rs := [none, none, none, none, none, none, none, none, none, none, none, none, none]) (rs' := [some 1, none, none, none, none, none, none, none, none, none, none, none, none]) (sh' := sx1) dX7_init_12 fl_RX7_10 rfl (fun _ => rfl) fn_RX7_10 rfl rfl rfl (Nat.le_of_ble_eq_true rfl) rfl ?_
  refine R_aload_n (pc := 15) dX7_init_15 rfl ?_
  refine N_new (pc := 16) (ci := 3) (n := 3) dX7_init_16 nl_RX7_16 rfl (Nat.le_of_ble_eq_true rfl) (Nat.le_of_ble_eq_true rfl) ?_
  refine R_dup (pc := 19) dX7_init_19 rfl ?_
  refine R_aload_n (pc := 20) dX7_init_20 rfl ?_
  refine R_getR (pc := 21) (c := 0) (rs := [some 1, none, none, none, none, none, none, none, none, none, none, none, none]) (nn := 0) dX7_init_21 fl_RX7_10 rfl rfl rfl ?_
  refine R_callI (pc := 24) (as := [vr b 1]) (rest := [vr b 3, vr b 0]) (mc := 1) (ms := 3) (kc := 3) (ks := 204) dX7_init_24 si_RX7_18 (i_X3 b sx1 _ 3 1 rfl (fun j => fr_e)) rfl rfl (Nat.le_of_ble_eq_true rfl) (roomI (by omega) (by omega) (by omega)) rfl ?_
  rintro _ N2 ⟨rfl, hq2⟩
  have hI2 : In0 5 N2 := In0_Z hI1 hq2 (by omega)
  refine R_putR (pc := 27) (c := 0) (t := 3) (nn := 0) (rs := [some 1, none, none, none, none, none, none, none, none, none, none, none, none]) (rs' := [some 1, some 3, none, none, none, none, none, none, none, none, none, none, none]) (sh' := sx2) dX7_init_27 fl_RX7_21 rfl (fun _ => rfl) fn_RX7_21 rfl rfl rfl (Nat.le_of_ble_eq_true rfl) rfl ?_
  refine R_aload_n (pc := 30) dX7_init_30 rfl ?_
  refine N_new (pc := 31) (ci := 2) (n := 5) dX7_init_31 nl_RX7_25 rfl (Nat.le_of_ble_eq_true rfl) (Nat.le_of_ble_eq_true rfl) ?_
  refine R_dup (pc := 34) dX7_init_34 rfl ?_
  refine R_callI (pc := 35) (as := []) (rest := [vr b 5, vr b 0]) (mc := 8) (ms := 60) (kc := 5) (ks := 222) dX7_init_35 si_RX7_27 (i_X2 b sx2 _ 5 rfl (fun j => fr_e)) rfl rfl (Nat.le_of_ble_eq_true rfl) (roomI (by omega) (by omega) (by omega)) rfl ?_
  rintro _ N3 ⟨rfl, hq3⟩
  have hI3 : In0 14 N3 := In0_Z hI2 hq3 (by omega)
  refine R_putR (pc := 38) (c := 0) (t := 5) (nn := 0) (rs := [some 1, some 3, none, none, none, none, none, none, none, none, none, none, none]) (rs' := [some 1, some 3, some 5, none, none, none, none, none, none, none, none, none, none]) (sh' := sx3) dX7_init_38 fl_RX7_28 rfl (fun _ => rfl) fn_RX7_28 rfl rfl rfl (Nat.le_of_ble_eq_true rfl) rfl ?_
  refine R_aload_n (pc := 41) dX7_init_41 rfl ?_
  refine N_new (pc := 42) (ci := 2) (n := 14) dX7_init_42 nl_RX7_25 rfl (Nat.le_of_ble_eq_true rfl) (Nat.le_of_ble_eq_true rfl) ?_
  refine R_dup (pc := 45) dX7_init_45 rfl ?_
  refine R_callI (pc := 46) (as := []) (rest := [vr b 14, vr b 0]) (mc := 8) (ms := 60) (kc := 14) (ks := 297) dX7_init_46 si_RX7_27 (i_X2 b sx3 _ 14 rfl (fun j => fr_e)) rfl rfl (Nat.le_of_ble_eq_true rfl) (roomI (by omega) (by omega) (by omega)) rfl ?_
  rintro _ N4 ⟨rfl, hq4⟩
  have hI4 : In0 23 N4 := In0_Z hI3 hq4 (by omega)
  refine R_putR (pc := 49) (c := 0) (t := 14) (nn := 0) (rs := [some 1, some 3, some 5, none, none, none, none, none, none, none, none, none, none]) (rs' := [some 1, some 3, some 5, some 14, none, none, none, none, none, none, none, none, none]) (sh' := sx4) dX7_init_49 fl_RX7_32 rfl (fun _ => rfl) fn_RX7_32 rfl rfl rfl (Nat.le_of_ble_eq_true rfl) rfl ?_
  refine R_aload_n (pc := 52) dX7_init_52 rfl ?_
  refine N_new (pc := 53) (ci := 4) (n := 23) dX7_init_53 nl_RX7_35 rfl (Nat.le_of_ble_eq_true rfl) (Nat.le_of_ble_eq_true rfl) ?_
  refine R_dup (pc := 56) dX7_init_56 rfl ?_
  refine R_callI (pc := 57) (as := []) (rest := [vr b 23, vr b 0]) (mc := 1) (ms := 16) (kc := 23) (ks := 362) dX7_init_57 si_RX7_37 (i_X4 b sx4 _ 23 rfl (fun j => fr_e)) rfl rfl (Nat.le_of_ble_eq_true rfl) (roomI (by omega) (by omega) (by omega)) rfl ?_
  rintro _ N5 ⟨rfl, hq5⟩
  have hI5 : In0 25 N5 := In0_Z hI4 hq5 (by omega)
  refine R_putR (pc := 60) (c := 0) (t := 23) (nn := 0) (rs := [some 1, some 3, some 5, some 14, none, none, none, none, none, none, none, none, none]) (rs' := [some 1, some 3, some 5, some 14, some 23, none, none, none, none, none, none, none, none]) (sh' := sx5) dX7_init_60 fl_RX7_38 rfl (fun _ => rfl) fn_RX7_38 rfl rfl rfl (Nat.le_of_ble_eq_true rfl) rfl ?_
  refine R_aload_n (pc := 63) dX7_init_63 rfl ?_
  refine N_new (pc := 64) (ci := 4) (n := 25) dX7_init_64 nl_RX7_35 rfl (Nat.le_of_ble_eq_true rfl) (Nat.le_of_ble_eq_true rfl) ?_
  refine R_dup (pc := 67) dX7_init_67 rfl ?_
  refine R_callI (pc := 68) (as := []) (rest := [vr b 25, vr b 0]) (mc := 1) (ms := 16) (kc := 25) (ks := 383) dX7_init_68 si_RX7_37 (i_X4 b sx5 _ 25 rfl (fun j => fr_e)) rfl rfl (Nat.le_of_ble_eq_true rfl) (roomI (by omega) (by omega) (by omega)) rfl ?_
  rintro _ N6 ⟨rfl, hq6⟩
  have hI6 : In0 27 N6 := In0_Z hI5 hq6 (by omega)
  refine R_putR (pc := 71) (c := 0) (t := 25) (nn := 0) (rs := [some 1, some 3, some 5, some 14, some 23, none, none, none, none, none, none, none, none]) (rs' := [some 1, some 3, some 5, some 14, some 23, some 25, none, none, none, none, none, none, none]) (sh' := sx6) dX7_init_71 fl_RX7_42 rfl (fun _ => rfl) fn_RX7_42 rfl rfl rfl (Nat.le_of_ble_eq_true rfl) rfl ?_
  refine R_aload_n (pc := 74) dX7_init_74 rfl ?_
  refine N_new (pc := 75) (ci := 6) (n := 27) dX7_init_75 nl_RX7_45 rfl (Nat.le_of_ble_eq_true rfl) (Nat.le_of_ble_eq_true rfl) ?_
  refine R_dup (pc := 78) dX7_init_78 rfl ?_
  refine R_bipush (pc := 79) dX7_init_79 rfl ?_
  refine R_callI (pc := 81) (as := [vi ((8 : Nat) : Int)]) (rest := [vr b 27, vr b 0]) (mc := 17) (ms := 176) (kc := 27) (ks := 401) dX7_init_81 si_RX7_47 (i_X6 b sx6 _ 27 8 (by omega) rfl (by omega) (fun j => fr_e)) rfl rfl (Nat.le_of_ble_eq_true rfl) (roomI (by omega) (by omega) (by omega)) rfl ?_
  rintro _ N7 ⟨rfl, hq7⟩
  have hI7 : In0 45 N7 := In0_R hI6 hq7 rfl (fun j => rfl) (by omega)
  refine R_putR (pc := 84) (c := 0) (t := 27) (nn := 0) (rs := [some 1, some 3, some 5, some 14, some 23, some 25, none, none, none, none, none, none, none]) (rs' := [some 1, some 3, some 5, some 14, some 23, some 25, some 27, none, none, none, none, none, none]) (sh' := sx7) dX7_init_84 fl_RX7_50 rfl (fun _ => rfl) fn_RX7_50 rfl rfl rfl (Nat.le_of_ble_eq_true rfl) rfl ?_
  refine R_aload_n (pc := 87) dX7_init_87 rfl ?_
  refine N_new (pc := 88) (ci := 6) (n := 45) dX7_init_88 nl_RX7_45 rfl (Nat.le_of_ble_eq_true rfl) (Nat.le_of_ble_eq_true rfl) ?_
  refine R_dup (pc := 91) dX7_init_91 rfl ?_
  refine R_iconst (pc := 92) dX7_init_92 ?_
  refine R_callI (pc := 93) (as := [vi ((2 : Nat) : Int)]) (rest := [vr b 45, vr b 0]) (mc := 5) (ms := 44) (kc := 45) (ks := 579) dX7_init_93 si_RX7_47 (i_X6 b sx7 _ 45 2 (by omega) rfl (by omega) (fun j => fr_e)) rfl rfl (Nat.le_of_ble_eq_true rfl) (roomI (by omega) (by omega) (by omega)) rfl ?_
  rintro _ N8 ⟨rfl, hq8⟩
  have hI8 : In0 51 N8 := In0_R hI7 hq8 rfl (fun j => rfl) (by omega)
  refine R_putR (pc := 96) (c := 0) (t := 45) (nn := 0) (rs := [some 1, some 3, some 5, some 14, some 23, some 25, some 27, none, none, none, none, none, none]) (rs' := [some 1, some 3, some 5, some 14, some 23, some 25, some 27, some 45, none, none, none, none, none]) (sh' := sx8) dX7_init_96 fl_RX7_54 rfl (fun _ => rfl) fn_RX7_54 rfl rfl rfl (Nat.le_of_ble_eq_true rfl) rfl ?_
  refine R_aload_n (pc := 99) dX7_init_99 rfl ?_
  refine N_new (pc := 100) (ci := 0) (n := 51) dX7_init_100 nl_RX7_57 rfl (Nat.le_of_ble_eq_true rfl) (Nat.le_of_ble_eq_true rfl) ?_
  refine R_dup (pc := 103) dX7_init_103 rfl ?_
  refine R_callI (pc := 104) (as := []) (rest := [vr b 51, vr b 0]) (mc := 3) (ms := 18) (kc := 51) (ks := 627) dX7_init_104 si_RX7_59 (i_X0 b sx8 _ 51 rfl (fun j => fr_e)) rfl rfl (Nat.le_of_ble_eq_true rfl) (roomI (by omega) (by omega) (by omega)) rfl ?_
  rintro _ N9 ⟨rfl, hq9⟩
  have hI9 : In0 55 N9 := In0_Z hI8 hq9 (by omega)
  refine R_putR (pc := 107) (c := 0) (t := 51) (nn := 0) (rs := [some 1, some 3, some 5, some 14, some 23, some 25, some 27, some 45, none, none, none, none, none]) (rs' := [some 1, some 3, some 5, some 14, some 23, some 25, some 27, some 45, some 51, none, none, none, none]) (sh' := sx9) dX7_init_107 fl_RX7_60 rfl (fun _ => rfl) fn_RX7_60 rfl rfl rfl (Nat.le_of_ble_eq_true rfl) rfl ?_
  refine R_aload_n (pc := 110) dX7_init_110 rfl ?_
  refine N_new (pc := 111) (ci := 0) (n := 55) dX7_init_111 nl_RX7_57 rfl (Nat.le_of_ble_eq_true rfl) (Nat.le_of_ble_eq_true rfl) ?_
  refine R_dup (pc := 114) dX7_init_114 rfl ?_
  refine R_callI (pc := 115) (as := []) (rest := [vr b 55, vr b 0]) (mc := 3) (ms := 18) (kc := 55) (ks := 649) dX7_init_115 si_RX7_59 (i_X0 b sx9 _ 55 rfl (fun j => fr_e)) rfl rfl (Nat.le_of_ble_eq_true rfl) (roomI (by omega) (by omega) (by omega)) rfl ?_
  rintro _ N10 ⟨rfl, hq10⟩
  have hI10 : In0 59 N10 := In0_Z hI9 hq10 (by omega)
  refine R_putR (pc := 118) (c := 0) (t := 55) (nn := 0) (rs := [some 1, some 3, some 5, some 14, some 23, some 25, some 27, some 45, some 51, none, none, none, none]) (rs' := [some 1, some 3, some 5, some 14, some 23, some 25, some 27, some 45, some 51, some 55, none, none, none]) (sh' := sx10) dX7_init_118 fl_RX7_64 rfl (fun _ => rfl) fn_RX7_64 rfl rfl rfl (Nat.le_of_ble_eq_true rfl) rfl ?_
  refine R_aload_n (pc := 121) dX7_init_121 rfl ?_
  refine N_new (pc := 122) (ci := 5) (n := 59) dX7_init_122 nl_RX7_67 rfl (Nat.le_of_ble_eq_true rfl) (Nat.le_of_ble_eq_true rfl) ?_
  refine R_dup (pc := 125) dX7_init_125 rfl ?_
  refine R_callI (pc := 126) (as := []) (rest := [vr b 59, vr b 0]) (mc := 10) (ms := 91) (kc := 59) (ks := 671) dX7_init_126 si_RX7_69 (i_X5 b sx10 _ 59 rfl (by omega) (fun j => fr_e)) rfl rfl (Nat.le_of_ble_eq_true rfl) (roomI (by omega) (by omega) (by omega)) rfl ?_
  rintro _ N11 ⟨rfl, hq11⟩
  have hI11 : In0 70 N11 := In0_R hI10 hq11 rfl (fun j => rfl) (by omega)
  refine R_putR (pc := 129) (c := 0) (t := 59) (nn := 0) (rs := [some 1, some 3, some 5, some 14, some 23, some 25, some 27, some 45, some 51, some 55, none, none, none]) (rs' := [some 1, some 3, some 5, some 14, some 23, some 25, some 27, some 45, some 51, some 55, some 59, none, none]) (sh' := sx11) dX7_init_129 fl_RX7_70 rfl (fun _ => rfl) fn_RX7_70 rfl rfl rfl (Nat.le_of_ble_eq_true rfl) rfl ?_
  refine R_aload_n (pc := 132) dX7_init_132 rfl ?_
  refine R_bipush (pc := 133) dX7_init_133 rfl ?_
  refine R_newa (pc := 135) (n := 36) dX7_init_135 ac_int rfl (by omega) (Nat.le_of_ble_eq_true rfl) (Nat.le_of_ble_eq_true rfl) ?_
  have hI12 : In0 71 (fr N11 70 0) := In0_fr hI11 (by omega)
  refine R_putR (pc := 137) (c := 0) (t := 70) (nn := 0) (rs := [some 1, some 3, some 5, some 14, some 23, some 25, some 27, some 45, some 51, some 55, some 59, none, none]) (rs' := [some 1, some 3, some 5, some 14, some 23, some 25, some 27, some 45, some 51, some 55, some 59, some 70, none]) (sh' := sx12) dX7_init_137 fl_RX7_74 rfl (fun _ => rfl) fn_RX7_74 rfl rfl rfl (Nat.le_of_ble_eq_true rfl) rfl ?_
  refine R_aload_n (pc := 140) dX7_init_140 rfl ?_
  refine R_bipush (pc := 141) dX7_init_141 rfl ?_
  refine R_newa (pc := 143) (n := 36) dX7_init_143 ac_int rfl (by omega) (Nat.le_of_ble_eq_true rfl) (Nat.le_of_ble_eq_true rfl) ?_
  have hI13 : In0 72 (fr (fr N11 70 0) 71 0) := In0_fr hI12 (by omega)
  refine R_putR (pc := 145) (c := 0) (t := 71) (nn := 0) (rs := [some 1, some 3, some 5, some 14, some 23, some 25, some 27, some 45, some 51, some 55, some 59, some 70, none]) (rs' := [some 1, some 3, some 5, some 14, some 23, some 25, some 27, some 45, some 51, some 55, some 59, some 70, some 71]) (sh' := sx13) dX7_init_145 fl_RX7_78 rfl (fun _ => rfl) fn_RX7_78 rfl rfl rfl (Nat.le_of_ble_eq_true rfl) rfl ?_
  exact hN _ hI13
