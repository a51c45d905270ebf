/-! SoapPole: what is told, towers, draws, sand -/
set_option maxRecDepth 20000 in
theorem c_X6_told0 (sk : Nat → Nat) {h rd pl sp nw im kp tl ro rs ak : Nat} {st : Bool} {fp : Int32} {ps pw pa pr rt rf rn nq tc tf tp F : Nat} {C V E N S ln ai fa fp1 fc sd n : Int32} {pt hm sn : Bool} {s : PSt}  : Ct sk yX6_told cX6_told 2 (some .int) 2 0 0 [oMain h rd pl sp nw im kp tl ro rs ak st fp, oPlan pl ps pw pa pr (nI F) C V E N S, oReader rd rt rf rn ln ai fa fp1 fc pt hm sn, oPoleS nw nq s sd, cI nq 30 (fI s.1), oTale tl tc tf tp n] [.ref h, .int (nI 0)] (zD (some (.int (nI F))) [oMain h rd pl sp nw im kp tl ro rs ak st fp, oPlan pl ps pw pa pr (nI F) C V E N S, oReader rd rt rf rn ln ai fa fp1 fc pt hm sn, oPoleS nw nq s sd, cI nq 30 (fI s.1), oTale tl tc tf tp n]) := by
  refine Ct.of (own := RX6) (l := [some (.ref h), some (.int (nI 0))]) (by decide) rfl (Nat.le_of_ble_eq_true rfl) rfl ?_
  refine g_iload_n dX6_told_0 rfl rfl ?_
  skip
  · refine g_tblIn (q := 60) (off := 59) dX6_told_1 (by decide) (by decide) (by decide) (by decide) ?_
    refine g_aload_n dX6_told_60 rfl rfl ?_
    refine g_get f_X6_19 dX6_told_61 rfl 0 rfl rfl ?_
    refine g_get f_X6_101 dX6_told_64 rfl 1 rfl rfl ?_
    exact g_iret dX6_told_67 rfl (Nat.le_refl _) (Nat.le_refl _) (⟨rfl, rfl⟩)
set_option maxRecDepth 20000 in
theorem c_X6_told1 (sk : Nat → Nat) {h rd pl sp nw im kp tl ro rs ak : Nat} {st : Bool} {fp : Int32} {ps pw pa pr rt rf rn nq tc tf tp F : Nat} {C V E N S ln ai fa fp1 fc sd n : Int32} {pt hm sn : Bool} {s : PSt}  : Ct sk yX6_told cX6_told 2 (some .int) 2 0 0 [oMain h rd pl sp nw im kp tl ro rs ak st fp, oPlan pl ps pw pa pr (nI F) C V E N S, oReader rd rt rf rn ln ai fa fp1 fc pt hm sn, oPoleS nw nq s sd, cI nq 30 (fI s.1), oTale tl tc tf tp n] [.ref h, .int (nI 1)] (zD (some (.int (C))) [oMain h rd pl sp nw im kp tl ro rs ak st fp, oPlan pl ps pw pa pr (nI F) C V E N S, oReader rd rt rf rn ln ai fa fp1 fc pt hm sn, oPoleS nw nq s sd, cI nq 30 (fI s.1), oTale tl tc tf tp n]) := by
  refine Ct.of (own := RX6) (l := [some (.ref h), some (.int (nI 1))]) (by decide) rfl (Nat.le_of_ble_eq_true rfl) rfl ?_
  refine g_iload_n dX6_told_0 rfl rfl ?_
  skip
  · refine g_tblIn (q := 68) (off := 67) dX6_told_1 (by decide) (by decide) (by decide) (by decide) ?_
    refine g_aload_n dX6_told_68 rfl rfl ?_
    refine g_get f_X6_19 dX6_told_69 rfl 0 rfl rfl ?_
    refine g_get f_X6_104 dX6_told_72 rfl 1 rfl rfl ?_
    exact g_iret dX6_told_75 rfl (Nat.le_refl _) (Nat.le_refl _) (⟨rfl, rfl⟩)
set_option maxRecDepth 20000 in
theorem c_X6_told2 (sk : Nat → Nat) {h rd pl sp nw im kp tl ro rs ak : Nat} {st : Bool} {fp : Int32} {ps pw pa pr rt rf rn nq tc tf tp F : Nat} {C V E N S ln ai fa fp1 fc sd n : Int32} {pt hm sn : Bool} {s : PSt}  : Ct sk yX6_told cX6_told 2 (some .int) 2 0 0 [oMain h rd pl sp nw im kp tl ro rs ak st fp, oPlan pl ps pw pa pr (nI F) C V E N S, oReader rd rt rf rn ln ai fa fp1 fc pt hm sn, oPoleS nw nq s sd, cI nq 30 (fI s.1), oTale tl tc tf tp n] [.ref h, .int (nI 2)] (zD (some (.int (V))) [oMain h rd pl sp nw im kp tl ro rs ak st fp, oPlan pl ps pw pa pr (nI F) C V E N S, oReader rd rt rf rn ln ai fa fp1 fc pt hm sn, oPoleS nw nq s sd, cI nq 30 (fI s.1), oTale tl tc tf tp n]) := by
  refine Ct.of (own := RX6) (l := [some (.ref h), some (.int (nI 2))]) (by decide) rfl (Nat.le_of_ble_eq_true rfl) rfl ?_
  refine g_iload_n dX6_told_0 rfl rfl ?_
  skip
  · refine g_tblIn (q := 76) (off := 75) dX6_told_1 (by decide) (by decide) (by decide) (by decide) ?_
    refine g_aload_n dX6_told_76 rfl rfl ?_
    refine g_get f_X6_19 dX6_told_77 rfl 0 rfl rfl ?_
    refine g_get f_X6_107 dX6_told_80 rfl 1 rfl rfl ?_
    exact g_iret dX6_told_83 rfl (Nat.le_refl _) (Nat.le_refl _) (⟨rfl, rfl⟩)
set_option maxRecDepth 20000 in
theorem c_X6_told3 (sk : Nat → Nat) {h rd pl sp nw im kp tl ro rs ak : Nat} {st : Bool} {fp : Int32} {ps pw pa pr rt rf rn nq tc tf tp F : Nat} {C V E N S ln ai fa fp1 fc sd n : Int32} {pt hm sn : Bool} {s : PSt}  : Ct sk yX6_told cX6_told 2 (some .int) 2 0 0 [oMain h rd pl sp nw im kp tl ro rs ak st fp, oPlan pl ps pw pa pr (nI F) C V E N S, oReader rd rt rf rn ln ai fa fp1 fc pt hm sn, oPoleS nw nq s sd, cI nq 30 (fI s.1), oTale tl tc tf tp n] [.ref h, .int (nI 3)] (zD (some (.int (E))) [oMain h rd pl sp nw im kp tl ro rs ak st fp, oPlan pl ps pw pa pr (nI F) C V E N S, oReader rd rt rf rn ln ai fa fp1 fc pt hm sn, oPoleS nw nq s sd, cI nq 30 (fI s.1), oTale tl tc tf tp n]) := by
  refine Ct.of (own := RX6) (l := [some (.ref h), some (.int (nI 3))]) (by decide) rfl (Nat.le_of_ble_eq_true rfl) rfl ?_
  refine g_iload_n dX6_told_0 rfl rfl ?_
  skip
  · refine g_tblIn (q := 84) (off := 83) dX6_told_1 (by decide) (by decide) (by decide) (by decide) ?_
    refine g_aload_n dX6_told_84 rfl rfl ?_
    refine g_get f_X6_19 dX6_told_85 rfl 0 rfl rfl ?_
    refine g_get f_X6_110 dX6_told_88 rfl 1 rfl rfl ?_
    exact g_iret dX6_told_91 rfl (Nat.le_refl _) (Nat.le_refl _) (⟨rfl, rfl⟩)
set_option maxRecDepth 20000 in
theorem c_X6_told4 (sk : Nat → Nat) {h rd pl sp nw im kp tl ro rs ak : Nat} {st : Bool} {fp : Int32} {ps pw pa pr rt rf rn nq tc tf tp F : Nat} {C V E N S ln ai fa fp1 fc sd n : Int32} {pt hm sn : Bool} {s : PSt}  : Ct sk yX6_told cX6_told 2 (some .int) 2 0 0 [oMain h rd pl sp nw im kp tl ro rs ak st fp, oPlan pl ps pw pa pr (nI F) C V E N S, oReader rd rt rf rn ln ai fa fp1 fc pt hm sn, oPoleS nw nq s sd, cI nq 30 (fI s.1), oTale tl tc tf tp n] [.ref h, .int (nI 4)] (zD (some (.int (N))) [oMain h rd pl sp nw im kp tl ro rs ak st fp, oPlan pl ps pw pa pr (nI F) C V E N S, oReader rd rt rf rn ln ai fa fp1 fc pt hm sn, oPoleS nw nq s sd, cI nq 30 (fI s.1), oTale tl tc tf tp n]) := by
  refine Ct.of (own := RX6) (l := [some (.ref h), some (.int (nI 4))]) (by decide) rfl (Nat.le_of_ble_eq_true rfl) rfl ?_
  refine g_iload_n dX6_told_0 rfl rfl ?_
  skip
  · refine g_tblIn (q := 92) (off := 91) dX6_told_1 (by decide) (by decide) (by decide) (by decide) ?_
    refine g_aload_n dX6_told_92 rfl rfl ?_
    refine g_get f_X6_19 dX6_told_93 rfl 0 rfl rfl ?_
    refine g_get f_X6_113 dX6_told_96 rfl 1 rfl rfl ?_
    exact g_iret dX6_told_99 rfl (Nat.le_refl _) (Nat.le_refl _) (⟨rfl, rfl⟩)
set_option maxRecDepth 20000 in
theorem c_X6_told5 (sk : Nat → Nat) {h rd pl sp nw im kp tl ro rs ak : Nat} {st : Bool} {fp : Int32} {ps pw pa pr rt rf rn nq tc tf tp F : Nat} {C V E N S ln ai fa fp1 fc sd n : Int32} {pt hm sn : Bool} {s : PSt}  : Ct sk yX6_told cX6_told 2 (some .int) 2 0 0 [oMain h rd pl sp nw im kp tl ro rs ak st fp, oPlan pl ps pw pa pr (nI F) C V E N S, oReader rd rt rf rn ln ai fa fp1 fc pt hm sn, oPoleS nw nq s sd, cI nq 30 (fI s.1), oTale tl tc tf tp n] [.ref h, .int (nI 5)] (zD (some (.int (S))) [oMain h rd pl sp nw im kp tl ro rs ak st fp, oPlan pl ps pw pa pr (nI F) C V E N S, oReader rd rt rf rn ln ai fa fp1 fc pt hm sn, oPoleS nw nq s sd, cI nq 30 (fI s.1), oTale tl tc tf tp n]) := by
  refine Ct.of (own := RX6) (l := [some (.ref h), some (.int (nI 5))]) (by decide) rfl (Nat.le_of_ble_eq_true rfl) rfl ?_
  refine g_iload_n dX6_told_0 rfl rfl ?_
  skip
  · refine g_tblIn (q := 100) (off := 99) dX6_told_1 (by decide) (by decide) (by decide) (by decide) ?_
    refine g_aload_n dX6_told_100 rfl rfl ?_
    refine g_get f_X6_19 dX6_told_101 rfl 0 rfl rfl ?_
    refine g_get f_X6_116 dX6_told_104 rfl 1 rfl rfl ?_
    exact g_iret dX6_told_107 rfl (Nat.le_refl _) (Nat.le_refl _) (⟨rfl, rfl⟩)
set_option maxRecDepth 20000 in
theorem c_X6_told6 (sk : Nat → Nat) {h rd pl sp nw im kp tl ro rs ak : Nat} {st : Bool} {fp : Int32} {ps pw pa pr rt rf rn nq tc tf tp F : Nat} {C V E N S ln ai fa fp1 fc sd n : Int32} {pt hm sn : Bool} {s : PSt}  : Ct sk yX6_told cX6_told 2 (some .int) 2 0 0 [oMain h rd pl sp nw im kp tl ro rs ak st fp, oPlan pl ps pw pa pr (nI F) C V E N S, oReader rd rt rf rn ln ai fa fp1 fc pt hm sn, oPoleS nw nq s sd, cI nq 30 (fI s.1), oTale tl tc tf tp n] [.ref h, .int (nI 6)] (zD (some (.int (ln))) [oMain h rd pl sp nw im kp tl ro rs ak st fp, oPlan pl ps pw pa pr (nI F) C V E N S, oReader rd rt rf rn ln ai fa fp1 fc pt hm sn, oPoleS nw nq s sd, cI nq 30 (fI s.1), oTale tl tc tf tp n]) := by
  refine Ct.of (own := RX6) (l := [some (.ref h), some (.int (nI 6))]) (by decide) rfl (Nat.le_of_ble_eq_true rfl) rfl ?_
  refine g_iload_n dX6_told_0 rfl rfl ?_
  skip
  · refine g_tblIn (q := 108) (off := 107) dX6_told_1 (by decide) (by decide) (by decide) (by decide) ?_
    refine g_aload_n dX6_told_108 rfl rfl ?_
    refine g_get f_X6_10 dX6_told_109 rfl 0 rfl rfl ?_
    refine g_get f_X6_119 dX6_told_112 rfl 2 rfl rfl ?_
    exact g_iret dX6_told_115 rfl (Nat.le_refl _) (Nat.le_refl _) (⟨rfl, rfl⟩)
set_option maxRecDepth 20000 in
theorem c_X6_told7 (sk : Nat → Nat) {h rd pl sp nw im kp tl ro rs ak : Nat} {st : Bool} {fp : Int32} {ps pw pa pr rt rf rn nq tc tf tp F : Nat} {C V E N S ln ai fa fp1 fc sd n : Int32} {pt hm sn : Bool} {s : PSt}  : Ct sk yX6_told cX6_told 2 (some .int) 2 0 0 [oMain h rd pl sp nw im kp tl ro rs ak st fp, oPlan pl ps pw pa pr (nI F) C V E N S, oReader rd rt rf rn ln ai fa fp1 fc pt hm sn, oPoleS nw nq s sd, cI nq 30 (fI s.1), oTale tl tc tf tp n] [.ref h, .int (nI 7)] (zD (some (.int (s.2.1))) [oMain h rd pl sp nw im kp tl ro rs ak st fp, oPlan pl ps pw pa pr (nI F) C V E N S, oReader rd rt rf rn ln ai fa fp1 fc pt hm sn, oPoleS nw nq s sd, cI nq 30 (fI s.1), oTale tl tc tf tp n]) := by
  refine Ct.of (own := RX6) (l := [some (.ref h), some (.int (nI 7))]) (by decide) rfl (Nat.le_of_ble_eq_true rfl) rfl ?_
  refine g_iload_n dX6_told_0 rfl rfl ?_
  skip
  · refine g_tblIn (q := 116) (off := 115) dX6_told_1 (by decide) (by decide) (by decide) (by decide) ?_
    refine g_aload_n dX6_told_116 rfl rfl ?_
    refine g_get f_X6_29 dX6_told_117 rfl 0 rfl rfl ?_
    refine g_get f_X6_122 dX6_told_120 rfl 3 rfl rfl ?_
    exact g_iret dX6_told_123 rfl (Nat.le_refl _) (Nat.le_refl _) (⟨rfl, rfl⟩)
set_option maxRecDepth 20000 in
theorem c_X6_told8 (sk : Nat → Nat) {h rd pl sp nw im kp tl ro rs ak : Nat} {st : Bool} {fp : Int32} {ps pw pa pr rt rf rn nq tc tf tp F : Nat} {C V E N S ln ai fa fp1 fc sd n : Int32} {pt hm sn : Bool} {s : PSt}  : Ct sk yX6_told cX6_told 2 (some .int) 2 0 0 [oMain h rd pl sp nw im kp tl ro rs ak st fp, oPlan pl ps pw pa pr (nI F) C V E N S, oReader rd rt rf rn ln ai fa fp1 fc pt hm sn, oPoleS nw nq s sd, cI nq 30 (fI s.1), oTale tl tc tf tp n] [.ref h, .int (nI 8)] (zD (some (.int (s.2.2))) [oMain h rd pl sp nw im kp tl ro rs ak st fp, oPlan pl ps pw pa pr (nI F) C V E N S, oReader rd rt rf rn ln ai fa fp1 fc pt hm sn, oPoleS nw nq s sd, cI nq 30 (fI s.1), oTale tl tc tf tp n]) := by
  refine Ct.of (own := RX6) (l := [some (.ref h), some (.int (nI 8))]) (by decide) rfl (Nat.le_of_ble_eq_true rfl) rfl ?_
  refine g_iload_n dX6_told_0 rfl rfl ?_
  skip
  · refine g_tblIn (q := 124) (off := 123) dX6_told_1 (by decide) (by decide) (by decide) (by decide) ?_
    refine g_aload_n dX6_told_124 rfl rfl ?_
    refine g_get f_X6_29 dX6_told_125 rfl 0 rfl rfl ?_
    refine g_get f_X6_125 dX6_told_128 rfl 3 rfl rfl ?_
    exact g_iret dX6_told_131 rfl (Nat.le_refl _) (Nat.le_refl _) (⟨rfl, rfl⟩)
set_option maxRecDepth 20000 in
theorem c_X6_told9 (sk : Nat → Nat) {h rd pl sp nw im kp tl ro rs ak : Nat} {st : Bool} {fp : Int32} {ps pw pa pr rt rf rn nq tc tf tp F : Nat} {C V E N S ln ai fa fp1 fc sd n : Int32} {pt hm sn : Bool} {s : PSt}  : Ct sk yX6_told cX6_told 2 (some .int) 2 0 0 [oMain h rd pl sp nw im kp tl ro rs ak st fp, oPlan pl ps pw pa pr (nI F) C V E N S, oReader rd rt rf rn ln ai fa fp1 fc pt hm sn, oPoleS nw nq s sd, cI nq 30 (fI s.1), oTale tl tc tf tp n] [.ref h, .int (nI 9)] (zD (some (.int (n))) [oMain h rd pl sp nw im kp tl ro rs ak st fp, oPlan pl ps pw pa pr (nI F) C V E N S, oReader rd rt rf rn ln ai fa fp1 fc pt hm sn, oPoleS nw nq s sd, cI nq 30 (fI s.1), oTale tl tc tf tp n]) := by
  refine Ct.of (own := RX6) (l := [some (.ref h), some (.int (nI 9))]) (by decide) rfl (Nat.le_of_ble_eq_true rfl) rfl ?_
  refine g_iload_n dX6_told_0 rfl rfl ?_
  skip
  · refine g_tblIn (q := 132) (off := 131) dX6_told_1 (by decide) (by decide) (by decide) (by decide) ?_
    refine g_aload_n dX6_told_132 rfl rfl ?_
    refine g_get f_X6_44 dX6_told_133 rfl 0 rfl rfl ?_
    refine g_get f_X6_128 dX6_told_136 rfl 5 rfl rfl ?_
    exact g_iret dX6_told_139 rfl (Nat.le_refl _) (Nat.le_refl _) (⟨rfl, rfl⟩)
set_option maxRecDepth 20000 in
theorem c_X6_told10 (sk : Nat → Nat) {h rd pl sp nw im kp tl ro rs ak : Nat} {st : Bool} {fp : Int32} {ps pw pa pr rt rf rn nq tc tf tp F : Nat} {C V E N S ln ai fa fp1 fc sd n : Int32} {pt hm sn : Bool} {s : PSt} (hF : F ≤ 30) : Ct sk yX6_told cX6_told 2 (some .int) 2 0 0 [oMain h rd pl sp nw im kp tl ro rs ak st fp, oPlan pl ps pw pa pr (nI F) C V E N S, oReader rd rt rf rn ln ai fa fp1 fc pt hm sn, oPoleS nw nq s sd, cI nq 30 (fI s.1), oTale tl tc tf tp n] [.ref h, .int (nI 10)] (zD (some (.int (nI (sumR s.1 F 0)))) [oMain h rd pl sp nw im kp tl ro rs ak st fp, oPlan pl ps pw pa pr (nI F) C V E N S, oReader rd rt rf rn ln ai fa fp1 fc pt hm sn, oPoleS nw nq s sd, cI nq 30 (fI s.1), oTale tl tc tf tp n]) := by
  refine Ct.of (own := RX6) (l := [some (.ref h), some (.int (nI 10))]) (by decide) rfl (Nat.le_of_ble_eq_true rfl) rfl ?_
  refine g_iload_n dX6_told_0 rfl rfl ?_
  skip
  · refine g_tblIn (q := 140) (off := 139) dX6_told_1 (by decide) (by decide) (by decide) (by decide) ?_
    refine g_aload_n dX6_told_140 rfl rfl ?_
    refine g_get f_X6_29 dX6_told_141 rfl 0 rfl rfl ?_
    refine g_iconst (v := nI 0) dX6_told_144 rfl (by decide) ?_
    refine g_aload_n dX6_told_145 rfl rfl ?_
    refine g_get f_X6_19 dX6_told_146 rfl 0 rfl rfl ?_
    refine g_get f_X6_101 dX6_told_149 rfl 1 rfl rfl ?_
    refine g_iconst (v := nI 1) dX6_told_152 rfl (by decide) ?_
    refine g_isub dX6_told_153 rfl rfl ?_
    refine g_callV (c_X1_slipTogether sk (a := 0) (e := F) (Nat.zero_le _) hF) m_X6_131 a_X1_slipTogether dX6_told_154 rfl [3, 4] rfl rfl 0 rfl rfl rfl (by decide) (by decide) (by decide) (by decide) (Nat.le_of_ble_eq_true rfl) (fun r w hK => ?_)
    obtain ⟨rfl, rfl⟩ := hK
    refine ⟨rfl, ?_⟩
    dsimp only [puts, List.set, Option.toList, List.cons_append, List.nil_append, List.append_nil]
    exact g_iret dX6_told_157 rfl (Nat.le_refl _) (Nat.le_refl _) (⟨rfl, rfl⟩)
set_option maxRecDepth 20000 in
theorem c_X6_toldN (sk : Nat → Nat) {h rd pl sp nw im kp tl ro rs ak : Nat} {st : Bool} {fp : Int32} {ps pw pa pr rt rf rn nq tc tf tp F : Nat} {C V E N S ln ai fa fp1 fc sd n : Int32} {pt hm sn : Bool} {s : PSt} {x : Int32} (hx : x.toInt < 0 ∨ 10 < x.toInt) : Ct sk yX6_told cX6_told 2 (some .int) 2 0 0 [oMain h rd pl sp nw im kp tl ro rs ak st fp, oPlan pl ps pw pa pr (nI F) C V E N S, oReader rd rt rf rn ln ai fa fp1 fc pt hm sn, oPoleS nw nq s sd, cI nq 30 (fI s.1), oTale tl tc tf tp n] [.ref h, .int x] (zD (some (.int (-1000000002))) [oMain h rd pl sp nw im kp tl ro rs ak st fp, oPlan pl ps pw pa pr (nI F) C V E N S, oReader rd rt rf rn ln ai fa fp1 fc pt hm sn, oPoleS nw nq s sd, cI nq 30 (fI s.1), oTale tl tc tf tp n]) := by
  refine Ct.of (own := RX6) (l := [some (.ref h), some (.int x)]) (by decide) rfl (Nat.le_of_ble_eq_true rfl) rfl ?_
  refine g_iload_n dX6_told_0 rfl rfl ?_
  skip
  · refine g_tblOut (q := 158) dX6_told_1 hx (by decide) ?_
    refine g_ldc dX6_told_158 rfl k_X6_73 ?_
    exact g_iret dX6_told_160 rfl (Nat.le_refl _) (Nat.le_refl _) (⟨rfl, rfl⟩)
set_option maxRecDepth 20000 in
theorem c_X6_towerF (sk : Nat → Nat) {h rd pl sp nw im kp tl ro rs ak : Nat} {st : Bool} {fp : Int32} {nq ps pw pa pr F C N S : Nat} {sd V E : Int32} {s : PSt} {w a r : Nat → Nat} {x y : Int32} (hx : inR x C = false ∨ inR y C = false ∨ x = y) : Ct sk yX6_tower cX6_tower 4 (some .int) 2 0 0 [oMain h rd pl sp nw im kp tl ro rs ak st fp, oPoleS nw nq s sd, cI nq 30 (fI s.1), oPlan pl ps pw pa pr (nI F) (nI C) V E (nI N) (nI S), cI pw 6 (fI w), cI pa 6 (fI a), cI pr 6 (fI r)] [.ref h, .int x, .int y] (zD (some (.int (-1000000001))) [oMain h rd pl sp nw im kp tl ro rs ak st fp, oPoleS nw nq s sd, cI nq 30 (fI s.1), oPlan pl ps pw pa pr (nI F) (nI C) V E (nI N) (nI S), cI pw 6 (fI w), cI pa 6 (fI a), cI pr 6 (fI r)]) := by
  refine Ct.of (own := RX6) (l := [some (.ref h), some (.int x), some (.int y), none]) (by decide) rfl (Nat.le_of_ble_eq_true rfl) rfl ?_
  refine g_aload_n dX6_tower_0 rfl rfl ?_
  refine g_get f_X6_19 dX6_tower_1 rfl 0 rfl rfl ?_
  refine g_iload_n dX6_tower_4 rfl rfl ?_
  refine g_callV (c_X0_hasClimber sk) m_X6_144 a_X0_hasClimber dX6_tower_5 rfl [3] rfl rfl 0 rfl rfl rfl (by decide) (by decide) (by decide) (by decide) (Nat.le_of_ble_eq_true rfl) (fun r w hK => ?_)
  obtain ⟨rfl, rfl⟩ := hK
  refine ⟨rfl, ?_⟩
  dsimp only [puts, List.set, Option.toList, List.cons_append, List.nil_append, List.append_nil]
  refine g_if_eqB (t := 27) dX6_tower_8 (by decide) rfl (fun h8 => ?_) (fun h8 => ?_)
  · skip
    refine g_ldc dX6_tower_27 rfl k_X6_143 ?_
    exact g_iret dX6_tower_29 rfl (Nat.le_refl _) (Nat.le_refl _) (⟨rfl, rfl⟩)
  · skip
    refine g_aload_n dX6_tower_11 rfl rfl ?_
    refine g_get f_X6_19 dX6_tower_12 rfl 0 rfl rfl ?_
    refine g_iload_n dX6_tower_15 rfl rfl ?_
    refine g_callV (c_X0_hasClimber sk) m_X6_144 a_X0_hasClimber dX6_tower_16 rfl [3] rfl rfl 0 rfl rfl rfl (by decide) (by decide) (by decide) (by decide) (Nat.le_of_ble_eq_true rfl) (fun r w hK => ?_)
    obtain ⟨rfl, rfl⟩ := hK
    refine ⟨rfl, ?_⟩
    dsimp only [puts, List.set, Option.toList, List.cons_append, List.nil_append, List.append_nil]
    refine g_if_eqB (t := 27) dX6_tower_19 (by decide) rfl (fun h19 => ?_) (fun h19 => ?_)
    · skip
      refine g_ldc dX6_tower_27 rfl k_X6_143 ?_
      exact g_iret dX6_tower_29 rfl (Nat.le_refl _) (Nat.le_refl _) (⟨rfl, rfl⟩)
    · skip
      refine g_iload_n dX6_tower_22 rfl rfl ?_
      refine g_iload_n dX6_tower_23 rfl rfl ?_
      refine g_icmp_ne (t := 30) dX6_tower_24 (by decide) rfl (fun h24 => ?_) (fun h24 => ?_)
      · exact absurd hx (by rw [h8, h19, not_or, not_or]; exact ⟨by decide, by decide, h24⟩)
      · skip
        refine g_ldc dX6_tower_27 rfl k_X6_143 ?_
        exact g_iret dX6_tower_29 rfl (Nat.le_refl _) (Nat.le_refl _) (⟨rfl, rfl⟩)
def towA (F : Nat) (w a : Nat → Nat) (s : PSt) (c e : Nat) : Int32 := if a c < 2 * w e then -1 else nI (farR (w e) false s.1 (F - (if 5 < F then 5 else 0)) (if 5 < F then 5 else 0) (a e))
set_option maxRecDepth 20000 in
theorem c_X6_tower (sk : Nat → Nat) {h rd pl sp nw im kp tl ro rs ak : Nat} {st : Bool} {fp : Int32} {nq ps pw pa pr F C N S : Nat} {sd V E : Int32} {s : PSt} {w a r : Nat → Nat} {c e : Nat} (hB : PB F C N S w a r) (hs0 : SB s.1) (hc : c < C) (he : e < C) (hce : ¬ c = e) : Ct sk yX6_tower cX6_tower 4 (some .int) 2 0 0 [oMain h rd pl sp nw im kp tl ro rs ak st fp, oPoleS nw nq s sd, cI nq 30 (fI s.1), oPlan pl ps pw pa pr (nI F) (nI C) V E (nI N) (nI S), cI pw 6 (fI w), cI pa 6 (fI a), cI pr 6 (fI r)] [.ref h, .int (nI c), .int (nI e)] (zD (some (.int (towA F w a s c e))) [oMain h rd pl sp nw im kp tl ro rs ak st fp, oPoleS nw nq s sd, cI nq 30 (fI s.1), oPlan pl ps pw pa pr (nI F) (nI C) V E (nI N) (nI S), cI pw 6 (fI w), cI pa 6 (fI a), cI pr 6 (fI r)]) := by
  have hC6 := hB.2.1
  have hF30 := hB.1
  have hF1 := hB.2.2.1 (by omega)
  have hc6 : c < 6 := by omega
  have he6 : e < 6 := by omega
  have hPc := hB.2.2.2.2.2.2 c hc
  have hPe := hB.2.2.2.2.2.2 e he
  refine Ct.of (own := RX6) (l := [some (.ref h), some (.int (nI c)), some (.int (nI e)), none]) (by decide) rfl (Nat.le_of_ble_eq_true rfl) rfl ?_
  refine g_aload_n dX6_tower_0 rfl rfl ?_
  refine g_get f_X6_19 dX6_tower_1 rfl 0 rfl rfl ?_
  refine g_iload_n dX6_tower_4 rfl rfl ?_
  refine g_callV (c_X0_hasClimber sk) m_X6_144 a_X0_hasClimber dX6_tower_5 rfl [3] rfl rfl 0 rfl rfl rfl (by decide) (by decide) (by decide) (by decide) (Nat.le_of_ble_eq_true rfl) (fun r w hK => ?_)
  obtain ⟨rfl, rfl⟩ := hK
  refine ⟨rfl, ?_⟩
  dsimp only [puts, List.set, Option.toList, List.cons_append, List.nil_append, List.append_nil]
  refine g_if_eqB (t := 27) dX6_tower_8 (by decide) rfl (fun h8 => ?_) (fun h8 => ?_)
  · exact absurd (inR_N hc (by omega)) (by rw [h8]; decide)
  · skip
    refine g_aload_n dX6_tower_11 rfl rfl ?_
    refine g_get f_X6_19 dX6_tower_12 rfl 0 rfl rfl ?_
    refine g_iload_n dX6_tower_15 rfl rfl ?_
    refine g_callV (c_X0_hasClimber sk) m_X6_144 a_X0_hasClimber dX6_tower_16 rfl [3] rfl rfl 0 rfl rfl rfl (by decide) (by decide) (by decide) (by decide) (Nat.le_of_ble_eq_true rfl) (fun r w hK => ?_)
    obtain ⟨rfl, rfl⟩ := hK
    refine ⟨rfl, ?_⟩
    dsimp only [puts, List.set, Option.toList, List.cons_append, List.nil_append, List.append_nil]
    refine g_if_eqB (t := 27) dX6_tower_19 (by decide) rfl (fun h19 => ?_) (fun h19 => ?_)
    · exact absurd (inR_N he (by omega)) (by rw [h19]; decide)
    · skip
      refine g_iload_n dX6_tower_22 rfl rfl ?_
      refine g_iload_n dX6_tower_23 rfl rfl ?_
      refine g_icmp_neN (t := 30) dX6_tower_24 (by decide) rfl (by omega) (by omega) (fun h24 => ?_) (fun h24 => ?_)
      · skip
        refine g_aload_n dX6_tower_30 rfl rfl ?_
        refine g_get f_X6_19 dX6_tower_31 rfl 0 rfl rfl ?_
        refine g_get f_X6_101 dX6_tower_34 rfl 3 rfl rfl ?_
        refine g_if_ne (t := 43) dX6_tower_37 (by decide) rfl (fun h37 => ?_) (fun h37 => ?_)
        · skip
          refine g_aload_n dX6_tower_43 rfl rfl ?_
          refine g_get f_X6_19 dX6_tower_44 rfl 0 rfl rfl ?_
          refine g_iload_n dX6_tower_47 rfl rfl ?_
          refine g_callV (c_X0_armsOf sk hc6) m_X6_150 a_X0_armsOf dX6_tower_48 rfl [3, 5] rfl rfl 0 rfl rfl rfl (by decide) (by decide) (by decide) (by decide) (Nat.le_of_ble_eq_true rfl) (fun r w hK => ?_)
          obtain ⟨rfl, rfl⟩ := hK
          refine ⟨rfl, ?_⟩
          dsimp only [puts, List.set, Option.toList, List.cons_append, List.nil_append, List.append_nil]
          refine g_iconst (v := nI 2) dX6_tower_51 rfl (by decide) ?_
          refine g_aload_n dX6_tower_52 rfl rfl ?_
          refine g_get f_X6_19 dX6_tower_53 rfl 0 rfl rfl ?_
          refine g_iload_n dX6_tower_56 rfl rfl ?_
          refine g_callV (c_X0_weightOf sk he6) m_X6_147 a_X0_weightOf dX6_tower_57 rfl [3, 4] rfl rfl 0 rfl rfl rfl (by decide) (by decide) (by decide) (by decide) (Nat.le_of_ble_eq_true rfl) (fun r w hK => ?_)
          obtain ⟨rfl, rfl⟩ := hK
          refine ⟨rfl, ?_⟩
          dsimp only [puts, List.set, Option.toList, List.cons_append, List.nil_append, List.append_nil]
          refine g_imul dX6_tower_60 rfl (pk_mul _ _) ?_
          refine g_icmp_geN (t := 66) dX6_tower_61 (by decide) rfl (by omega) (by omega) (fun h61 => ?_) (fun h61 => ?_)
          · rw [towA, if_neg (by omega)]
            refine g_aload_n dX6_tower_66 rfl rfl ?_
            refine g_get f_X6_19 dX6_tower_67 rfl 0 rfl rfl ?_
            refine g_get f_X6_101 dX6_tower_70 rfl 3 rfl rfl ?_
            refine g_iconst (v := nI 5) dX6_tower_73 rfl (by decide) ?_
            refine g_icmp_leN (t := 81) dX6_tower_74 (by decide) rfl (by omega) (by omega) (fun h74 => ?_) (fun h74 => ?_)
            · rw [if_neg (by omega)]
              refine g_iconst (v := nI 0) dX6_tower_81 rfl (by decide) ?_
              refine g_istore_n dX6_tower_82 rfl (by decide) rfl rfl ?_
              refine g_aload_n dX6_tower_83 rfl rfl ?_
              refine g_get f_X6_29 dX6_tower_84 rfl 0 rfl rfl ?_
              refine g_aload_n dX6_tower_87 rfl rfl ?_
              refine g_get f_X6_19 dX6_tower_88 rfl 0 rfl rfl ?_
              refine g_iload_n dX6_tower_91 rfl rfl ?_
              refine g_iload_n dX6_tower_92 rfl rfl ?_
              refine g_iconst (v := nI 0) dX6_tower_93 rfl (by decide) ?_
              refine g_callV (c_X1_reach sk (sand := false) hB.1 he6 hs0 hPe.1 hPe.2.1 (by omega)) m_X6_156 a_X1_reach dX6_tower_94 rfl [1, 2, 3, 4, 5] rfl rfl 0 rfl rfl rfl (by decide) (by decide) (by decide) (by decide) (Nat.le_of_ble_eq_true rfl) (fun r w hK => ?_)
              obtain ⟨rfl, rfl⟩ := hK
              refine ⟨rfl, ?_⟩
              dsimp only [puts, List.set, Option.toList, List.cons_append, List.nil_append, List.append_nil]
              exact g_iret dX6_tower_97 rfl (Nat.le_refl _) (Nat.le_refl _) (⟨rfl, rfl⟩)
            · rw [if_pos (by omega)]
              refine g_iconst (v := nI 5) dX6_tower_77 rfl (by decide) ?_
              refine g_goto (q := 82) dX6_tower_78 (by decide) ?_
              refine g_istore_n dX6_tower_82 rfl (by decide) rfl rfl ?_
              refine g_aload_n dX6_tower_83 rfl rfl ?_
              refine g_get f_X6_29 dX6_tower_84 rfl 0 rfl rfl ?_
              refine g_aload_n dX6_tower_87 rfl rfl ?_
              refine g_get f_X6_19 dX6_tower_88 rfl 0 rfl rfl ?_
              refine g_iload_n dX6_tower_91 rfl rfl ?_
              refine g_iload_n dX6_tower_92 rfl rfl ?_
              refine g_iconst (v := nI 0) dX6_tower_93 rfl (by decide) ?_
              refine g_callV (c_X1_reach sk (sand := false) hB.1 he6 hs0 hPe.1 hPe.2.1 (by omega)) m_X6_156 a_X1_reach dX6_tower_94 rfl [1, 2, 3, 4, 5] rfl rfl 0 rfl rfl rfl (by decide) (by decide) (by decide) (by decide) (Nat.le_of_ble_eq_true rfl) (fun r w hK => ?_)
              obtain ⟨rfl, rfl⟩ := hK
              refine ⟨rfl, ?_⟩
              dsimp only [puts, List.set, Option.toList, List.cons_append, List.nil_append, List.append_nil]
              exact g_iret dX6_tower_97 rfl (Nat.le_refl _) (Nat.le_refl _) (⟨rfl, rfl⟩)
          · rw [towA, if_pos h61]
            refine g_iconst (v := -1) dX6_tower_64 rfl (by decide) ?_
            exact g_iret dX6_tower_65 rfl (Nat.le_refl _) (Nat.le_refl _) (⟨rfl, rfl⟩)
        · exact absurd h37 (nI_ne0 (by omega) (by omega))
      · exact absurd h24 hce
