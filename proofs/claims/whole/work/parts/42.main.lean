/-! SoapPole: the calls -/
theorem inR_f1 {x : Int32} {n : Nat} (h : x < 0) : inR x n = false := by
  unfold inR
  rw [decide_eq_false (fun z => z h)]
  rfl
theorem inR_f2 {x : Int32} {n : Nat} (h : nI n ≤ x) : inR x n = false := by
  unfold inR
  rw [decide_eq_false (p := x < nI n) (by rw [Int32.not_lt]; exact h), Bool.and_false]
theorem inR_t2 {x : Int32} {n : Nat} (h : ¬ x < 0) (h2 : ¬ nI n ≤ x) : inR x n = true := by
  unfold inR
  rw [decide_eq_true h, decide_eq_true (p := x < nI n) (by rw [← Int32.not_le]; exact h2)]
  rfl
set_option maxRecDepth 20000 in
theorem c_X6_fault (sk : Nat → Nat) {h rd pl sp nw im kp tl ro rs ak : Nat} {st : Bool} {fp : Int32}  : Ct sk yX6_fault cX6_fault 1 (some .int) 0 0 0 [oMain h rd pl sp nw im kp tl ro rs ak st fp] [.ref h] (zD (some (.int fp)) [oMain h rd pl sp nw im kp tl ro rs ak st fp]) := by
  refine Ct.of (own := RX6) (l := [some (.ref h)]) (by decide) rfl (Nat.le_of_ble_eq_true rfl) rfl ?_
  refine g_aload_n dX6_fault_0 rfl rfl ?_
  refine g_get f_X6_69 dX6_fault_1 rfl 0 rfl rfl ?_
  exact g_iret dX6_fault_4 rfl (Nat.le_refl _) (Nat.le_refl _) (⟨rfl, rfl⟩)
def seedA (x sd : Int32) : Int32 × Int32 := if x < 0 then (-1000000002, sd) else (sd, x)
set_option maxRecDepth 20000 in
theorem c_X6_seed (sk : Nat → Nat) {h rd pl sp nw im kp tl ro rs ak : Nat} {st : Bool} {fp : Int32} {nq : Nat} {s : PSt} {sd x : Int32} {Z : Int32 × Int32} (hZ : seedA x sd = Z) : Ct sk yX6_seed cX6_seed 3 (some .int) 0 0 0 [oMain h rd pl sp nw im kp tl ro rs ak st fp, oPoleS nw nq s sd] [.ref h, .int x] (zD (some (.int Z.1)) [oMain h rd pl sp nw im kp tl ro rs ak st fp, oPoleS nw nq s Z.2]) := by
  refine Ct.of (own := RX6) (l := [some (.ref h), some (.int x), none]) (by decide) rfl (Nat.le_of_ble_eq_true rfl) rfl ?_
  refine g_iload_n dX6_seed_0 rfl rfl ?_
  refine g_if_ge (t := 7) dX6_seed_1 (by decide) rfl (fun h1 => ?_) (fun h1 => ?_)
  · rw [seedA, if_neg (by rw [Int32.not_lt]; exact h1)] at hZ
    subst hZ
    refine g_aload_n dX6_seed_7 rfl rfl ?_
    refine g_get f_X6_29 dX6_seed_8 rfl 0 rfl rfl ?_
    refine g_get f_X6_205 dX6_seed_11 rfl 1 rfl rfl ?_
    refine g_istore_n dX6_seed_14 rfl (by decide) rfl rfl ?_
    refine g_aload_n dX6_seed_15 rfl rfl ?_
    refine g_get f_X6_29 dX6_seed_16 rfl 0 rfl rfl ?_
    refine g_iload_n dX6_seed_19 rfl rfl ?_
    refine g_putI f_X6_205 dX6_seed_20 rfl 1 rfl (Nat.le_of_ble_eq_true rfl) rfl ?_
    dsimp only [List.set]
    refine g_iload_n dX6_seed_23 rfl rfl ?_
    exact g_iret dX6_seed_24 rfl (Nat.le_refl _) (Nat.le_refl _) (⟨rfl, rfl⟩)
  · rw [seedA, if_pos (by rw [← Int32.not_le]; exact h1)] at hZ
    subst hZ
    refine g_ldc dX6_seed_4 rfl k_X6_73 ?_
    exact g_iret dX6_seed_6 rfl (Nat.le_refl _) (Nat.le_refl _) (⟨rfl, rfl⟩)
set_option maxRecDepth 20000 in
theorem c_X6_hang (sk : Nat → Nat) {h rd pl sp nw im kp tl ro rs ak : Nat} {st : Bool} {fp : Int32} {nq : Nat} {g h0 sd : Int32}  : Ct sk yX6_hang cX6_hang 2 (some .int) 0 0 0 [oMain h rd pl sp nw im kp tl ro rs ak st fp, oPole nw nq g h0 sd] [.ref h] (zD (some (.int h0)) [oMain h rd pl sp nw im kp tl ro rs ak st fp, oPole nw nq g (-1) sd]) := by
  refine Ct.of (own := RX6) (l := [some (.ref h), none]) (by decide) rfl (Nat.le_of_ble_eq_true rfl) rfl ?_
  refine g_aload_n dX6_hang_0 rfl rfl ?_
  refine g_get f_X6_29 dX6_hang_1 rfl 0 rfl rfl ?_
  refine g_get f_X6_125 dX6_hang_4 rfl 1 rfl rfl ?_
  refine g_istore_n dX6_hang_7 rfl (by decide) rfl rfl ?_
  refine g_aload_n dX6_hang_8 rfl rfl ?_
  refine g_get f_X6_29 dX6_hang_9 rfl 0 rfl rfl ?_
  refine g_iconst (v := -1) dX6_hang_12 rfl (by decide) ?_
  refine g_putI f_X6_125 dX6_hang_13 rfl 1 rfl (Nat.le_of_ble_eq_true rfl) rfl ?_
  dsimp only [List.set]
  refine g_iload_n dX6_hang_16 rfl rfl ?_
  exact g_iret dX6_hang_17 rfl (Nat.le_refl _) (Nat.le_refl _) (⟨rfl, rfl⟩)
set_option maxRecDepth 20000 in
theorem c_X6_tear (sk : Nat → Nat) {h rd pl sp nw im kp tl ro rs ak : Nat} {st : Bool} {fp : Int32} {tc tf tp : Nat} {n : Int32}  : Ct sk yX6_tear cX6_tear 2 (some .int) 1 0 0 [oMain h rd pl sp nw im kp tl ro rs ak st fp, oTale tl tc tf tp n] [.ref h] (zD (some (.int n)) [oMain h rd pl sp nw im kp tl ro rs ak st fp, oTale tl tc tf tp (nI 0)]) := by
  refine Ct.of (own := RX6) (l := [some (.ref h), none]) (by decide) rfl (Nat.le_of_ble_eq_true rfl) rfl ?_
  refine g_aload_n dX6_tear_0 rfl rfl ?_
  refine g_get f_X6_44 dX6_tear_1 rfl 0 rfl rfl ?_
  refine g_get f_X6_128 dX6_tear_4 rfl 1 rfl rfl ?_
  refine g_istore_n dX6_tear_7 rfl (by decide) rfl rfl ?_
  refine g_aload_n dX6_tear_8 rfl rfl ?_
  refine g_get f_X6_44 dX6_tear_9 rfl 0 rfl rfl ?_
  refine g_callV (c_X5_empty sk) m_X6_100 a_X5_empty dX6_tear_12 rfl [1] rfl rfl 0 rfl rfl rfl (by decide) (by decide) (by decide) (by decide) (Nat.le_of_ble_eq_true rfl) (fun r w hK => ?_)
  obtain ⟨rfl, rfl⟩ := hK
  refine ⟨rfl, ?_⟩
  dsimp only [puts, List.set, Option.toList, List.cons_append, List.nil_append, List.append_nil]
  refine g_iload_n dX6_tear_15 rfl rfl ?_
  exact g_iret dX6_tear_16 rfl (Nat.le_refl _) (Nat.le_refl _) (⟨rfl, rfl⟩)
set_option maxRecDepth 20000 in
theorem c_X6_begin (sk : Nat → Nat) {h rd pl sp nw im kp tl ro rs ak : Nat} {st : Bool} {fp : Int32} {nq ps pw pa pr : Nat} {g h0 sd F C V E N S : Int32} {f f2 : Nat → Int32}  : Ct sk yX6_begin cX6_begin 2 (some .int) 4 0 0 [oMain h rd pl sp nw im kp tl ro rs ak st fp, oPole nw nq g h0 sd, cI nq 30 f, oPlan pl ps pw pa pr F C V E N S, cI ps 30 f2] [.ref h] (zD (some (.int g)) [oMain h rd pl sp nw im kp tl ro rs ak st fp, oPole nw nq (nI 0) (-1) sd, cI nq 30 f2, oPlan pl ps pw pa pr F C V E N S, cI ps 30 f2]) := by
  refine Ct.of (own := RX6) (l := [some (.ref h), none]) (by decide) rfl (Nat.le_of_ble_eq_true rfl) rfl ?_
  refine g_aload_n dX6_begin_0 rfl rfl ?_
  refine g_get f_X6_29 dX6_begin_1 rfl 0 rfl rfl ?_
  refine g_get f_X6_122 dX6_begin_4 rfl 1 rfl rfl ?_
  refine g_istore_n dX6_begin_7 rfl (by decide) rfl rfl ?_
  refine g_aload_n dX6_begin_8 rfl rfl ?_
  refine g_get f_X6_29 dX6_begin_9 rfl 0 rfl rfl ?_
  refine g_aload_n dX6_begin_12 rfl rfl ?_
  refine g_get f_X6_19 dX6_begin_13 rfl 0 rfl rfl ?_
  refine g_callV (c_X1_becomeAsTold sk) m_X6_97 a_X1_becomeAsTold dX6_begin_16 rfl [1, 2, 3, 4] rfl rfl 0 rfl rfl rfl (by decide) (by decide) (by decide) (by decide) (Nat.le_of_ble_eq_true rfl) (fun r w hK => ?_)
  obtain ⟨rfl, rfl⟩ := hK
  refine ⟨rfl, ?_⟩
  dsimp only [puts, List.set, Option.toList, List.cons_append, List.nil_append, List.append_nil]
  refine g_iload_n dX6_begin_19 rfl rfl ?_
  exact g_iret dX6_begin_20 rfl (Nat.le_refl _) (Nat.le_refl _) (⟨rfl, rfl⟩)
def slipA (F : Nat) (s : PSt) (x : Int32) : Int32 := if inR x F = true then nI (s.1 x.toNatClampNeg) else -1000000001
set_option maxRecDepth 20000 in
theorem c_X6_slip (sk : Nat → Nat) {h rd pl sp nw im kp tl ro rs ak : Nat} {st : Bool} {fp : Int32} {nq ps pw pa pr F : Nat} {sd x C V E N S : Int32} {s : PSt} (hF : F ≤ 30) : Ct sk yX6_slip cX6_slip 2 (some .int) 1 0 0 [oMain h rd pl sp nw im kp tl ro rs ak st fp, oPoleS nw nq s sd, cI nq 30 (fI s.1), oPlan pl ps pw pa pr (nI F) C V E N S] [.ref h, .int x] (zD (some (.int (slipA F s x))) [oMain h rd pl sp nw im kp tl ro rs ak st fp, oPoleS nw nq s sd, cI nq 30 (fI s.1), oPlan pl ps pw pa pr (nI F) C V E N S]) := by
  refine Ct.of (own := RX6) (l := [some (.ref h), some (.int x)]) (by decide) rfl (Nat.le_of_ble_eq_true rfl) rfl ?_
  refine g_aload_n dX6_slip_0 rfl rfl ?_
  refine g_get f_X6_19 dX6_slip_1 rfl 0 rfl rfl ?_
  refine g_iload_n dX6_slip_4 rfl rfl ?_
  refine g_callV (c_X0_hasFoot sk) m_X6_135 a_X0_hasFoot dX6_slip_5 rfl [3] rfl rfl 0 rfl rfl rfl (by decide) (by decide) (by decide) (by decide) (Nat.le_of_ble_eq_true rfl) (fun r w hK => ?_)
  obtain ⟨rfl, rfl⟩ := hK
  refine ⟨rfl, ?_⟩
  dsimp only [puts, List.set, Option.toList, List.cons_append, List.nil_append, List.append_nil]
  refine g_if_eqB (t := 22) dX6_slip_8 (by decide) rfl (fun h8 => ?_) (fun h8 => ?_)
  · rw [slipA, if_neg (by rw [h8]; decide)]
    refine g_ldc dX6_slip_22 rfl k_X6_143 ?_
    exact g_iret dX6_slip_24 rfl (Nat.le_refl _) (Nat.le_refl _) (⟨rfl, rfl⟩)
  · obtain ⟨c, hc, rfl⟩ := inR_t (by omega) h8
    rw [slipA, if_pos h8, nI_clamp (by omega)]
    refine g_aload_n dX6_slip_11 rfl rfl ?_
    refine g_get f_X6_29 dX6_slip_12 rfl 0 rfl rfl ?_
    refine g_iload_n dX6_slip_15 rfl rfl ?_
    refine g_callV (c_X1_slipOn sk (show c < 30 by omega)) m_X6_139 a_X1_slipOn dX6_slip_16 rfl [1, 2] rfl rfl 0 rfl rfl rfl (by decide) (by decide) (by decide) (by decide) (Nat.le_of_ble_eq_true rfl) (fun r w hK => ?_)
    obtain ⟨rfl, rfl⟩ := hK
    refine ⟨rfl, ?_⟩
    dsimp only [puts, List.set, Option.toList, List.cons_append, List.nil_append, List.append_nil]
    refine g_goto (q := 24) dX6_slip_19 (by decide) ?_
    exact g_iret dX6_slip_24 rfl (Nat.le_refl _) (Nat.le_refl _) (⟨rfl, rfl⟩)
set_option maxRecDepth 20000 in
theorem c_X6_isImage (sk : Nat → Nat) {h rd pl sp nw im kp tl ro rs ak : Nat} {st : Bool} {fp : Int32} {x : Int32} {fi : Nat → Option Nat} {fk : Nat → Int32}  : Ct sk yX6_isImage cX6_isImage 2 (some .boolean) 0 0 0 [oMain h rd pl sp nw im kp tl ro rs ak st fp, cP im 2 fi, cZ kp 2 fk] [.ref h, .int x] (zD (some (.int (zb (inR x 2)))) [oMain h rd pl sp nw im kp tl ro rs ak st fp, cP im 2 fi, cZ kp 2 fk]) := by
  refine Ct.of (own := RX6) (l := [some (.ref h), some (.int x)]) (by decide) rfl (Nat.le_of_ble_eq_true rfl) rfl ?_
  refine g_iload_n dX6_isImage_0 rfl rfl ?_
  refine g_if_lt (t := 26) dX6_isImage_1 (by decide) rfl (fun h1 => ?_) (fun h1 => ?_)
  · have hz : inR x 2 = false := inR_f1 h1
    refine g_iconst (v := nI 0) dX6_isImage_26 rfl (by decide) ?_
    exact g_zret (b := false) dX6_isImage_27 rfl (Nat.le_refl _) (Nat.le_refl _) (by rw [hz]; exact ⟨rfl, rfl⟩)
  · skip
    refine g_iload_n dX6_isImage_4 rfl rfl ?_
    refine g_aload_n dX6_isImage_5 rfl rfl ?_
    refine g_get f_X6_33 dX6_isImage_6 rfl 0 rfl rfl ?_
    refine g_alen dX6_isImage_9 rfl 1 rfl (Nat.le_of_ble_eq_true rfl) rfl ?_
    refine g_icmp_ge (t := 26) dX6_isImage_10 (by decide) rfl (fun h10 => ?_) (fun h10 => ?_)
    · have hz : inR x 2 = false := inR_f2 h10
      refine g_iconst (v := nI 0) dX6_isImage_26 rfl (by decide) ?_
      exact g_zret (b := false) dX6_isImage_27 rfl (Nat.le_refl _) (Nat.le_refl _) (by rw [hz]; exact ⟨rfl, rfl⟩)
    · have hz : inR x 2 = true := inR_t2 h1 h10
      refine g_iload_n dX6_isImage_13 rfl rfl ?_
      refine g_aload_n dX6_isImage_14 rfl rfl ?_
      refine g_get f_X6_37 dX6_isImage_15 rfl 0 rfl rfl ?_
      refine g_alen dX6_isImage_18 rfl 2 rfl (Nat.le_of_ble_eq_true rfl) rfl ?_
      refine g_icmp_ge (t := 26) dX6_isImage_19 (by decide) rfl (fun h19 => ?_) (fun h19 => ?_)
      · exact absurd h19 h10
      · skip
        refine g_iconst (v := nI 1) dX6_isImage_22 rfl (by decide) ?_
        refine g_goto (q := 27) dX6_isImage_23 (by decide) ?_
        exact g_zret (b := true) dX6_isImage_27 rfl (Nat.le_refl _) (Nat.le_refl _) (by rw [hz]; exact ⟨rfl, rfl⟩)
def goA (F C N S : Nat) (w a r : Nat → Nat) (s : PSt) (x : Int32) : Int32 × PSt := if inR x C = true then (nI (far1 F w a false s x.toNatClampNeg), go1 F N S w a r false s x.toNatClampNeg) else (-1000000001, s)
set_option maxRecDepth 20000 in
theorem c_X6_go (sk : Nat → Nat) {h rd pl sp nw im kp tl ro rs ak : Nat} {st : Bool} {fp : Int32} {nq ps pw pa pr F C N S : Nat} {sd V E : Int32} {s : PSt} {w a r : Nat → Nat} {x : Int32} {Z : Int32 × PSt} (hB : PB F C N S w a r) (hs0 : SB s.1) (hZ : goA F C N S w a r s x = Z) : Ct sk yX6_go cX6_go 2 (some .int) 3 0 0 [oMain h rd pl sp nw im kp tl ro rs ak st fp, oPoleS nw nq s sd, cI nq 30 (fI s.1), oPlan pl ps pw pa pr (nI F) (nI C) V E (nI N) (nI S), cI pw 6 (fI w), cI pa 6 (fI a), cI pr 6 (fI r)] [.ref h, .int x] (zD (some (.int Z.1)) [oMain h rd pl sp nw im kp tl ro rs ak st fp, oPoleS nw nq Z.2 sd, cI nq 30 (fI Z.2.1), oPlan pl ps pw pa pr (nI F) (nI C) V E (nI N) (nI S), cI pw 6 (fI w), cI pa 6 (fI a), cI pr 6 (fI r)]) := by
  refine Ct.of (own := RX6) (l := [some (.ref h), some (.int x)]) (by decide) rfl (Nat.le_of_ble_eq_true rfl) rfl ?_
  refine g_aload_n dX6_go_0 rfl rfl ?_
  refine g_get f_X6_19 dX6_go_1 rfl 0 rfl rfl ?_
  refine g_iload_n dX6_go_4 rfl rfl ?_
  refine g_callV (c_X0_hasClimber sk) m_X6_144 a_X0_hasClimber dX6_go_5 rfl [3] rfl rfl 0 rfl rfl rfl (by decide) (by decide) (by decide) (by decide) (Nat.le_of_ble_eq_true rfl) (fun r w hK => ?_)
  obtain ⟨rfl, rfl⟩ := hK
  refine ⟨rfl, ?_⟩
  dsimp only [puts, List.set, Option.toList, List.cons_append, List.nil_append, List.append_nil]
  refine g_if_neB (t := 14) dX6_go_8 (by decide) rfl (fun h8 => ?_) (fun h8 => ?_)
  · have hC6 := hB.2.1
    obtain ⟨c, hc, rfl⟩ := inR_t (by omega) h8
    rw [goA, if_pos h8, nI_clamp (by omega)] at hZ
    subst hZ
    have hF1 := hB.2.2.1 (by omega)
    refine g_aload_n dX6_go_14 rfl rfl ?_
    refine g_get f_X6_19 dX6_go_15 rfl 0 rfl rfl ?_
    refine g_get f_X6_101 dX6_go_18 rfl 3 rfl rfl ?_
    refine g_if_ne (t := 27) dX6_go_21 (by decide) rfl (fun h21 => ?_) (fun h21 => ?_)
    · skip
      refine g_aload_n dX6_go_27 rfl rfl ?_
      refine g_get f_X6_29 dX6_go_28 rfl 0 rfl rfl ?_
      refine g_aload_n dX6_go_31 rfl rfl ?_
      refine g_get f_X6_19 dX6_go_32 rfl 0 rfl rfl ?_
      refine g_iload_n dX6_go_35 rfl rfl ?_
      refine g_iconst (v := nI 0) dX6_go_36 rfl (by decide) ?_
      refine g_callV (c_climb sk (sand := false) hB hc hs0) m_X6_161 a_X1_climb dX6_go_37 rfl [1, 2, 3, 4, 5, 6] rfl rfl 0 rfl rfl rfl (by decide) (by decide) (by decide) (by decide) (Nat.le_of_ble_eq_true rfl) (fun r w hK => ?_)
      obtain ⟨rfl, rfl⟩ := hK
      refine ⟨rfl, ?_⟩
      dsimp only [puts, List.set, Option.toList, List.cons_append, List.nil_append, List.append_nil]
      exact g_iret dX6_go_40 rfl (Nat.le_refl _) (Nat.le_refl _) (⟨rfl, rfl⟩)
    · exact absurd h21 (nI_ne0 (by omega) (by have := hB.1; omega))
  · rw [goA, if_neg (by rw [h8]; decide)] at hZ
    subst hZ
    refine g_ldc dX6_go_11 rfl k_X6_143 ?_
    exact g_iret dX6_go_13 rfl (Nat.le_refl _) (Nat.le_refl _) (⟨rfl, rfl⟩)
