/-! Reader of the class -/
theorem sub1_m1 (n : Nat) : nI n - nI 1 = nI n + (-1) := by
  rw [Int32.sub_eq_add_neg]
  rfl
set_option maxRecDepth 20000 in
theorem c_X2_isLetter (sk : Nat → Nat) {b : Nat} (hb : b < 256) : Ct sk yX2_isLetter cX2_isLetter 1 (some .boolean) 0 0 0 [] [.int (nI b)] (zD (some (.int (zb (isL b)))) []) := by
  refine Ct.of (own := RX2) (l := [some (.int (nI b))]) (by decide) rfl (Nat.le_of_ble_eq_true rfl) rfl ?_
  refine g_iload_n dX2_isLetter_0 rfl rfl ?_
  refine g_bipush (v := nI 97) dX2_isLetter_1 rfl (by decide) ?_
  refine g_icmp_ltN (t := 16) dX2_isLetter_3 (by decide) rfl (by omega) (by omega) (fun h3 => ?_) (fun h3 => ?_)
  · skip
    refine g_iconst (v := nI 0) dX2_isLetter_16 rfl (by decide) ?_
    exact g_zret (b := false) dX2_isLetter_17 rfl (Nat.le_refl _) (Nat.le_refl _) (⟨by rw [isL, decide_eq_false (by omega)]; rfl, rfl⟩)
  · skip
    refine g_iload_n dX2_isLetter_6 rfl rfl ?_
    refine g_bipush (v := nI 122) dX2_isLetter_7 rfl (by decide) ?_
    refine g_icmp_gtN (t := 16) dX2_isLetter_9 (by decide) rfl (by omega) (by omega) (fun h9 => ?_) (fun h9 => ?_)
    · skip
      refine g_iconst (v := nI 0) dX2_isLetter_16 rfl (by decide) ?_
      exact g_zret (b := false) dX2_isLetter_17 rfl (Nat.le_refl _) (Nat.le_refl _) (⟨by rw [isL, decide_eq_false (show ¬ b ≤ 122 by omega), Bool.and_false], rfl⟩)
    · skip
      refine g_iconst (v := nI 1) dX2_isLetter_12 rfl (by decide) ?_
      refine g_goto (q := 17) dX2_isLetter_13 (by decide) ?_
      exact g_zret (b := true) dX2_isLetter_17 rfl (Nat.le_refl _) (Nat.le_refl _) (⟨by rw [isL, decide_eq_true (show 97 ≤ b by omega), decide_eq_true (show b ≤ 122 by omega)]; rfl, rfl⟩)
set_option maxRecDepth 20000 in
theorem c_X2_isFigure (sk : Nat → Nat) {b : Nat} (hb : b < 256) : Ct sk yX2_isFigure cX2_isFigure 1 (some .boolean) 0 0 0 [] [.int (nI b)] (zD (some (.int (zb (isD b)))) []) := by
  refine Ct.of (own := RX2) (l := [some (.int (nI b))]) (by decide) rfl (Nat.le_of_ble_eq_true rfl) rfl ?_
  refine g_iload_n dX2_isFigure_0 rfl rfl ?_
  refine g_bipush (v := nI 48) dX2_isFigure_1 rfl (by decide) ?_
  refine g_icmp_ltN (t := 16) dX2_isFigure_3 (by decide) rfl (by omega) (by omega) (fun h3 => ?_) (fun h3 => ?_)
  · skip
    refine g_iconst (v := nI 0) dX2_isFigure_16 rfl (by decide) ?_
    exact g_zret (b := false) dX2_isFigure_17 rfl (Nat.le_refl _) (Nat.le_refl _) (⟨by rw [isD, decide_eq_false (by omega)]; rfl, rfl⟩)
  · skip
    refine g_iload_n dX2_isFigure_6 rfl rfl ?_
    refine g_bipush (v := nI 57) dX2_isFigure_7 rfl (by decide) ?_
    refine g_icmp_gtN (t := 16) dX2_isFigure_9 (by decide) rfl (by omega) (by omega) (fun h9 => ?_) (fun h9 => ?_)
    · skip
      refine g_iconst (v := nI 0) dX2_isFigure_16 rfl (by decide) ?_
      exact g_zret (b := false) dX2_isFigure_17 rfl (Nat.le_refl _) (Nat.le_refl _) (⟨by rw [isD, decide_eq_false (show ¬ b ≤ 57 by omega), Bool.and_false], rfl⟩)
    · skip
      refine g_iconst (v := nI 1) dX2_isFigure_12 rfl (by decide) ?_
      refine g_goto (q := 17) dX2_isFigure_13 (by decide) ?_
      exact g_zret (b := true) dX2_isFigure_17 rfl (Nat.le_refl _) (Nat.le_refl _) (⟨by rw [isD, decide_eq_true (show 48 ≤ b by omega), decide_eq_true (show b ≤ 57 by omega)]; rfl, rfl⟩)
set_option maxRecDepth 20000 in
theorem c_least_1_0 (sk : Nat → Nat)   : Ct sk yX2_least cX2_least 2 (some .int) 0 0 0 [] [.int (nI 1), .int (nI 0)] (zD (some (.int (nI (loN 1 0)))) []) := by
  refine Ct.of (own := RX2) (l := [some (.int (nI 1)), some (.int (nI 0))]) (by decide) rfl (Nat.le_of_ble_eq_true rfl) rfl ?_
  refine g_iload_n dX2_least_0 rfl rfl ?_
  skip
  · refine g_tblIn (q := 36) (off := 35) dX2_least_1 (by decide) (by decide) (by decide) (by decide) ?_
    refine g_iload_n dX2_least_36 rfl rfl ?_
    refine g_if_ne (t := 44) dX2_least_37 (by decide) rfl (fun h37 => ?_) (fun h37 => ?_)
    · exact absurd rfl h37
    · skip
      refine g_iconst (v := nI 1) dX2_least_40 rfl (by decide) ?_
      refine g_goto (q := 45) dX2_least_41 (by decide) ?_
      exact g_iret dX2_least_45 rfl (Nat.le_refl _) (Nat.le_refl _) (⟨rfl, rfl⟩)
set_option maxRecDepth 20000 in
theorem c_least_1_1 (sk : Nat → Nat)   : Ct sk yX2_least cX2_least 2 (some .int) 0 0 0 [] [.int (nI 1), .int (nI 1)] (zD (some (.int (nI (loN 1 1)))) []) := by
  refine Ct.of (own := RX2) (l := [some (.int (nI 1)), some (.int (nI 1))]) (by decide) rfl (Nat.le_of_ble_eq_true rfl) rfl ?_
  refine g_iload_n dX2_least_0 rfl rfl ?_
  skip
  · refine g_tblIn (q := 36) (off := 35) dX2_least_1 (by decide) (by decide) (by decide) (by decide) ?_
    refine g_iload_n dX2_least_36 rfl rfl ?_
    refine g_if_ne (t := 44) dX2_least_37 (by decide) rfl (fun h37 => ?_) (fun h37 => ?_)
    · skip
      refine g_iconst (v := nI 0) dX2_least_44 rfl (by decide) ?_
      exact g_iret dX2_least_45 rfl (Nat.le_refl _) (Nat.le_refl _) (⟨rfl, rfl⟩)
    · exact absurd h37 (by decide)
set_option maxRecDepth 20000 in
theorem c_least_1_2 (sk : Nat → Nat)   : Ct sk yX2_least cX2_least 2 (some .int) 0 0 0 [] [.int (nI 1), .int (nI 2)] (zD (some (.int (nI (loN 1 2)))) []) := by
  refine Ct.of (own := RX2) (l := [some (.int (nI 1)), some (.int (nI 2))]) (by decide) rfl (Nat.le_of_ble_eq_true rfl) rfl ?_
  refine g_iload_n dX2_least_0 rfl rfl ?_
  skip
  · refine g_tblIn (q := 36) (off := 35) dX2_least_1 (by decide) (by decide) (by decide) (by decide) ?_
    refine g_iload_n dX2_least_36 rfl rfl ?_
    refine g_if_ne (t := 44) dX2_least_37 (by decide) rfl (fun h37 => ?_) (fun h37 => ?_)
    · skip
      refine g_iconst (v := nI 0) dX2_least_44 rfl (by decide) ?_
      exact g_iret dX2_least_45 rfl (Nat.le_refl _) (Nat.le_refl _) (⟨rfl, rfl⟩)
    · exact absurd h37 (by decide)
set_option maxRecDepth 20000 in
theorem c_least_2_0 (sk : Nat → Nat)   : Ct sk yX2_least cX2_least 2 (some .int) 0 0 0 [] [.int (nI 2), .int (nI 0)] (zD (some (.int (nI (loN 2 0)))) []) := by
  refine Ct.of (own := RX2) (l := [some (.int (nI 2)), some (.int (nI 0))]) (by decide) rfl (Nat.le_of_ble_eq_true rfl) rfl ?_
  refine g_iload_n dX2_least_0 rfl rfl ?_
  skip
  · refine g_tblIn (q := 57) (off := 56) dX2_least_1 (by decide) (by decide) (by decide) (by decide) ?_
    refine g_iconst (v := nI 0) dX2_least_57 rfl (by decide) ?_
    exact g_iret dX2_least_58 rfl (Nat.le_refl _) (Nat.le_refl _) (⟨rfl, rfl⟩)
set_option maxRecDepth 20000 in
theorem c_least_2_1 (sk : Nat → Nat)   : Ct sk yX2_least cX2_least 2 (some .int) 0 0 0 [] [.int (nI 2), .int (nI 1)] (zD (some (.int (nI (loN 2 1)))) []) := by
  refine Ct.of (own := RX2) (l := [some (.int (nI 2)), some (.int (nI 1))]) (by decide) rfl (Nat.le_of_ble_eq_true rfl) rfl ?_
  refine g_iload_n dX2_least_0 rfl rfl ?_
  skip
  · refine g_tblIn (q := 57) (off := 56) dX2_least_1 (by decide) (by decide) (by decide) (by decide) ?_
    refine g_iconst (v := nI 0) dX2_least_57 rfl (by decide) ?_
    exact g_iret dX2_least_58 rfl (Nat.le_refl _) (Nat.le_refl _) (⟨rfl, rfl⟩)
set_option maxRecDepth 20000 in
theorem c_least_2_2 (sk : Nat → Nat)   : Ct sk yX2_least cX2_least 2 (some .int) 0 0 0 [] [.int (nI 2), .int (nI 2)] (zD (some (.int (nI (loN 2 2)))) []) := by
  refine Ct.of (own := RX2) (l := [some (.int (nI 2)), some (.int (nI 2))]) (by decide) rfl (Nat.le_of_ble_eq_true rfl) rfl ?_
  refine g_iload_n dX2_least_0 rfl rfl ?_
  skip
  · refine g_tblIn (q := 57) (off := 56) dX2_least_1 (by decide) (by decide) (by decide) (by decide) ?_
    refine g_iconst (v := nI 0) dX2_least_57 rfl (by decide) ?_
    exact g_iret dX2_least_58 rfl (Nat.le_refl _) (Nat.le_refl _) (⟨rfl, rfl⟩)
set_option maxRecDepth 20000 in
theorem c_least_3_0 (sk : Nat → Nat)   : Ct sk yX2_least cX2_least 2 (some .int) 0 0 0 [] [.int (nI 3), .int (nI 0)] (zD (some (.int (nI (loN 3 0)))) []) := by
  refine Ct.of (own := RX2) (l := [some (.int (nI 3)), some (.int (nI 0))]) (by decide) rfl (Nat.le_of_ble_eq_true rfl) rfl ?_
  refine g_iload_n dX2_least_0 rfl rfl ?_
  skip
  · refine g_tblIn (q := 46) (off := 45) dX2_least_1 (by decide) (by decide) (by decide) (by decide) ?_
    refine g_iload_n dX2_least_46 rfl rfl ?_
    refine g_iconst (v := nI 2) dX2_least_47 rfl (by decide) ?_
    refine g_icmp_geN (t := 55) dX2_least_48 (by decide) rfl (by omega) (by omega) (fun h48 => ?_) (fun h48 => ?_)
    · exact absurd h48 (by decide)
    · skip
      refine g_iconst (v := nI 1) dX2_least_51 rfl (by decide) ?_
      refine g_goto (q := 56) dX2_least_52 (by decide) ?_
      exact g_iret dX2_least_56 rfl (Nat.le_refl _) (Nat.le_refl _) (⟨rfl, rfl⟩)
set_option maxRecDepth 20000 in
theorem c_least_3_1 (sk : Nat → Nat)   : Ct sk yX2_least cX2_least 2 (some .int) 0 0 0 [] [.int (nI 3), .int (nI 1)] (zD (some (.int (nI (loN 3 1)))) []) := by
  refine Ct.of (own := RX2) (l := [some (.int (nI 3)), some (.int (nI 1))]) (by decide) rfl (Nat.le_of_ble_eq_true rfl) rfl ?_
  refine g_iload_n dX2_least_0 rfl rfl ?_
  skip
  · refine g_tblIn (q := 46) (off := 45) dX2_least_1 (by decide) (by decide) (by decide) (by decide) ?_
    refine g_iload_n dX2_least_46 rfl rfl ?_
    refine g_iconst (v := nI 2) dX2_least_47 rfl (by decide) ?_
    refine g_icmp_geN (t := 55) dX2_least_48 (by decide) rfl (by omega) (by omega) (fun h48 => ?_) (fun h48 => ?_)
    · exact absurd h48 (by decide)
    · skip
      refine g_iconst (v := nI 1) dX2_least_51 rfl (by decide) ?_
      refine g_goto (q := 56) dX2_least_52 (by decide) ?_
      exact g_iret dX2_least_56 rfl (Nat.le_refl _) (Nat.le_refl _) (⟨rfl, rfl⟩)
set_option maxRecDepth 20000 in
theorem c_least_3_2 (sk : Nat → Nat)   : Ct sk yX2_least cX2_least 2 (some .int) 0 0 0 [] [.int (nI 3), .int (nI 2)] (zD (some (.int (nI (loN 3 2)))) []) := by
  refine Ct.of (own := RX2) (l := [some (.int (nI 3)), some (.int (nI 2))]) (by decide) rfl (Nat.le_of_ble_eq_true rfl) rfl ?_
  refine g_iload_n dX2_least_0 rfl rfl ?_
  skip
  · refine g_tblIn (q := 46) (off := 45) dX2_least_1 (by decide) (by decide) (by decide) (by decide) ?_
    refine g_iload_n dX2_least_46 rfl rfl ?_
    refine g_iconst (v := nI 2) dX2_least_47 rfl (by decide) ?_
    refine g_icmp_geN (t := 55) dX2_least_48 (by decide) rfl (by omega) (by omega) (fun h48 => ?_) (fun h48 => ?_)
    · skip
      refine g_iconst (v := nI 0) dX2_least_55 rfl (by decide) ?_
      exact g_iret dX2_least_56 rfl (Nat.le_refl _) (Nat.le_refl _) (⟨rfl, rfl⟩)
    · exact absurd h48 (by decide)
set_option maxRecDepth 20000 in
theorem c_least_4_0 (sk : Nat → Nat)   : Ct sk yX2_least cX2_least 2 (some .int) 0 0 0 [] [.int (nI 4), .int (nI 0)] (zD (some (.int (nI (loN 4 0)))) []) := by
  refine Ct.of (own := RX2) (l := [some (.int (nI 4)), some (.int (nI 0))]) (by decide) rfl (Nat.le_of_ble_eq_true rfl) rfl ?_
  refine g_iload_n dX2_least_0 rfl rfl ?_
  skip
  · refine g_tblIn (q := 57) (off := 56) dX2_least_1 (by decide) (by decide) (by decide) (by decide) ?_
    refine g_iconst (v := nI 0) dX2_least_57 rfl (by decide) ?_
    exact g_iret dX2_least_58 rfl (Nat.le_refl _) (Nat.le_refl _) (⟨rfl, rfl⟩)
set_option maxRecDepth 20000 in
theorem c_least_4_1 (sk : Nat → Nat)   : Ct sk yX2_least cX2_least 2 (some .int) 0 0 0 [] [.int (nI 4), .int (nI 1)] (zD (some (.int (nI (loN 4 1)))) []) := by
  refine Ct.of (own := RX2) (l := [some (.int (nI 4)), some (.int (nI 1))]) (by decide) rfl (Nat.le_of_ble_eq_true rfl) rfl ?_
  refine g_iload_n dX2_least_0 rfl rfl ?_
  skip
  · refine g_tblIn (q := 57) (off := 56) dX2_least_1 (by decide) (by decide) (by decide) (by decide) ?_
    refine g_iconst (v := nI 0) dX2_least_57 rfl (by decide) ?_
    exact g_iret dX2_least_58 rfl (Nat.le_refl _) (Nat.le_refl _) (⟨rfl, rfl⟩)
set_option maxRecDepth 20000 in
theorem c_least_4_2 (sk : Nat → Nat)   : Ct sk yX2_least cX2_least 2 (some .int) 0 0 0 [] [.int (nI 4), .int (nI 2)] (zD (some (.int (nI (loN 4 2)))) []) := by
  refine Ct.of (own := RX2) (l := [some (.int (nI 4)), some (.int (nI 2))]) (by decide) rfl (Nat.le_of_ble_eq_true rfl) rfl ?_
  refine g_iload_n dX2_least_0 rfl rfl ?_
  skip
  · refine g_tblIn (q := 57) (off := 56) dX2_least_1 (by decide) (by decide) (by decide) (by decide) ?_
    refine g_iconst (v := nI 0) dX2_least_57 rfl (by decide) ?_
    exact g_iret dX2_least_58 rfl (Nat.le_refl _) (Nat.le_refl _) (⟨rfl, rfl⟩)
set_option maxRecDepth 20000 in
theorem c_least_5_0 (sk : Nat → Nat)   : Ct sk yX2_least cX2_least 2 (some .int) 0 0 0 [] [.int (nI 5), .int (nI 0)] (zD (some (.int (nI (loN 5 0)))) []) := by
  refine Ct.of (own := RX2) (l := [some (.int (nI 5)), some (.int (nI 0))]) (by decide) rfl (Nat.le_of_ble_eq_true rfl) rfl ?_
  refine g_iload_n dX2_least_0 rfl rfl ?_
  skip
  · refine g_tblIn (q := 36) (off := 35) dX2_least_1 (by decide) (by decide) (by decide) (by decide) ?_
    refine g_iload_n dX2_least_36 rfl rfl ?_
    refine g_if_ne (t := 44) dX2_least_37 (by decide) rfl (fun h37 => ?_) (fun h37 => ?_)
    · exact absurd rfl h37
    · skip
      refine g_iconst (v := nI 1) dX2_least_40 rfl (by decide) ?_
      refine g_goto (q := 45) dX2_least_41 (by decide) ?_
      exact g_iret dX2_least_45 rfl (Nat.le_refl _) (Nat.le_refl _) (⟨rfl, rfl⟩)
set_option maxRecDepth 20000 in
theorem c_least_5_1 (sk : Nat → Nat)   : Ct sk yX2_least cX2_least 2 (some .int) 0 0 0 [] [.int (nI 5), .int (nI 1)] (zD (some (.int (nI (loN 5 1)))) []) := by
  refine Ct.of (own := RX2) (l := [some (.int (nI 5)), some (.int (nI 1))]) (by decide) rfl (Nat.le_of_ble_eq_true rfl) rfl ?_
  refine g_iload_n dX2_least_0 rfl rfl ?_
  skip
  · refine g_tblIn (q := 36) (off := 35) dX2_least_1 (by decide) (by decide) (by decide) (by decide) ?_
    refine g_iload_n dX2_least_36 rfl rfl ?_
    refine g_if_ne (t := 44) dX2_least_37 (by decide) rfl (fun h37 => ?_) (fun h37 => ?_)
    · skip
      refine g_iconst (v := nI 0) dX2_least_44 rfl (by decide) ?_
      exact g_iret dX2_least_45 rfl (Nat.le_refl _) (Nat.le_refl _) (⟨rfl, rfl⟩)
    · exact absurd h37 (by decide)
set_option maxRecDepth 20000 in
theorem c_least_5_2 (sk : Nat → Nat)   : Ct sk yX2_least cX2_least 2 (some .int) 0 0 0 [] [.int (nI 5), .int (nI 2)] (zD (some (.int (nI (loN 5 2)))) []) := by
  refine Ct.of (own := RX2) (l := [some (.int (nI 5)), some (.int (nI 2))]) (by decide) rfl (Nat.le_of_ble_eq_true rfl) rfl ?_
  refine g_iload_n dX2_least_0 rfl rfl ?_
  skip
  · refine g_tblIn (q := 36) (off := 35) dX2_least_1 (by decide) (by decide) (by decide) (by decide) ?_
    refine g_iload_n dX2_least_36 rfl rfl ?_
    refine g_if_ne (t := 44) dX2_least_37 (by decide) rfl (fun h37 => ?_) (fun h37 => ?_)
    · skip
      refine g_iconst (v := nI 0) dX2_least_44 rfl (by decide) ?_
      exact g_iret dX2_least_45 rfl (Nat.le_refl _) (Nat.le_refl _) (⟨rfl, rfl⟩)
    · exact absurd h37 (by decide)
theorem c_X2_least (sk : Nat → Nat) {k i : Nat} (hk : k = 1 ∨ k = 2 ∨ k = 3 ∨ k = 4 ∨ k = 5) (hi : i = 0 ∨ i = 1 ∨ i = 2) : Ct sk yX2_least cX2_least 2 (some .int) 0 0 0 [] [.int (nI k), .int (nI i)] (zD (some (.int (nI (loN k i)))) []) := by
  rcases hk with rfl | rfl | rfl | rfl | rfl <;> rcases hi with rfl | rfl | rfl
  · exact c_least_1_0 sk
  · exact c_least_1_1 sk
  · exact c_least_1_2 sk
  · exact c_least_2_0 sk
  · exact c_least_2_1 sk
  · exact c_least_2_2 sk
  · exact c_least_3_0 sk
  · exact c_least_3_1 sk
  · exact c_least_3_2 sk
  · exact c_least_4_0 sk
  · exact c_least_4_1 sk
  · exact c_least_4_2 sk
  · exact c_least_5_0 sk
  · exact c_least_5_1 sk
  · exact c_least_5_2 sk
set_option maxRecDepth 20000 in
theorem c_most_2_0 (sk : Nat → Nat) {pl ps pw pa pr F : Nat} {C V E N S : Int32} (hF : 1 ≤ F) : Ct sk yX2_most cX2_most 3 (some .int) 0 0 0 [oPlan pl ps pw pa pr (nI F) C V E N S] [.int (nI 2), .int (nI 0), .ref pl] (zD (some (.int (nI (hiN 2 0 F)))) [oPlan pl ps pw pa pr (nI F) C V E N S]) := by
  refine Ct.of (own := RX2) (l := [some (.int (nI 2)), some (.int (nI 0)), some (.ref pl)]) (by decide) rfl (Nat.le_of_ble_eq_true rfl) rfl ?_
  refine g_iload_n dX2_most_0 rfl rfl ?_
  skip
  · refine g_tblIn (q := 44) (off := 43) dX2_most_1 (by decide) (by decide) (by decide) (by decide) ?_
    refine g_iload_n dX2_most_44 rfl rfl ?_
    refine g_if_ne (t := 57) dX2_most_45 (by decide) rfl (fun h45 => ?_) (fun h45 => ?_)
    · exact absurd rfl h45
    · skip
      refine g_aload_n dX2_most_48 rfl rfl ?_
      refine g_get f_X2_134 dX2_most_49 rfl 0 rfl rfl ?_
      refine g_iconst (v := nI 1) dX2_most_52 rfl (by decide) ?_
      refine g_isub dX2_most_53 rfl (pk_sub (by omega)) ?_
      refine g_goto (q := 59) dX2_most_54 (by decide) ?_
      exact g_iret dX2_most_59 rfl (Nat.le_refl _) (Nat.le_refl _) (⟨rfl, rfl⟩)
set_option maxRecDepth 20000 in
theorem c_most_2_1 (sk : Nat → Nat) {pl ps pw pa pr F : Nat} {C V E N S : Int32} (hF : 1 ≤ F) : Ct sk yX2_most cX2_most 3 (some .int) 0 0 0 [oPlan pl ps pw pa pr (nI F) C V E N S] [.int (nI 2), .int (nI 1), .ref pl] (zD (some (.int (nI (hiN 2 1 F)))) [oPlan pl ps pw pa pr (nI F) C V E N S]) := by
  refine Ct.of (own := RX2) (l := [some (.int (nI 2)), some (.int (nI 1)), some (.ref pl)]) (by decide) rfl (Nat.le_of_ble_eq_true rfl) rfl ?_
  refine g_iload_n dX2_most_0 rfl rfl ?_
  skip
  · refine g_tblIn (q := 44) (off := 43) dX2_most_1 (by decide) (by decide) (by decide) (by decide) ?_
    refine g_iload_n dX2_most_44 rfl rfl ?_
    refine g_if_ne (t := 57) dX2_most_45 (by decide) rfl (fun h45 => ?_) (fun h45 => ?_)
    · skip
      refine g_bipush (v := nI 99) dX2_most_57 rfl (by decide) ?_
      exact g_iret dX2_most_59 rfl (Nat.le_refl _) (Nat.le_refl _) (⟨rfl, rfl⟩)
    · exact absurd h45 (by decide)
set_option maxRecDepth 20000 in
theorem c_most_2_2 (sk : Nat → Nat) {pl ps pw pa pr F : Nat} {C V E N S : Int32} (hF : 1 ≤ F) : Ct sk yX2_most cX2_most 3 (some .int) 0 0 0 [oPlan pl ps pw pa pr (nI F) C V E N S] [.int (nI 2), .int (nI 2), .ref pl] (zD (some (.int (nI (hiN 2 2 F)))) [oPlan pl ps pw pa pr (nI F) C V E N S]) := by
  refine Ct.of (own := RX2) (l := [some (.int (nI 2)), some (.int (nI 2)), some (.ref pl)]) (by decide) rfl (Nat.le_of_ble_eq_true rfl) rfl ?_
  refine g_iload_n dX2_most_0 rfl rfl ?_
  skip
  · refine g_tblIn (q := 44) (off := 43) dX2_most_1 (by decide) (by decide) (by decide) (by decide) ?_
    refine g_iload_n dX2_most_44 rfl rfl ?_
    refine g_if_ne (t := 57) dX2_most_45 (by decide) rfl (fun h45 => ?_) (fun h45 => ?_)
    · skip
      refine g_bipush (v := nI 99) dX2_most_57 rfl (by decide) ?_
      exact g_iret dX2_most_59 rfl (Nat.le_refl _) (Nat.le_refl _) (⟨rfl, rfl⟩)
    · exact absurd h45 (by decide)
set_option maxRecDepth 20000 in
theorem c_most_3_0 (sk : Nat → Nat) {pl ps pw pa pr F : Nat} {C V E N S : Int32} (hF : 1 ≤ F) : Ct sk yX2_most cX2_most 3 (some .int) 0 0 0 [oPlan pl ps pw pa pr (nI F) C V E N S] [.int (nI 3), .int (nI 0), .ref pl] (zD (some (.int (nI (hiN 3 0 F)))) [oPlan pl ps pw pa pr (nI F) C V E N S]) := by
  refine Ct.of (own := RX2) (l := [some (.int (nI 3)), some (.int (nI 0)), some (.ref pl)]) (by decide) rfl (Nat.le_of_ble_eq_true rfl) rfl ?_
  refine g_iload_n dX2_most_0 rfl rfl ?_
  skip
  · refine g_tblIn (q := 60) (off := 59) dX2_most_1 (by decide) (by decide) (by decide) (by decide) ?_
    refine g_iload_n dX2_most_60 rfl rfl ?_
    refine g_if_ne (t := 69) dX2_most_61 (by decide) rfl (fun h61 => ?_) (fun h61 => ?_)
    · exact absurd rfl h61
    · skip
      refine g_bipush (v := nI 99) dX2_most_64 rfl (by decide) ?_
      refine g_goto (q := 82) dX2_most_66 (by decide) ?_
      exact g_iret dX2_most_82 rfl (Nat.le_refl _) (Nat.le_refl _) (⟨rfl, rfl⟩)
set_option maxRecDepth 20000 in
theorem c_most_3_1 (sk : Nat → Nat) {pl ps pw pa pr F : Nat} {C V E N S : Int32} (hF : 1 ≤ F) : Ct sk yX2_most cX2_most 3 (some .int) 0 0 0 [oPlan pl ps pw pa pr (nI F) C V E N S] [.int (nI 3), .int (nI 1), .ref pl] (zD (some (.int (nI (hiN 3 1 F)))) [oPlan pl ps pw pa pr (nI F) C V E N S]) := by
  refine Ct.of (own := RX2) (l := [some (.int (nI 3)), some (.int (nI 1)), some (.ref pl)]) (by decide) rfl (Nat.le_of_ble_eq_true rfl) rfl ?_
  refine g_iload_n dX2_most_0 rfl rfl ?_
  skip
  · refine g_tblIn (q := 60) (off := 59) dX2_most_1 (by decide) (by decide) (by decide) (by decide) ?_
    refine g_iload_n dX2_most_60 rfl rfl ?_
    refine g_if_ne (t := 69) dX2_most_61 (by decide) rfl (fun h61 => ?_) (fun h61 => ?_)
    · skip
      refine g_iload_n dX2_most_69 rfl rfl ?_
      refine g_iconst (v := nI 1) dX2_most_70 rfl (by decide) ?_
      refine g_icmp_neN (t := 80) dX2_most_71 (by decide) rfl (by omega) (by omega) (fun h71 => ?_) (fun h71 => ?_)
      · exact absurd rfl h71
      · skip
        refine g_sipush (v := nI 999) dX2_most_74 rfl (by decide) ?_
        refine g_goto (q := 82) dX2_most_77 (by decide) ?_
        exact g_iret dX2_most_82 rfl (Nat.le_refl _) (Nat.le_refl _) (⟨rfl, rfl⟩)
    · exact absurd h61 (by decide)
set_option maxRecDepth 20000 in
theorem c_most_3_2 (sk : Nat → Nat) {pl ps pw pa pr F : Nat} {C V E N S : Int32} (hF : 1 ≤ F) : Ct sk yX2_most cX2_most 3 (some .int) 0 0 0 [oPlan pl ps pw pa pr (nI F) C V E N S] [.int (nI 3), .int (nI 2), .ref pl] (zD (some (.int (nI (hiN 3 2 F)))) [oPlan pl ps pw pa pr (nI F) C V E N S]) := by
  refine Ct.of (own := RX2) (l := [some (.int (nI 3)), some (.int (nI 2)), some (.ref pl)]) (by decide) rfl (Nat.le_of_ble_eq_true rfl) rfl ?_
  refine g_iload_n dX2_most_0 rfl rfl ?_
  skip
  · refine g_tblIn (q := 60) (off := 59) dX2_most_1 (by decide) (by decide) (by decide) (by decide) ?_
    refine g_iload_n dX2_most_60 rfl rfl ?_
    refine g_if_ne (t := 69) dX2_most_61 (by decide) rfl (fun h61 => ?_) (fun h61 => ?_)
    · skip
      refine g_iload_n dX2_most_69 rfl rfl ?_
      refine g_iconst (v := nI 1) dX2_most_70 rfl (by decide) ?_
      refine g_icmp_neN (t := 80) dX2_most_71 (by decide) rfl (by omega) (by omega) (fun h71 => ?_) (fun h71 => ?_)
      · skip
        refine g_bipush (v := nI 20) dX2_most_80 rfl (by decide) ?_
        exact g_iret dX2_most_82 rfl (Nat.le_refl _) (Nat.le_refl _) (⟨rfl, rfl⟩)
      · exact absurd h71 (by decide)
    · exact absurd h61 (by decide)
set_option maxRecDepth 20000 in
theorem c_most_4_0 (sk : Nat → Nat) {pl ps pw pa pr F : Nat} {C V E N S : Int32} (hF : 1 ≤ F) : Ct sk yX2_most cX2_most 3 (some .int) 0 0 0 [oPlan pl ps pw pa pr (nI F) C V E N S] [.int (nI 4), .int (nI 0), .ref pl] (zD (some (.int (nI (hiN 4 0 F)))) [oPlan pl ps pw pa pr (nI F) C V E N S]) := by
  refine Ct.of (own := RX2) (l := [some (.int (nI 4)), some (.int (nI 0)), some (.ref pl)]) (by decide) rfl (Nat.le_of_ble_eq_true rfl) rfl ?_
  refine g_iload_n dX2_most_0 rfl rfl ?_
  skip
  · refine g_tblIn (q := 83) (off := 82) dX2_most_1 (by decide) (by decide) (by decide) (by decide) ?_
    refine g_iload_n dX2_most_83 rfl rfl ?_
    refine g_if_ne (t := 93) dX2_most_84 (by decide) rfl (fun h84 => ?_) (fun h84 => ?_)
    · exact absurd rfl h84
    · skip
      refine g_sipush (v := nI 999) dX2_most_87 rfl (by decide) ?_
      refine g_goto (q := 95) dX2_most_90 (by decide) ?_
      exact g_iret dX2_most_95 rfl (Nat.le_refl _) (Nat.le_refl _) (⟨rfl, rfl⟩)
set_option maxRecDepth 20000 in
theorem c_most_4_1 (sk : Nat → Nat) {pl ps pw pa pr F : Nat} {C V E N S : Int32} (hF : 1 ≤ F) : Ct sk yX2_most cX2_most 3 (some .int) 0 0 0 [oPlan pl ps pw pa pr (nI F) C V E N S] [.int (nI 4), .int (nI 1), .ref pl] (zD (some (.int (nI (hiN 4 1 F)))) [oPlan pl ps pw pa pr (nI F) C V E N S]) := by
  refine Ct.of (own := RX2) (l := [some (.int (nI 4)), some (.int (nI 1)), some (.ref pl)]) (by decide) rfl (Nat.le_of_ble_eq_true rfl) rfl ?_
  refine g_iload_n dX2_most_0 rfl rfl ?_
  skip
  · refine g_tblIn (q := 83) (off := 82) dX2_most_1 (by decide) (by decide) (by decide) (by decide) ?_
    refine g_iload_n dX2_most_83 rfl rfl ?_
    refine g_if_ne (t := 93) dX2_most_84 (by decide) rfl (fun h84 => ?_) (fun h84 => ?_)
    · skip
      refine g_bipush (v := nI 99) dX2_most_93 rfl (by decide) ?_
      exact g_iret dX2_most_95 rfl (Nat.le_refl _) (Nat.le_refl _) (⟨rfl, rfl⟩)
    · exact absurd h84 (by decide)
set_option maxRecDepth 20000 in
theorem c_most_4_2 (sk : Nat → Nat) {pl ps pw pa pr F : Nat} {C V E N S : Int32} (hF : 1 ≤ F) : Ct sk yX2_most cX2_most 3 (some .int) 0 0 0 [oPlan pl ps pw pa pr (nI F) C V E N S] [.int (nI 4), .int (nI 2), .ref pl] (zD (some (.int (nI (hiN 4 2 F)))) [oPlan pl ps pw pa pr (nI F) C V E N S]) := by
  refine Ct.of (own := RX2) (l := [some (.int (nI 4)), some (.int (nI 2)), some (.ref pl)]) (by decide) rfl (Nat.le_of_ble_eq_true rfl) rfl ?_
  refine g_iload_n dX2_most_0 rfl rfl ?_
  skip
  · refine g_tblIn (q := 83) (off := 82) dX2_most_1 (by decide) (by decide) (by decide) (by decide) ?_
    refine g_iload_n dX2_most_83 rfl rfl ?_
    refine g_if_ne (t := 93) dX2_most_84 (by decide) rfl (fun h84 => ?_) (fun h84 => ?_)
    · skip
      refine g_bipush (v := nI 99) dX2_most_93 rfl (by decide) ?_
      exact g_iret dX2_most_95 rfl (Nat.le_refl _) (Nat.le_refl _) (⟨rfl, rfl⟩)
    · exact absurd h84 (by decide)
set_option maxRecDepth 20000 in
theorem c_most_5_0 (sk : Nat → Nat) {pl ps pw pa pr F : Nat} {C V E N S : Int32} (hF : 1 ≤ F) : Ct sk yX2_most cX2_most 3 (some .int) 0 0 0 [oPlan pl ps pw pa pr (nI F) C V E N S] [.int (nI 5), .int (nI 0), .ref pl] (zD (some (.int (nI (hiN 5 0 F)))) [oPlan pl ps pw pa pr (nI F) C V E N S]) := by
  refine Ct.of (own := RX2) (l := [some (.int (nI 5)), some (.int (nI 0)), some (.ref pl)]) (by decide) rfl (Nat.le_of_ble_eq_true rfl) rfl ?_
  refine g_iload_n dX2_most_0 rfl rfl ?_
  skip
  · refine g_tblOut (q := 96) dX2_most_1 (by decide) (by decide) ?_
    refine g_iload_n dX2_most_96 rfl rfl ?_
    refine g_if_ne (t := 105) dX2_most_97 (by decide) rfl (fun h97 => ?_) (fun h97 => ?_)
    · exact absurd rfl h97
    · skip
      refine g_bipush (v := nI 20) dX2_most_100 rfl (by decide) ?_
      refine g_goto (q := 107) dX2_most_102 (by decide) ?_
      exact g_iret dX2_most_107 rfl (Nat.le_refl _) (Nat.le_refl _) (⟨rfl, rfl⟩)
set_option maxRecDepth 20000 in
theorem c_most_5_1 (sk : Nat → Nat) {pl ps pw pa pr F : Nat} {C V E N S : Int32} (hF : 1 ≤ F) : Ct sk yX2_most cX2_most 3 (some .int) 0 0 0 [oPlan pl ps pw pa pr (nI F) C V E N S] [.int (nI 5), .int (nI 1), .ref pl] (zD (some (.int (nI (hiN 5 1 F)))) [oPlan pl ps pw pa pr (nI F) C V E N S]) := by
  refine Ct.of (own := RX2) (l := [some (.int (nI 5)), some (.int (nI 1)), some (.ref pl)]) (by decide) rfl (Nat.le_of_ble_eq_true rfl) rfl ?_
  refine g_iload_n dX2_most_0 rfl rfl ?_
  skip
  · refine g_tblOut (q := 96) dX2_most_1 (by decide) (by decide) ?_
    refine g_iload_n dX2_most_96 rfl rfl ?_
    refine g_if_ne (t := 105) dX2_most_97 (by decide) rfl (fun h97 => ?_) (fun h97 => ?_)
    · skip
      refine g_bipush (v := nI 9) dX2_most_105 rfl (by decide) ?_
      exact g_iret dX2_most_107 rfl (Nat.le_refl _) (Nat.le_refl _) (⟨rfl, rfl⟩)
    · exact absurd h97 (by decide)
set_option maxRecDepth 20000 in
theorem c_most_5_2 (sk : Nat → Nat) {pl ps pw pa pr F : Nat} {C V E N S : Int32} (hF : 1 ≤ F) : Ct sk yX2_most cX2_most 3 (some .int) 0 0 0 [oPlan pl ps pw pa pr (nI F) C V E N S] [.int (nI 5), .int (nI 2), .ref pl] (zD (some (.int (nI (hiN 5 2 F)))) [oPlan pl ps pw pa pr (nI F) C V E N S]) := by
  refine Ct.of (own := RX2) (l := [some (.int (nI 5)), some (.int (nI 2)), some (.ref pl)]) (by decide) rfl (Nat.le_of_ble_eq_true rfl) rfl ?_
  refine g_iload_n dX2_most_0 rfl rfl ?_
  skip
  · refine g_tblOut (q := 96) dX2_most_1 (by decide) (by decide) ?_
    refine g_iload_n dX2_most_96 rfl rfl ?_
    refine g_if_ne (t := 105) dX2_most_97 (by decide) rfl (fun h97 => ?_) (fun h97 => ?_)
    · skip
      refine g_bipush (v := nI 9) dX2_most_105 rfl (by decide) ?_
      exact g_iret dX2_most_107 rfl (Nat.le_refl _) (Nat.le_refl _) (⟨rfl, rfl⟩)
    · exact absurd h97 (by decide)
set_option maxRecDepth 20000 in
theorem c_most_1_0 (sk : Nat → Nat) {pl ps pw pa pr F : Nat} {C V E N S : Int32}  : Ct sk yX2_most cX2_most 3 (some .int) 0 0 0 [oPlan pl ps pw pa pr (nI F) C V E N S] [.int (nI 1), .int (nI 0), .ref pl] (zD (some (.int (nI (hiN 1 0 F)))) [oPlan pl ps pw pa pr (nI F) C V E N S]) := by
  refine Ct.of (own := RX2) (l := [some (.int (nI 1)), some (.int (nI 0)), some (.ref pl)]) (by decide) rfl (Nat.le_of_ble_eq_true rfl) rfl ?_
  refine g_iload_n dX2_most_0 rfl rfl ?_
  skip
  · refine g_tblIn (q := 32) (off := 31) dX2_most_1 (by decide) (by decide) (by decide) (by decide) ?_
    refine g_iload_n dX2_most_32 rfl rfl ?_
    refine g_if_ne (t := 41) dX2_most_33 (by decide) rfl (fun h33 => ?_) (fun h33 => ?_)
    · exact absurd rfl h33
    · skip
      refine g_bipush (v := nI 30) dX2_most_36 rfl (by decide) ?_
      refine g_goto (q := 43) dX2_most_38 (by decide) ?_
      exact g_iret dX2_most_43 rfl (Nat.le_refl _) (Nat.le_refl _) (⟨rfl, rfl⟩)
set_option maxRecDepth 20000 in
theorem c_most_1_1 (sk : Nat → Nat) {pl ps pw pa pr F : Nat} {C V E N S : Int32}  : Ct sk yX2_most cX2_most 3 (some .int) 0 0 0 [oPlan pl ps pw pa pr (nI F) C V E N S] [.int (nI 1), .int (nI 1), .ref pl] (zD (some (.int (nI (hiN 1 1 F)))) [oPlan pl ps pw pa pr (nI F) C V E N S]) := by
  refine Ct.of (own := RX2) (l := [some (.int (nI 1)), some (.int (nI 1)), some (.ref pl)]) (by decide) rfl (Nat.le_of_ble_eq_true rfl) rfl ?_
  refine g_iload_n dX2_most_0 rfl rfl ?_
  skip
  · refine g_tblIn (q := 32) (off := 31) dX2_most_1 (by decide) (by decide) (by decide) (by decide) ?_
    refine g_iload_n dX2_most_32 rfl rfl ?_
    refine g_if_ne (t := 41) dX2_most_33 (by decide) rfl (fun h33 => ?_) (fun h33 => ?_)
    · skip
      refine g_bipush (v := nI 99) dX2_most_41 rfl (by decide) ?_
      exact g_iret dX2_most_43 rfl (Nat.le_refl _) (Nat.le_refl _) (⟨rfl, rfl⟩)
    · exact absurd h33 (by decide)
set_option maxRecDepth 20000 in
theorem c_most_1_2 (sk : Nat → Nat) {pl ps pw pa pr F : Nat} {C V E N S : Int32}  : Ct sk yX2_most cX2_most 3 (some .int) 0 0 0 [oPlan pl ps pw pa pr (nI F) C V E N S] [.int (nI 1), .int (nI 2), .ref pl] (zD (some (.int (nI (hiN 1 2 F)))) [oPlan pl ps pw pa pr (nI F) C V E N S]) := by
  refine Ct.of (own := RX2) (l := [some (.int (nI 1)), some (.int (nI 2)), some (.ref pl)]) (by decide) rfl (Nat.le_of_ble_eq_true rfl) rfl ?_
  refine g_iload_n dX2_most_0 rfl rfl ?_
  skip
  · refine g_tblIn (q := 32) (off := 31) dX2_most_1 (by decide) (by decide) (by decide) (by decide) ?_
    refine g_iload_n dX2_most_32 rfl rfl ?_
    refine g_if_ne (t := 41) dX2_most_33 (by decide) rfl (fun h33 => ?_) (fun h33 => ?_)
    · skip
      refine g_bipush (v := nI 99) dX2_most_41 rfl (by decide) ?_
      exact g_iret dX2_most_43 rfl (Nat.le_refl _) (Nat.le_refl _) (⟨rfl, rfl⟩)
    · exact absurd h33 (by decide)
theorem c_X2_most (sk : Nat → Nat) {k i pl ps pw pa pr F : Nat} {C V E N S : Int32} (hk : k = 1 ∨ k = 2 ∨ k = 3 ∨ k = 4 ∨ k = 5) (hi : i = 0 ∨ i = 1 ∨ i = 2) (hF : k = 1 ∨ 1 ≤ F) : Ct sk yX2_most cX2_most 3 (some .int) 0 0 0 [oPlan pl ps pw pa pr (nI F) C V E N S] [.int (nI k), .int (nI i), .ref pl] (zD (some (.int (nI (hiN k i F)))) [oPlan pl ps pw pa pr (nI F) C V E N S]) := by
  rcases hk with rfl | rfl | rfl | rfl | rfl <;> rcases hi with rfl | rfl | rfl
  · exact c_most_1_0 sk
  · exact c_most_1_1 sk
  · exact c_most_1_2 sk
  · exact c_most_2_0 sk (hF.resolve_left (by decide))
  · exact c_most_2_1 sk (hF.resolve_left (by decide))
  · exact c_most_2_2 sk (hF.resolve_left (by decide))
  · exact c_most_3_0 sk (hF.resolve_left (by decide))
  · exact c_most_3_1 sk (hF.resolve_left (by decide))
  · exact c_most_3_2 sk (hF.resolve_left (by decide))
  · exact c_most_4_0 sk (hF.resolve_left (by decide))
  · exact c_most_4_1 sk (hF.resolve_left (by decide))
  · exact c_most_4_2 sk (hF.resolve_left (by decide))
  · exact c_most_5_0 sk (hF.resolve_left (by decide))
  · exact c_most_5_1 sk (hF.resolve_left (by decide))
  · exact c_most_5_2 sk (hF.resolve_left (by decide))
set_option maxRecDepth 20000 in
theorem c_X2_room (sk : Nat → Nat) {rh rt rf rn len fc : Nat} {fa fp ai : Int32} {pt hm sn : Bool} {fb : Nat → Int32} (hlen : len ≤ 400) : Ct sk yX2_room cX2_room 1 (some .int) 0 0 0 [oReader rh rt rf rn (nI len) ai fa fp (nI fc) pt hm sn, cB rt 400 fb] [.ref rh] (zD (some (.int (nI (400 - len)))) [oReader rh rt rf rn (nI len) ai fa fp (nI fc) pt hm sn, cB rt 400 fb]) := by
  refine Ct.of (own := RX2) (l := [some (.ref rh)]) (by decide) rfl (Nat.le_of_ble_eq_true rfl) rfl ?_
  refine g_aload_n dX2_room_0 rfl rfl ?_
  refine g_get f_X2_9 dX2_room_1 rfl 0 rfl rfl ?_
  refine g_alen dX2_room_4 rfl 1 rfl (Nat.le_of_ble_eq_true rfl) rfl ?_
  refine g_aload_n dX2_room_5 rfl rfl ?_
  refine g_get f_X2_27 dX2_room_6 rfl 0 rfl rfl ?_
  refine g_isub dX2_room_9 rfl (pk_sub (by omega)) ?_
  exact g_iret dX2_room_10 rfl (Nat.le_refl _) (Nat.le_refl _) (⟨rfl, rfl⟩)
set_option maxRecDepth 20000 in
theorem c_X2_empty (sk : Nat → Nat) {rh rt rf rn fc : Nat} {fa fp ai ln : Int32} {pt hm sn : Bool}  : Ct sk yX2_empty cX2_empty 1 none 0 0 0 [oReader rh rt rf rn ln ai fa fp (nI fc) pt hm sn] [.ref rh] (zD none [oReader rh rt rf rn (nI 0) ai fa fp (nI fc) pt hm sn]) := by
  refine Ct.of (own := RX2) (l := [some (.ref rh)]) (by decide) rfl (Nat.le_of_ble_eq_true rfl) rfl ?_
  refine g_aload_n dX2_empty_0 rfl rfl ?_
  refine g_iconst (v := nI 0) dX2_empty_1 rfl (by decide) ?_
  refine g_putI f_X2_27 dX2_empty_2 rfl 0 rfl (Nat.le_of_ble_eq_true rfl) rfl ?_
  dsimp only [List.set]
  exact g_vret dX2_empty_5 rfl (Nat.le_refl _) (Nat.le_refl _) (⟨rfl, rfl⟩)
set_option maxRecDepth 20000 in
theorem c_X2_fail (sk : Nat → Nat) {rh rt rf rn len p fc : Nat} {fp x y : Int32} {pt hm sn : Bool}  : Ct sk yX2_fail cX2_fail 3 none 0 0 0 [oReader rh rt rf rn (nI len) (nI p) (nI 0) fp (nI fc) pt hm sn] [.ref rh, .int x, .int y] (zD none [oReader rh rt rf rn (nI len) (nI p) x y (nI fc) pt hm sn]) := by
  refine Ct.of (own := RX2) (l := [some (.ref rh), some (.int x), some (.int y)]) (by decide) rfl (Nat.le_of_ble_eq_true rfl) rfl ?_
  refine g_aload_n dX2_fail_0 rfl rfl ?_
  refine g_get f_X2_41 dX2_fail_1 rfl 0 rfl rfl ?_
  refine g_if_ne (t := 17) dX2_fail_4 (by decide) rfl (fun h4 => ?_) (fun h4 => ?_)
  · exact absurd rfl h4
  · skip
    refine g_aload_n dX2_fail_7 rfl rfl ?_
    refine g_iload_n dX2_fail_8 rfl rfl ?_
    refine g_putI f_X2_41 dX2_fail_9 rfl 0 rfl (Nat.le_of_ble_eq_true rfl) rfl ?_
    dsimp only [List.set]
    refine g_aload_n dX2_fail_12 rfl rfl ?_
    refine g_iload_n dX2_fail_13 rfl rfl ?_
    refine g_putI f_X2_23 dX2_fail_14 rfl 0 rfl (Nat.le_of_ble_eq_true rfl) rfl ?_
    dsimp only [List.set]
    exact g_vret dX2_fail_17 rfl (Nat.le_refl _) (Nat.le_refl _) (⟨rfl, rfl⟩)
set_option maxRecDepth 20000 in
theorem c_X2_byteAt (sk : Nat → Nat) {rh rt rf rn len fc : Nat} {i : Nat} {ai fa fp : Int32} {pt hm sn : Bool} {tx : Nat → Nat} {fb : Nat → Int32} (hlen : len ≤ 400) (htx : ∀ j, j < len → fb j = (nI (tx j)).toInt8.toInt32 ∧ tx j < 256) (hi : i ≤ 400) : Ct sk yX2_byteAt cX2_byteAt 2 (some .int) 0 0 0 [oReader rh rt rf rn (nI len) ai fa fp (nI fc) pt hm sn, cB rt 400 fb] [.ref rh, .int (nI i)] (zD (some (.int (bN tx len i))) [oReader rh rt rf rn (nI len) ai fa fp (nI fc) pt hm sn, cB rt 400 fb]) := by
  refine Ct.of (own := RX2) (l := [some (.ref rh), some (.int (nI i))]) (by decide) rfl (Nat.le_of_ble_eq_true rfl) rfl ?_
  refine g_iload_n dX2_byteAt_0 rfl rfl ?_
  refine g_if_lt (t := 34) dX2_byteAt_1 (by decide) rfl (fun h1 => ?_) (fun h1 => ?_)
  · exact absurd h1 (nI_nlt0 (by omega))
  · skip
    refine g_iload_n dX2_byteAt_4 rfl rfl ?_
    refine g_aload_n dX2_byteAt_5 rfl rfl ?_
    refine g_get f_X2_27 dX2_byteAt_6 rfl 0 rfl rfl ?_
    refine g_icmp_geN (t := 34) dX2_byteAt_9 (by decide) rfl (by omega) (by omega) (fun h9 => ?_) (fun h9 => ?_)
    · skip
      refine g_iconst (v := -1) dX2_byteAt_34 rfl (by decide) ?_
      exact g_iret dX2_byteAt_35 rfl (Nat.le_refl _) (Nat.le_refl _) (⟨by rw [bN, if_neg (by omega)], rfl⟩)
    · skip
      refine g_iload_n dX2_byteAt_12 rfl rfl ?_
      refine g_aload_n dX2_byteAt_13 rfl rfl ?_
      refine g_get f_X2_9 dX2_byteAt_14 rfl 0 rfl rfl ?_
      refine g_alen dX2_byteAt_17 rfl 1 rfl (Nat.le_of_ble_eq_true rfl) rfl ?_
      refine g_icmp_geN (t := 34) dX2_byteAt_18 (by decide) rfl (by omega) (by omega) (fun h18 => ?_) (fun h18 => ?_)
      · exact absurd h18 (by omega)
      · skip
        refine g_aload_n dX2_byteAt_21 rfl rfl ?_
        refine g_get f_X2_9 dX2_byteAt_22 rfl 0 rfl rfl ?_
        refine g_iload_n dX2_byteAt_25 rfl rfl ?_
        refine g_baldN (v := (nI (tx i)).toInt8.toInt32) dX2_byteAt_26 rfl 1 rfl (by omega) (by decide) ((htx i h9).1) ?_
        refine g_sipush (v := nI 255) dX2_byteAt_27 rfl (by decide) ?_
        refine g_iand (v := nI (tx i)) dX2_byteAt_30 rfl (sc_kb (tx i) (htx i h9).2) ?_
        refine g_goto (q := 35) dX2_byteAt_31 (by decide) ?_
        exact g_iret dX2_byteAt_35 rfl (Nat.le_refl _) (Nat.le_refl _) (⟨by rw [bN, if_pos h9], rfl⟩)
set_option maxRecDepth 20000 in
theorem lp_X2_skipBlanks (sk : Nat → Nat) {rh rt rf rn len fc : Nat} {fa fp : Int32} {pt hm sn : Bool} {tx : Nat → Nat} {fb : Nat → Int32} {Ψ : PS} (hlen : len ≤ 400) (htx : ∀ j, j < len → fb j = (nI (tx j)).toInt8.toInt32 ∧ tx j < 256) : ∀ (n p : Nat), p ≤ len → len - p = n → Ψ none [oReader rh rt rf rn (nI len) (nI (runTo isB tx len p)) fa fp (nI fc) pt hm sn, cB rt 400 fb] → GG sk RX2 yX2_skipBlanks cX2_skipBlanks 1 none 1 0 0 Ψ 0 0 0 [some (.ref rh)] [] [oReader rh rt rf rn (nI len) (nI (p)) fa fp (nI fc) pt hm sn, cB rt 400 fb] := by
  intro n
  induction n with
  | zero =>
    intro p hp hn hΨ
    refine g_aload_n dX2_skipBlanks_0 rfl rfl ?_
    refine g_get f_X2_44 dX2_skipBlanks_1 rfl 0 rfl rfl ?_
    refine g_aload_n dX2_skipBlanks_4 rfl rfl ?_
    refine g_get f_X2_27 dX2_skipBlanks_5 rfl 0 rfl rfl ?_
    refine g_icmp_geN (t := 37) dX2_skipBlanks_8 (by decide) rfl (by omega) (by omega) (fun h8 => ?_) (fun h8 => ?_)
    · skip
      exact g_vret dX2_skipBlanks_37 rfl (Nat.le_refl _) (Nat.le_refl _) (by rw [runTo_end _ _ h8] at hΨ; exact hΨ)
    · exact absurd h8 (by omega)
  | succ n ih =>
    intro p hp hn hΨ
    refine g_aload_n dX2_skipBlanks_0 rfl rfl ?_
    refine g_get f_X2_44 dX2_skipBlanks_1 rfl 0 rfl rfl ?_
    refine g_aload_n dX2_skipBlanks_4 rfl rfl ?_
    refine g_get f_X2_27 dX2_skipBlanks_5 rfl 0 rfl rfl ?_
    refine g_icmp_geN (t := 37) dX2_skipBlanks_8 (by decide) rfl (by omega) (by omega) (fun h8 => ?_) (fun h8 => ?_)
    · exact absurd h8 (by omega)
    · skip
      refine g_aload_n dX2_skipBlanks_11 rfl rfl ?_
      refine g_aload_n dX2_skipBlanks_12 rfl rfl ?_
      refine g_get f_X2_44 dX2_skipBlanks_13 rfl 0 rfl rfl ?_
      refine g_callV (c_X2_byteAt sk hlen htx (by omega)) m_X2_109 a_X2_byteAt dX2_skipBlanks_16 rfl [0, 1] rfl rfl 0 rfl rfl rfl (by decide) (by decide) (by decide) (by decide) (Nat.le_of_ble_eq_true rfl) (fun r w hK => ?_)
      obtain ⟨rfl, rfl⟩ := hK
      refine ⟨rfl, ?_⟩
      dsimp only [puts, List.set, Option.toList, List.cons_append, List.nil_append, List.append_nil]
      rw [show bN tx len p = nI (tx p) from if_pos h8]
      refine g_bipush (v := nI 32) dX2_skipBlanks_19 rfl (by decide) ?_
      refine g_icmp_neN (t := 37) dX2_skipBlanks_21 (by decide) rfl (by have := (htx p h8).2; omega) (by omega) (fun h21 => ?_) (fun h21 => ?_)
      · skip
        exact g_vret dX2_skipBlanks_37 rfl (Nat.le_refl _) (Nat.le_refl _) (by rw [runTo_f h8 (decide_eq_false h21)] at hΨ; exact hΨ)
      · rw [runTo_t h8 (decide_eq_true h21)] at hΨ
        refine g_aload_n dX2_skipBlanks_24 rfl rfl ?_
        refine g_dup dX2_skipBlanks_25 rfl rfl ?_
        refine g_get f_X2_44 dX2_skipBlanks_26 rfl 0 rfl rfl ?_
        refine g_iconst (v := nI 1) dX2_skipBlanks_29 rfl (by decide) ?_
        refine g_iadd dX2_skipBlanks_30 rfl (nI_add _ _) ?_
        refine g_putI f_X2_44 dX2_skipBlanks_31 rfl 0 rfl (Nat.le_of_ble_eq_true rfl) rfl ?_
        dsimp only [List.set]
        refine g_goto (q := 0) dX2_skipBlanks_34 (by decide) ?_
        exact ih (p + 1) (by omega) (by omega) hΨ
theorem c_X2_skipBlanks (sk : Nat → Nat) {rh rt rf rn len p fc : Nat} {fa fp : Int32} {pt hm sn : Bool} {tx : Nat → Nat} {fb : Nat → Int32} (hlen : len ≤ 400) (htx : ∀ j, j < len → fb j = (nI (tx j)).toInt8.toInt32 ∧ tx j < 256) (hp : p ≤ len) : Ct sk yX2_skipBlanks cX2_skipBlanks 1 none 1 0 0 [oReader rh rt rf rn (nI len) (nI (p)) fa fp (nI fc) pt hm sn, cB rt 400 fb] [.ref rh] (zD none [oReader rh rt rf rn (nI len) (nI (runTo isB tx len p)) fa fp (nI fc) pt hm sn, cB rt 400 fb]) := by
  refine Ct.of (own := RX2) (l := [some (.ref rh)]) (by decide) rfl (Nat.le_of_ble_eq_true rfl) rfl ?_
  exact lp_X2_skipBlanks sk hlen htx (len - p) p hp rfl ⟨rfl, rfl⟩
set_option maxRecDepth 20000 in
theorem lp_X2_skipLetters (sk : Nat → Nat) {rh rt rf rn len fc : Nat} {fa fp : Int32} {pt hm sn : Bool} {tx : Nat → Nat} {fb : Nat → Int32} {Ψ : PS} (hlen : len ≤ 400) (htx : ∀ j, j < len → fb j = (nI (tx j)).toInt8.toInt32 ∧ tx j < 256) : ∀ (n p : Nat), p ≤ len → len - p = n → Ψ none [oReader rh rt rf rn (nI len) (nI (runTo isL tx len p)) fa fp (nI fc) pt hm sn, cB rt 400 fb] → GG sk RX2 yX2_skipLetters cX2_skipLetters 1 none 1 0 0 Ψ 0 0 0 [some (.ref rh)] [] [oReader rh rt rf rn (nI len) (nI (p)) fa fp (nI fc) pt hm sn, cB rt 400 fb] := by
  intro n
  induction n with
  | zero =>
    intro p hp hn hΨ
    refine g_aload_n dX2_skipLetters_0 rfl rfl ?_
    refine g_get f_X2_44 dX2_skipLetters_1 rfl 0 rfl rfl ?_
    refine g_aload_n dX2_skipLetters_4 rfl rfl ?_
    refine g_get f_X2_27 dX2_skipLetters_5 rfl 0 rfl rfl ?_
    refine g_icmp_geN (t := 38) dX2_skipLetters_8 (by decide) rfl (by omega) (by omega) (fun h8 => ?_) (fun h8 => ?_)
    · skip
      exact g_vret dX2_skipLetters_38 rfl (Nat.le_refl _) (Nat.le_refl _) (by rw [runTo_end _ _ h8] at hΨ; exact hΨ)
    · exact absurd h8 (by omega)
  | succ n ih =>
    intro p hp hn hΨ
    refine g_aload_n dX2_skipLetters_0 rfl rfl ?_
    refine g_get f_X2_44 dX2_skipLetters_1 rfl 0 rfl rfl ?_
    refine g_aload_n dX2_skipLetters_4 rfl rfl ?_
    refine g_get f_X2_27 dX2_skipLetters_5 rfl 0 rfl rfl ?_
    refine g_icmp_geN (t := 38) dX2_skipLetters_8 (by decide) rfl (by omega) (by omega) (fun h8 => ?_) (fun h8 => ?_)
    · exact absurd h8 (by omega)
    · skip
      refine g_aload_n dX2_skipLetters_11 rfl rfl ?_
      refine g_aload_n dX2_skipLetters_12 rfl rfl ?_
      refine g_get f_X2_44 dX2_skipLetters_13 rfl 0 rfl rfl ?_
      refine g_callV (c_X2_byteAt sk hlen htx (by omega)) m_X2_109 a_X2_byteAt dX2_skipLetters_16 rfl [0, 1] rfl rfl 0 rfl rfl rfl (by decide) (by decide) (by decide) (by decide) (Nat.le_of_ble_eq_true rfl) (fun r w hK => ?_)
      obtain ⟨rfl, rfl⟩ := hK
      refine ⟨rfl, ?_⟩
      dsimp only [puts, List.set, Option.toList, List.cons_append, List.nil_append, List.append_nil]
      rw [show bN tx len p = nI (tx p) from if_pos h8]
      refine g_callS (c_X2_isLetter sk (htx p h8).2) m_X2_162 a_X2_isLetter dX2_skipLetters_19 rfl [] rfl rfl rfl rfl (by decide) (by decide) (by decide) (by decide) (Nat.le_of_ble_eq_true rfl) (fun r w hK => ?_)
      obtain ⟨rfl, rfl⟩ := hK
      refine ⟨rfl, ?_⟩
      dsimp only [puts, List.set, Option.toList, List.cons_append, List.nil_append, List.append_nil]
      refine g_if_eqB (t := 38) dX2_skipLetters_22 (by decide) rfl (fun h22 => ?_) (fun h22 => ?_)
      · skip
        exact g_vret dX2_skipLetters_38 rfl (Nat.le_refl _) (Nat.le_refl _) (by rw [runTo_f h8 h22] at hΨ; exact hΨ)
      · rw [runTo_t h8 h22] at hΨ
        refine g_aload_n dX2_skipLetters_25 rfl rfl ?_
        refine g_dup dX2_skipLetters_26 rfl rfl ?_
        refine g_get f_X2_44 dX2_skipLetters_27 rfl 0 rfl rfl ?_
        refine g_iconst (v := nI 1) dX2_skipLetters_30 rfl (by decide) ?_
        refine g_iadd dX2_skipLetters_31 rfl (nI_add _ _) ?_
        refine g_putI f_X2_44 dX2_skipLetters_32 rfl 0 rfl (Nat.le_of_ble_eq_true rfl) rfl ?_
        dsimp only [List.set]
        refine g_goto (q := 0) dX2_skipLetters_35 (by decide) ?_
        exact ih (p + 1) (by omega) (by omega) hΨ
theorem c_X2_skipLetters (sk : Nat → Nat) {rh rt rf rn len p fc : Nat} {fa fp : Int32} {pt hm sn : Bool} {tx : Nat → Nat} {fb : Nat → Int32} (hlen : len ≤ 400) (htx : ∀ j, j < len → fb j = (nI (tx j)).toInt8.toInt32 ∧ tx j < 256) (hp : p ≤ len) : Ct sk yX2_skipLetters cX2_skipLetters 1 none 1 0 0 [oReader rh rt rf rn (nI len) (nI (p)) fa fp (nI fc) pt hm sn, cB rt 400 fb] [.ref rh] (zD none [oReader rh rt rf rn (nI len) (nI (runTo isL tx len p)) fa fp (nI fc) pt hm sn, cB rt 400 fb]) := by
  refine Ct.of (own := RX2) (l := [some (.ref rh)]) (by decide) rfl (Nat.le_of_ble_eq_true rfl) rfl ?_
  exact lp_X2_skipLetters sk hlen htx (len - p) p hp rfl ⟨rfl, rfl⟩
theorem fa_byte_low (x : Int32) : (x &&& 255).toInt8 = x.toInt8 := by
  apply Int8.toBitVec_inj.1
  apply BitVec.eq_of_getLsbD_eq
  intro i hi
  have h2 : (255 : Int32).toBitVec.getLsbD i = true := by
    have : ∀ j : Fin 8, (255 : Int32).toBitVec.getLsbD j.val = true := by decide +kernel
    exact this ⟨i, hi⟩
  have h4 : (x &&& 255).toBitVec.getLsbD i = x.toBitVec.getLsbD i := by
    show (x.toBitVec &&& (255 : Int32).toBitVec).getLsbD i = _
    rw [BitVec.getLsbD_and, h2, Bool.and_true]
  have h3 : i < 32 := by omega
  first
    | (show (((x &&& 255).toBitVec).signExtend 8).getLsbD i = (x.toBitVec.signExtend 8).getLsbD i; rw [BitVec.getLsbD_signExtend, BitVec.getLsbD_signExtend, if_pos h3, if_pos h3, h4])
    | (show (((x &&& 255).toBitVec).setWidth 8).getLsbD i = (x.toBitVec.setWidth 8).getLsbD i; rw [BitVec.getLsbD_setWidth, BitVec.getLsbD_setWidth, h4])
    | (simp [hi, h3, h4]; done)
/-- n bytes of a long behind the text, the highest first -/
def apF (b : Int64) : Nat → Nat → (Nat → Nat) → (Nat → Nat)
  | 0, _, tx => tx
  | n + 1, len, tx => apF b n (len + 1) (nup tx len ((b >>> ((nI (8 * n)).toInt64 &&& 63)).toInt32 &&& nI 255).toBitVec.toNat)
theorem byte_of (z : Int32) : z.toInt8.toInt32 = (nI (z &&& nI 255).toBitVec.toNat).toInt8.toInt32 ∧ (z &&& nI 255).toBitVec.toNat < 256 ∧ z.toInt8.toInt32.toInt8.toInt32 = z.toInt8.toInt32 := by
  obtain ⟨j, hj, e⟩ := pk_andE z (m := nI 255) 8 (by decide)
  have h2 : (z &&& nI 255).toBitVec.toNat = j := by rw [e]; exact pk_tn (by omega)
  rw [h2]
  refine ⟨?_, hj, congrArg Int8.toInt32 (by simp)⟩
  rw [← e]
  exact congrArg Int8.toInt32 (fa_byte_low z).symm
set_option maxRecDepth 20000 in
theorem lp_X2_append (sk : Nat → Nat) {rh rt rf rn fc len0 n0 : Nat} {ai fa fp : Int32} {pt hm sn : Bool} {b : Int64} {x1 : Int32} {tx0 : Nat → Nat} (h400 : len0 + n0 ≤ 400) : ∀ (m len : Nat) (fb : Nat → Int32) (tx : Nat → Nat), len + m = len0 + n0 → m ≤ 8 → apF b m len tx = apF b n0 len0 tx0 → (∀ j, j < len → fb j = (nI (tx j)).toInt8.toInt32 ∧ tx j < 256) → GG sk RX2 yX2_append cX2_append 5 (some .int) 0 0 0 (fun q w1 => q = some (.int (nI (len0 + n0))) ∧ ∃ fb2 : Nat → Int32, w1 = [oReader rh rt rf rn (nI (len0 + n0)) ai fa fp (nI fc) pt hm sn, cB rt 400 fb2] ∧ ∀ j, j < len0 + n0 → fb2 j = (nI (apF b n0 len0 tx0 j)).toInt8.toInt32 ∧ apF b n0 len0 tx0 j < 256) 0 0 5 [some (.ref rh), some (.int x1), some (.long b), none, some (.int (nI m + (-1)))] [] [oReader rh rt rf rn (nI len) ai fa fp (nI fc) pt hm sn, cB rt 400 fb] := by
  intro m
  induction m with
  | zero =>
    intro len fb tx hm hm8 hap hb
    have hl : len = len0 + n0 := by omega
    subst hl
    refine g_iload dX2_append_5 rfl rfl ?_
    refine g_if_lt (t := 56) dX2_append_7 (by decide) rfl (fun h7 => ?_) (fun h7 => ?_)
    · skip
      refine g_aload_n dX2_append_56 rfl rfl ?_
      refine g_get f_X2_27 dX2_append_57 rfl 0 rfl rfl ?_
      exact g_iret dX2_append_60 rfl (Nat.le_refl _) (Nat.le_refl _) (⟨rfl, fb, rfl, fun j hj => by rw [← hap]; exact hb j hj⟩)
    · exact absurd (show nI 0 + (-1) < 0 by decide) h7
  | succ m ih =>
    intro len fb tx hm hm8 hap hb
    rw [pk_m1]
    have hz := byte_of (b >>> ((nI (8 * m)).toInt64 &&& 63)).toInt32
    refine g_iload dX2_append_5 rfl rfl ?_
    refine g_if_lt (t := 56) dX2_append_7 (by decide) rfl (fun h7 => ?_) (fun h7 => ?_)
    · exact absurd h7 (nI_nlt0 (by omega))
    · skip
      refine g_aload_n dX2_append_10 rfl rfl ?_
      refine g_get f_X2_27 dX2_append_11 rfl 0 rfl rfl ?_
      refine g_aload_n dX2_append_14 rfl rfl ?_
      refine g_get f_X2_9 dX2_append_15 rfl 0 rfl rfl ?_
      refine g_alen dX2_append_18 rfl 1 rfl (Nat.le_of_ble_eq_true rfl) rfl ?_
      refine g_icmp_geN (t := 56) dX2_append_19 (by decide) rfl (by omega) (by omega) (fun h19 => ?_) (fun h19 => ?_)
      · exact absurd h19 (by omega)
      · skip
        refine g_aload_n dX2_append_22 rfl rfl ?_
        refine g_get f_X2_9 dX2_append_23 rfl 0 rfl rfl ?_
        refine g_aload_n dX2_append_26 rfl rfl ?_
        refine g_get f_X2_27 dX2_append_27 rfl 0 rfl rfl ?_
        refine g_lload_n dX2_append_30 rfl rfl ?_
        refine g_bipush (v := nI 8) dX2_append_31 rfl (by decide) ?_
        refine g_iload dX2_append_33 rfl rfl ?_
        refine g_imul dX2_append_35 rfl (pk_mul _ _) ?_
        refine g_lshr dX2_append_36 rfl rfl ?_
        refine g_l2i dX2_append_37 rfl rfl ?_
        refine g_i2b dX2_append_38 rfl rfl ?_
        refine g_bastN dX2_append_39 rfl 1 rfl (by omega) (by decide) (rfl) rfl ?_
        refine g_aload_n dX2_append_40 rfl rfl ?_
        refine g_dup dX2_append_41 rfl rfl ?_
        refine g_get f_X2_27 dX2_append_42 rfl 0 rfl rfl ?_
        refine g_iconst (v := nI 1) dX2_append_45 rfl (by decide) ?_
        refine g_iadd dX2_append_46 rfl (nI_add _ _) ?_
        refine g_putI f_X2_27 dX2_append_47 rfl 0 rfl (Nat.le_of_ble_eq_true rfl) rfl ?_
        dsimp only [List.set]
        refine g_iinc dX2_append_50 rfl rfl (rfl) (by decide) rfl rfl ?_
        refine g_goto (q := 5) dX2_append_53 (by decide) ?_
        exact ih (len + 1) _ (nup tx len _) (by omega) (by omega) hap (fun j hj => by
          by_cases e : j = len
          · subst e; rw [nup_s]; exact ⟨(if_pos rfl).trans (hz.2.2.trans hz.1), hz.2.1⟩
          · rw [nup_n _ e]; exact ⟨(if_neg e).trans (hb j (by omega)).1, (hb j (by omega)).2⟩)
set_option maxRecDepth 20000 in
theorem c_X2_append (sk : Nat → Nat) {rh rt rf rn fc len0 n0 : Nat} {ai fa fp : Int32} {pt hm sn : Bool} {b : Int64} {tx0 : Nat → Nat} {fb : Nat → Int32} (h400 : len0 + n0 ≤ 400) (hn8 : n0 ≤ 8) (hb : ∀ j, j < len0 → fb j = (nI (tx0 j)).toInt8.toInt32 ∧ tx0 j < 256) : Ct sk yX2_append cX2_append 5 (some .int) 0 0 0 [oReader rh rt rf rn (nI len0) ai fa fp (nI fc) pt hm sn, cB rt 400 fb] [.ref rh, .int (nI n0), .long b] (fun q w1 => q = some (.int (nI (len0 + n0))) ∧ ∃ fb2 : Nat → Int32, w1 = [oReader rh rt rf rn (nI (len0 + n0)) ai fa fp (nI fc) pt hm sn, cB rt 400 fb2] ∧ ∀ j, j < len0 + n0 → fb2 j = (nI (apF b n0 len0 tx0 j)).toInt8.toInt32 ∧ apF b n0 len0 tx0 j < 256) := by
  refine Ct.of (own := RX2) (l := [some (.ref rh), some (.int (nI n0)), some (.long b), none, none]) (by decide) rfl (Nat.le_of_ble_eq_true rfl) rfl ?_
  refine g_iload_n dX2_append_0 rfl rfl ?_
  refine g_iconst (v := nI 1) dX2_append_1 rfl (by decide) ?_
  refine g_isub (v := nI n0 + (-1)) dX2_append_2 rfl (sub1_m1 n0) ?_
  refine g_istore dX2_append_3 rfl (by decide) rfl rfl ?_
  exact lp_X2_append sk h400 n0 len0 fb tx0 rfl hn8 rfl hb
def fzS (i : Nat) (f : Nat → Int32) : Nat → Int32 := fun j => if j < i then zb false else f j
theorem fzS_up (i : Nat) (f : Nat → Int32) : upd (fzS i f) i (zb false) = fzS (i + 1) f := by
  funext j
  unfold upd fzS
  by_cases h : j = i
  · subst h; simp
  · by_cases h2 : j < i
    · simp [h, h2, show j < i + 1 by omega]
    · simp [h, h2, show ¬ j < i + 1 by omega]
set_option maxRecDepth 20000 in
theorem lp_X2_start (sk : Nat → Nat) {rh rt rf rn : Nat} {ln : Int32} {ff : Nat → Int32} {Ψ : PS} (hΨ : Ψ none [oReader rh rt rf rn ln (nI 0) (nI 0) (-1) (nI 0) false false false, cZ rf 30 (fun _ => zb false)]) : ∀ (n i : Nat), i + n = 30 → GG sk RX2 yX2_start cX2_start 2 none 0 0 0 Ψ 0 0 37 [some (.ref rh), some (.int (nI i))] [] [oReader rh rt rf rn ln (nI 0) (nI 0) (-1) (nI 0) false false false, cZ rf 30 (fzS i ff)] := by
  intro n
  induction n with
  | zero =>
    intro i hi
    refine g_iload_n dX2_start_37 rfl rfl ?_
    refine g_aload_n dX2_start_38 rfl rfl ?_
    refine g_get f_X2_15 dX2_start_39 rfl 0 rfl rfl ?_
    refine g_alen dX2_start_42 rfl 1 rfl (Nat.le_of_ble_eq_true rfl) rfl ?_
    refine g_icmp_geN (t := 59) dX2_start_43 (by decide) rfl (by omega) (by omega) (fun h43 => ?_) (fun h43 => ?_)
    · skip
      refine g_cong (g := fun _ => zb false) 1 rfl (fun j hj => if_pos (by omega)) rfl ?_
      exact g_vret dX2_start_59 rfl (Nat.le_refl _) (Nat.le_refl _) hΨ
    · exact absurd h43 (by omega)
  | succ n ih =>
    intro i hi
    refine g_iload_n dX2_start_37 rfl rfl ?_
    refine g_aload_n dX2_start_38 rfl rfl ?_
    refine g_get f_X2_15 dX2_start_39 rfl 0 rfl rfl ?_
    refine g_alen dX2_start_42 rfl 1 rfl (Nat.le_of_ble_eq_true rfl) rfl ?_
    refine g_icmp_geN (t := 59) dX2_start_43 (by decide) rfl (by omega) (by omega) (fun h43 => ?_) (fun h43 => ?_)
    · exact absurd h43 (by omega)
    · skip
      refine g_aload_n dX2_start_46 rfl rfl ?_
      refine g_get f_X2_15 dX2_start_47 rfl 0 rfl rfl ?_
      refine g_iload_n dX2_start_50 rfl rfl ?_
      refine g_iconst (v := nI 0) dX2_start_51 rfl (by decide) ?_
      refine g_zastN (b := false) dX2_start_52 rfl 1 rfl (by omega) (by decide) (fzS_up i ff) rfl ?_
      refine g_iinc dX2_start_53 rfl rfl (nI_1 _) (by decide) rfl rfl ?_
      refine g_goto (q := 37) dX2_start_56 (by decide) ?_
      exact ih (i + 1) (by omega)
set_option maxRecDepth 20000 in
theorem c_X2_start (sk : Nat → Nat) {rh rt rf rn : Nat} {ln ai fa fp ci : Int32} {pt hm sn : Bool} {ff : Nat → Int32}  : Ct sk yX2_start cX2_start 2 none 0 0 0 [oReader rh rt rf rn ln ai fa fp ci pt hm sn, cZ rf 30 ff] [.ref rh] (zD none [oReader rh rt rf rn ln (nI 0) (nI 0) (-1) (nI 0) false false false, cZ rf 30 (fun _ => zb false)]) := by
  refine Ct.of (own := RX2) (l := [some (.ref rh), none]) (by decide) rfl (Nat.le_of_ble_eq_true rfl) rfl ?_
  refine g_aload_n dX2_start_0 rfl rfl ?_
  refine g_iconst (v := nI 0) dX2_start_1 rfl (by decide) ?_
  refine g_putI f_X2_44 dX2_start_2 rfl 0 rfl (Nat.le_of_ble_eq_true rfl) rfl ?_
  dsimp only [List.set]
  refine g_aload_n dX2_start_5 rfl rfl ?_
  refine g_iconst (v := nI 0) dX2_start_6 rfl (by decide) ?_
  refine g_putI f_X2_41 dX2_start_7 rfl 0 rfl (Nat.le_of_ble_eq_true rfl) rfl ?_
  dsimp only [List.set]
  refine g_aload_n dX2_start_10 rfl rfl ?_
  refine g_iconst (v := -1) dX2_start_11 rfl (by decide) ?_
  refine g_putI f_X2_23 dX2_start_12 rfl 0 rfl (Nat.le_of_ble_eq_true rfl) rfl ?_
  dsimp only [List.set]
  refine g_aload_n dX2_start_15 rfl rfl ?_
  refine g_iconst (v := nI 0) dX2_start_16 rfl (by decide) ?_
  refine g_putI f_X2_51 dX2_start_17 rfl 0 rfl (Nat.le_of_ble_eq_true rfl) rfl ?_
  dsimp only [List.set]
  refine g_aload_n dX2_start_20 rfl rfl ?_
  refine g_iconst (v := nI 0) dX2_start_21 rfl (by decide) ?_
  refine g_putZ (b := false) f_X2_54 dX2_start_22 rfl 0 rfl (Nat.le_of_ble_eq_true rfl) rfl ?_
  dsimp only [List.set]
  refine g_aload_n dX2_start_25 rfl rfl ?_
  refine g_iconst (v := nI 0) dX2_start_26 rfl (by decide) ?_
  refine g_putZ (b := false) f_X2_58 dX2_start_27 rfl 0 rfl (Nat.le_of_ble_eq_true rfl) rfl ?_
  dsimp only [List.set]
  refine g_aload_n dX2_start_30 rfl rfl ?_
  refine g_iconst (v := nI 0) dX2_start_31 rfl (by decide) ?_
  refine g_putZ (b := false) f_X2_61 dX2_start_32 rfl 0 rfl (Nat.le_of_ble_eq_true rfl) rfl ?_
  dsimp only [List.set]
  refine g_iconst (v := nI 0) dX2_start_35 rfl (by decide) ?_
  refine g_istore_n dX2_start_36 rfl (by decide) rfl rfl ?_
  have h0 := lp_X2_start sk (rh := rh) (rt := rt) (rf := rf) (rn := rn) (ln := ln) (ff := ff) (Ψ := zD none [oReader rh rt rf rn ln (nI 0) (nI 0) (-1) (nI 0) false false false, cZ rf 30 (fun _ => zb false)]) ⟨rfl, rfl⟩ 30 0 (by omega)
  rw [show fzS 0 ff = ff from funext (fun j => if_neg (Nat.not_lt_zero j))] at h0
  exact h0
