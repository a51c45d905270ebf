/-! Reader of the class: words, numbers, clauses -/
set_option maxRecDepth 20000 in
theorem c_X2_isFootTold (sk : Nat → Nat) {rh rt rf rn i fc : Nat} {ln ai fa fp : Int32} {pt hm sn : Bool} {fF : Nat → Int32} {ft : Nat → Bool} (hi : i < 30) (hft : fF i = zb (ft i)) : Ct sk yX2_isFootTold cX2_isFootTold 2 (some .boolean) 0 0 0 [oReader rh rt rf rn ln ai fa fp (nI fc) pt hm sn, cZ rf 30 fF] [.ref rh, .int (nI i)] (zD (some (.int (zb (ft i)))) [oReader rh rt rf rn ln ai fa fp (nI fc) pt hm sn, cZ rf 30 fF]) := by
  refine Ct.of (own := RX2) (l := [some (.ref rh), some (.int (nI i))]) (by decide) rfl (Nat.le_of_ble_eq_true rfl) rfl ?_
  refine g_iload_n dX2_isFootTold_0 rfl rfl ?_
  refine g_if_lt (t := 26) dX2_isFootTold_1 (by decide) rfl (fun h1 => ?_) (fun h1 => ?_)
  · exact absurd h1 (nI_nlt0 (by omega))
  · skip
    refine g_iload_n dX2_isFootTold_4 rfl rfl ?_
    refine g_aload_n dX2_isFootTold_5 rfl rfl ?_
    refine g_get f_X2_15 dX2_isFootTold_6 rfl 0 rfl rfl ?_
    refine g_alen dX2_isFootTold_9 rfl 1 rfl (Nat.le_of_ble_eq_true rfl) rfl ?_
    refine g_icmp_geN (t := 26) dX2_isFootTold_10 (by decide) rfl (by omega) (by omega) (fun h10 => ?_) (fun h10 => ?_)
    · exact absurd h10 (by omega)
    · skip
      refine g_aload_n dX2_isFootTold_13 rfl rfl ?_
      refine g_get f_X2_15 dX2_isFootTold_14 rfl 0 rfl rfl ?_
      refine g_iload_n dX2_isFootTold_17 rfl rfl ?_
      refine g_zaldN (v := zb (ft i)) dX2_isFootTold_18 rfl 1 rfl (by omega) (by decide) (hft) ?_
      refine g_if_eqB (t := 26) dX2_isFootTold_19 (by decide) rfl (fun h19 => ?_) (fun h19 => ?_)
      · skip
        refine g_iconst (v := nI 0) dX2_isFootTold_26 rfl (by decide) ?_
        exact g_zret (b := false) dX2_isFootTold_27 rfl (Nat.le_refl _) (Nat.le_refl _) (⟨by rw [h19], rfl⟩)
      · skip
        refine g_iconst (v := nI 1) dX2_isFootTold_22 rfl (by decide) ?_
        refine g_goto (q := 27) dX2_isFootTold_23 (by decide) ?_
        exact g_zret (b := true) dX2_isFootTold_27 rfl (Nat.le_refl _) (Nat.le_refl _) (⟨by rw [h19], rfl⟩)
set_option maxRecDepth 20000 in
theorem lp_X2_isWord (sk : Nat → Nat) {rh rt rf rn len fr to i fc : Nat} {ai fa fp : Int32} {pt hm sn : Bool} {tx : Nat → Nat} {fb : Nat → Int32} {Ψ : PS} (hlen : len ≤ 400) (htx : ∀ j, j < len → fb j = (nI (tx j)).toInt8.toInt32 ∧ tx j < 256) (hi : i < 5) (hl : zLen.getD i 0 < 10) (hto : to ≤ len) (hfr : fr + zLen.getD i 0 = to) : ∀ (n j : Nat), j + n = zLen.getD i 0 → Ψ (some (.int (zb (wmR i tx fr n j)))) [oReader rh rt rf rn (nI len) ai fa fp (nI fc) pt hm sn, cB rt 400 fb] → GG sk RX2 yX2_isWord cX2_isWord 5 (some .boolean) 5 0 0 Ψ 0 0 15 [some (.ref rh), some (.ref (sk i)), some (.int (nI fr)), some (.int (nI to)), some (.int (nI j))] [] [oReader rh rt rf rn (nI len) ai fa fp (nI fc) pt hm sn, cB rt 400 fb] := by
  intro n
  induction n with
  | zero =>
    intro j hj hΨ
    refine g_iload dX2_isWord_15 rfl rfl ?_
    refine g_aload_n dX2_isWord_17 rfl rfl ?_
    refine g_callW (As := []) hi (c_length sk hi) s_X2_104 a_J0_length_8abf5 dX2_isWord_18 rfl rfl rfl (by decide) (by decide) (by decide) (by decide) (Nat.le_of_ble_eq_true rfl) (fun r w hK => ?_)
    obtain ⟨rfl, rfl⟩ := hK
    refine ⟨rfl, ?_⟩
    dsimp only [puts, List.set, Option.toList, List.cons_append, List.nil_append, List.append_nil]
    refine g_icmp_geN (t := 49) dX2_isWord_21 (by decide) rfl (by omega) (by omega) (fun h21 => ?_) (fun h21 => ?_)
    · skip
      refine g_iconst (v := nI 1) dX2_isWord_49 rfl (by decide) ?_
      exact g_zret (b := true) dX2_isWord_50 rfl (Nat.le_refl _) (Nat.le_refl _) (hΨ)
    · exact absurd h21 (by omega)
  | succ n ih =>
    intro j hj hΨ
    refine g_iload dX2_isWord_15 rfl rfl ?_
    refine g_aload_n dX2_isWord_17 rfl rfl ?_
    refine g_callW (As := []) hi (c_length sk hi) s_X2_104 a_J0_length_8abf5 dX2_isWord_18 rfl rfl rfl (by decide) (by decide) (by decide) (by decide) (Nat.le_of_ble_eq_true rfl) (fun r w hK => ?_)
    obtain ⟨rfl, rfl⟩ := hK
    refine ⟨rfl, ?_⟩
    dsimp only [puts, List.set, Option.toList, List.cons_append, List.nil_append, List.append_nil]
    refine g_icmp_geN (t := 49) dX2_isWord_21 (by decide) rfl (by omega) (by omega) (fun h21 => ?_) (fun h21 => ?_)
    · exact absurd h21 (by omega)
    · skip
      refine g_aload_n dX2_isWord_24 rfl rfl ?_
      refine g_iload_n dX2_isWord_25 rfl rfl ?_
      refine g_iload dX2_isWord_26 rfl rfl ?_
      refine g_iadd dX2_isWord_28 rfl (nI_add _ _) ?_
      refine g_callV (c_X2_byteAt sk hlen htx (by omega)) m_X2_109 a_X2_byteAt dX2_isWord_29 rfl [0, 1] rfl rfl 0 rfl rfl rfl (by decide) (by decide) (by decide) (by decide) (Nat.le_of_ble_eq_true rfl) (fun r w hK => ?_)
      obtain ⟨rfl, rfl⟩ := hK
      refine ⟨rfl, ?_⟩
      dsimp only [puts, List.set, Option.toList, List.cons_append, List.nil_append, List.append_nil]
      rw [show bN tx len (fr + j) = nI (tx (fr + j)) from if_pos (by omega)]
      refine g_aload_n dX2_isWord_32 rfl rfl ?_
      refine g_iload dX2_isWord_33 rfl rfl ?_
      refine g_callW (As := [.int (nI j)]) hi (c_charAt sk hi (show j < zLen.getD i 0 by omega)) s_X2_113 a_J0_charAt_5068e dX2_isWord_35 rfl rfl rfl (by decide) (by decide) (by decide) (by decide) (Nat.le_of_ble_eq_true rfl) (fun r w hK => ?_)
      obtain ⟨rfl, rfl⟩ := hK
      refine ⟨rfl, ?_⟩
      dsimp only [puts, List.set, Option.toList, List.cons_append, List.nil_append, List.append_nil]
      refine g_icmp_eq (t := 43) dX2_isWord_38 (by decide) rfl (fun h38 => ?_) (fun h38 => ?_)
      · rw [wmR, decide_eq_true h38, Bool.true_and] at hΨ
        refine g_iinc dX2_isWord_43 rfl rfl (nI_1 _) (by decide) rfl rfl ?_
        refine g_goto (q := 15) dX2_isWord_46 (by decide) ?_
        exact ih (j + 1) (by omega) hΨ
      · rw [wmR, decide_eq_false h38] at hΨ
        refine g_iconst (v := nI 0) dX2_isWord_41 rfl (by decide) ?_
        exact g_zret (b := false) dX2_isWord_42 rfl (Nat.le_refl _) (Nat.le_refl _) (hΨ)
set_option maxRecDepth 20000 in
theorem c_X2_isWord (sk : Nat → Nat) {rh rt rf rn len fr to i fc : Nat} {ai fa fp : Int32} {pt hm sn : Bool} {tx : Nat → Nat} {fb : Nat → Int32} (hlen : len ≤ 400) (htx : ∀ j, j < len → fb j = (nI (tx j)).toInt8.toInt32 ∧ tx j < 256) (hi : i < 5) (hft : fr ≤ to) (hto : to ≤ len) : Ct sk yX2_isWord cX2_isWord 5 (some .boolean) 5 0 0 [oReader rh rt rf rn (nI len) ai fa fp (nI fc) pt hm sn, cB rt 400 fb] [.ref rh, .ref (sk i), .int (nI fr), .int (nI to)] (zD (some (.int (zb (isW i tx fr to)))) [oReader rh rt rf rn (nI len) ai fa fp (nI fc) pt hm sn, cB rt 400 fb]) := by
  have hl : zLen.getD i 0 < 10 := by
    rcases (show i = 0 ∨ i = 1 ∨ i = 2 ∨ i = 3 ∨ i = 4 by omega) with rfl | rfl | rfl | rfl | rfl <;> decide
  refine Ct.of (own := RX2) (l := [some (.ref rh), some (.ref (sk i)), some (.int (nI fr)), some (.int (nI to)), none]) (by decide) rfl (Nat.le_of_ble_eq_true rfl) rfl ?_
  refine g_iload_n dX2_isWord_0 rfl rfl ?_
  refine g_iload_n dX2_isWord_1 rfl rfl ?_
  refine g_isub dX2_isWord_2 rfl (pk_sub hft) ?_
  refine g_aload_n dX2_isWord_3 rfl rfl ?_
  refine g_callW (As := []) hi (c_length sk hi) s_X2_104 a_J0_length_8abf5 dX2_isWord_4 rfl rfl rfl (by decide) (by decide) (by decide) (by decide) (Nat.le_of_ble_eq_true rfl) (fun r w hK => ?_)
  obtain ⟨rfl, rfl⟩ := hK
  refine ⟨rfl, ?_⟩
  dsimp only [puts, List.set, Option.toList, List.cons_append, List.nil_append, List.append_nil]
  refine g_icmp_eqN (t := 12) dX2_isWord_7 (by decide) rfl (by omega) (by omega) (fun h7 => ?_) (fun h7 => ?_)
  · have hw : isW i tx fr to = wmR i tx fr (zLen.getD i 0) 0 := by unfold isW; rw [decide_eq_true h7, Bool.true_and]
    refine g_iconst (v := nI 0) dX2_isWord_12 rfl (by decide) ?_
    refine g_istore dX2_isWord_13 rfl (by decide) rfl rfl ?_
    exact lp_X2_isWord sk hlen htx hi hl hto (by omega) (zLen.getD i 0) 0 (by omega) ⟨by rw [hw], rfl⟩
  · have hw : isW i tx fr to = false := by unfold isW; rw [decide_eq_false h7, Bool.false_and]
    refine g_iconst (v := nI 0) dX2_isWord_10 rfl (by decide) ?_
    exact g_zret (b := false) dX2_isWord_11 rfl (Nat.le_refl _) (Nat.le_refl _) (⟨by rw [hw], rfl⟩)
set_option maxRecDepth 20000 in
theorem c_X2_kindOf (sk : Nat → Nat) {rh rt rf rn len fr to fc : Nat} {ai fa fp : Int32} {pt hm sn : Bool} {tx : Nat → Nat} {fb : Nat → Int32} (hlen : len ≤ 400) (htx : ∀ j, j < len → fb j = (nI (tx j)).toInt8.toInt32 ∧ tx j < 256) (hft : fr ≤ to) (hto : to ≤ len) : Ct sk yX2_kindOf cX2_kindOf 3 (some .int) 6 0 0 [oReader rh rt rf rn (nI len) ai fa fp (nI fc) pt hm sn, cB rt 400 fb] [.ref rh, .int (nI fr), .int (nI to)] (zD (some (.int (nI (kindN tx fr to)))) [oReader rh rt rf rn (nI len) ai fa fp (nI fc) pt hm sn, cB rt 400 fb]) := by
  refine Ct.of (own := RX2) (l := [some (.ref rh), some (.int (nI fr)), some (.int (nI to))]) (by decide) rfl (Nat.le_of_ble_eq_true rfl) rfl ?_
  refine g_aload_n dX2_kindOf_0 rfl rfl ?_
  refine g_ldcS (i := 0) (by decide) rfl rfl dX2_kindOf_1 rfl ?_
  refine g_iload_n dX2_kindOf_3 rfl rfl ?_
  refine g_iload_n dX2_kindOf_4 rfl rfl ?_
  refine g_callV (c_X2_isWord sk (i := 0) hlen htx (by decide) hft hto) m_X2_92 a_X2_isWord dX2_kindOf_5 rfl [0, 1] rfl rfl 0 rfl rfl rfl (by decide) (by decide) (by decide) (by decide) (Nat.le_of_ble_eq_true rfl) (fun r w hK => ?_)
  obtain ⟨rfl, rfl⟩ := hK
  refine ⟨rfl, ?_⟩
  dsimp only [puts, List.set, Option.toList, List.cons_append, List.nil_append, List.append_nil]
  refine g_if_eqB (t := 13) dX2_kindOf_8 (by decide) rfl (fun h0 => ?_) (fun h0 => ?_)
  rotate_left
  · have hk : kindN tx fr to = 1 := by unfold kindN; rw [if_pos h0]
    refine g_iconst (v := nI 1) dX2_kindOf_11 rfl (by decide) ?_
    exact g_iret dX2_kindOf_12 rfl (Nat.le_refl _) (Nat.le_refl _) ⟨by rw [hk], rfl⟩
  refine g_aload_n dX2_kindOf_13 rfl rfl ?_
  refine g_ldcS (i := 1) (by decide) rfl rfl dX2_kindOf_14 rfl ?_
  refine g_iload_n dX2_kindOf_16 rfl rfl ?_
  refine g_iload_n dX2_kindOf_17 rfl rfl ?_
  refine g_callV (c_X2_isWord sk (i := 1) hlen htx (by decide) hft hto) m_X2_92 a_X2_isWord dX2_kindOf_18 rfl [0, 1] rfl rfl 0 rfl rfl rfl (by decide) (by decide) (by decide) (by decide) (Nat.le_of_ble_eq_true rfl) (fun r w hK => ?_)
  obtain ⟨rfl, rfl⟩ := hK
  refine ⟨rfl, ?_⟩
  dsimp only [puts, List.set, Option.toList, List.cons_append, List.nil_append, List.append_nil]
  refine g_if_eqB (t := 26) dX2_kindOf_21 (by decide) rfl (fun h1 => ?_) (fun h1 => ?_)
  rotate_left
  · have hk : kindN tx fr to = 2 := by unfold kindN; rw [if_neg (by rw [h0]; decide), if_pos h1]
    refine g_iconst (v := nI 2) dX2_kindOf_24 rfl (by decide) ?_
    exact g_iret dX2_kindOf_25 rfl (Nat.le_refl _) (Nat.le_refl _) ⟨by rw [hk], rfl⟩
  refine g_aload_n dX2_kindOf_26 rfl rfl ?_
  refine g_ldcS (i := 2) (by decide) rfl rfl dX2_kindOf_27 rfl ?_
  refine g_iload_n dX2_kindOf_29 rfl rfl ?_
  refine g_iload_n dX2_kindOf_30 rfl rfl ?_
  refine g_callV (c_X2_isWord sk (i := 2) hlen htx (by decide) hft hto) m_X2_92 a_X2_isWord dX2_kindOf_31 rfl [0, 1] rfl rfl 0 rfl rfl rfl (by decide) (by decide) (by decide) (by decide) (Nat.le_of_ble_eq_true rfl) (fun r w hK => ?_)
  obtain ⟨rfl, rfl⟩ := hK
  refine ⟨rfl, ?_⟩
  dsimp only [puts, List.set, Option.toList, List.cons_append, List.nil_append, List.append_nil]
  refine g_if_eqB (t := 39) dX2_kindOf_34 (by decide) rfl (fun h2 => ?_) (fun h2 => ?_)
  rotate_left
  · have hk : kindN tx fr to = 3 := by unfold kindN; rw [if_neg (by rw [h0]; decide), if_neg (by rw [h1]; decide), if_pos h2]
    refine g_iconst (v := nI 3) dX2_kindOf_37 rfl (by decide) ?_
    exact g_iret dX2_kindOf_38 rfl (Nat.le_refl _) (Nat.le_refl _) ⟨by rw [hk], rfl⟩
  refine g_aload_n dX2_kindOf_39 rfl rfl ?_
  refine g_ldcS (i := 3) (by decide) rfl rfl dX2_kindOf_40 rfl ?_
  refine g_iload_n dX2_kindOf_42 rfl rfl ?_
  refine g_iload_n dX2_kindOf_43 rfl rfl ?_
  refine g_callV (c_X2_isWord sk (i := 3) hlen htx (by decide) hft hto) m_X2_92 a_X2_isWord dX2_kindOf_44 rfl [0, 1] rfl rfl 0 rfl rfl rfl (by decide) (by decide) (by decide) (by decide) (Nat.le_of_ble_eq_true rfl) (fun r w hK => ?_)
  obtain ⟨rfl, rfl⟩ := hK
  refine ⟨rfl, ?_⟩
  dsimp only [puts, List.set, Option.toList, List.cons_append, List.nil_append, List.append_nil]
  refine g_if_eqB (t := 52) dX2_kindOf_47 (by decide) rfl (fun h3 => ?_) (fun h3 => ?_)
  rotate_left
  · have hk : kindN tx fr to = 4 := by unfold kindN; rw [if_neg (by rw [h0]; decide), if_neg (by rw [h1]; decide), if_neg (by rw [h2]; decide), if_pos h3]
    refine g_iconst (v := nI 4) dX2_kindOf_50 rfl (by decide) ?_
    exact g_iret dX2_kindOf_51 rfl (Nat.le_refl _) (Nat.le_refl _) ⟨by rw [hk], rfl⟩
  refine g_aload_n dX2_kindOf_52 rfl rfl ?_
  refine g_ldcS (i := 4) (by decide) rfl rfl dX2_kindOf_53 rfl ?_
  refine g_iload_n dX2_kindOf_55 rfl rfl ?_
  refine g_iload_n dX2_kindOf_56 rfl rfl ?_
  refine g_callV (c_X2_isWord sk (i := 4) hlen htx (by decide) hft hto) m_X2_92 a_X2_isWord dX2_kindOf_57 rfl [0, 1] rfl rfl 0 rfl rfl rfl (by decide) (by decide) (by decide) (by decide) (Nat.le_of_ble_eq_true rfl) (fun r w hK => ?_)
  obtain ⟨rfl, rfl⟩ := hK
  refine ⟨rfl, ?_⟩
  dsimp only [puts, List.set, Option.toList, List.cons_append, List.nil_append, List.append_nil]
  refine g_if_eqB (t := 67) dX2_kindOf_60 (by decide) rfl (fun h4 => ?_) (fun h4 => ?_)
  · have hk : kindN tx fr to = 0 := by unfold kindN; rw [if_neg (by rw [h0]; decide), if_neg (by rw [h1]; decide), if_neg (by rw [h2]; decide), if_neg (by rw [h3]; decide), if_neg (by rw [h4]; decide)]
    refine g_iconst (v := nI 0) dX2_kindOf_67 rfl (by decide) ?_
    exact g_iret dX2_kindOf_68 rfl (Nat.le_refl _) (Nat.le_refl _) ⟨by rw [hk], rfl⟩
  · have hk : kindN tx fr to = 5 := by unfold kindN; rw [if_neg (by rw [h0]; decide), if_neg (by rw [h1]; decide), if_neg (by rw [h2]; decide), if_neg (by rw [h3]; decide), if_pos h4]
    refine g_iconst (v := nI 5) dX2_kindOf_63 rfl (by decide) ?_
    refine g_goto (q := 68) dX2_kindOf_64 (by decide) ?_
    exact g_iret dX2_kindOf_68 rfl (Nat.le_refl _) (Nat.le_refl _) ⟨by rw [hk], rfl⟩
set_option maxRecDepth 20000 in
theorem c_tooOften_1 (sk : Nat → Nat) {rh rt rf rn fc C pl ps pw pa pr : Nat} {ln ai fa fp F V E N S : Int32} {pt hm sn : Bool} (hfc : fc < 1000) (hC : C < 1000) : Ct sk yX2_isTooOften cX2_isTooOften 3 (some .boolean) 0 0 0 [oReader rh rt rf rn ln ai fa fp (nI fc) pt hm sn, oPlan pl ps pw pa pr F (nI C) V E N S] [.ref rh, .int (nI 1), .ref pl] (zD (some (.int (zb pt))) [oReader rh rt rf rn ln ai fa fp (nI fc) pt hm sn, oPlan pl ps pw pa pr F (nI C) V E N S]) := by
  refine Ct.of (own := RX2) (l := [some (.ref rh), some (.int (nI 1)), some (.ref pl)]) (by decide) rfl (Nat.le_of_ble_eq_true rfl) rfl ?_
  refine g_iload_n dX2_isTooOften_0 rfl rfl ?_
  skip
  · refine g_tblIn (q := 32) (off := 31) dX2_isTooOften_1 (by decide) (by decide) (by decide) (by decide) ?_
    refine g_aload_n dX2_isTooOften_32 rfl rfl ?_
    refine g_get f_X2_54 dX2_isTooOften_33 rfl 0 rfl rfl ?_
    exact g_zret dX2_isTooOften_36 rfl (Nat.le_refl _) (Nat.le_refl _) (⟨rfl, rfl⟩)
set_option maxRecDepth 20000 in
theorem c_tooOften_2 (sk : Nat → Nat) {rh rt rf rn fc C pl ps pw pa pr : Nat} {ln ai fa fp F V E N S : Int32} {pt hm sn : Bool} (hfc : fc < 1000) (hC : C < 1000) : Ct sk yX2_isTooOften cX2_isTooOften 3 (some .boolean) 0 0 0 [oReader rh rt rf rn ln ai fa fp (nI fc) pt hm sn, oPlan pl ps pw pa pr F (nI C) V E N S] [.ref rh, .int (nI 2), .ref pl] (zD (some (.int (zb (decide (20 ≤ fc))))) [oReader rh rt rf rn ln ai fa fp (nI fc) pt hm sn, oPlan pl ps pw pa pr F (nI C) V E N S]) := by
  refine Ct.of (own := RX2) (l := [some (.ref rh), some (.int (nI 2)), some (.ref pl)]) (by decide) rfl (Nat.le_of_ble_eq_true rfl) rfl ?_
  refine g_iload_n dX2_isTooOften_0 rfl rfl ?_
  skip
  · refine g_tblIn (q := 37) (off := 36) dX2_isTooOften_1 (by decide) (by decide) (by decide) (by decide) ?_
    refine g_aload_n dX2_isTooOften_37 rfl rfl ?_
    refine g_get f_X2_51 dX2_isTooOften_38 rfl 0 rfl rfl ?_
    refine g_bipush (v := nI 20) dX2_isTooOften_41 rfl (by decide) ?_
    refine g_icmp_ltN (t := 50) dX2_isTooOften_43 (by decide) rfl (by omega) (by omega) (fun h43 => ?_) (fun h43 => ?_)
    · skip
      refine g_iconst (v := nI 0) dX2_isTooOften_50 rfl (by decide) ?_
      exact g_zret (b := false) dX2_isTooOften_51 rfl (Nat.le_refl _) (Nat.le_refl _) (⟨by rw [decide_eq_false (show ¬ 20 ≤ fc by omega)], rfl⟩)
    · skip
      refine g_iconst (v := nI 1) dX2_isTooOften_46 rfl (by decide) ?_
      refine g_goto (q := 51) dX2_isTooOften_47 (by decide) ?_
      exact g_zret (b := true) dX2_isTooOften_51 rfl (Nat.le_refl _) (Nat.le_refl _) (⟨by rw [decide_eq_true (show 20 ≤ fc by omega)], rfl⟩)
set_option maxRecDepth 20000 in
theorem c_tooOften_3 (sk : Nat → Nat) {rh rt rf rn fc C pl ps pw pa pr : Nat} {ln ai fa fp F V E N S : Int32} {pt hm sn : Bool} (hfc : fc < 1000) (hC : C < 1000) : Ct sk yX2_isTooOften cX2_isTooOften 3 (some .boolean) 0 0 0 [oReader rh rt rf rn ln ai fa fp (nI fc) pt hm sn, oPlan pl ps pw pa pr F (nI C) V E N S] [.ref rh, .int (nI 3), .ref pl] (zD (some (.int (zb (decide (6 ≤ C))))) [oReader rh rt rf rn ln ai fa fp (nI fc) pt hm sn, oPlan pl ps pw pa pr F (nI C) V E N S]) := by
  refine Ct.of (own := RX2) (l := [some (.ref rh), some (.int (nI 3)), some (.ref pl)]) (by decide) rfl (Nat.le_of_ble_eq_true rfl) rfl ?_
  refine g_iload_n dX2_isTooOften_0 rfl rfl ?_
  skip
  · refine g_tblIn (q := 52) (off := 51) dX2_isTooOften_1 (by decide) (by decide) (by decide) (by decide) ?_
    refine g_aload_n dX2_isTooOften_52 rfl rfl ?_
    refine g_get f_X2_117 dX2_isTooOften_53 rfl 1 rfl rfl ?_
    refine g_bipush (v := nI 6) dX2_isTooOften_56 rfl (by decide) ?_
    refine g_icmp_ltN (t := 65) dX2_isTooOften_58 (by decide) rfl (by omega) (by omega) (fun h58 => ?_) (fun h58 => ?_)
    · skip
      refine g_iconst (v := nI 0) dX2_isTooOften_65 rfl (by decide) ?_
      exact g_zret (b := false) dX2_isTooOften_66 rfl (Nat.le_refl _) (Nat.le_refl _) (⟨by rw [decide_eq_false (show ¬ 6 ≤ C by omega)], rfl⟩)
    · skip
      refine g_iconst (v := nI 1) dX2_isTooOften_61 rfl (by decide) ?_
      refine g_goto (q := 66) dX2_isTooOften_62 (by decide) ?_
      exact g_zret (b := true) dX2_isTooOften_66 rfl (Nat.le_refl _) (Nat.le_refl _) (⟨by rw [decide_eq_true (show 6 ≤ C by omega)], rfl⟩)
set_option maxRecDepth 20000 in
theorem c_tooOften_4 (sk : Nat → Nat) {rh rt rf rn fc C pl ps pw pa pr : Nat} {ln ai fa fp F V E N S : Int32} {pt hm sn : Bool} (hfc : fc < 1000) (hC : C < 1000) : Ct sk yX2_isTooOften cX2_isTooOften 3 (some .boolean) 0 0 0 [oReader rh rt rf rn ln ai fa fp (nI fc) pt hm sn, oPlan pl ps pw pa pr F (nI C) V E N S] [.ref rh, .int (nI 4), .ref pl] (zD (some (.int (zb hm))) [oReader rh rt rf rn ln ai fa fp (nI fc) pt hm sn, oPlan pl ps pw pa pr F (nI C) V E N S]) := by
  refine Ct.of (own := RX2) (l := [some (.ref rh), some (.int (nI 4)), some (.ref pl)]) (by decide) rfl (Nat.le_of_ble_eq_true rfl) rfl ?_
  refine g_iload_n dX2_isTooOften_0 rfl rfl ?_
  skip
  · refine g_tblIn (q := 67) (off := 66) dX2_isTooOften_1 (by decide) (by decide) (by decide) (by decide) ?_
    refine g_aload_n dX2_isTooOften_67 rfl rfl ?_
    refine g_get f_X2_58 dX2_isTooOften_68 rfl 0 rfl rfl ?_
    exact g_zret dX2_isTooOften_71 rfl (Nat.le_refl _) (Nat.le_refl _) (⟨rfl, rfl⟩)
set_option maxRecDepth 20000 in
theorem c_tooOften_5 (sk : Nat → Nat) {rh rt rf rn fc C pl ps pw pa pr : Nat} {ln ai fa fp F V E N S : Int32} {pt hm sn : Bool} (hfc : fc < 1000) (hC : C < 1000) : Ct sk yX2_isTooOften cX2_isTooOften 3 (some .boolean) 0 0 0 [oReader rh rt rf rn ln ai fa fp (nI fc) pt hm sn, oPlan pl ps pw pa pr F (nI C) V E N S] [.ref rh, .int (nI 5), .ref pl] (zD (some (.int (zb sn))) [oReader rh rt rf rn ln ai fa fp (nI fc) pt hm sn, oPlan pl ps pw pa pr F (nI C) V E N S]) := by
  refine Ct.of (own := RX2) (l := [some (.ref rh), some (.int (nI 5)), some (.ref pl)]) (by decide) rfl (Nat.le_of_ble_eq_true rfl) rfl ?_
  refine g_iload_n dX2_isTooOften_0 rfl rfl ?_
  skip
  · refine g_tblOut (q := 72) dX2_isTooOften_1 (by decide) (by decide) ?_
    refine g_aload_n dX2_isTooOften_72 rfl rfl ?_
    refine g_get f_X2_61 dX2_isTooOften_73 rfl 0 rfl rfl ?_
    exact g_zret dX2_isTooOften_76 rfl (Nat.le_refl _) (Nat.le_refl _) (⟨rfl, rfl⟩)
