/-! Plan and Pole of the class -/
set_option maxRecDepth 20000 in
theorem c_X0_weightOf (sk : Nat → Nat) {hl ls hw ha hr c : Nat} {F C V E N S : Int32} {f : Nat → Nat} (hc : c < 6) : Ct sk yX0_weightOf cX0_weightOf 2 (some .int) 0 0 0 [oPlan hl ls hw ha hr F C V E N S, cI hw 6 (fI f)] [.ref hl, .int (nI c)] (zD (some (.int (nI (f c)))) [oPlan hl ls hw ha hr F C V E N S, cI hw 6 (fI f)]) := by
  refine Ct.of (own := RX0) (l := [some (.ref hl), some (.int (nI c))]) (by decide) rfl (Nat.le_of_ble_eq_true rfl) rfl ?_
  refine g_iload_n dX0_weightOf_0 rfl rfl ?_
  refine g_if_lt (t := 22) dX0_weightOf_1 (by decide) rfl (fun h1 => ?_) (fun h1 => ?_)
  · exact absurd h1 (nI_nlt0 (by omega))
  · skip
    refine g_iload_n dX0_weightOf_4 rfl rfl ?_
    refine g_aload_n dX0_weightOf_5 rfl rfl ?_
    refine g_get f_X0_15 dX0_weightOf_6 rfl 0 rfl rfl ?_
    refine g_alen dX0_weightOf_9 rfl 1 rfl (Nat.le_of_ble_eq_true rfl) rfl ?_
    refine g_icmp_geN (t := 22) dX0_weightOf_10 (by decide) rfl (by omega) (by omega) (fun h10 => ?_) (fun h10 => ?_)
    · exact absurd h10 (by omega)
    · skip
      refine g_aload_n dX0_weightOf_13 rfl rfl ?_
      refine g_get f_X0_15 dX0_weightOf_14 rfl 0 rfl rfl ?_
      refine g_iload_n dX0_weightOf_17 rfl rfl ?_
      refine g_ialdN (v := nI _) dX0_weightOf_18 rfl 1 rfl (by omega) (by decide) (rfl) ?_
      refine g_goto (q := 23) dX0_weightOf_19 (by decide) ?_
      exact g_iret dX0_weightOf_23 rfl (Nat.le_refl _) (Nat.le_refl _) (⟨rfl, rfl⟩)
set_option maxRecDepth 20000 in
theorem c_X0_armsOf (sk : Nat → Nat) {hl ls hw ha hr c : Nat} {F C V E N S : Int32} {f : Nat → Nat} (hc : c < 6) : Ct sk yX0_armsOf cX0_armsOf 2 (some .int) 0 0 0 [oPlan hl ls hw ha hr F C V E N S, cI ha 6 (fI f)] [.ref hl, .int (nI c)] (zD (some (.int (nI (f c)))) [oPlan hl ls hw ha hr F C V E N S, cI ha 6 (fI f)]) := by
  refine Ct.of (own := RX0) (l := [some (.ref hl), some (.int (nI c))]) (by decide) rfl (Nat.le_of_ble_eq_true rfl) rfl ?_
  refine g_iload_n dX0_armsOf_0 rfl rfl ?_
  refine g_if_lt (t := 22) dX0_armsOf_1 (by decide) rfl (fun h1 => ?_) (fun h1 => ?_)
  · exact absurd h1 (nI_nlt0 (by omega))
  · skip
    refine g_iload_n dX0_armsOf_4 rfl rfl ?_
    refine g_aload_n dX0_armsOf_5 rfl rfl ?_
    refine g_get f_X0_18 dX0_armsOf_6 rfl 0 rfl rfl ?_
    refine g_alen dX0_armsOf_9 rfl 1 rfl (Nat.le_of_ble_eq_true rfl) rfl ?_
    refine g_icmp_geN (t := 22) dX0_armsOf_10 (by decide) rfl (by omega) (by omega) (fun h10 => ?_) (fun h10 => ?_)
    · exact absurd h10 (by omega)
    · skip
      refine g_aload_n dX0_armsOf_13 rfl rfl ?_
      refine g_get f_X0_18 dX0_armsOf_14 rfl 0 rfl rfl ?_
      refine g_iload_n dX0_armsOf_17 rfl rfl ?_
      refine g_ialdN (v := nI _) dX0_armsOf_18 rfl 1 rfl (by omega) (by decide) (rfl) ?_
      refine g_goto (q := 23) dX0_armsOf_19 (by decide) ?_
      exact g_iret dX0_armsOf_23 rfl (Nat.le_refl _) (Nat.le_refl _) (⟨rfl, rfl⟩)
set_option maxRecDepth 20000 in
theorem c_X0_rubsOf (sk : Nat → Nat) {hl ls hw ha hr c : Nat} {F C V E N S : Int32} {f : Nat → Nat} (hc : c < 6) : Ct sk yX0_rubsOf cX0_rubsOf 2 (some .int) 0 0 0 [oPlan hl ls hw ha hr F C V E N S, cI hr 6 (fI f)] [.ref hl, .int (nI c)] (zD (some (.int (nI (f c)))) [oPlan hl ls hw ha hr F C V E N S, cI hr 6 (fI f)]) := by
  refine Ct.of (own := RX0) (l := [some (.ref hl), some (.int (nI c))]) (by decide) rfl (Nat.le_of_ble_eq_true rfl) rfl ?_
  refine g_iload_n dX0_rubsOf_0 rfl rfl ?_
  refine g_if_lt (t := 22) dX0_rubsOf_1 (by decide) rfl (fun h1 => ?_) (fun h1 => ?_)
  · exact absurd h1 (nI_nlt0 (by omega))
  · skip
    refine g_iload_n dX0_rubsOf_4 rfl rfl ?_
    refine g_aload_n dX0_rubsOf_5 rfl rfl ?_
    refine g_get f_X0_21 dX0_rubsOf_6 rfl 0 rfl rfl ?_
    refine g_alen dX0_rubsOf_9 rfl 1 rfl (Nat.le_of_ble_eq_true rfl) rfl ?_
    refine g_icmp_geN (t := 22) dX0_rubsOf_10 (by decide) rfl (by omega) (by omega) (fun h10 => ?_) (fun h10 => ?_)
    · exact absurd h10 (by omega)
    · skip
      refine g_aload_n dX0_rubsOf_13 rfl rfl ?_
      refine g_get f_X0_21 dX0_rubsOf_14 rfl 0 rfl rfl ?_
      refine g_iload_n dX0_rubsOf_17 rfl rfl ?_
      refine g_ialdN (v := nI _) dX0_rubsOf_18 rfl 1 rfl (by omega) (by decide) (rfl) ?_
      refine g_goto (q := 23) dX0_rubsOf_19 (by decide) ?_
      exact g_iret dX0_rubsOf_23 rfl (Nat.le_refl _) (Nat.le_refl _) (⟨rfl, rfl⟩)
set_option maxRecDepth 20000 in
theorem c_X0_hasFoot (sk : Nat → Nat) {hl ls hw ha hr f : Nat} {C V E N S x : Int32}  : Ct sk yX0_hasFoot cX0_hasFoot 2 (some .boolean) 0 0 0 [oPlan hl ls hw ha hr (nI f) C V E N S] [.ref hl, .int x] (zD (some (.int (zb (inR x f)))) [oPlan hl ls hw ha hr (nI f) C V E N S]) := by
  refine Ct.of (own := RX0) (l := [some (.ref hl), some (.int x)]) (by decide) rfl (Nat.le_of_ble_eq_true rfl) rfl ?_
  refine g_iload_n dX0_hasFoot_0 rfl rfl ?_
  refine g_if_lt (t := 16) dX0_hasFoot_1 (by decide) rfl (fun h1 => ?_) (fun h1 => ?_)
  · have e : inR x f = false := by unfold inR; rw [decide_eq_false (fun z => z h1)]; rfl
    refine g_iconst (v := nI 0) dX0_hasFoot_16 rfl (by decide) ?_
    exact g_zret (b := false) dX0_hasFoot_17 rfl (Nat.le_refl _) (Nat.le_refl _) (⟨by rw [e], rfl⟩)
  · skip
    refine g_iload_n dX0_hasFoot_4 rfl rfl ?_
    refine g_aload_n dX0_hasFoot_5 rfl rfl ?_
    refine g_get f_X0_27 dX0_hasFoot_6 rfl 0 rfl rfl ?_
    refine g_icmp_ge (t := 16) dX0_hasFoot_9 (by decide) rfl (fun h9 => ?_) (fun h9 => ?_)
    · have e : inR x f = false := by unfold inR; rw [decide_eq_false (fun z => Int32.not_lt.mpr h9 z), Bool.and_false]
      refine g_iconst (v := nI 0) dX0_hasFoot_16 rfl (by decide) ?_
      exact g_zret (b := false) dX0_hasFoot_17 rfl (Nat.le_refl _) (Nat.le_refl _) (⟨by rw [e], rfl⟩)
    · have e : inR x f = true := by unfold inR; rw [decide_eq_true h1, decide_eq_true (Int32.not_le.mp h9)]; rfl
      refine g_iconst (v := nI 1) dX0_hasFoot_12 rfl (by decide) ?_
      refine g_goto (q := 17) dX0_hasFoot_13 (by decide) ?_
      exact g_zret (b := true) dX0_hasFoot_17 rfl (Nat.le_refl _) (Nat.le_refl _) (⟨by rw [e], rfl⟩)
set_option maxRecDepth 20000 in
theorem c_X0_hasClimber (sk : Nat → Nat) {hl ls hw ha hr c : Nat} {F V E N S x : Int32}  : Ct sk yX0_hasClimber cX0_hasClimber 2 (some .boolean) 0 0 0 [oPlan hl ls hw ha hr F (nI c) V E N S] [.ref hl, .int x] (zD (some (.int (zb (inR x c)))) [oPlan hl ls hw ha hr F (nI c) V E N S]) := by
  refine Ct.of (own := RX0) (l := [some (.ref hl), some (.int x)]) (by decide) rfl (Nat.le_of_ble_eq_true rfl) rfl ?_
  refine g_iload_n dX0_hasClimber_0 rfl rfl ?_
  refine g_if_lt (t := 16) dX0_hasClimber_1 (by decide) rfl (fun h1 => ?_) (fun h1 => ?_)
  · have e : inR x c = false := by unfold inR; rw [decide_eq_false (fun z => z h1)]; rfl
    refine g_iconst (v := nI 0) dX0_hasClimber_16 rfl (by decide) ?_
    exact g_zret (b := false) dX0_hasClimber_17 rfl (Nat.le_refl _) (Nat.le_refl _) (⟨by rw [e], rfl⟩)
  · skip
    refine g_iload_n dX0_hasClimber_4 rfl rfl ?_
    refine g_aload_n dX0_hasClimber_5 rfl rfl ?_
    refine g_get f_X0_31 dX0_hasClimber_6 rfl 0 rfl rfl ?_
    refine g_icmp_ge (t := 16) dX0_hasClimber_9 (by decide) rfl (fun h9 => ?_) (fun h9 => ?_)
    · have e : inR x c = false := by unfold inR; rw [decide_eq_false (fun z => Int32.not_lt.mpr h9 z), Bool.and_false]
      refine g_iconst (v := nI 0) dX0_hasClimber_16 rfl (by decide) ?_
      exact g_zret (b := false) dX0_hasClimber_17 rfl (Nat.le_refl _) (Nat.le_refl _) (⟨by rw [e], rfl⟩)
    · have e : inR x c = true := by unfold inR; rw [decide_eq_true h1, decide_eq_true (Int32.not_le.mp h9)]; rfl
      refine g_iconst (v := nI 1) dX0_hasClimber_12 rfl (by decide) ?_
      refine g_goto (q := 17) dX0_hasClimber_13 (by decide) ?_
      exact g_zret (b := true) dX0_hasClimber_17 rfl (Nat.le_refl _) (Nat.le_refl _) (⟨by rw [e], rfl⟩)
set_option maxRecDepth 20000 in
theorem lp_X1_reach (sk : Nat → Nat) {hp hs hl ls hw ha hr F wv : Nat} {g o sd C V E N S x2 x3 : Int32} {sl : Nat → Nat} {fw fa : Nat → Int32} {sand : Bool} {Ψ : PS} (hF : F ≤ 30) (hsl : ∀ j, j < 30 → sl j ≤ 99) (hwv : wv ≤ 99) : ∀ (n i left : Nat), i + n = F → left ≤ 999 → Ψ (some (.int (nI (farR wv sand sl n i left)))) [oPole hp hs g o sd, cI hs 30 (fI sl), oPlan hl ls hw ha hr (nI F) C V E N S, cI hw 6 fw, cI ha 6 fa] → GG sk RX1 yX1_reach cX1_reach 9 (some .int) 1 0 0 Ψ 0 0 21 [some (.ref hp), some (.ref hl), some (.int x2), some (.int x3), some (.int (zb sand)), some (.int (nI wv)), some (.int (nI left)), some (.int (nI i)), none] [] [oPole hp hs g o sd, cI hs 30 (fI sl), oPlan hl ls hw ha hr (nI F) C V E N S, cI hw 6 fw, cI ha 6 fa] := by
  intro n
  induction n with
  | zero =>
    intro i left hi hlf hΨ
    obtain rfl : i = F := by omega
    refine g_iload dX1_reach_21 rfl rfl ?_
    refine g_aload_n dX1_reach_23 rfl rfl ?_
    refine g_get f_X1_48 dX1_reach_24 rfl 2 rfl rfl ?_
    refine g_icmp_geN (t := 94) dX1_reach_27 (by decide) rfl (by omega) (by omega) (fun h27 => ?_) (fun h27 => ?_)
    · skip
      refine g_aload_n dX1_reach_94 rfl rfl ?_
      refine g_get f_X1_48 dX1_reach_95 rfl 2 rfl rfl ?_
      exact g_iret dX1_reach_98 rfl (Nat.le_refl _) (Nat.le_refl _) (hΨ)
    · exact absurd h27 (by omega)
  | succ n ih =>
    intro i left hi hlf hΨ
    refine g_iload dX1_reach_21 rfl rfl ?_
    refine g_aload_n dX1_reach_23 rfl rfl ?_
    refine g_get f_X1_48 dX1_reach_24 rfl 2 rfl rfl ?_
    refine g_icmp_geN (t := 94) dX1_reach_27 (by decide) rfl (by omega) (by omega) (fun h27 => ?_) (fun h27 => ?_)
    · exact absurd h27 (by omega)
    · skip
      refine g_iload dX1_reach_30 rfl rfl ?_
      refine g_aload_n dX1_reach_32 rfl rfl ?_
      refine g_get f_X1_9 dX1_reach_33 rfl 0 rfl rfl ?_
      refine g_alen dX1_reach_36 rfl 1 rfl (Nat.le_of_ble_eq_true rfl) rfl ?_
      refine g_icmp_geN (t := 94) dX1_reach_37 (by decide) rfl (by omega) (by omega) (fun h37 => ?_) (fun h37 => ?_)
      · exact absurd h37 (by omega)
      · skip
        refine g_aload_n dX1_reach_40 rfl rfl ?_
        refine g_get f_X1_9 dX1_reach_41 rfl 0 rfl rfl ?_
        refine g_iload dX1_reach_44 rfl rfl ?_
        refine g_ialdN (v := nI _) dX1_reach_46 rfl 1 rfl (by omega) (by decide) (rfl) ?_
        refine g_iload dX1_reach_47 rfl rfl ?_
        refine g_imul dX1_reach_49 rfl (pk_mul _ _) ?_
        refine g_bipush (v := nI 50) dX1_reach_50 rfl (by decide) ?_
        have hm : sl i * wv ≤ 9801 := Nat.le_trans (Nat.mul_le_mul (hsl i (by omega)) hwv) (by decide)
        refine g_idiv dX1_reach_52 rfl (by decide) (pk_div (by omega) (by omega) (by omega)) ?_
        refine g_iconst (v := nI 1) dX1_reach_53 rfl (by decide) ?_
        refine g_iadd dX1_reach_54 rfl (nI_add _ _) ?_
        refine g_istore dX1_reach_55 rfl (by decide) rfl rfl ?_
        refine g_iload dX1_reach_57 rfl rfl ?_
        refine g_iload dX1_reach_59 rfl rfl ?_
        refine g_if_eqB (t := 75) dX1_reach_61 (by decide) rfl (fun h61 => ?_) (fun h61 => ?_)
        · subst h61
          refine g_iload dX1_reach_75 rfl rfl ?_
          refine g_isub dX1_reach_77 rfl rfl ?_
          refine g_istore dX1_reach_78 rfl (by decide) rfl rfl ?_
          refine g_iload dX1_reach_80 rfl rfl ?_
          refine g_if_ge (t := 88) dX1_reach_82 (by decide) rfl (fun h82 => ?_) (fun h82 => ?_)
          · have hle : sl i * wv / 50 + 1 ≤ left := (zsub_ge (by omega) (by omega)).mp h82
            rw [show nI left - nI (sl i * wv / 50 + 1) = nI (left - (sl i * wv / 50 + 1)) from pk_sub hle]
            refine g_iinc dX1_reach_88 rfl rfl (nI_1 _) (by decide) rfl rfl ?_
            refine g_goto (q := 21) dX1_reach_91 (by decide) ?_
            refine g_drop 8 rfl ?_
            exact ih (i + 1) _ (by omega) (by omega) (by rw [farR_on (show ¬ left < tk false (sl i) wv from Nat.not_lt.mpr hle)] at hΨ; exact hΨ)
          · have hlt : left < sl i * wv / 50 + 1 := Nat.lt_of_not_le (fun z => h82 ((zsub_ge (by omega) (by omega)).mpr z))
            refine g_iload dX1_reach_85 rfl rfl ?_
            exact g_iret dX1_reach_87 rfl (Nat.le_refl _) (Nat.le_refl _) (by rw [farR_stop (show left < tk false (sl i) wv from hlt)] at hΨ; exact hΨ)
        · subst h61
          refine g_iconst (v := nI 1) dX1_reach_64 rfl (by decide) ?_
          refine g_iload dX1_reach_65 rfl rfl ?_
          refine g_iconst (v := nI 2) dX1_reach_67 rfl (by decide) ?_
          refine g_idiv dX1_reach_68 rfl (by decide) (pk_div (by omega) (by omega) (by omega)) ?_
          refine g_max m_X1_32 dX1_reach_69 rfl (by decide) (Nat.le_refl _) (Nat.le_refl _) (Nat.le_of_ble_eq_true rfl) (zmaxN (by omega) (by omega)) ?_
          refine g_goto (q := 77) dX1_reach_72 (by decide) ?_
          refine g_isub dX1_reach_77 rfl rfl ?_
          refine g_istore dX1_reach_78 rfl (by decide) rfl rfl ?_
          refine g_iload dX1_reach_80 rfl rfl ?_
          refine g_if_ge (t := 88) dX1_reach_82 (by decide) rfl (fun h82 => ?_) (fun h82 => ?_)
          · have hle : max 1 ((sl i * wv / 50 + 1) / 2) ≤ left := (zsub_ge (by omega) (by omega)).mp h82
            rw [show nI left - nI (max 1 ((sl i * wv / 50 + 1) / 2)) = nI (left - (max 1 ((sl i * wv / 50 + 1) / 2))) from pk_sub hle]
            refine g_iinc dX1_reach_88 rfl rfl (nI_1 _) (by decide) rfl rfl ?_
            refine g_goto (q := 21) dX1_reach_91 (by decide) ?_
            refine g_drop 8 rfl ?_
            exact ih (i + 1) _ (by omega) (by omega) (by rw [farR_on (show ¬ left < tk true (sl i) wv from Nat.not_lt.mpr hle)] at hΨ; exact hΨ)
          · have hlt : left < max 1 ((sl i * wv / 50 + 1) / 2) := Nat.lt_of_not_le (fun z => h82 ((zsub_ge (by omega) (by omega)).mpr z))
            refine g_iload dX1_reach_85 rfl rfl ?_
            exact g_iret dX1_reach_87 rfl (Nat.le_refl _) (Nat.le_refl _) (by rw [farR_stop (show left < tk true (sl i) wv from hlt)] at hΨ; exact hΨ)
set_option maxRecDepth 20000 in
theorem c_X1_reach (sk : Nat → Nat) {hp hs hl ls hw ha hr F c fr : Nat} {g o sd C V E N S : Int32} {sl w a : Nat → Nat} {sand : Bool} (hF : F ≤ 30) (hc : c < 6) (hsl : ∀ j, j < 30 → sl j ≤ 99) (hwv : w c ≤ 99) (hav : a c ≤ 999) (hfr : fr ≤ F) : Ct sk yX1_reach cX1_reach 9 (some .int) 1 0 0 [oPole hp hs g o sd, cI hs 30 (fI sl), oPlan hl ls hw ha hr (nI F) C V E N S, cI hw 6 (fI w), cI ha 6 (fI a)] [.ref hp, .ref hl, .int (nI c), .int (nI fr), .int (zb sand)] (zD (some (.int (nI (farR (w c) sand sl (F - fr) fr (a c))))) [oPole hp hs g o sd, cI hs 30 (fI sl), oPlan hl ls hw ha hr (nI F) C V E N S, cI hw 6 (fI w), cI ha 6 (fI a)]) := by
  refine Ct.of (own := RX1) (l := [some (.ref hp), some (.ref hl), some (.int (nI c)), some (.int (nI fr)), some (.int (zb sand)), none, none, none, none]) (by decide) rfl (Nat.le_of_ble_eq_true rfl) rfl ?_
  refine g_aload_n dX1_reach_0 rfl rfl ?_
  refine g_iload_n dX1_reach_1 rfl rfl ?_
  refine g_callV (c_X0_weightOf sk hc) m_X1_41 a_X0_weightOf dX1_reach_2 rfl [2, 3] rfl rfl 0 rfl rfl rfl (by decide) (by decide) (by decide) (by decide) (Nat.le_of_ble_eq_true rfl) (fun r w hK => ?_)
  obtain ⟨rfl, rfl⟩ := hK
  refine ⟨rfl, ?_⟩
  dsimp only [puts, List.set, Option.toList, List.cons_append, List.nil_append, List.append_nil]
  refine g_istore dX1_reach_5 rfl (by decide) rfl rfl ?_
  refine g_aload_n dX1_reach_7 rfl rfl ?_
  refine g_iload_n dX1_reach_8 rfl rfl ?_
  refine g_callV (c_X0_armsOf sk hc) m_X1_45 a_X0_armsOf dX1_reach_9 rfl [2, 4] rfl rfl 0 rfl rfl rfl (by decide) (by decide) (by decide) (by decide) (Nat.le_of_ble_eq_true rfl) (fun r w hK => ?_)
  obtain ⟨rfl, rfl⟩ := hK
  refine ⟨rfl, ?_⟩
  dsimp only [puts, List.set, Option.toList, List.cons_append, List.nil_append, List.append_nil]
  refine g_istore dX1_reach_12 rfl (by decide) rfl rfl ?_
  refine g_iload_n dX1_reach_14 rfl rfl ?_
  refine g_iconst (v := nI 0) dX1_reach_15 rfl (by decide) ?_
  refine g_max m_X1_32 dX1_reach_16 rfl (by decide) (Nat.le_refl _) (Nat.le_refl _) (Nat.le_of_ble_eq_true rfl) (zmax0 (by omega)) ?_
  refine g_istore dX1_reach_19 rfl (by decide) rfl rfl ?_
  exact lp_X1_reach sk hF hsl hwv (F - fr) fr (a c) (by omega) hav ⟨rfl, rfl⟩
