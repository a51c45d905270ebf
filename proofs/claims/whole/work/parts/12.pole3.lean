set_option maxRecDepth 20000 in
theorem lp_X1_climb (sk : Nat → Nat) {hp hs hl ls hw ha hr F N S c : Nat} {g o sd C V E : Int32} {sl w a r : Nat → Nat} {sand : Bool} {e : Nat} {Ψ : PS} (hF : F ≤ 30) (hF1 : 1 ≤ F) (hN : N ≤ 20) (hN1 : 1 ≤ N) (hS : S ≤ 9) (hc : c < 6) (hsl : ∀ j, j < 30 → sl j ≤ 99) (hwv : w c ≤ 99) (hav : a c ≤ 999) (hrv : r c ≤ 20) (he : e ≤ F) (hΨ : Ψ (some (.int (nI e))) [oPole hp hs (g + nI 1) (o) sd, cI hs 30 (fI (goS F N S e (r c) sl (g + nI 1))), oPlan hl ls hw ha hr (nI F) C V E (nI N) (nI S), cI hw 6 (fI w), cI ha 6 (fI a), cI hr 6 (fI r)]) : GG sk RX1 yX1_climb cX1_climb 6 (some .int) 2 0 0 Ψ 0 0 45 [some (.ref hp), some (.ref hl), some (.int (nI c)), some (.int (zb sand)), some (.int (nI e)), some (.int (nI (rubT (r c) sl e)))] [] [oPole hp hs (g) (o) sd, cI hs 30 (fI (rubS e (r c) sl)), oPlan hl ls hw ha hr (nI F) C V E (nI N) (nI S), cI hw 6 (fI w), cI ha 6 (fI a), cI hr 6 (fI r)] := by
  have hrt := rubT_le (r c) sl hrv e
  refine g_aload_n dX1_climb_45 rfl rfl ?_
  refine g_iload dX1_climb_46 rfl rfl ?_
  refine g_iload dX1_climb_48 rfl rfl ?_
  refine g_iconst (v := nI 4) dX1_climb_50 rfl (by decide) ?_
  refine g_idiv dX1_climb_51 rfl (by decide) (pk_div (by omega) (by omega) (by omega)) ?_
  refine g_callV (c_X1_smear sk (by omega) (by omega) (rubS_le e (r c) sl hsl)) m_X1_61 a_X1_smear dX1_climb_52 rfl [0, 1] rfl rfl 0 rfl rfl rfl (by decide) (by decide) (by decide) (by decide) (Nat.le_of_ble_eq_true rfl) (fun r w hK => ?_)
  obtain ⟨rfl, rfl⟩ := hK
  refine ⟨rfl, ?_⟩
  dsimp only [puts, List.set, Option.toList, List.cons_append, List.nil_append, List.append_nil]
  refine g_aload_n dX1_climb_55 rfl rfl ?_
  refine g_dup dX1_climb_56 rfl rfl ?_
  refine g_get f_X1_19 dX1_climb_57 rfl 0 rfl rfl ?_
  refine g_iconst (v := nI 1) dX1_climb_60 rfl (by decide) ?_
  refine g_iadd dX1_climb_61 rfl rfl ?_
  refine g_putI f_X1_19 dX1_climb_62 rfl 0 rfl (Nat.le_of_ble_eq_true rfl) rfl ?_
  dsimp only [List.set]
  refine g_aload_n dX1_climb_65 rfl rfl ?_
  refine g_get f_X1_65 dX1_climb_66 rfl 2 rfl rfl ?_
  refine g_if_le (t := 99) dX1_climb_69 (by decide) rfl (fun h69 => ?_) (fun h69 => ?_)
  · exact absurd h69 (nI_nle (by omega) (by omega))
  · skip
    refine g_aload_n dX1_climb_72 rfl rfl ?_
    refine g_get f_X1_19 dX1_climb_73 rfl 0 rfl rfl ?_
    refine g_aload_n dX1_climb_76 rfl rfl ?_
    refine g_get f_X1_65 dX1_climb_77 rfl 2 rfl rfl ?_
    refine g_irem dX1_climb_80 rfl (nI_ne0 (by omega) (by omega)) rfl ?_
    refine g_if_ne (t := 99) dX1_climb_81 (by decide) rfl (fun h81 => ?_) (fun h81 => ?_)
    · skip
      refine g_iload dX1_climb_99 rfl rfl ?_
      exact g_iret dX1_climb_101 rfl (Nat.le_refl _) (Nat.le_refl _) (by rw [goS, show sunB (g + nI 1) N = false from decide_eq_false h81] at hΨ; exact hΨ)
    · skip
      refine g_aload_n dX1_climb_84 rfl rfl ?_
      refine g_iconst (v := nI 0) dX1_climb_85 rfl (by decide) ?_
      refine g_aload_n dX1_climb_86 rfl rfl ?_
      refine g_get f_X1_48 dX1_climb_87 rfl 2 rfl rfl ?_
      refine g_iconst (v := nI 1) dX1_climb_90 rfl (by decide) ?_
      refine g_isub dX1_climb_91 rfl rfl ?_
      refine g_aload_n dX1_climb_92 rfl rfl ?_
      refine g_get f_X1_68 dX1_climb_93 rfl 2 rfl rfl ?_
      refine g_callV (c_X1_addSlip sk (Nat.zero_le _) hF (by omega) (goS1_le e (r c) sl hsl)) m_X1_71 a_X1_addSlip dX1_climb_96 rfl [0, 1] rfl rfl 0 rfl rfl rfl (by decide) (by decide) (by decide) (by decide) (Nat.le_of_ble_eq_true rfl) (fun r w hK => ?_)
      obtain ⟨rfl, rfl⟩ := hK
      refine ⟨rfl, ?_⟩
      dsimp only [puts, List.set, Option.toList, List.cons_append, List.nil_append, List.append_nil]
      refine g_iload dX1_climb_99 rfl rfl ?_
      exact g_iret dX1_climb_101 rfl (Nat.le_refl _) (Nat.le_refl _) (by rw [goS, show sunB (g + nI 1) N = true from decide_eq_true h81] at hΨ; exact hΨ)
set_option maxRecDepth 20000 in
theorem c_X1_climb (sk : Nat → Nat) {hp hs hl ls hw ha hr F N S c : Nat} {g o sd C V E : Int32} {sl w a r : Nat → Nat} {sand : Bool} (hF : F ≤ 30) (hF1 : 1 ≤ F) (hN : N ≤ 20) (hN1 : 1 ≤ N) (hS : S ≤ 9) (hc : c < 6) (hsl : ∀ j, j < 30 → sl j ≤ 99) (hwv : w c ≤ 99) (hav : a c ≤ 999) (hrv : r c ≤ 20) : Ct sk yX1_climb cX1_climb 6 (some .int) 2 0 0 [oPole hp hs g o sd, cI hs 30 (fI sl), oPlan hl ls hw ha hr (nI F) C V E (nI N) (nI S), cI hw 6 (fI w), cI ha 6 (fI a), cI hr 6 (fI r)] [.ref hp, .ref hl, .int (nI c), .int (zb sand)] (zD (some (.int (nI (goF F (w c) (a c) sand sl)))) [oPole hp hs (g + nI 1) (goH F (goF F (w c) (a c) sand sl) o c) sd, cI hs 30 (fI (goS F N S (goF F (w c) (a c) sand sl) (r c) sl (g + nI 1))), oPlan hl ls hw ha hr (nI F) C V E (nI N) (nI S), cI hw 6 (fI w), cI ha 6 (fI a), cI hr 6 (fI r)]) := by
  refine Ct.of (own := RX1) (l := [some (.ref hp), some (.ref hl), some (.int (nI c)), some (.int (zb sand)), none, none]) (by decide) rfl (Nat.le_of_ble_eq_true rfl) rfl ?_
  refine g_aload_n dX1_climb_0 rfl rfl ?_
  refine g_aload_n dX1_climb_1 rfl rfl ?_
  refine g_iload_n dX1_climb_2 rfl rfl ?_
  refine g_iconst (v := nI 0) dX1_climb_3 rfl (by decide) ?_
  refine g_iload_n dX1_climb_4 rfl rfl ?_
  refine g_callV (c_X1_reach sk hF hc hsl hwv hav (Nat.zero_le _)) m_X1_51 a_X1_reach dX1_climb_5 rfl [0, 1, 2, 3, 4] rfl rfl 0 rfl rfl rfl (by decide) (by decide) (by decide) (by decide) (Nat.le_of_ble_eq_true rfl) (fun r w hK => ?_)
  obtain ⟨rfl, rfl⟩ := hK
  refine ⟨rfl, ?_⟩
  dsimp only [puts, List.set, Option.toList, List.cons_append, List.nil_append, List.append_nil]
  have he0 := goF_le F (w c) (a c) sand sl
  rw [show farR (w c) sand sl (F - 0) 0 (a c) = goF F (w c) (a c) sand sl from rfl]
  generalize hge : goF F (w c) (a c) sand sl = e at he0 ⊢
  refine g_istore dX1_climb_8 rfl (by decide) rfl rfl ?_
  refine g_aload_n dX1_climb_10 rfl rfl ?_
  refine g_iload dX1_climb_11 rfl rfl ?_
  refine g_aload_n dX1_climb_13 rfl rfl ?_
  refine g_iload_n dX1_climb_14 rfl rfl ?_
  refine g_callV (c_X0_rubsOf sk hc) m_X1_55 a_X0_rubsOf dX1_climb_15 rfl [2, 5] rfl rfl 0 rfl rfl rfl (by decide) (by decide) (by decide) (by decide) (Nat.le_of_ble_eq_true rfl) (fun r w hK => ?_)
  obtain ⟨rfl, rfl⟩ := hK
  refine ⟨rfl, ?_⟩
  dsimp only [puts, List.set, Option.toList, List.cons_append, List.nil_append, List.append_nil]
  refine g_callV (c_X1_rub sk (by omega) hrv hsl) m_X1_58 a_X1_rub dX1_climb_18 rfl [0, 1] rfl rfl 0 rfl rfl rfl (by decide) (by decide) (by decide) (by decide) (Nat.le_of_ble_eq_true rfl) (fun r w hK => ?_)
  obtain ⟨rfl, rfl⟩ := hK
  refine ⟨rfl, ?_⟩
  dsimp only [puts, List.set, Option.toList, List.cons_append, List.nil_append, List.append_nil]
  refine g_istore dX1_climb_21 rfl (by decide) rfl rfl ?_
  refine g_iload dX1_climb_23 rfl rfl ?_
  refine g_aload_n dX1_climb_25 rfl rfl ?_
  refine g_get f_X1_48 dX1_climb_26 rfl 2 rfl rfl ?_
  refine g_icmp_neN (t := 45) dX1_climb_29 (by decide) rfl (by omega) (by omega) (fun h29 => ?_) (fun h29 => ?_)
  · have ho : goH F e o c = o := if_neg (fun z => h29 z.1)
    rw [ho]
    exact lp_X1_climb sk hF hF1 hN hN1 hS hc hsl hwv hav hrv he0 ⟨rfl, rfl⟩
  · skip
    refine g_aload_n dX1_climb_32 rfl rfl ?_
    refine g_get f_X1_15 dX1_climb_33 rfl 0 rfl rfl ?_
    refine g_iconst (v := -1) dX1_climb_36 rfl (by decide) ?_
    refine g_icmp_ne (t := 45) dX1_climb_37 (by decide) rfl (fun h37 => ?_) (fun h37 => ?_)
    · have ho : goH F e o c = o := if_neg (fun z => h37 z.2)
      rw [ho]
      exact lp_X1_climb sk hF hF1 hN hN1 hS hc hsl hwv hav hrv he0 ⟨rfl, rfl⟩
    · have ho : goH F e o c = nI c := if_pos ⟨h29, h37⟩
      refine g_aload_n dX1_climb_40 rfl rfl ?_
      refine g_iload_n dX1_climb_41 rfl rfl ?_
      refine g_putI f_X1_15 dX1_climb_42 rfl 0 rfl (Nat.le_of_ble_eq_true rfl) rfl ?_
      dsimp only [List.set]
      rw [ho]
      exact lp_X1_climb sk hF hF1 hN hN1 hS hc hsl hwv hav hrv he0 ⟨rfl, rfl⟩
set_option maxRecDepth 20000 in
theorem lp_X1_isLike (sk : Nat → Nat) {hp hs hq ht : Nat} {g o sd g2 o2 sd2 : Int32} {sl sl2 : Nat → Nat} {Ψ : PS} (hsl : ∀ j, j < 30 → sl j ≤ 99) (hsl2 : ∀ j, j < 30 → sl2 j ≤ 99) : ∀ (n i : Nat), i + n = 30 → Ψ (some (.int (zb (eqR sl sl2 n i)))) [oPole hp hs g o sd, cI hs 30 (fI sl), oPole hq ht g2 o2 sd2, cI ht 30 (fI sl2)] → GG sk RX1 yX1_isLike cX1_isLike 3 (some .boolean) 0 0 0 Ψ 0 0 26 [some (.ref hp), some (.ref hq), some (.int (nI i))] [] [oPole hp hs g o sd, cI hs 30 (fI sl), oPole hq ht g2 o2 sd2, cI ht 30 (fI sl2)] := by
  intro n
  induction n with
  | zero =>
    intro i hi hΨ
    refine g_iload_n dX1_isLike_26 rfl rfl ?_
    refine g_aload_n dX1_isLike_27 rfl rfl ?_
    refine g_get f_X1_9 dX1_isLike_28 rfl 0 rfl rfl ?_
    refine g_alen dX1_isLike_31 rfl 1 rfl (Nat.le_of_ble_eq_true rfl) rfl ?_
    refine g_icmp_geN (t := 67) dX1_isLike_32 (by decide) rfl (by omega) (by omega) (fun h32 => ?_) (fun h32 => ?_)
    · skip
      refine g_iconst (v := nI 1) dX1_isLike_67 rfl (by decide) ?_
      exact g_zret (b := true) dX1_isLike_68 rfl (Nat.le_refl _) (Nat.le_refl _) (hΨ)
    · exact absurd h32 (by omega)
  | succ n ih =>
    intro i hi hΨ
    refine g_iload_n dX1_isLike_26 rfl rfl ?_
    refine g_aload_n dX1_isLike_27 rfl rfl ?_
    refine g_get f_X1_9 dX1_isLike_28 rfl 0 rfl rfl ?_
    refine g_alen dX1_isLike_31 rfl 1 rfl (Nat.le_of_ble_eq_true rfl) rfl ?_
    refine g_icmp_geN (t := 67) dX1_isLike_32 (by decide) rfl (by omega) (by omega) (fun h32 => ?_) (fun h32 => ?_)
    · exact absurd h32 (by omega)
    · skip
      refine g_iload_n dX1_isLike_35 rfl rfl ?_
      refine g_aload_n dX1_isLike_36 rfl rfl ?_
      refine g_get f_X1_9 dX1_isLike_37 rfl 2 rfl rfl ?_
      refine g_alen dX1_isLike_40 rfl 3 rfl (Nat.le_of_ble_eq_true rfl) rfl ?_
      refine g_icmp_geN (t := 67) dX1_isLike_41 (by decide) rfl (by omega) (by omega) (fun h41 => ?_) (fun h41 => ?_)
      · exact absurd h41 (by omega)
      · skip
        refine g_aload_n dX1_isLike_44 rfl rfl ?_
        refine g_get f_X1_9 dX1_isLike_45 rfl 0 rfl rfl ?_
        refine g_iload_n dX1_isLike_48 rfl rfl ?_
        refine g_ialdN (v := nI _) dX1_isLike_49 rfl 1 rfl (by omega) (by decide) (rfl) ?_
        refine g_aload_n dX1_isLike_50 rfl rfl ?_
        refine g_get f_X1_9 dX1_isLike_51 rfl 2 rfl rfl ?_
        refine g_iload_n dX1_isLike_54 rfl rfl ?_
        refine g_ialdN (v := nI _) dX1_isLike_55 rfl 3 rfl (by omega) (by decide) (rfl) ?_
        have hb := hsl i (by omega)
        have hb2 := hsl2 i (by omega)
        refine g_icmp_eqN (t := 61) dX1_isLike_56 (by decide) rfl (by omega) (by omega) (fun h56 => ?_) (fun h56 => ?_)
        · skip
          refine g_iinc dX1_isLike_61 rfl rfl (nI_1 _) (by decide) rfl rfl ?_
          refine g_goto (q := 26) dX1_isLike_64 (by decide) ?_
          exact ih (i + 1) (by omega) (by rw [eqR, decide_eq_true h56, Bool.true_and] at hΨ; exact hΨ)
        · skip
          refine g_iconst (v := nI 0) dX1_isLike_59 rfl (by decide) ?_
          exact g_zret (b := false) dX1_isLike_60 rfl (Nat.le_refl _) (Nat.le_refl _) (by rw [eqR, decide_eq_false h56] at hΨ; exact hΨ)
set_option maxRecDepth 20000 in
theorem c_X1_isLike (sk : Nat → Nat) {hp hs hq ht : Nat} {g o sd g2 o2 sd2 : Int32} {sl sl2 : Nat → Nat} (hsl : ∀ j, j < 30 → sl j ≤ 99) (hsl2 : ∀ j, j < 30 → sl2 j ≤ 99) : Ct sk yX1_isLike cX1_isLike 3 (some .boolean) 0 0 0 [oPole hp hs g o sd, cI hs 30 (fI sl), oPole hq ht g2 o2 sd2, cI ht 30 (fI sl2)] [.ref hp, .ref hq] (zD (some (.int (zb (likeB g o g2 o2 sl sl2)))) [oPole hp hs g o sd, cI hs 30 (fI sl), oPole hq ht g2 o2 sd2, cI ht 30 (fI sl2)]) := by
  refine Ct.of (own := RX1) (l := [some (.ref hp), some (.ref hq), none]) (by decide) rfl (Nat.le_of_ble_eq_true rfl) rfl ?_
  refine g_aload_n dX1_isLike_0 rfl rfl ?_
  refine g_get f_X1_19 dX1_isLike_1 rfl 0 rfl rfl ?_
  refine g_aload_n dX1_isLike_4 rfl rfl ?_
  refine g_get f_X1_19 dX1_isLike_5 rfl 2 rfl rfl ?_
  refine g_icmp_ne (t := 22) dX1_isLike_8 (by decide) rfl (fun h8 => ?_) (fun h8 => ?_)
  · skip
    refine g_iconst (v := nI 0) dX1_isLike_22 rfl (by decide) ?_
    exact g_zret (b := false) dX1_isLike_23 rfl (Nat.le_refl _) (Nat.le_refl _) (⟨by rw [likeB, decide_eq_false h8]; rfl, rfl⟩)
  · skip
    refine g_aload_n dX1_isLike_11 rfl rfl ?_
    refine g_get f_X1_15 dX1_isLike_12 rfl 0 rfl rfl ?_
    refine g_aload_n dX1_isLike_15 rfl rfl ?_
    refine g_get f_X1_15 dX1_isLike_16 rfl 2 rfl rfl ?_
    refine g_icmp_eq (t := 24) dX1_isLike_19 (by decide) rfl (fun h19 => ?_) (fun h19 => ?_)
    · skip
      refine g_iconst (v := nI 0) dX1_isLike_24 rfl (by decide) ?_
      refine g_istore_n dX1_isLike_25 rfl (by decide) rfl rfl ?_
      exact lp_X1_isLike sk hsl hsl2 30 0 (by omega) ⟨by rw [likeB, decide_eq_true h8, decide_eq_true h19, Bool.true_and, Bool.true_and], rfl⟩
    · skip
      refine g_iconst (v := nI 0) dX1_isLike_22 rfl (by decide) ?_
      exact g_zret (b := false) dX1_isLike_23 rfl (Nat.le_refl _) (Nat.le_refl _) (⟨by rw [likeB, decide_eq_false h19, Bool.false_and, Bool.and_false], rfl⟩)
set_option maxRecDepth 20000 in
theorem lp_X1_mayReach (sk : Nat → Nat) {hp hs hl ls hw ha hr F wv less A : Nat} {g o sd C V E N S x2 : Int32} {sl : Nat → Nat} {fw fa : Nat → Int32} {Ψ : PS} (hF : F ≤ 30) (hsl : ∀ j, j < 30 → sl j ≤ 99) (hwv : wv ≤ 99) (hA : A ≤ 999) (hless : less ≤ 1000) : ∀ (n i u : Nat), i + n = F → u ≤ 30 + 200 * i → Ψ (some (.int (zb (decide (u + lessR wv less sl n i ≤ A))))) [oPole hp hs g o sd, cI hs 30 (fI sl), oPlan hl ls hw ha hr (nI F) C V E N S, cI hw 6 fw, cI ha 6 fa] → GG sk RX1 yX1_mayReach cX1_mayReach 7 (some .boolean) 1 0 0 Ψ 0 0 22 [some (.ref hp), some (.ref hl), some (.int x2), some (.int (nI less)), some (.int (nI wv)), some (.int (nI A - nI u)), some (.int (nI i))] [] [oPole hp hs g o sd, cI hs 30 (fI sl), oPlan hl ls hw ha hr (nI F) C V E N S, cI hw 6 fw, cI ha 6 fa] := by
  intro n
  induction n with
  | zero =>
    intro i u hi hu hΨ
    rw [lessR] at hΨ
    refine g_iload dX1_mayReach_22 rfl rfl ?_
    refine g_aload_n dX1_mayReach_24 rfl rfl ?_
    refine g_get f_X1_48 dX1_mayReach_25 rfl 2 rfl rfl ?_
    refine g_icmp_geN (t := 76) dX1_mayReach_28 (by decide) rfl (by omega) (by omega) (fun h28 => ?_) (fun h28 => ?_)
    · skip
      refine g_iload dX1_mayReach_76 rfl rfl ?_
      refine g_if_lt (t := 85) dX1_mayReach_78 (by decide) rfl (fun h78 => ?_) (fun h78 => ?_)
      · skip
        refine g_iconst (v := nI 0) dX1_mayReach_85 rfl (by decide) ?_
        exact g_zret (b := false) dX1_mayReach_86 rfl (Nat.le_refl _) (Nat.le_refl _) (by rw [decide_eq_false (by have := (zsub_lt (by omega) (by omega)).mp h78; omega)] at hΨ; exact hΨ)
      · skip
        refine g_iconst (v := nI 1) dX1_mayReach_81 rfl (by decide) ?_
        refine g_goto (q := 86) dX1_mayReach_82 (by decide) ?_
        exact g_zret (b := true) dX1_mayReach_86 rfl (Nat.le_refl _) (Nat.le_refl _) (by rw [decide_eq_true (by have := Nat.not_lt.mp (fun z => h78 ((zsub_lt (by omega) (by omega)).mpr z)); omega)] at hΨ; exact hΨ)
    · exact absurd h28 (by omega)
  | succ n ih =>
    intro i u hi hu hΨ
    rw [lessR] at hΨ
    refine g_iload dX1_mayReach_22 rfl rfl ?_
    refine g_aload_n dX1_mayReach_24 rfl rfl ?_
    refine g_get f_X1_48 dX1_mayReach_25 rfl 2 rfl rfl ?_
    refine g_icmp_geN (t := 76) dX1_mayReach_28 (by decide) rfl (by omega) (by omega) (fun h28 => ?_) (fun h28 => ?_)
    · exact absurd h28 (by omega)
    · skip
      refine g_iload dX1_mayReach_31 rfl rfl ?_
      refine g_aload_n dX1_mayReach_33 rfl rfl ?_
      refine g_get f_X1_9 dX1_mayReach_34 rfl 0 rfl rfl ?_
      refine g_alen dX1_mayReach_37 rfl 1 rfl (Nat.le_of_ble_eq_true rfl) rfl ?_
      refine g_icmp_geN (t := 76) dX1_mayReach_38 (by decide) rfl (by omega) (by omega) (fun h38 => ?_) (fun h38 => ?_)
      · exact absurd h38 (by omega)
      · skip
        refine g_iload dX1_mayReach_41 rfl rfl ?_
        refine g_if_lt (t := 76) dX1_mayReach_43 (by decide) rfl (fun h43 => ?_) (fun h43 => ?_)
        · skip
          refine g_iload dX1_mayReach_76 rfl rfl ?_
          refine g_if_lt (t := 85) dX1_mayReach_78 (by decide) rfl (fun h78 => ?_) (fun h78 => ?_)
          · skip
            refine g_iconst (v := nI 0) dX1_mayReach_85 rfl (by decide) ?_
            exact g_zret (b := false) dX1_mayReach_86 rfl (Nat.le_refl _) (Nat.le_refl _) (by rw [decide_eq_false (by have := (zsub_lt (by omega) (by omega)).mp h78; omega)] at hΨ; exact hΨ)
          · skip
            refine g_iconst (v := nI 1) dX1_mayReach_81 rfl (by decide) ?_
            refine g_goto (q := 86) dX1_mayReach_82 (by decide) ?_
            exact g_zret (b := true) dX1_mayReach_86 rfl (Nat.le_refl _) (Nat.le_refl _) (by rw [decide_eq_true (by have := Nat.not_lt.mp (fun z => h78 ((zsub_lt (by omega) (by omega)).mpr z)); exact absurd h43 h78)] at hΨ; exact hΨ)
        · have hb := hsl i (by omega)
          have hm : (sl i - less) * wv ≤ 9801 := Nat.le_trans (Nat.mul_le_mul (show sl i - less ≤ 99 by omega) hwv) (by decide)
          refine g_iload dX1_mayReach_46 rfl rfl ?_
          refine g_iconst (v := nI 0) dX1_mayReach_48 rfl (by decide) ?_
          refine g_aload_n dX1_mayReach_49 rfl rfl ?_
          refine g_get f_X1_9 dX1_mayReach_50 rfl 0 rfl rfl ?_
          refine g_iload dX1_mayReach_53 rfl rfl ?_
          refine g_ialdN (v := nI _) dX1_mayReach_55 rfl 1 rfl (by omega) (by decide) (rfl) ?_
          refine g_iload_n dX1_mayReach_56 rfl rfl ?_
          refine g_isub dX1_mayReach_57 rfl rfl ?_
          refine g_max m_X1_32 dX1_mayReach_58 rfl (by decide) (Nat.le_refl _) (Nat.le_refl _) (Nat.le_of_ble_eq_true rfl) (zmaxsub (by omega) (by omega)) ?_
          refine g_iload dX1_mayReach_61 rfl rfl ?_
          refine g_imul dX1_mayReach_63 rfl (pk_mul _ _) ?_
          refine g_bipush (v := nI 50) dX1_mayReach_64 rfl (by decide) ?_
          refine g_idiv dX1_mayReach_66 rfl (by decide) (pk_div (by omega) (by omega) (by omega)) ?_
          refine g_isub (v := nI A - nI (u + (sl i - less) * wv / 50)) dX1_mayReach_67 rfl (by rw [sub_sub32, nI_add]) ?_
          refine g_istore dX1_mayReach_68 rfl (by decide) rfl rfl ?_
          refine g_iinc dX1_mayReach_70 rfl rfl (nI_1 _) (by decide) rfl rfl ?_
          refine g_goto (q := 22) dX1_mayReach_73 (by decide) ?_
          exact ih (i + 1) (u + (sl i - less) * wv / 50) (by omega) (by omega) (by rw [Nat.add_assoc]; exact hΨ)
set_option maxRecDepth 20000 in
theorem c_X1_mayReach (sk : Nat → Nat) {hp hs hl ls hw ha hr F c less : Nat} {g o sd C V E N S : Int32} {sl w a : Nat → Nat} (hF : F ≤ 30) (hc : c < 6) (hsl : ∀ j, j < 30 → sl j ≤ 99) (hwv : w c ≤ 99) (hav : a c ≤ 999) (hless : less ≤ 1000) : Ct sk yX1_mayReach cX1_mayReach 7 (some .boolean) 1 0 0 [oPole hp hs g o sd, cI hs 30 (fI sl), oPlan hl ls hw ha hr (nI F) C V E N S, cI hw 6 (fI w), cI ha 6 (fI a)] [.ref hp, .ref hl, .int (nI c), .int (nI less)] (zD (some (.int (zb (decide (F + lessR (w c) less sl F 0 ≤ a c))))) [oPole hp hs g o sd, cI hs 30 (fI sl), oPlan hl ls hw ha hr (nI F) C V E N S, cI hw 6 (fI w), cI ha 6 (fI a)]) := by
  refine Ct.of (own := RX1) (l := [some (.ref hp), some (.ref hl), some (.int (nI c)), some (.int (nI less)), none, none, none]) (by decide) rfl (Nat.le_of_ble_eq_true rfl) rfl ?_
  refine g_aload_n dX1_mayReach_0 rfl rfl ?_
  refine g_iload_n dX1_mayReach_1 rfl rfl ?_
  refine g_callV (c_X0_weightOf sk hc) m_X1_41 a_X0_weightOf dX1_mayReach_2 rfl [2, 3] rfl rfl 0 rfl rfl rfl (by decide) (by decide) (by decide) (by decide) (Nat.le_of_ble_eq_true rfl) (fun r w hK => ?_)
  obtain ⟨rfl, rfl⟩ := hK
  refine ⟨rfl, ?_⟩
  dsimp only [puts, List.set, Option.toList, List.cons_append, List.nil_append, List.append_nil]
  refine g_istore dX1_mayReach_5 rfl (by decide) rfl rfl ?_
  refine g_aload_n dX1_mayReach_7 rfl rfl ?_
  refine g_iload_n dX1_mayReach_8 rfl rfl ?_
  refine g_callV (c_X0_armsOf sk hc) m_X1_45 a_X0_armsOf dX1_mayReach_9 rfl [2, 4] rfl rfl 0 rfl rfl rfl (by decide) (by decide) (by decide) (by decide) (Nat.le_of_ble_eq_true rfl) (fun r w hK => ?_)
  obtain ⟨rfl, rfl⟩ := hK
  refine ⟨rfl, ?_⟩
  dsimp only [puts, List.set, Option.toList, List.cons_append, List.nil_append, List.append_nil]
  refine g_aload_n dX1_mayReach_12 rfl rfl ?_
  refine g_get f_X1_48 dX1_mayReach_13 rfl 2 rfl rfl ?_
  refine g_isub dX1_mayReach_16 rfl rfl ?_
  refine g_istore dX1_mayReach_17 rfl (by decide) rfl rfl ?_
  refine g_iconst (v := nI 0) dX1_mayReach_19 rfl (by decide) ?_
  refine g_istore dX1_mayReach_20 rfl (by decide) rfl rfl ?_
  exact lp_X1_mayReach sk hF hsl hwv hav hless F 0 F (by omega) (by omega) ⟨rfl, rfl⟩
set_option maxRecDepth 20000 in
theorem c_X1_draw (sk : Nat → Nat) {hp hs C : Nat} {g o sd : Int32} (hC : C ≤ 6) (hC1 : 1 ≤ C) : Ct sk yX1_draw cX1_draw 2 (some .int) 0 0 0 [oPole hp hs g o sd] [.ref hp, .int (nI C)] (zD (some (.int (pkI (nxI sd) C))) [oPole hp hs g o (nxI sd)]) := by
  refine Ct.of (own := RX1) (l := [some (.ref hp), some (.int (nI C))]) (by decide) rfl (Nat.le_of_ble_eq_true rfl) rfl ?_
  refine g_aload_n dX1_draw_0 rfl rfl ?_
  refine g_aload_n dX1_draw_1 rfl rfl ?_
  refine g_get f_X1_22 dX1_draw_2 rfl 0 rfl rfl ?_
  refine g_ldc dX1_draw_5 rfl k_X1_75 ?_
  refine g_imul dX1_draw_7 rfl rfl ?_
  refine g_sipush (v := nI 12345) dX1_draw_8 rfl (by decide) ?_
  refine g_iadd dX1_draw_11 rfl rfl ?_
  refine g_ldc dX1_draw_12 rfl k_X1_76 ?_
  refine g_iand dX1_draw_14 rfl rfl ?_
  refine g_putI f_X1_22 dX1_draw_15 rfl 0 rfl (Nat.le_of_ble_eq_true rfl) rfl ?_
  dsimp only [List.set]
  refine g_iload_n dX1_draw_18 rfl rfl ?_
  refine g_if_le (t := 34) dX1_draw_19 (by decide) rfl (fun h19 => ?_) (fun h19 => ?_)
  · exact absurd h19 (nI_nle (by omega) (by omega))
  · skip
    refine g_aload_n dX1_draw_22 rfl rfl ?_
    refine g_get f_X1_22 dX1_draw_23 rfl 0 rfl rfl ?_
    refine g_ldc dX1_draw_26 rfl k_X1_77 ?_
    refine g_idiv dX1_draw_28 rfl (by decide) rfl ?_
    refine g_iload_n dX1_draw_29 rfl rfl ?_
    refine g_irem dX1_draw_30 rfl (nI_ne0 (by omega) (by omega)) rfl ?_
    refine g_goto (q := 35) dX1_draw_31 (by decide) ?_
    exact g_iret dX1_draw_35 rfl (Nat.le_refl _) (Nat.le_refl _) (⟨rfl, rfl⟩)
theorem maxR_le {r : Nat → Nat} {C : Nat} (h : ∀ c, c < C → r c ≤ 20) : ∀ n, n ≤ C → maxR r n ≤ 20
  | 0, _ => Nat.zero_le _
  | n + 1, hn => by have h1 := maxR_le h n (by omega); have h2 := h n (by omega); rw [maxR]; omega
set_option maxRecDepth 20000 in
theorem lp_X0_mostRub (sk : Nat → Nat) {hl ls hw ha hr C : Nat} {F V E N S : Int32} {r : Nat → Nat} {Ψ : PS} (hC : C ≤ 6) (hr20 : ∀ c, c < C → r c ≤ 20) (hΨ : Ψ (some (.int (nI (maxR r C)))) [oPlan hl ls hw ha hr F (nI C) V E N S, cI hr 6 (fI r)]) : ∀ (n i : Nat), i + n = C → GG sk RX0 yX0_mostRub cX0_mostRub 3 (some .int) 1 0 0 Ψ 0 0 4 [some (.ref hl), some (.int (nI (maxR r i))), some (.int (nI i))] [] [oPlan hl ls hw ha hr F (nI C) V E N S, cI hr 6 (fI r)] := by
  intro n
  induction n with
  | zero =>
    intro i hi
    obtain rfl : i = C := by omega
    refine g_iload_n dX0_mostRub_4 rfl rfl ?_
    refine g_aload_n dX0_mostRub_5 rfl rfl ?_
    refine g_get f_X0_31 dX0_mostRub_6 rfl 0 rfl rfl ?_
    refine g_icmp_geN (t := 38) dX0_mostRub_9 (by decide) rfl (by omega) (by omega) (fun h9 => ?_) (fun h9 => ?_)
    · skip
      refine g_iload_n dX0_mostRub_38 rfl rfl ?_
      exact g_iret dX0_mostRub_39 rfl (Nat.le_refl _) (Nat.le_refl _) (hΨ)
    · exact absurd h9 (by omega)
  | succ n ih =>
    intro i hi
    have hb := hr20 i (by omega)
    have hb2 := maxR_le hr20 i (by omega)
    refine g_iload_n dX0_mostRub_4 rfl rfl ?_
    refine g_aload_n dX0_mostRub_5 rfl rfl ?_
    refine g_get f_X0_31 dX0_mostRub_6 rfl 0 rfl rfl ?_
    refine g_icmp_geN (t := 38) dX0_mostRub_9 (by decide) rfl (by omega) (by omega) (fun h9 => ?_) (fun h9 => ?_)
    · exact absurd h9 (by omega)
    · skip
      refine g_iload_n dX0_mostRub_12 rfl rfl ?_
      refine g_aload_n dX0_mostRub_13 rfl rfl ?_
      refine g_get f_X0_21 dX0_mostRub_14 rfl 0 rfl rfl ?_
      refine g_alen dX0_mostRub_17 rfl 1 rfl (Nat.le_of_ble_eq_true rfl) rfl ?_
      refine g_icmp_geN (t := 38) dX0_mostRub_18 (by decide) rfl (by omega) (by omega) (fun h18 => ?_) (fun h18 => ?_)
      · exact absurd h18 (by omega)
      · skip
        refine g_iload_n dX0_mostRub_21 rfl rfl ?_
        refine g_aload_n dX0_mostRub_22 rfl rfl ?_
        refine g_get f_X0_21 dX0_mostRub_23 rfl 0 rfl rfl ?_
        refine g_iload_n dX0_mostRub_26 rfl rfl ?_
        refine g_ialdN (v := nI _) dX0_mostRub_27 rfl 1 rfl (by omega) (by decide) (rfl) ?_
        refine g_max m_X0_50 dX0_mostRub_28 rfl (by decide) (Nat.le_refl _) (Nat.le_refl _) (Nat.le_of_ble_eq_true rfl) (zmaxN (by omega) (by omega)) ?_
        refine g_istore_n dX0_mostRub_31 rfl (by decide) rfl rfl ?_
        refine g_iinc dX0_mostRub_32 rfl rfl (nI_1 _) (by decide) rfl rfl ?_
        refine g_goto (q := 4) dX0_mostRub_35 (by decide) ?_
        exact ih (i + 1) (by omega)
set_option maxRecDepth 20000 in
theorem c_X0_mostRub (sk : Nat → Nat) {hl ls hw ha hr C : Nat} {F V E N S : Int32} {r : Nat → Nat} (hC : C ≤ 6) (hr20 : ∀ c, c < C → r c ≤ 20) : Ct sk yX0_mostRub cX0_mostRub 3 (some .int) 1 0 0 [oPlan hl ls hw ha hr F (nI C) V E N S, cI hr 6 (fI r)] [.ref hl] (zD (some (.int (nI (maxR r C)))) [oPlan hl ls hw ha hr F (nI C) V E N S, cI hr 6 (fI r)]) := by
  refine Ct.of (own := RX0) (l := [some (.ref hl), none, none]) (by decide) rfl (Nat.le_of_ble_eq_true rfl) rfl ?_
  refine g_iconst (v := nI 0) dX0_mostRub_0 rfl (by decide) ?_
  refine g_istore_n dX0_mostRub_1 rfl (by decide) rfl rfl ?_
  refine g_iconst (v := nI 0) dX0_mostRub_2 rfl (by decide) ?_
  refine g_istore_n dX0_mostRub_3 rfl (by decide) rfl rfl ?_
  exact lp_X0_mostRub sk hC hr20 ⟨rfl, rfl⟩ C 0 (by omega)
set_option maxRecDepth 20000 in
theorem c_X0_empty (sk : Nat → Nat) {hl ls hw ha hr : Nat} {F C V E N S : Int32}  : Ct sk yX0_empty cX0_empty 1 none 0 0 0 [oPlan hl ls hw ha hr F C V E N S] [.ref hl] (zD none [oPlan hl ls hw ha hr (nI 0) (nI 0) (nI 100) (nI 1) (nI 1) (nI 0)]) := by
  refine Ct.of (own := RX0) (l := [some (.ref hl)]) (by decide) rfl (Nat.le_of_ble_eq_true rfl) rfl ?_
  refine g_aload_n dX0_empty_0 rfl rfl ?_
  refine g_iconst (v := nI 0) dX0_empty_1 rfl (by decide) ?_
  refine g_putI f_X0_27 dX0_empty_2 rfl 0 rfl (Nat.le_of_ble_eq_true rfl) rfl ?_
  dsimp only [List.set]
  refine g_aload_n dX0_empty_5 rfl rfl ?_
  refine g_iconst (v := nI 0) dX0_empty_6 rfl (by decide) ?_
  refine g_putI f_X0_31 dX0_empty_7 rfl 0 rfl (Nat.le_of_ble_eq_true rfl) rfl ?_
  dsimp only [List.set]
  refine g_aload_n dX0_empty_10 rfl rfl ?_
  refine g_bipush (v := nI 100) dX0_empty_11 rfl (by decide) ?_
  refine g_putI f_X0_34 dX0_empty_13 rfl 0 rfl (Nat.le_of_ble_eq_true rfl) rfl ?_
  dsimp only [List.set]
  refine g_aload_n dX0_empty_16 rfl rfl ?_
  refine g_iconst (v := nI 1) dX0_empty_17 rfl (by decide) ?_
  refine g_putI f_X0_37 dX0_empty_18 rfl 0 rfl (Nat.le_of_ble_eq_true rfl) rfl ?_
  dsimp only [List.set]
  refine g_aload_n dX0_empty_21 rfl rfl ?_
  refine g_iconst (v := nI 1) dX0_empty_22 rfl (by decide) ?_
  refine g_putI f_X0_40 dX0_empty_23 rfl 0 rfl (Nat.le_of_ble_eq_true rfl) rfl ?_
  dsimp only [List.set]
  refine g_aload_n dX0_empty_26 rfl rfl ?_
  refine g_iconst (v := nI 0) dX0_empty_27 rfl (by decide) ?_
  refine g_putI f_X0_43 dX0_empty_28 rfl 0 rfl (Nat.le_of_ble_eq_true rfl) rfl ?_
  dsimp only [List.set]
  exact g_vret dX0_empty_31 rfl (Nat.le_refl _) (Nat.le_refl _) (⟨rfl, rfl⟩)
set_option maxRecDepth 20000 in
theorem c_X0_become (sk : Nat → Nat) {hl ls hw ha hr ql qs qw qa qr : Nat} {F C V E N S F2 C2 V2 E2 N2 S2 : Int32} {fs fw fa fr gs gw ga gr : Nat → Int32}  : Ct sk yX0_become cX0_become 2 none 3 0 0 [oPlan hl ls hw ha hr F C V E N S, cI ls 30 fs, cI hw 6 fw, cI ha 6 fa, cI hr 6 fr, oPlan ql qs qw qa qr F2 C2 V2 E2 N2 S2, cI qs 30 gs, cI qw 6 gw, cI qa 6 ga, cI qr 6 gr] [.ref hl, .ref ql] (zD none [oPlan hl ls hw ha hr F2 C2 V2 E2 N2 S2, cI ls 30 gs, cI hw 6 gw, cI ha 6 ga, cI hr 6 gr, oPlan ql qs qw qa qr F2 C2 V2 E2 N2 S2, cI qs 30 gs, cI qw 6 gw, cI qa 6 ga, cI qr 6 gr]) := by
  refine Ct.of (own := RX0) (l := [some (.ref hl), some (.ref ql)]) (by decide) rfl (Nat.le_of_ble_eq_true rfl) rfl ?_
  refine g_aload_n dX0_become_0 rfl rfl ?_
  refine g_aload_n dX0_become_1 rfl rfl ?_
  refine g_get f_X0_27 dX0_become_2 rfl 5 rfl rfl ?_
  refine g_putI f_X0_27 dX0_become_5 rfl 0 rfl (Nat.le_of_ble_eq_true rfl) rfl ?_
  dsimp only [List.set]
  refine g_aload_n dX0_become_8 rfl rfl ?_
  refine g_aload_n dX0_become_9 rfl rfl ?_
  refine g_get f_X0_31 dX0_become_10 rfl 5 rfl rfl ?_
  refine g_putI f_X0_31 dX0_become_13 rfl 0 rfl (Nat.le_of_ble_eq_true rfl) rfl ?_
  dsimp only [List.set]
  refine g_aload_n dX0_become_16 rfl rfl ?_
  refine g_aload_n dX0_become_17 rfl rfl ?_
  refine g_get f_X0_34 dX0_become_18 rfl 5 rfl rfl ?_
  refine g_putI f_X0_34 dX0_become_21 rfl 0 rfl (Nat.le_of_ble_eq_true rfl) rfl ?_
  dsimp only [List.set]
  refine g_aload_n dX0_become_24 rfl rfl ?_
  refine g_aload_n dX0_become_25 rfl rfl ?_
  refine g_get f_X0_37 dX0_become_26 rfl 5 rfl rfl ?_
  refine g_putI f_X0_37 dX0_become_29 rfl 0 rfl (Nat.le_of_ble_eq_true rfl) rfl ?_
  dsimp only [List.set]
  refine g_aload_n dX0_become_32 rfl rfl ?_
  refine g_aload_n dX0_become_33 rfl rfl ?_
  refine g_get f_X0_40 dX0_become_34 rfl 5 rfl rfl ?_
  refine g_putI f_X0_40 dX0_become_37 rfl 0 rfl (Nat.le_of_ble_eq_true rfl) rfl ?_
  dsimp only [List.set]
  refine g_aload_n dX0_become_40 rfl rfl ?_
  refine g_aload_n dX0_become_41 rfl rfl ?_
  refine g_get f_X0_43 dX0_become_42 rfl 5 rfl rfl ?_
  refine g_putI f_X0_43 dX0_become_45 rfl 0 rfl (Nat.le_of_ble_eq_true rfl) rfl ?_
  dsimp only [List.set]
  refine g_aload_n dX0_become_48 rfl rfl ?_
  refine g_get f_X0_9 dX0_become_49 rfl 5 rfl rfl ?_
  refine g_aload_n dX0_become_52 rfl rfl ?_
  refine g_get f_X0_9 dX0_become_53 rfl 0 rfl rfl ?_
  refine g_callN (c_X6_copyRow sk (by decide)) m_X0_46 a_X6_copyRow dX0_become_56 rfl [6, 1] rfl rfl rfl rfl (by decide) (by decide) (by decide) (by decide) (Nat.le_of_ble_eq_true rfl) (fun r w hK => ?_)
  obtain ⟨rfl, rfl⟩ := hK
  refine ⟨rfl, ?_⟩
  dsimp only [puts, List.set, Option.toList, List.cons_append, List.nil_append, List.append_nil]
  refine g_aload_n dX0_become_59 rfl rfl ?_
  refine g_get f_X0_15 dX0_become_60 rfl 5 rfl rfl ?_
  refine g_aload_n dX0_become_63 rfl rfl ?_
  refine g_get f_X0_15 dX0_become_64 rfl 0 rfl rfl ?_
  refine g_callN (c_X6_copyRow sk (by decide)) m_X0_46 a_X6_copyRow dX0_become_67 rfl [7, 2] rfl rfl rfl rfl (by decide) (by decide) (by decide) (by decide) (Nat.le_of_ble_eq_true rfl) (fun r w hK => ?_)
  obtain ⟨rfl, rfl⟩ := hK
  refine ⟨rfl, ?_⟩
  dsimp only [puts, List.set, Option.toList, List.cons_append, List.nil_append, List.append_nil]
  refine g_aload_n dX0_become_70 rfl rfl ?_
  refine g_get f_X0_18 dX0_become_71 rfl 5 rfl rfl ?_
  refine g_aload_n dX0_become_74 rfl rfl ?_
  refine g_get f_X0_18 dX0_become_75 rfl 0 rfl rfl ?_
  refine g_callN (c_X6_copyRow sk (by decide)) m_X0_46 a_X6_copyRow dX0_become_78 rfl [8, 3] rfl rfl rfl rfl (by decide) (by decide) (by decide) (by decide) (Nat.le_of_ble_eq_true rfl) (fun r w hK => ?_)
  obtain ⟨rfl, rfl⟩ := hK
  refine ⟨rfl, ?_⟩
  dsimp only [puts, List.set, Option.toList, List.cons_append, List.nil_append, List.append_nil]
  refine g_aload_n dX0_become_81 rfl rfl ?_
  refine g_get f_X0_21 dX0_become_82 rfl 5 rfl rfl ?_
  refine g_aload_n dX0_become_85 rfl rfl ?_
  refine g_get f_X0_21 dX0_become_86 rfl 0 rfl rfl ?_
  refine g_callN (c_X6_copyRow sk (by decide)) m_X0_46 a_X6_copyRow dX0_become_89 rfl [9, 4] rfl rfl rfl rfl (by decide) (by decide) (by decide) (by decide) (Nat.le_of_ble_eq_true rfl) (fun r w hK => ?_)
  obtain ⟨rfl, rfl⟩ := hK
  refine ⟨rfl, ?_⟩
  dsimp only [puts, List.set, Option.toList, List.cons_append, List.nil_append, List.append_nil]
  exact g_vret dX0_become_92 rfl (Nat.le_refl _) (Nat.le_refl _) (⟨rfl, rfl⟩)
theorem stF_upN {F v i : Nat} {f : Nat → Int32} (h : F ≤ i) : upd (stF F v i f) i (nI 0) = stF F v (i + 1) f := by rw [← stF_up, if_neg (Nat.not_lt.mpr h)]
theorem stF_upP {F v i : Nat} {f : Nat → Int32} (h : i < F) : upd (stF F v i f) i (nI v) = stF F v (i + 1) f := by rw [← stF_up, if_pos h]
set_option maxRecDepth 20000 in
theorem lp_X0_setFeet (sk : Nat → Nat) {hl ls hw ha hr m v : Nat} {C V E N S : Int32} {f : Nat → Int32} {Ψ : PS} (hm : m ≤ 30) (hv : v ≤ 99) (hΨ : Ψ none [oPlan hl ls hw ha hr (nI m) C V E N S, cI ls 30 (stF m v 30 f)]) : ∀ (n i : Nat), i + n = 30 → GG sk RX0 yX0_setFeet cX0_setFeet 4 none 0 0 0 Ψ 0 0 7 [some (.ref hl), some (.int (nI m)), some (.int (nI v)), some (.int (nI i))] [] [oPlan hl ls hw ha hr (nI m) C V E N S, cI ls 30 (stF m v i f)] := by
  intro n
  induction n with
  | zero =>
    intro i hi
    obtain rfl : i = 30 := by omega
    refine g_iload_n dX0_setFeet_7 rfl rfl ?_
    refine g_aload_n dX0_setFeet_8 rfl rfl ?_
    refine g_get f_X0_9 dX0_setFeet_9 rfl 0 rfl rfl ?_
    refine g_alen dX0_setFeet_12 rfl 1 rfl (Nat.le_of_ble_eq_true rfl) rfl ?_
    refine g_icmp_geN (t := 38) dX0_setFeet_13 (by decide) rfl (by omega) (by omega) (fun h13 => ?_) (fun h13 => ?_)
    · skip
      exact g_vret dX0_setFeet_38 rfl (Nat.le_refl _) (Nat.le_refl _) (hΨ)
    · exact absurd h13 (by omega)
  | succ n ih =>
    intro i hi
    refine g_iload_n dX0_setFeet_7 rfl rfl ?_
    refine g_aload_n dX0_setFeet_8 rfl rfl ?_
    refine g_get f_X0_9 dX0_setFeet_9 rfl 0 rfl rfl ?_
    refine g_alen dX0_setFeet_12 rfl 1 rfl (Nat.le_of_ble_eq_true rfl) rfl ?_
    refine g_icmp_geN (t := 38) dX0_setFeet_13 (by decide) rfl (by omega) (by omega) (fun h13 => ?_) (fun h13 => ?_)
    · exact absurd h13 (by omega)
    · skip
      refine g_aload_n dX0_setFeet_16 rfl rfl ?_
      refine g_get f_X0_9 dX0_setFeet_17 rfl 0 rfl rfl ?_
      refine g_iload_n dX0_setFeet_20 rfl rfl ?_
      refine g_iload_n dX0_setFeet_21 rfl rfl ?_
      refine g_iload_n dX0_setFeet_22 rfl rfl ?_
      refine g_icmp_geN (t := 30) dX0_setFeet_23 (by decide) rfl (by omega) (by omega) (fun h23 => ?_) (fun h23 => ?_)
      · skip
        refine g_iconst (v := nI 0) dX0_setFeet_30 rfl (by decide) ?_
        refine g_iastN dX0_setFeet_31 rfl 1 rfl (by omega) (by decide) (stF_upN h23) rfl ?_
        refine g_iinc dX0_setFeet_32 rfl rfl (nI_1 _) (by decide) rfl rfl ?_
        refine g_goto (q := 7) dX0_setFeet_35 (by decide) ?_
        exact ih (i + 1) (by omega)
      · skip
        refine g_iload_n dX0_setFeet_26 rfl rfl ?_
        refine g_goto (q := 31) dX0_setFeet_27 (by decide) ?_
        refine g_iastN dX0_setFeet_31 rfl 1 rfl (by omega) (by decide) (stF_upP h23) rfl ?_
        refine g_iinc dX0_setFeet_32 rfl rfl (nI_1 _) (by decide) rfl rfl ?_
        refine g_goto (q := 7) dX0_setFeet_35 (by decide) ?_
        exact ih (i + 1) (by omega)
set_option maxRecDepth 20000 in
theorem c_X0_setFeet (sk : Nat → Nat) {hl ls hw ha hr m v : Nat} {F C V E N S : Int32} {f : Nat → Int32} (hm : m ≤ 30) (hv : v ≤ 99) : Ct sk yX0_setFeet cX0_setFeet 4 none 0 0 0 [oPlan hl ls hw ha hr F C V E N S, cI ls 30 f] [.ref hl, .int (nI m), .int (nI v)] (zD none [oPlan hl ls hw ha hr (nI m) C V E N S, cI ls 30 (stF m v 30 f)]) := by
  refine Ct.of (own := RX0) (l := [some (.ref hl), some (.int (nI m)), some (.int (nI v)), none]) (by decide) rfl (Nat.le_of_ble_eq_true rfl) rfl ?_
  refine g_aload_n dX0_setFeet_0 rfl rfl ?_
  refine g_iload_n dX0_setFeet_1 rfl rfl ?_
  refine g_putI f_X0_27 dX0_setFeet_2 rfl 0 rfl (Nat.le_of_ble_eq_true rfl) rfl ?_
  dsimp only [List.set]
  refine g_iconst (v := nI 0) dX0_setFeet_5 rfl (by decide) ?_
  refine g_istore_n dX0_setFeet_6 rfl (by decide) rfl rfl ?_
  have h0 := lp_X0_setFeet sk (hl := hl) (ls := ls) (hw := hw) (ha := ha) (hr := hr) (C := C) (V := V) (E := E) (N := N) (S := S) (f := f) (Ψ := zD none [oPlan hl ls hw ha hr (nI m) C V E N S, cI ls 30 (stF m v 30 f)]) hm hv ⟨rfl, rfl⟩ 30 0 (by omega)
  rw [stF_0] at h0
  exact h0
set_option maxRecDepth 20000 in
theorem c_X0_setSlip (sk : Nat → Nat) {hl ls hw ha hr m v : Nat} {F C V E N S : Int32} {f : Nat → Int32} (hm : m < 30) : Ct sk yX0_setSlip cX0_setSlip 3 none 0 0 0 [oPlan hl ls hw ha hr F C V E N S, cI ls 30 f] [.ref hl, .int (nI m), .int (nI v)] (zD none [oPlan hl ls hw ha hr F C V E N S, cI ls 30 (upd f m (nI v))]) := by
  refine Ct.of (own := RX0) (l := [some (.ref hl), some (.int (nI m)), some (.int (nI v))]) (by decide) rfl (Nat.le_of_ble_eq_true rfl) rfl ?_
  refine g_iload_n dX0_setSlip_0 rfl rfl ?_
  refine g_if_lt (t := 20) dX0_setSlip_1 (by decide) rfl (fun h1 => ?_) (fun h1 => ?_)
  · exact absurd h1 (nI_nlt0 (by omega))
  · skip
    refine g_iload_n dX0_setSlip_4 rfl rfl ?_
    refine g_aload_n dX0_setSlip_5 rfl rfl ?_
    refine g_get f_X0_9 dX0_setSlip_6 rfl 0 rfl rfl ?_
    refine g_alen dX0_setSlip_9 rfl 1 rfl (Nat.le_of_ble_eq_true rfl) rfl ?_
    refine g_icmp_geN (t := 20) dX0_setSlip_10 (by decide) rfl (by omega) (by omega) (fun h10 => ?_) (fun h10 => ?_)
    · exact absurd h10 (by omega)
    · skip
      refine g_aload_n dX0_setSlip_13 rfl rfl ?_
      refine g_get f_X0_9 dX0_setSlip_14 rfl 0 rfl rfl ?_
      refine g_iload_n dX0_setSlip_17 rfl rfl ?_
      refine g_iload_n dX0_setSlip_18 rfl rfl ?_
      refine g_iastN dX0_setSlip_19 rfl 1 rfl (by omega) (by decide) (rfl) rfl ?_
      exact g_vret dX0_setSlip_20 rfl (Nat.le_refl _) (Nat.le_refl _) (⟨rfl, rfl⟩)
set_option maxRecDepth 20000 in
theorem c_X0_addClimber (sk : Nat → Nat) {hl ls hw ha hr c x1 x2 x3 : Nat} {F V E N S : Int32} {fw fa fr : Nat → Int32} (hc : c < 6) : Ct sk yX0_addClimber cX0_addClimber 5 none 0 0 0 [oPlan hl ls hw ha hr F (nI c) V E N S, cI hw 6 fw, cI ha 6 fa, cI hr 6 fr] [.ref hl, .int (nI x1), .int (nI x2), .int (nI x3)] (zD none [oPlan hl ls hw ha hr F (nI (c + 1)) V E N S, cI hw 6 (upd fw c (nI x1)), cI ha 6 (upd fa c (nI x2)), cI hr 6 (upd fr c (nI x3))]) := by
  refine Ct.of (own := RX0) (l := [some (.ref hl), some (.int (nI x1)), some (.int (nI x2)), some (.int (nI x3)), none]) (by decide) rfl (Nat.le_of_ble_eq_true rfl) rfl ?_
  refine g_aload_n dX0_addClimber_0 rfl rfl ?_
  refine g_get f_X0_31 dX0_addClimber_1 rfl 0 rfl rfl ?_
  refine g_istore dX0_addClimber_4 rfl (by decide) rfl rfl ?_
  refine g_iload dX0_addClimber_6 rfl rfl ?_
  refine g_if_lt (t := 73) dX0_addClimber_8 (by decide) rfl (fun h8 => ?_) (fun h8 => ?_)
  · exact absurd h8 (nI_nlt0 (by omega))
  · skip
    refine g_iload dX0_addClimber_11 rfl rfl ?_
    refine g_aload_n dX0_addClimber_13 rfl rfl ?_
    refine g_get f_X0_15 dX0_addClimber_14 rfl 0 rfl rfl ?_
    refine g_alen dX0_addClimber_17 rfl 1 rfl (Nat.le_of_ble_eq_true rfl) rfl ?_
    refine g_icmp_geN (t := 73) dX0_addClimber_18 (by decide) rfl (by omega) (by omega) (fun h18 => ?_) (fun h18 => ?_)
    · exact absurd h18 (by omega)
    · skip
      refine g_iload dX0_addClimber_21 rfl rfl ?_
      refine g_aload_n dX0_addClimber_23 rfl rfl ?_
      refine g_get f_X0_18 dX0_addClimber_24 rfl 0 rfl rfl ?_
      refine g_alen dX0_addClimber_27 rfl 2 rfl (Nat.le_of_ble_eq_true rfl) rfl ?_
      refine g_icmp_geN (t := 73) dX0_addClimber_28 (by decide) rfl (by omega) (by omega) (fun h28 => ?_) (fun h28 => ?_)
      · exact absurd h28 (by omega)
      · skip
        refine g_iload dX0_addClimber_31 rfl rfl ?_
        refine g_aload_n dX0_addClimber_33 rfl rfl ?_
        refine g_get f_X0_21 dX0_addClimber_34 rfl 0 rfl rfl ?_
        refine g_alen dX0_addClimber_37 rfl 3 rfl (Nat.le_of_ble_eq_true rfl) rfl ?_
        refine g_icmp_geN (t := 73) dX0_addClimber_38 (by decide) rfl (by omega) (by omega) (fun h38 => ?_) (fun h38 => ?_)
        · exact absurd h38 (by omega)
        · skip
          refine g_aload_n dX0_addClimber_41 rfl rfl ?_
          refine g_get f_X0_15 dX0_addClimber_42 rfl 0 rfl rfl ?_
          refine g_iload dX0_addClimber_45 rfl rfl ?_
          refine g_iload_n dX0_addClimber_47 rfl rfl ?_
          refine g_iastN dX0_addClimber_48 rfl 1 rfl (by omega) (by decide) (rfl) rfl ?_
          refine g_aload_n dX0_addClimber_49 rfl rfl ?_
          refine g_get f_X0_18 dX0_addClimber_50 rfl 0 rfl rfl ?_
          refine g_iload dX0_addClimber_53 rfl rfl ?_
          refine g_iload_n dX0_addClimber_55 rfl rfl ?_
          refine g_iastN dX0_addClimber_56 rfl 2 rfl (by omega) (by decide) (rfl) rfl ?_
          refine g_aload_n dX0_addClimber_57 rfl rfl ?_
          refine g_get f_X0_21 dX0_addClimber_58 rfl 0 rfl rfl ?_
          refine g_iload dX0_addClimber_61 rfl rfl ?_
          refine g_iload_n dX0_addClimber_63 rfl rfl ?_
          refine g_iastN dX0_addClimber_64 rfl 3 rfl (by omega) (by decide) (rfl) rfl ?_
          refine g_aload_n dX0_addClimber_65 rfl rfl ?_
          refine g_iload dX0_addClimber_66 rfl rfl ?_
          refine g_iconst (v := nI 1) dX0_addClimber_68 rfl (by decide) ?_
          refine g_iadd dX0_addClimber_69 rfl (nI_add _ _) ?_
          refine g_putI f_X0_31 dX0_addClimber_70 rfl 0 rfl (Nat.le_of_ble_eq_true rfl) rfl ?_
          dsimp only [List.set]
          exact g_vret dX0_addClimber_73 rfl (Nat.le_refl _) (Nat.le_refl _) (⟨rfl, rfl⟩)
