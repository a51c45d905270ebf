set_option maxRecDepth 20000 in
theorem c_X6_copyRow (sk : Nat → Nat) {h1 h2 n : Nat} {f g : Nat → Int32} (hn : n < 2 ^ 31) : Ct sk yX6_copyRow cX6_copyRow 2 none 2 0 0 [cI h1 n f, cI h2 n g] [.ref h1, .ref h2] (zD none [cI h1 n f, cI h2 n f]) := by
  refine Ct.of (own := RX6) (l := [some (.ref h1), some (.ref h2)]) (by decide) rfl (Nat.le_of_ble_eq_true rfl) rfl ?_
  refine g_aload_n dX6_copyRow_0 rfl rfl ?_
  refine g_iconst (v := nI 0) dX6_copyRow_1 rfl (by decide) ?_
  refine g_aload_n dX6_copyRow_2 rfl rfl ?_
  refine g_iconst (v := nI 0) dX6_copyRow_3 rfl (by decide) ?_
  refine g_aload_n dX6_copyRow_4 rfl rfl ?_
  refine g_alen dX6_copyRow_5 rfl 0 rfl (Nat.le_of_ble_eq_true rfl) rfl ?_
  refine g_aload_n dX6_copyRow_6 rfl rfl ?_
  refine g_alen dX6_copyRow_7 rfl 1 rfl (Nat.le_of_ble_eq_true rfl) rfl ?_
  refine g_min (v := nI n) m_X6_211 dX6_copyRow_8 rfl (by decide) (Nat.le_refl _) (Nat.le_refl _) (Nat.le_of_ble_eq_true rfl) (ite_self _) ?_
  refine g_copyI m_X6_216 dX6_copyRow_11 rfl 0 1 rfl rfl hn (by decide) (by decide +kernel) rfl ?_
  exact g_vret dX6_copyRow_14 rfl (Nat.le_refl _) (Nat.le_refl _) ⟨rfl, rfl⟩
set_option maxRecDepth 20000 in
theorem c_X1_become (sk : Nat → Nat) {hp hs hq ht : Nat} {g o sd g2 o2 sd2 : Int32} {f f2 : Nat → Int32}  : Ct sk yX1_become cX1_become 2 none 3 0 0 [oPole hp hs g o sd, cI hs 30 f, oPole hq ht g2 o2 sd2, cI ht 30 f2] [.ref hp, .ref hq] (zD none [oPole hp hs g2 o2 sd2, cI hs 30 f2, oPole hq ht g2 o2 sd2, cI ht 30 f2]) := by
  refine Ct.of (own := RX1) (l := [some (.ref hp), some (.ref hq)]) (by decide) rfl (Nat.le_of_ble_eq_true rfl) rfl ?_
  refine g_aload_n dX1_become_0 rfl rfl ?_
  refine g_aload_n dX1_become_1 rfl rfl ?_
  refine g_get f_X1_19 dX1_become_2 rfl 2 rfl rfl ?_
  refine g_putI f_X1_19 dX1_become_5 rfl 0 rfl (Nat.le_of_ble_eq_true rfl) rfl ?_
  dsimp only [List.set]
  refine g_aload_n dX1_become_8 rfl rfl ?_
  refine g_aload_n dX1_become_9 rfl rfl ?_
  refine g_get f_X1_15 dX1_become_10 rfl 2 rfl rfl ?_
  refine g_putI f_X1_15 dX1_become_13 rfl 0 rfl (Nat.le_of_ble_eq_true rfl) rfl ?_
  dsimp only [List.set]
  refine g_aload_n dX1_become_16 rfl rfl ?_
  refine g_aload_n dX1_become_17 rfl rfl ?_
  refine g_get f_X1_22 dX1_become_18 rfl 2 rfl rfl ?_
  refine g_putI f_X1_22 dX1_become_21 rfl 0 rfl (Nat.le_of_ble_eq_true rfl) rfl ?_
  dsimp only [List.set]
  refine g_aload_n dX1_become_24 rfl rfl ?_
  refine g_get f_X1_9 dX1_become_25 rfl 2 rfl rfl ?_
  refine g_aload_n dX1_become_28 rfl rfl ?_
  refine g_get f_X1_9 dX1_become_29 rfl 0 rfl rfl ?_
  refine g_callN (c_X6_copyRow sk (by decide)) m_X1_25 a_X6_copyRow dX1_become_32 rfl [3, 1] rfl rfl rfl rfl (by decide) (by decide) (by decide) (by decide) (Nat.le_of_ble_eq_true rfl) (fun r w hK => ?_)
  obtain ⟨rfl, rfl⟩ := hK
  refine ⟨rfl, ?_⟩
  dsimp only [puts, List.set, Option.toList, List.cons_append, List.nil_append, List.append_nil]
  exact g_vret dX1_become_35 rfl (Nat.le_refl _) (Nat.le_refl _) (⟨rfl, rfl⟩)
set_option maxRecDepth 20000 in
theorem c_X1_becomeAsTold (sk : Nat → Nat) {hp hs hl ls hw ha hr : Nat} {g o sd F C V E N S : Int32} {f f2 : Nat → Int32}  : Ct sk yX1_becomeAsTold cX1_becomeAsTold 2 none 3 0 0 [oPole hp hs g o sd, cI hs 30 f, oPlan hl ls hw ha hr F C V E N S, cI ls 30 f2] [.ref hp, .ref hl] (zD none [oPole hp hs (nI 0) (-1) sd, cI hs 30 f2, oPlan hl ls hw ha hr F C V E N S, cI ls 30 f2]) := by
  refine Ct.of (own := RX1) (l := [some (.ref hp), some (.ref hl)]) (by decide) rfl (Nat.le_of_ble_eq_true rfl) rfl ?_
  refine g_aload_n dX1_becomeAsTold_0 rfl rfl ?_
  refine g_iconst (v := nI 0) dX1_becomeAsTold_1 rfl (by decide) ?_
  refine g_putI f_X1_19 dX1_becomeAsTold_2 rfl 0 rfl (Nat.le_of_ble_eq_true rfl) rfl ?_
  dsimp only [List.set]
  refine g_aload_n dX1_becomeAsTold_5 rfl rfl ?_
  refine g_iconst (v := -1) dX1_becomeAsTold_6 rfl (by decide) ?_
  refine g_putI f_X1_15 dX1_becomeAsTold_7 rfl 0 rfl (Nat.le_of_ble_eq_true rfl) rfl ?_
  dsimp only [List.set]
  refine g_aload_n dX1_becomeAsTold_10 rfl rfl ?_
  refine g_get f_X1_29 dX1_becomeAsTold_11 rfl 2 rfl rfl ?_
  refine g_aload_n dX1_becomeAsTold_14 rfl rfl ?_
  refine g_get f_X1_9 dX1_becomeAsTold_15 rfl 0 rfl rfl ?_
  refine g_callN (c_X6_copyRow sk (by decide)) m_X1_25 a_X6_copyRow dX1_becomeAsTold_18 rfl [3, 1] rfl rfl rfl rfl (by decide) (by decide) (by decide) (by decide) (Nat.le_of_ble_eq_true rfl) (fun r w hK => ?_)
  obtain ⟨rfl, rfl⟩ := hK
  refine ⟨rfl, ?_⟩
  dsimp only [puts, List.set, Option.toList, List.cons_append, List.nil_append, List.append_nil]
  exact g_vret dX1_becomeAsTold_21 rfl (Nat.le_refl _) (Nat.le_refl _) (⟨rfl, rfl⟩)
set_option maxRecDepth 20000 in
theorem c_X1_slipOn (sk : Nat → Nat) {hp hs i : Nat} {g o sd : Int32} {sl : Nat → Nat} (hi : i < 30) : Ct sk yX1_slipOn cX1_slipOn 2 (some .int) 0 0 0 [oPole hp hs g o sd, cI hs 30 (fI sl)] [.ref hp, .int (nI i)] (zD (some (.int (nI (sl i)))) [oPole hp hs g o sd, cI hs 30 (fI sl)]) := by
  refine Ct.of (own := RX1) (l := [some (.ref hp), some (.int (nI i))]) (by decide) rfl (Nat.le_of_ble_eq_true rfl) rfl ?_
  refine g_iload_n dX1_slipOn_0 rfl rfl ?_
  refine g_if_lt (t := 22) dX1_slipOn_1 (by decide) rfl (fun h1 => ?_) (fun h1 => ?_)
  · exact absurd h1 (nI_nlt0 (by omega))
  · skip
    refine g_iload_n dX1_slipOn_4 rfl rfl ?_
    refine g_aload_n dX1_slipOn_5 rfl rfl ?_
    refine g_get f_X1_9 dX1_slipOn_6 rfl 0 rfl rfl ?_
    refine g_alen dX1_slipOn_9 rfl 1 rfl (Nat.le_of_ble_eq_true rfl) rfl ?_
    refine g_icmp_geN (t := 22) dX1_slipOn_10 (by decide) rfl (by omega) (by omega) (fun h10 => ?_) (fun h10 => ?_)
    · exact absurd h10 (by omega)
    · skip
      refine g_aload_n dX1_slipOn_13 rfl rfl ?_
      refine g_get f_X1_9 dX1_slipOn_14 rfl 0 rfl rfl ?_
      refine g_iload_n dX1_slipOn_17 rfl rfl ?_
      refine g_ialdN (v := nI _) dX1_slipOn_18 rfl 1 rfl (by omega) (by decide) (rfl) ?_
      refine g_goto (q := 23) dX1_slipOn_19 (by decide) ?_
      exact g_iret dX1_slipOn_23 rfl (Nat.le_refl _) (Nat.le_refl _) (⟨rfl, rfl⟩)
set_option maxRecDepth 20000 in
theorem lp_X1_rub (sk : Nat → Nat) {hp hs far most : Nat} {g o sd : Int32} {sl : Nat → Nat} {Ψ : PS} (hf : far ≤ 30) (hm : most ≤ 20) (hsl : ∀ j, j < 30 → sl j ≤ 99) (hΨ : Ψ (some (.int (nI (rubT most sl far)))) [oPole hp hs g o sd, cI hs 30 (fI (rubS far most sl))]) : ∀ (n i : Nat), i + n = far → GG sk RX1 yX1_rub cX1_rub 6 (some .int) 1 0 0 Ψ 0 0 5 [some (.ref hp), some (.int (nI far)), some (.int (nI most)), some (.int (nI (rubT most sl i))), some (.int (nI i)), none] [] [oPole hp hs g o sd, cI hs 30 (fI (rubS i most sl))] := by
  intro n
  induction n with
  | zero =>
    intro i hi
    obtain rfl : i = far := by omega
    refine g_iload dX1_rub_5 rfl rfl ?_
    refine g_iload_n dX1_rub_7 rfl rfl ?_
    refine g_icmp_geN (t := 57) dX1_rub_8 (by decide) rfl (by omega) (by omega) (fun h8 => ?_) (fun h8 => ?_)
    · skip
      refine g_iload_n dX1_rub_57 rfl rfl ?_
      exact g_iret dX1_rub_58 rfl (Nat.le_refl _) (Nat.le_refl _) (hΨ)
    · exact absurd h8 (by omega)
  | succ n ih =>
    intro i hi
    refine g_iload dX1_rub_5 rfl rfl ?_
    refine g_iload_n dX1_rub_7 rfl rfl ?_
    refine g_icmp_geN (t := 57) dX1_rub_8 (by decide) rfl (by omega) (by omega) (fun h8 => ?_) (fun h8 => ?_)
    · exact absurd h8 (by omega)
    · skip
      refine g_iload dX1_rub_11 rfl rfl ?_
      refine g_aload_n dX1_rub_13 rfl rfl ?_
      refine g_get f_X1_9 dX1_rub_14 rfl 0 rfl rfl ?_
      refine g_alen dX1_rub_17 rfl 1 rfl (Nat.le_of_ble_eq_true rfl) rfl ?_
      refine g_icmp_geN (t := 57) dX1_rub_18 (by decide) rfl (by omega) (by omega) (fun h18 => ?_) (fun h18 => ?_)
      · exact absurd h18 (by omega)
      · skip
        refine g_iload_n dX1_rub_21 rfl rfl ?_
        refine g_aload_n dX1_rub_22 rfl rfl ?_
        refine g_get f_X1_9 dX1_rub_23 rfl 0 rfl rfl ?_
        refine g_iload dX1_rub_26 rfl rfl ?_
        have hb := hsl i (by omega)
        have hb2 := rubT_le most sl hm i
        refine g_ialdN (v := nI (sl i)) dX1_rub_28 rfl 1 rfl (by omega) (by decide) (congrArg nI (rubS_at i most sl)) ?_
        refine g_min m_X1_38 dX1_rub_29 rfl (by decide) (Nat.le_refl _) (Nat.le_refl _) (Nat.le_of_ble_eq_true rfl) (zminN (by omega) (by omega)) ?_
        refine g_istore dX1_rub_32 rfl (by decide) rfl rfl ?_
        refine g_aload_n dX1_rub_34 rfl rfl ?_
        refine g_get f_X1_9 dX1_rub_35 rfl 0 rfl rfl ?_
        refine g_iload dX1_rub_38 rfl rfl ?_
        refine g_dup2 dX1_rub_40 rfl rfl rfl ?_
        refine g_ialdN (v := nI (sl i)) dX1_rub_41 rfl 1 rfl (by omega) (by decide) (congrArg nI (rubS_at i most sl)) ?_
        refine g_iload dX1_rub_42 rfl rfl ?_
        refine g_isub dX1_rub_44 rfl (pk_sub (by omega)) ?_
        refine g_iastN dX1_rub_45 rfl 1 rfl (by omega) (by decide) (fI_up2 (rubS_up i most sl)) rfl ?_
        refine g_iload_n dX1_rub_46 rfl rfl ?_
        refine g_iload dX1_rub_47 rfl rfl ?_
        refine g_iadd dX1_rub_49 rfl (nI_add _ _) ?_
        refine g_istore_n dX1_rub_50 rfl (by decide) rfl rfl ?_
        refine g_iinc dX1_rub_51 rfl rfl (nI_1 _) (by decide) rfl rfl ?_
        refine g_goto (q := 5) dX1_rub_54 (by decide) ?_
        refine g_drop 5 rfl ?_
        exact ih (i + 1) (by omega)
set_option maxRecDepth 20000 in
theorem c_X1_rub (sk : Nat → Nat) {hp hs far most : Nat} {g o sd : Int32} {sl : Nat → Nat} (hf : far ≤ 30) (hm : most ≤ 20) (hsl : ∀ j, j < 30 → sl j ≤ 99) : Ct sk yX1_rub cX1_rub 6 (some .int) 1 0 0 [oPole hp hs g o sd, cI hs 30 (fI sl)] [.ref hp, .int (nI far), .int (nI most)] (zD (some (.int (nI (rubT most sl far)))) [oPole hp hs g o sd, cI hs 30 (fI (rubS far most sl))]) := by
  refine Ct.of (own := RX1) (l := [some (.ref hp), some (.int (nI far)), some (.int (nI most)), none, none, none]) (by decide) rfl (Nat.le_of_ble_eq_true rfl) rfl ?_
  refine g_iconst (v := nI 0) dX1_rub_0 rfl (by decide) ?_
  refine g_istore_n dX1_rub_1 rfl (by decide) rfl rfl ?_
  refine g_iconst (v := nI 0) dX1_rub_2 rfl (by decide) ?_
  refine g_istore dX1_rub_3 rfl (by decide) rfl rfl ?_
  have h0 := lp_X1_rub sk (hp := hp) (hs := hs) (g := g) (o := o) (sd := sd) (Ψ := zD (some (.int (nI (rubT most sl far)))) [oPole hp hs g o sd, cI hs 30 (fI (rubS far most sl))]) hf hm hsl ⟨rfl, rfl⟩ far 0 (by omega)
  rw [rubS_0] at h0
  exact h0
theorem smS_upN {far q : Nat} {sl : Nat → Nat} {i : Nat} (h : q % far ≤ i) : nup (smS far q sl i) i (min 99 (sl i + q / far)) = smS far q sl (i + 1) := by rw [← smS_up far q sl i, if_neg (Nat.not_lt.mpr h)]
theorem smS_upP {far q : Nat} {sl : Nat → Nat} {i : Nat} (h : i < q % far) : nup (smS far q sl i) i (min 99 (sl i + (q / far + 1))) = smS far q sl (i + 1) := by rw [← smS_up far q sl i, if_pos h]
set_option maxRecDepth 20000 in
theorem lp_X1_smear (sk : Nat → Nat) {hp hs far q : Nat} {g o sd x2 : Int32} {sl : Nat → Nat} {Ψ : PS} (hf : far ≤ 30) (hq : q ≤ 1000) (hsl : ∀ j, j < 30 → sl j ≤ 99) (hΨ : Ψ none [oPole hp hs g o sd, cI hs 30 (fI (smS far q sl far))]) : ∀ (n i : Nat), i + n = far → GG sk RX1 yX1_smear cX1_smear 7 none 1 0 0 Ψ 0 0 17 [some (.ref hp), some (.int (nI far)), some (.int x2), some (.int (nI (q / far))), some (.int (nI (q % far))), some (.int (nI i)), none] [] [oPole hp hs g o sd, cI hs 30 (fI (smS far q sl i))] := by
  intro n
  induction n with
  | zero =>
    intro i hi
    obtain rfl : i = far := by omega
    refine g_iload dX1_smear_17 rfl rfl ?_
    refine g_iload_n dX1_smear_19 rfl rfl ?_
    refine g_icmp_geN (t := 77) dX1_smear_20 (by decide) rfl (by omega) (by omega) (fun h20 => ?_) (fun h20 => ?_)
    · skip
      exact g_vret dX1_smear_77 rfl (Nat.le_refl _) (Nat.le_refl _) (hΨ)
    · exact absurd h20 (by omega)
  | succ n ih =>
    intro i hi
    refine g_iload dX1_smear_17 rfl rfl ?_
    refine g_iload_n dX1_smear_19 rfl rfl ?_
    refine g_icmp_geN (t := 77) dX1_smear_20 (by decide) rfl (by omega) (by omega) (fun h20 => ?_) (fun h20 => ?_)
    · exact absurd h20 (by omega)
    · skip
      refine g_iload dX1_smear_23 rfl rfl ?_
      refine g_aload_n dX1_smear_25 rfl rfl ?_
      refine g_get f_X1_9 dX1_smear_26 rfl 0 rfl rfl ?_
      refine g_alen dX1_smear_29 rfl 1 rfl (Nat.le_of_ble_eq_true rfl) rfl ?_
      refine g_icmp_geN (t := 77) dX1_smear_30 (by decide) rfl (by omega) (by omega) (fun h30 => ?_) (fun h30 => ?_)
      · exact absurd h30 (by omega)
      · have hb := hsl i (by omega)
        have hd : q / far ≤ q := Nat.div_le_self _ _
        have hmd : q % far ≤ q := Nat.mod_le _ _
        refine g_iload dX1_smear_33 rfl rfl ?_
        refine g_iload dX1_smear_35 rfl rfl ?_
        refine g_icmp_geN (t := 46) dX1_smear_37 (by decide) rfl (by omega) (by omega) (fun h37 => ?_) (fun h37 => ?_)
        · skip
          refine g_iload_n dX1_smear_46 rfl rfl ?_
          refine g_istore dX1_smear_47 rfl (by decide) rfl rfl ?_
          refine g_aload_n dX1_smear_49 rfl rfl ?_
          refine g_get f_X1_9 dX1_smear_50 rfl 0 rfl rfl ?_
          refine g_iload dX1_smear_53 rfl rfl ?_
          refine g_bipush (v := nI 99) dX1_smear_55 rfl (by decide) ?_
          refine g_aload_n dX1_smear_57 rfl rfl ?_
          refine g_get f_X1_9 dX1_smear_58 rfl 0 rfl rfl ?_
          refine g_iload dX1_smear_61 rfl rfl ?_
          refine g_ialdN (v := nI (sl i)) dX1_smear_63 rfl 1 rfl (by omega) (by decide) (congrArg nI (smS_at far q sl i)) ?_
          refine g_iload dX1_smear_64 rfl rfl ?_
          refine g_iadd dX1_smear_66 rfl (nI_add _ _) ?_
          refine g_min m_X1_38 dX1_smear_67 rfl (by decide) (Nat.le_refl _) (Nat.le_refl _) (Nat.le_of_ble_eq_true rfl) (zminN (by omega) (by omega)) ?_
          refine g_iastN dX1_smear_70 rfl 1 rfl (by omega) (by decide) (fI_up2 (smS_upN h37)) rfl ?_
          refine g_iinc dX1_smear_71 rfl rfl (nI_1 _) (by decide) rfl rfl ?_
          refine g_goto (q := 17) dX1_smear_74 (by decide) ?_
          refine g_drop 6 rfl ?_
          exact ih (i + 1) (by omega)
        · skip
          refine g_iload_n dX1_smear_40 rfl rfl ?_
          refine g_iconst (v := nI 1) dX1_smear_41 rfl (by decide) ?_
          refine g_iadd dX1_smear_42 rfl (nI_add _ _) ?_
          refine g_goto (q := 47) dX1_smear_43 (by decide) ?_
          refine g_istore dX1_smear_47 rfl (by decide) rfl rfl ?_
          refine g_aload_n dX1_smear_49 rfl rfl ?_
          refine g_get f_X1_9 dX1_smear_50 rfl 0 rfl rfl ?_
          refine g_iload dX1_smear_53 rfl rfl ?_
          refine g_bipush (v := nI 99) dX1_smear_55 rfl (by decide) ?_
          refine g_aload_n dX1_smear_57 rfl rfl ?_
          refine g_get f_X1_9 dX1_smear_58 rfl 0 rfl rfl ?_
          refine g_iload dX1_smear_61 rfl rfl ?_
          refine g_ialdN (v := nI (sl i)) dX1_smear_63 rfl 1 rfl (by omega) (by decide) (congrArg nI (smS_at far q sl i)) ?_
          refine g_iload dX1_smear_64 rfl rfl ?_
          refine g_iadd dX1_smear_66 rfl (nI_add _ _) ?_
          refine g_min m_X1_38 dX1_smear_67 rfl (by decide) (Nat.le_refl _) (Nat.le_refl _) (Nat.le_of_ble_eq_true rfl) (zminN (by omega) (by omega)) ?_
          refine g_iastN dX1_smear_70 rfl 1 rfl (by omega) (by decide) (fI_up2 (smS_upP h37)) rfl ?_
          refine g_iinc dX1_smear_71 rfl rfl (nI_1 _) (by decide) rfl rfl ?_
          refine g_goto (q := 17) dX1_smear_74 (by decide) ?_
          refine g_drop 6 rfl ?_
          exact ih (i + 1) (by omega)
set_option maxRecDepth 20000 in
theorem c_X1_smear (sk : Nat → Nat) {hp hs far q : Nat} {g o sd : Int32} {sl : Nat → Nat} (hf : far ≤ 30) (hq : q ≤ 1000) (hsl : ∀ j, j < 30 → sl j ≤ 99) : Ct sk yX1_smear cX1_smear 7 none 1 0 0 [oPole hp hs g o sd, cI hs 30 (fI sl)] [.ref hp, .int (nI far), .int (nI q)] (zD none [oPole hp hs g o sd, cI hs 30 (fI (smS far q sl far))]) := by
  refine Ct.of (own := RX1) (l := [some (.ref hp), some (.int (nI far)), some (.int (nI q)), none, none, none, none]) (by decide) rfl (Nat.le_of_ble_eq_true rfl) rfl ?_
  refine g_iload_n dX1_smear_0 rfl rfl ?_
  refine g_if_gt (t := 5) dX1_smear_1 (by decide) rfl (fun h1 => ?_) (fun h1 => ?_)
  · have h0 : 0 < far := (nI_0lt (by omega)).mp h1
    refine g_iload_n dX1_smear_5 rfl rfl ?_
    refine g_iload_n dX1_smear_6 rfl rfl ?_
    refine g_idiv dX1_smear_7 rfl (nI_ne0 h0 (by omega)) (pk_div (by omega) (by omega) (by omega)) ?_
    refine g_istore_n dX1_smear_8 rfl (by decide) rfl rfl ?_
    refine g_iload_n dX1_smear_9 rfl rfl ?_
    refine g_iload_n dX1_smear_10 rfl rfl ?_
    refine g_irem dX1_smear_11 rfl (nI_ne0 h0 (by omega)) (pk_rem (by omega) (by omega) (by omega)) ?_
    refine g_istore dX1_smear_12 rfl (by decide) rfl rfl ?_
    refine g_iconst (v := nI 0) dX1_smear_14 rfl (by decide) ?_
    refine g_istore dX1_smear_15 rfl (by decide) rfl rfl ?_
    have h1 := lp_X1_smear sk (hp := hp) (hs := hs) (g := g) (o := o) (sd := sd) (x2 := nI q) (Ψ := zD none [oPole hp hs g o sd, cI hs 30 (fI (smS far q sl far))]) hf hq hsl ⟨rfl, rfl⟩ far 0 (by omega)
    rw [smS_0] at h1
    exact h1
  · obtain rfl : far = 0 := Nat.eq_zero_of_not_pos (fun z => h1 ((nI_0lt (by omega)).mpr z))
    exact g_vret dX1_smear_4 rfl (Nat.le_refl _) (Nat.le_refl _) (⟨rfl, by rw [smS_0]⟩)
set_option maxRecDepth 20000 in
theorem lp_X1_addSlip (sk : Nat → Nat) {hp hs a e m : Nat} {g o sd x1 : Int32} {sl : Nat → Nat} {Ψ : PS} (he : e ≤ 30) (hm : m ≤ 99) (hsl : ∀ j, j < 30 → sl j ≤ 99) (hΨ : Ψ none [oPole hp hs g o sd, cI hs 30 (fI (adS a e m sl))]) : ∀ (n i : Nat), i + n = e → a ≤ i → GG sk RX1 yX1_addSlip cX1_addSlip 5 none 1 0 0 Ψ 0 0 7 [some (.ref hp), some (.int x1), some (.int (nI e - nI 1)), some (.int (nI m)), some (.int (nI i))] [] [oPole hp hs g o sd, cI hs 30 (fI (adS a i m sl))] := by
  intro n
  induction n with
  | zero =>
    intro i hi hai
    obtain rfl : i = e := by omega
    refine g_iload dX1_addSlip_7 rfl rfl ?_
    refine g_iload_n dX1_addSlip_9 rfl rfl ?_
    refine g_icmp_gt (t := 50) dX1_addSlip_10 (by decide) rfl (fun h10 => ?_) (fun h10 => ?_)
    · skip
      exact g_vret dX1_addSlip_50 rfl (Nat.le_refl _) (Nat.le_refl _) (hΨ)
    · exact absurd ((nI_lt_pred (by omega) (by omega)).mpr (Nat.le_refl _)) h10
  | succ n ih =>
    intro i hi hai
    refine g_iload dX1_addSlip_7 rfl rfl ?_
    refine g_iload_n dX1_addSlip_9 rfl rfl ?_
    refine g_icmp_gt (t := 50) dX1_addSlip_10 (by decide) rfl (fun h10 => ?_) (fun h10 => ?_)
    · exact absurd ((nI_lt_pred (by omega) (by omega)).mp h10) (by omega)
    · skip
      refine g_iload dX1_addSlip_13 rfl rfl ?_
      refine g_aload_n dX1_addSlip_15 rfl rfl ?_
      refine g_get f_X1_9 dX1_addSlip_16 rfl 0 rfl rfl ?_
      refine g_alen dX1_addSlip_19 rfl 1 rfl (Nat.le_of_ble_eq_true rfl) rfl ?_
      refine g_icmp_geN (t := 50) dX1_addSlip_20 (by decide) rfl (by omega) (by omega) (fun h20 => ?_) (fun h20 => ?_)
      · exact absurd h20 (by omega)
      · have hb := hsl i (by omega)
        refine g_aload_n dX1_addSlip_23 rfl rfl ?_
        refine g_get f_X1_9 dX1_addSlip_24 rfl 0 rfl rfl ?_
        refine g_iload dX1_addSlip_27 rfl rfl ?_
        refine g_bipush (v := nI 99) dX1_addSlip_29 rfl (by decide) ?_
        refine g_aload_n dX1_addSlip_31 rfl rfl ?_
        refine g_get f_X1_9 dX1_addSlip_32 rfl 0 rfl rfl ?_
        refine g_iload dX1_addSlip_35 rfl rfl ?_
        refine g_ialdN (v := nI (sl i)) dX1_addSlip_37 rfl 1 rfl (by omega) (by decide) (congrArg nI (adS_at a i m sl)) ?_
        refine g_iload_n dX1_addSlip_38 rfl rfl ?_
        refine g_iadd dX1_addSlip_39 rfl (nI_add _ _) ?_
        refine g_min m_X1_38 dX1_addSlip_40 rfl (by decide) (Nat.le_refl _) (Nat.le_refl _) (Nat.le_of_ble_eq_true rfl) (zminN (by omega) (by omega)) ?_
        refine g_iastN dX1_addSlip_43 rfl 1 rfl (by omega) (by decide) (fI_up2 (adS_up a i m sl (by omega))) rfl ?_
        refine g_iinc dX1_addSlip_44 rfl rfl (nI_1 _) (by decide) rfl rfl ?_
        refine g_goto (q := 7) dX1_addSlip_47 (by decide) ?_
        exact ih (i + 1) (by omega) (by omega)
set_option maxRecDepth 20000 in
theorem c_X1_addSlip (sk : Nat → Nat) {hp hs a e m : Nat} {g o sd : Int32} {sl : Nat → Nat} (hae : a ≤ e) (he : e ≤ 30) (hm : m ≤ 99) (hsl : ∀ j, j < 30 → sl j ≤ 99) : Ct sk yX1_addSlip cX1_addSlip 5 none 1 0 0 [oPole hp hs g o sd, cI hs 30 (fI sl)] [.ref hp, .int (nI a), .int (nI e - nI 1), .int (nI m)] (zD none [oPole hp hs g o sd, cI hs 30 (fI (adS a e m sl))]) := by
  refine Ct.of (own := RX1) (l := [some (.ref hp), some (.int (nI a)), some (.int (nI e - nI 1)), some (.int (nI m)), none]) (by decide) rfl (Nat.le_of_ble_eq_true rfl) rfl ?_
  refine g_iload_n dX1_addSlip_0 rfl rfl ?_
  refine g_iconst (v := nI 0) dX1_addSlip_1 rfl (by decide) ?_
  refine g_max m_X1_32 dX1_addSlip_2 rfl (by decide) (Nat.le_refl _) (Nat.le_refl _) (Nat.le_of_ble_eq_true rfl) (zmax0 (by omega)) ?_
  refine g_istore dX1_addSlip_5 rfl (by decide) rfl rfl ?_
  have h0 := lp_X1_addSlip sk (hp := hp) (hs := hs) (g := g) (o := o) (sd := sd) (x1 := nI a) (Ψ := zD none [oPole hp hs g o sd, cI hs 30 (fI (adS a e m sl))]) he hm hsl ⟨rfl, rfl⟩ (e - a) a (by omega) (Nat.le_refl _)
  rw [adS_0] at h0
  exact h0
set_option maxRecDepth 20000 in
theorem lp_X1_slipTogether (sk : Nat → Nat) {hp hs e : Nat} {g o sd x1 : Int32} {sl : Nat → Nat} {Ψ : PS} (he : e ≤ 30) : ∀ (n i s : Nat), i + n = e → Ψ (some (.int (nI (s + sumR sl n i)))) [oPole hp hs g o sd, cI hs 30 (fI sl)] → GG sk RX1 yX1_slipTogether cX1_slipTogether 5 (some .int) 1 0 0 Ψ 0 0 9 [some (.ref hp), some (.int x1), some (.int (nI e - nI 1)), some (.int (nI s)), some (.int (nI i))] [] [oPole hp hs g o sd, cI hs 30 (fI sl)] := by
  intro n
  induction n with
  | zero =>
    intro i s hi hΨ
    obtain rfl : i = e := by omega
    refine g_iload dX1_slipTogether_9 rfl rfl ?_
    refine g_iload_n dX1_slipTogether_11 rfl rfl ?_
    refine g_icmp_gt (t := 41) dX1_slipTogether_12 (by decide) rfl (fun h12 => ?_) (fun h12 => ?_)
    · skip
      refine g_iload_n dX1_slipTogether_41 rfl rfl ?_
      exact g_iret dX1_slipTogether_42 rfl (Nat.le_refl _) (Nat.le_refl _) (hΨ)
    · exact absurd ((nI_lt_pred (by omega) (by omega)).mpr (Nat.le_refl _)) h12
  | succ n ih =>
    intro i s hi hΨ
    refine g_iload dX1_slipTogether_9 rfl rfl ?_
    refine g_iload_n dX1_slipTogether_11 rfl rfl ?_
    refine g_icmp_gt (t := 41) dX1_slipTogether_12 (by decide) rfl (fun h12 => ?_) (fun h12 => ?_)
    · exact absurd ((nI_lt_pred (by omega) (by omega)).mp h12) (by omega)
    · skip
      refine g_iload dX1_slipTogether_15 rfl rfl ?_
      refine g_aload_n dX1_slipTogether_17 rfl rfl ?_
      refine g_get f_X1_9 dX1_slipTogether_18 rfl 0 rfl rfl ?_
      refine g_alen dX1_slipTogether_21 rfl 1 rfl (Nat.le_of_ble_eq_true rfl) rfl ?_
      refine g_icmp_geN (t := 41) dX1_slipTogether_22 (by decide) rfl (by omega) (by omega) (fun h22 => ?_) (fun h22 => ?_)
      · exact absurd h22 (by omega)
      · skip
        refine g_iload_n dX1_slipTogether_25 rfl rfl ?_
        refine g_aload_n dX1_slipTogether_26 rfl rfl ?_
        refine g_get f_X1_9 dX1_slipTogether_27 rfl 0 rfl rfl ?_
        refine g_iload dX1_slipTogether_30 rfl rfl ?_
        refine g_ialdN (v := nI _) dX1_slipTogether_32 rfl 1 rfl (by omega) (by decide) (rfl) ?_
        refine g_iadd dX1_slipTogether_33 rfl (nI_add _ _) ?_
        refine g_istore_n dX1_slipTogether_34 rfl (by decide) rfl rfl ?_
        refine g_iinc dX1_slipTogether_35 rfl rfl (nI_1 _) (by decide) rfl rfl ?_
        refine g_goto (q := 9) dX1_slipTogether_38 (by decide) ?_
        exact ih (i + 1) (s + sl i) (by omega) (by rw [Nat.add_assoc]; exact hΨ)
set_option maxRecDepth 20000 in
theorem c_X1_slipTogether (sk : Nat → Nat) {hp hs a e : Nat} {g o sd : Int32} {sl : Nat → Nat} (ha : a ≤ e) (he : e ≤ 30) : Ct sk yX1_slipTogether cX1_slipTogether 5 (some .int) 1 0 0 [oPole hp hs g o sd, cI hs 30 (fI sl)] [.ref hp, .int (nI a), .int (nI e - nI 1)] (zD (some (.int (nI (sumR sl (e - a) a)))) [oPole hp hs g o sd, cI hs 30 (fI sl)]) := by
  refine Ct.of (own := RX1) (l := [some (.ref hp), some (.int (nI a)), some (.int (nI e - nI 1)), none, none]) (by decide) rfl (Nat.le_of_ble_eq_true rfl) rfl ?_
  refine g_iconst (v := nI 0) dX1_slipTogether_0 rfl (by decide) ?_
  refine g_istore_n dX1_slipTogether_1 rfl (by decide) rfl rfl ?_
  refine g_iload_n dX1_slipTogether_2 rfl rfl ?_
  refine g_iconst (v := nI 0) dX1_slipTogether_3 rfl (by decide) ?_
  refine g_max m_X1_32 dX1_slipTogether_4 rfl (by decide) (Nat.le_refl _) (Nat.le_refl _) (Nat.le_of_ble_eq_true rfl) (zmax0 (by omega)) ?_
  refine g_istore dX1_slipTogether_7 rfl (by decide) rfl rfl ?_
  exact lp_X1_slipTogether sk he (e - a) a 0 (by omega) ⟨by rw [Nat.zero_add], rfl⟩
set_option maxRecDepth 20000 in
theorem lp_X1_coat (sk : Nat → Nat) {hp hs v : Nat} {g o sd : Int32} {sl : Nat → Nat} {Ψ : PS} (hΨ : Ψ none [oPole hp hs g o sd, cI hs 30 (fI (coS v sl 30))]) : ∀ (n i : Nat), i + n = 30 → GG sk RX1 yX1_coat cX1_coat 3 none 0 0 0 Ψ 0 0 2 [some (.ref hp), some (.int (nI v)), some (.int (nI i))] [] [oPole hp hs g o sd, cI hs 30 (fI (coS v sl i))] := by
  intro n
  induction n with
  | zero =>
    intro i hi
    obtain rfl : i = 30 := by omega
    refine g_iload_n dX1_coat_2 rfl rfl ?_
    refine g_aload_n dX1_coat_3 rfl rfl ?_
    refine g_get f_X1_9 dX1_coat_4 rfl 0 rfl rfl ?_
    refine g_alen dX1_coat_7 rfl 1 rfl (Nat.le_of_ble_eq_true rfl) rfl ?_
    refine g_icmp_geN (t := 24) dX1_coat_8 (by decide) rfl (by omega) (by omega) (fun h8 => ?_) (fun h8 => ?_)
    · skip
      exact g_vret dX1_coat_24 rfl (Nat.le_refl _) (Nat.le_refl _) (hΨ)
    · exact absurd h8 (by omega)
  | succ n ih =>
    intro i hi
    refine g_iload_n dX1_coat_2 rfl rfl ?_
    refine g_aload_n dX1_coat_3 rfl rfl ?_
    refine g_get f_X1_9 dX1_coat_4 rfl 0 rfl rfl ?_
    refine g_alen dX1_coat_7 rfl 1 rfl (Nat.le_of_ble_eq_true rfl) rfl ?_
    refine g_icmp_geN (t := 24) dX1_coat_8 (by decide) rfl (by omega) (by omega) (fun h8 => ?_) (fun h8 => ?_)
    · exact absurd h8 (by omega)
    · skip
      refine g_aload_n dX1_coat_11 rfl rfl ?_
      refine g_get f_X1_9 dX1_coat_12 rfl 0 rfl rfl ?_
      refine g_iload_n dX1_coat_15 rfl rfl ?_
      refine g_iload_n dX1_coat_16 rfl rfl ?_
      refine g_iastN dX1_coat_17 rfl 1 rfl (by omega) (by decide) (fI_up2 (coS_up v sl i)) rfl ?_
      refine g_iinc dX1_coat_18 rfl rfl (nI_1 _) (by decide) rfl rfl ?_
      refine g_goto (q := 2) dX1_coat_21 (by decide) ?_
      exact ih (i + 1) (by omega)
set_option maxRecDepth 20000 in
theorem c_X1_coat (sk : Nat → Nat) {hp hs v : Nat} {g o sd : Int32} {sl : Nat → Nat}  : Ct sk yX1_coat cX1_coat 3 none 0 0 0 [oPole hp hs g o sd, cI hs 30 (fI sl)] [.ref hp, .int (nI v)] (zD none [oPole hp hs g o sd, cI hs 30 (fI (coS v sl 30))]) := by
  refine Ct.of (own := RX1) (l := [some (.ref hp), some (.int (nI v)), none]) (by decide) rfl (Nat.le_of_ble_eq_true rfl) rfl ?_
  refine g_iconst (v := nI 0) dX1_coat_0 rfl (by decide) ?_
  refine g_istore_n dX1_coat_1 rfl (by decide) rfl rfl ?_
  have h0 := lp_X1_coat sk (hp := hp) (hs := hs) (g := g) (o := o) (sd := sd) (v := v) (sl := sl) (Ψ := zD none [oPole hp hs g o sd, cI hs 30 (fI (coS v sl 30))]) ⟨rfl, rfl⟩ 30 0 (by omega)
  rw [coS_0] at h0
  exact h0
