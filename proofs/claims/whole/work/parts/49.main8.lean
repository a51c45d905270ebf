/-! SoapPole: THE POLE -/
theorem parseR_f {tx : Nat → Nat} {len : Nat} : ∀ (n : Nat) (q : QS) (pos : Nat) (f : Nat × Nat), parseR tx len n q pos = .inl f → ¬ nI f.1 = 0
  | 0, q, pos, f, h => by
    rw [parseR] at h
    cases h
  | n + 1, q, pos, f, h => by
    rw [parseR] at h
    by_cases h1 : pos < len
    · rw [if_pos h1] at h
      cases hc : clauseR tx len q pos with
      | inl g => rw [hc] at h; cases h; exact clauseR_f hc
      | inr u => rw [hc] at h; exact parseR_f n u.1 _ f h
    · rw [if_neg h1] at h
      cases h
theorem readR_f {tx : Nat → Nat} {len : Nat} {f : Nat × Nat} (h : readR tx len = .inl f) : ¬ nI f.1 = 0 := parseR_f _ _ _ _ h
set_option maxRecDepth 20000 in
theorem c_X6_pole (sk : Nat → Nat) {h rd pl sp nw im kp tl ro rs ak : Nat} {st : Bool} {fp : Int32} {rt rf rn ys yw ya yr xs xw xa xr nq tc tf tp len : Nat} {ai fa0 fp0 ci F C V E N S F1 C1 V1 E1 N1 S1 g0 h0 sd n0 : Int32} {pt hm sn : Bool} {tx : Nat → Nat} {fb fF fn fs fw fa fr gs gw ga gr f0 fk : Nat → Int32} {res : (Nat × Nat) ⊕ QS} (hlen : len ≤ 400) (htx : ∀ j, j < len → fb j = (nI (tx j)).toInt8.toInt32 ∧ tx j < 256) (hsl : SlB fs) (hres : readR tx len = res) : Ct sk yX6_pole cX6_pole 3 (some .int) 9 0 0 [oMain h rd pl sp nw im kp tl ro rs ak st fp, oReader rd rt rf rn (nI len) ai fa0 fp0 ci pt hm sn, cB rt 400 fb, cZ rf 30 fF, cI rn 3 fn, oPlan sp ys yw ya yr F C V E N S, cI ys 30 fs, cI yw 6 fw, cI ya 6 fa, cI yr 6 fr, oPlan pl xs xw xa xr F1 C1 V1 E1 N1 S1, cI xs 30 gs, cI xw 6 gw, cI xa 6 ga, cI xr 6 gr, oPole nw nq g0 h0 sd, cI nq 30 f0, oTale tl tc tf tp n0, cZ kp 2 fk] [.ref h] (fun q w1 => match res with | .inl f => q = some (.int (-10 - nI f.1)) ∧ ∃ (a : Int32) (q2 : QS) (fF fn fs fw fa fr : Nat → Int32), w1 = [oMain h rd pl sp nw im kp tl ro rs ak st (nI f.2), oReader rd rt rf rn (nI 0) a (nI f.1) (nI f.2) (nI q2.2.2.1) (decide (0 < q2.1 0)) q2.2.2.2.1 q2.2.2.2.2, cB rt 400 fb, cZ rf 30 fF, cI rn 3 fn, oPlan sp ys yw ya yr (nI (q2.1 0)) (nI (q2.1 1)) (nI (q2.1 2)) (nI (q2.1 3)) (nI (q2.1 4)) (nI (q2.1 5)), cI ys 30 fs, cI yw 6 fw, cI ya 6 fa, cI yr 6 fr, oPlan pl xs xw xa xr F1 C1 V1 E1 N1 S1, cI xs 30 gs, cI xw 6 gw, cI xa 6 ga, cI xr 6 gr, oPole nw nq g0 h0 sd, cI nq 30 f0, oTale tl tc tf tp n0, cZ kp 2 fk] ∧ SlB fs | .inr u => q = some (.int (nI (u.1 0))) ∧ ∃ (a : Int32) (fF fn fs fw fa fr : Nat → Int32), w1 = [oMain h rd pl sp nw im kp tl ro rs ak false (-1), oReader rd rt rf rn (nI 0) a (nI 0) (-1) (nI u.2.2.1) (decide (0 < u.1 0)) u.2.2.2.1 u.2.2.2.2, cB rt 400 fb, cZ rf 30 fF, cI rn 3 fn, oPlan sp ys yw ya yr (nI (u.1 0)) (nI (u.1 1)) (nI (u.1 2)) (nI (u.1 3)) (nI (u.1 4)) (nI (u.1 5)), cI ys 30 fs, cI yw 6 fw, cI ya 6 fa, cI yr 6 fr, oPlan pl xs xw xa xr (nI (u.1 0)) (nI (u.1 1)) (nI (u.1 2)) (nI (u.1 3)) (nI (u.1 4)) (nI (u.1 5)), cI xs 30 fs, cI xw 6 fw, cI xa 6 fa, cI xr 6 fr, oPole nw nq (nI 0) (-1) sd, cI nq 30 fs, oTale tl tc tf tp (nI 0), cZ kp 2 (upd (upd fk 0 (zb false)) 1 (zb false))] ∧ PlR u.1 fs fw fa fr) := by
  refine Ct.of (own := RX6) (l := [some (.ref h), none, none]) (by decide) rfl (Nat.le_of_ble_eq_true rfl) rfl ?_
  refine g_aload_n dX6_pole_0 rfl rfl ?_
  refine g_get f_X6_10 dX6_pole_1 rfl 0 rfl rfl ?_
  refine g_aload_n dX6_pole_4 rfl rfl ?_
  refine g_get f_X6_23 dX6_pole_5 rfl 0 rfl rfl ?_
  refine g_callV (c_X2_read sk hlen htx hsl hres) m_X6_83 a_X2_read dX6_pole_8 rfl [1, 2, 3, 4, 5, 6, 7, 8, 9] rfl rfl 0 rfl rfl rfl (by decide) (by decide) (by decide) (by decide) (Nat.le_of_ble_eq_true rfl) (fun r w hK => ?_)
  cases res with
  | inl f =>
    obtain ⟨rfl, a, q2, gF, gn, hs, hw, ha, hr, rfl, hsl2⟩ := hK
    refine ⟨rfl, ?_⟩
    dsimp only [puts, List.set, Option.toList, List.cons_append, List.nil_append, List.append_nil]
    refine g_istore_n dX6_pole_11 rfl (by decide) rfl rfl ?_
    refine g_aload_n dX6_pole_12 rfl rfl ?_
    refine g_aload_n dX6_pole_13 rfl rfl ?_
    refine g_get f_X6_10 dX6_pole_14 rfl 0 rfl rfl ?_
    refine g_get f_X6_87 dX6_pole_17 rfl 1 rfl rfl ?_
    refine g_putI f_X6_69 dX6_pole_20 rfl 0 rfl (Nat.le_of_ble_eq_true rfl) rfl ?_
    dsimp only [List.set]
    refine g_aload_n dX6_pole_23 rfl rfl ?_
    refine g_get f_X6_10 dX6_pole_24 rfl 0 rfl rfl ?_
    refine g_callV (c_X2_empty sk) m_X6_90 a_X2_empty dX6_pole_27 rfl [1] rfl rfl 0 rfl rfl rfl (by decide) (by decide) (by decide) (by decide) (Nat.le_of_ble_eq_true rfl) (fun r w hK => ?_)
    obtain ⟨rfl, rfl⟩ := hK
    refine ⟨rfl, ?_⟩
    dsimp only [puts, List.set, Option.toList, List.cons_append, List.nil_append, List.append_nil]
    refine g_iload_n dX6_pole_30 rfl rfl ?_
    refine g_if_eq (t := 39) dX6_pole_31 (by decide) rfl (fun h31 => ?_) (fun h31 => ?_)
    · exact absurd h31 (readR_f hres)
    · skip
      refine g_bipush (v := -10) dX6_pole_34 rfl (by decide) ?_
      refine g_iload_n dX6_pole_36 rfl rfl ?_
      refine g_isub dX6_pole_37 rfl rfl ?_
      exact g_iret dX6_pole_38 rfl (Nat.le_refl _) (Nat.le_refl _) (⟨rfl, a, q2, gF, gn, hs, hw, ha, hr, rfl, hsl2⟩)
  | inr u =>
    obtain ⟨rfl, a, gF, gn, hs, hw, ha, hr, rfl, hP2⟩ := hK
    refine ⟨rfl, ?_⟩
    dsimp only [puts, List.set, Option.toList, List.cons_append, List.nil_append, List.append_nil]
    refine g_istore_n dX6_pole_11 rfl (by decide) rfl rfl ?_
    refine g_aload_n dX6_pole_12 rfl rfl ?_
    refine g_aload_n dX6_pole_13 rfl rfl ?_
    refine g_get f_X6_10 dX6_pole_14 rfl 0 rfl rfl ?_
    refine g_get f_X6_87 dX6_pole_17 rfl 1 rfl rfl ?_
    refine g_putI f_X6_69 dX6_pole_20 rfl 0 rfl (Nat.le_of_ble_eq_true rfl) rfl ?_
    dsimp only [List.set]
    refine g_aload_n dX6_pole_23 rfl rfl ?_
    refine g_get f_X6_10 dX6_pole_24 rfl 0 rfl rfl ?_
    refine g_callV (c_X2_empty sk) m_X6_90 a_X2_empty dX6_pole_27 rfl [1] rfl rfl 0 rfl rfl rfl (by decide) (by decide) (by decide) (by decide) (Nat.le_of_ble_eq_true rfl) (fun r w hK => ?_)
    obtain ⟨rfl, rfl⟩ := hK
    refine ⟨rfl, ?_⟩
    dsimp only [puts, List.set, Option.toList, List.cons_append, List.nil_append, List.append_nil]
    refine g_iload_n dX6_pole_30 rfl rfl ?_
    refine g_if_eq (t := 39) dX6_pole_31 (by decide) rfl (fun h31 => ?_) (fun h31 => ?_)
    · skip
      refine g_aload_n dX6_pole_39 rfl rfl ?_
      refine g_get f_X6_19 dX6_pole_40 rfl 0 rfl rfl ?_
      refine g_aload_n dX6_pole_43 rfl rfl ?_
      refine g_get f_X6_23 dX6_pole_44 rfl 0 rfl rfl ?_
      refine g_callV (c_X0_become sk) m_X6_93 a_X0_become dX6_pole_47 rfl [10, 11, 12, 13, 14, 5, 6, 7, 8, 9] rfl rfl 0 rfl rfl rfl (by decide) (by decide) (by decide) (by decide) (Nat.le_of_ble_eq_true rfl) (fun r w hK => ?_)
      obtain ⟨rfl, rfl⟩ := hK
      refine ⟨rfl, ?_⟩
      dsimp only [puts, List.set, Option.toList, List.cons_append, List.nil_append, List.append_nil]
      refine g_aload_n dX6_pole_50 rfl rfl ?_
      refine g_get f_X6_29 dX6_pole_51 rfl 0 rfl rfl ?_
      refine g_aload_n dX6_pole_54 rfl rfl ?_
      refine g_get f_X6_19 dX6_pole_55 rfl 0 rfl rfl ?_
      refine g_callV (c_X1_becomeAsTold sk) m_X6_97 a_X1_becomeAsTold dX6_pole_58 rfl [15, 16, 10, 11] rfl rfl 0 rfl rfl rfl (by decide) (by decide) (by decide) (by decide) (Nat.le_of_ble_eq_true rfl) (fun r w hK => ?_)
      obtain ⟨rfl, rfl⟩ := hK
      refine ⟨rfl, ?_⟩
      dsimp only [puts, List.set, Option.toList, List.cons_append, List.nil_append, List.append_nil]
      refine g_aload_n dX6_pole_61 rfl rfl ?_
      refine g_get f_X6_44 dX6_pole_62 rfl 0 rfl rfl ?_
      refine g_callV (c_X5_empty sk) m_X6_100 a_X5_empty dX6_pole_65 rfl [17] rfl rfl 0 rfl rfl rfl (by decide) (by decide) (by decide) (by decide) (Nat.le_of_ble_eq_true rfl) (fun r w hK => ?_)
      obtain ⟨rfl, rfl⟩ := hK
      refine ⟨rfl, ?_⟩
      dsimp only [puts, List.set, Option.toList, List.cons_append, List.nil_append, List.append_nil]
      refine g_iconst (v := nI 0) dX6_pole_68 rfl (by decide) ?_
      refine g_istore_n dX6_pole_69 rfl (by decide) rfl rfl ?_
      refine g_iload_n dX6_pole_70 rfl rfl ?_
      refine g_aload_n dX6_pole_71 rfl rfl ?_
      refine g_get f_X6_37 dX6_pole_72 rfl 0 rfl rfl ?_
      refine g_alen dX6_pole_75 rfl 18 rfl (Nat.le_of_ble_eq_true rfl) rfl ?_
      refine g_icmp_geN (t := 92) dX6_pole_76 (by decide) rfl (by omega) (by omega) (fun h76 => ?_) (fun h76 => ?_)
      · exact absurd (show 2 ≤ 0 from h76) (by decide)
      · skip
        refine g_aload_n dX6_pole_79 rfl rfl ?_
        refine g_get f_X6_37 dX6_pole_80 rfl 0 rfl rfl ?_
        refine g_iload_n dX6_pole_83 rfl rfl ?_
        refine g_iconst (v := nI 0) dX6_pole_84 rfl (by decide) ?_
        refine g_zastN (b := false) dX6_pole_85 rfl 18 rfl (by omega) (by decide) (rfl) rfl ?_
        refine g_iinc dX6_pole_86 rfl rfl (nI_1 _) (by decide) rfl rfl ?_
        refine g_goto (q := 70) dX6_pole_89 (by decide) ?_
        refine g_iload_n dX6_pole_70 rfl rfl ?_
        refine g_aload_n dX6_pole_71 rfl rfl ?_
        refine g_get f_X6_37 dX6_pole_72 rfl 0 rfl rfl ?_
        refine g_alen dX6_pole_75 rfl 18 rfl (Nat.le_of_ble_eq_true rfl) rfl ?_
        refine g_icmp_geN (t := 92) dX6_pole_76 (by decide) rfl (by omega) (by omega) (fun h76 => ?_) (fun h76 => ?_)
        · exact absurd (show 2 ≤ 1 from h76) (by decide)
        · skip
          refine g_aload_n dX6_pole_79 rfl rfl ?_
          refine g_get f_X6_37 dX6_pole_80 rfl 0 rfl rfl ?_
          refine g_iload_n dX6_pole_83 rfl rfl ?_
          refine g_iconst (v := nI 0) dX6_pole_84 rfl (by decide) ?_
          refine g_zastN (b := false) dX6_pole_85 rfl 18 rfl (by omega) (by decide) (rfl) rfl ?_
          refine g_iinc dX6_pole_86 rfl rfl (nI_1 _) (by decide) rfl rfl ?_
          refine g_goto (q := 70) dX6_pole_89 (by decide) ?_
          refine g_iload_n dX6_pole_70 rfl rfl ?_
          refine g_aload_n dX6_pole_71 rfl rfl ?_
          refine g_get f_X6_37 dX6_pole_72 rfl 0 rfl rfl ?_
          refine g_alen dX6_pole_75 rfl 18 rfl (Nat.le_of_ble_eq_true rfl) rfl ?_
          refine g_icmp_geN (t := 92) dX6_pole_76 (by decide) rfl (by omega) (by omega) (fun h76 => ?_) (fun h76 => ?_)
          · skip
            refine g_aload_n dX6_pole_92 rfl rfl ?_
            refine g_iconst (v := nI 0) dX6_pole_93 rfl (by decide) ?_
            refine g_putZ (b := false) f_X6_65 dX6_pole_94 rfl 0 rfl (Nat.le_of_ble_eq_true rfl) rfl ?_
            dsimp only [List.set]
            refine g_aload_n dX6_pole_97 rfl rfl ?_
            refine g_get f_X6_19 dX6_pole_98 rfl 0 rfl rfl ?_
            refine g_get f_X6_101 dX6_pole_101 rfl 10 rfl rfl ?_
            exact g_iret dX6_pole_104 rfl (Nat.le_refl _) (Nat.le_refl _) (⟨rfl, a, gF, gn, hs, hw, ha, hr, rfl, hP2⟩)
          · exact absurd (show 2 < 2 from h76) (by decide)
    · exact absurd rfl h31
