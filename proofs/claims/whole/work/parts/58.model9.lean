/-! the reference: THE LIST; ENOUGH -/
theorem gt_le {x : Int32} (h : nI 11 < x) : nI 12 ≤ x := by
  rw [Int32.lt_iff_toInt_lt, nI_toInt (by omega)] at h
  rw [Int32.le_iff_toInt_le, nI_toInt (by omega)]
  omega
theorem le_gt {x : Int32} (h : nI 12 ≤ x) : nI 11 < x := by
  rw [Int32.le_iff_toInt_le, nI_toInt (by omega)] at h
  rw [Int32.lt_iff_toInt_lt, nI_toInt (by omega)]
  omega
theorem inI_f {x a b : Int32} (h : inI x a b = false) : x < a ∨ b < x := by
  unfold inI at h
  by_cases h1 : x < a
  · exact Or.inl h1
  · rw [decide_eq_true h1, Bool.true_and] at h
    exact Or.inr (Decidable.byContradiction (fun q => by rw [decide_eq_true q] at h; cases h))
theorem inI_t {x a b : Int32} (h : inI x a b = true) : ¬ (x < a ∨ b < x) := by
  unfold inI at h
  rw [Bool.and_eq_true] at h
  rintro (q | q)
  · exact of_decide_eq_true h.1 q
  · exact of_decide_eq_true h.2 q
theorem lstB {C : Nat} {x z : Int32} (h5 : inR x C = true) (h : listC C x z = 0) : ¬ (z < nI 0 ∨ nI 30 < z) := fun q => by
  rw [listC, if_neg (by rw [h5]; decide), if_pos (show z < 0 ∨ nI 30 < z from q)] at h
  exact absurd h (by decide)
set_option maxRecDepth 20000 in
theorem c_X7_listN (sk : Nat → Nat) {h mt mo md ms mn mi mz mk mw mf mr mb mu : Nat} {ty se fAt at_ so sta sz fl ru : Int32} {iha isn : Bool} {T : Nat → Nat} {n : Nat} {fw ff : Nat → Int32} {x z : Int32} (hC : T 1 ≤ 6) (hz : ¬ listC (T 1) x z = 0) : Ct sk yX7_list cX7_list 3 (some .int) 2 0 0 [oMod h mt ty mo md ms mn mi mz mk mw mf (nI n) se fAt at_ so sta sz fl iha isn ru mr mb mu, cI mo 56 (fI T), cI mw 12 fw, cI mf 12 ff] [.ref h, .int x, .int z] (zD (some (.int (listC (T 1) x z))) [oMod h mt ty mo md ms mn mi mz mk mw mf (nI n) se fAt at_ so sta sz fl iha isn ru mr mb mu, cI mo 56 (fI T), cI mw 12 fw, cI mf 12 ff]) := by
  refine Ct.of (own := RX7) (l := [some (.ref h), some (.int x), some (.int z)]) (by decide) rfl (Nat.le_of_ble_eq_true rfl) rfl ?_
  refine g_aload_n dX7_list_0 rfl rfl ?_
  refine g_iload_n dX7_list_1 rfl rfl ?_
  refine g_callV (c_X7_isClimber sk hC) m_X7_169 a_X7_isClimber dX7_list_2 rfl [0, 1] rfl rfl 0 rfl rfl rfl (by decide) (by decide) (by decide) (by decide) (Nat.le_of_ble_eq_true rfl) (fun r w hK => ?_)
  obtain ⟨rfl, rfl⟩ := hK
  refine ⟨rfl, ?_⟩
  dsimp only [puts, List.set, Option.toList, List.cons_append, List.nil_append, List.append_nil]
  refine g_if_neB (t := 11) dX7_list_5 (by decide) rfl (fun h5 => ?_) (fun h5 => ?_)
  · skip
    refine g_iload_n dX7_list_11 rfl rfl ?_
    refine g_iconst (v := nI 0) dX7_list_12 rfl (by decide) ?_
    refine g_bipush (v := nI 30) dX7_list_13 rfl (by decide) ?_
    refine g_callS (c_X7_in sk) m_X7_61 a_X7_in dX7_list_15 rfl [] rfl rfl rfl rfl (by decide) (by decide) (by decide) (by decide) (Nat.le_of_ble_eq_true rfl) (fun r w hK => ?_)
    obtain ⟨rfl, rfl⟩ := hK
    refine ⟨rfl, ?_⟩
    dsimp only [puts, List.set, Option.toList, List.cons_append, List.nil_append, List.append_nil]
    refine g_if_neB (t := 24) dX7_list_18 (by decide) rfl (fun h18 => ?_) (fun h18 => ?_)
    · exact absurd (by rw [listC, if_neg (by rw [h5]; decide), if_neg (show ¬ (z < 0 ∨ nI 30 < z) from inI_t h18)]) hz
    · rw [listC, if_neg (by rw [h5]; decide), if_pos (show z < 0 ∨ nI 30 < z from inI_f h18)]
      refine g_ldc dX7_list_21 rfl k_X7_65 ?_
      exact g_iret dX7_list_23 rfl (Nat.le_refl _) (Nat.le_refl _) (⟨rfl, rfl⟩)
  · rw [listC, if_pos h5]
    refine g_ldc dX7_list_8 rfl k_X7_161 ?_
    exact g_iret dX7_list_10 rfl (Nat.le_refl _) (Nat.le_refl _) (⟨rfl, rfl⟩)
set_option maxRecDepth 20000 in
theorem c_X7_list (sk : Nat → Nat) {h mt mo md ms mn mi mz mk mw mf mr mb mu : Nat} {ty se fAt at_ so sta sz fl ru : Int32} {iha isn : Bool} {T : Nat → Nat} {n : Nat} {fw ff : Nat → Int32} {x z : Int32} (hC : T 1 ≤ 6) (hn : n < 12) (hz : listC (T 1) x z = 0) : Ct sk yX7_list cX7_list 3 (some .int) 2 0 0 [oMod h mt ty mo md ms mn mi mz mk mw mf (nI n) se fAt at_ so sta sz fl iha isn ru mr mb mu, cI mo 56 (fI T), cI mw 12 fw, cI mf 12 ff] [.ref h, .int x, .int z] (zD (some (.int (nI (n + 1)))) [oMod h mt ty mo md ms mn mi mz mk mw mf (nI (n + 1)) se fAt at_ so sta sz fl iha isn ru mr mb mu, cI mo 56 (fI T), cI mw 12 (upd fw n x), cI mf 12 (upd ff n z)]) := by
  have hx5 : inR x (T 1) = true := by
    cases hq : inR x (T 1) with
    | true => rfl
    | false => rw [listC, if_pos hq] at hz; exact absurd hz (by decide)
  refine Ct.of (own := RX7) (l := [some (.ref h), some (.int x), some (.int z)]) (by decide) rfl (Nat.le_of_ble_eq_true rfl) rfl ?_
  refine g_aload_n dX7_list_0 rfl rfl ?_
  refine g_iload_n dX7_list_1 rfl rfl ?_
  refine g_callV (c_X7_isClimber sk hC) m_X7_169 a_X7_isClimber dX7_list_2 rfl [0, 1] rfl rfl 0 rfl rfl rfl (by decide) (by decide) (by decide) (by decide) (Nat.le_of_ble_eq_true rfl) (fun r w hK => ?_)
  obtain ⟨rfl, rfl⟩ := hK
  refine ⟨rfl, ?_⟩
  dsimp only [puts, List.set, Option.toList, List.cons_append, List.nil_append, List.append_nil]
  refine g_if_neB (t := 11) dX7_list_5 (by decide) rfl (fun h5 => ?_) (fun h5 => ?_)
  · skip
    refine g_iload_n dX7_list_11 rfl rfl ?_
    refine g_iconst (v := nI 0) dX7_list_12 rfl (by decide) ?_
    refine g_bipush (v := nI 30) dX7_list_13 rfl (by decide) ?_
    refine g_callS (c_X7_in sk) m_X7_61 a_X7_in dX7_list_15 rfl [] rfl rfl rfl rfl (by decide) (by decide) (by decide) (by decide) (Nat.le_of_ble_eq_true rfl) (fun r w hK => ?_)
    obtain ⟨rfl, rfl⟩ := hK
    refine ⟨rfl, ?_⟩
    dsimp only [puts, List.set, Option.toList, List.cons_append, List.nil_append, List.append_nil]
    refine g_if_neB (t := 24) dX7_list_18 (by decide) rfl (fun h18 => ?_) (fun h18 => ?_)
    · skip
      refine g_aload_n dX7_list_24 rfl rfl ?_
      refine g_get f_X7_151 dX7_list_25 rfl 0 rfl rfl ?_
      refine g_bipush (v := nI 12) dX7_list_28 rfl (by decide) ?_
      refine g_icmp_neN (t := 36) dX7_list_30 (by decide) rfl (by omega) (by omega) (fun h30 => ?_) (fun h30 => ?_)
      · skip
        refine g_aload_n dX7_list_36 rfl rfl ?_
        refine g_get f_X7_35 dX7_list_37 rfl 0 rfl rfl ?_
        refine g_aload_n dX7_list_40 rfl rfl ?_
        refine g_get f_X7_151 dX7_list_41 rfl 0 rfl rfl ?_
        refine g_iload_n dX7_list_44 rfl rfl ?_
        refine g_iastN dX7_list_45 rfl 2 rfl (by omega) (by decide) (rfl) rfl ?_
        refine g_aload_n dX7_list_46 rfl rfl ?_
        refine g_get f_X7_38 dX7_list_47 rfl 0 rfl rfl ?_
        refine g_aload_n dX7_list_50 rfl rfl ?_
        refine g_get f_X7_151 dX7_list_51 rfl 0 rfl rfl ?_
        refine g_iload_n dX7_list_54 rfl rfl ?_
        refine g_iastN dX7_list_55 rfl 3 rfl (by omega) (by decide) (rfl) rfl ?_
        refine g_aload_n dX7_list_56 rfl rfl ?_
        refine g_dup dX7_list_57 rfl rfl ?_
        refine g_get f_X7_151 dX7_list_58 rfl 0 rfl rfl ?_
        refine g_iconst (v := nI 1) dX7_list_61 rfl (by decide) ?_
        refine g_iadd dX7_list_62 rfl (nI_add _ _) ?_
        refine g_putI f_X7_151 dX7_list_63 rfl 0 rfl (Nat.le_of_ble_eq_true rfl) rfl ?_
        dsimp only [List.set]
        refine g_aload_n dX7_list_66 rfl rfl ?_
        refine g_get f_X7_151 dX7_list_67 rfl 0 rfl rfl ?_
        exact g_iret dX7_list_70 rfl (Nat.le_refl _) (Nat.le_refl _) (⟨rfl, rfl⟩)
      · exact absurd h30 (by omega)
    · exact absurd (inI_f h18) (lstB hx5 hz)
  · exact absurd h5 (by rw [hx5]; decide)
set_option maxRecDepth 20000 in
theorem c_X7_listF (sk : Nat → Nat) {h mt mo md ms mn mi mz mk mw mf mr mb mu : Nat} {ty se fAt at_ so sta sz fl ru : Int32} {iha isn : Bool} {T : Nat → Nat} {fw ff : Nat → Int32} {x z : Int32} (hC : T 1 ≤ 6) (hz : listC (T 1) x z = 0) : Ct sk yX7_list cX7_list 3 (some .int) 2 0 0 [oMod h mt ty mo md ms mn mi mz mk mw mf (nI 12) se fAt at_ so sta sz fl iha isn ru mr mb mu, cI mo 56 (fI T), cI mw 12 fw, cI mf 12 ff] [.ref h, .int x, .int z] (zD (some (.int (-1000000004))) [oMod h mt ty mo md ms mn mi mz mk mw mf (nI 12) se fAt at_ so sta sz fl iha isn ru mr mb mu, cI mo 56 (fI T), cI mw 12 fw, cI mf 12 ff]) := by
  have hx5 : inR x (T 1) = true := by
    cases hq : inR x (T 1) with
    | true => rfl
    | false => rw [listC, if_pos hq] at hz; exact absurd hz (by decide)
  refine Ct.of (own := RX7) (l := [some (.ref h), some (.int x), some (.int z)]) (by decide) rfl (Nat.le_of_ble_eq_true rfl) rfl ?_
  refine g_aload_n dX7_list_0 rfl rfl ?_
  refine g_iload_n dX7_list_1 rfl rfl ?_
  refine g_callV (c_X7_isClimber sk hC) m_X7_169 a_X7_isClimber dX7_list_2 rfl [0, 1] rfl rfl 0 rfl rfl rfl (by decide) (by decide) (by decide) (by decide) (Nat.le_of_ble_eq_true rfl) (fun r w hK => ?_)
  obtain ⟨rfl, rfl⟩ := hK
  refine ⟨rfl, ?_⟩
  dsimp only [puts, List.set, Option.toList, List.cons_append, List.nil_append, List.append_nil]
  refine g_if_neB (t := 11) dX7_list_5 (by decide) rfl (fun h5 => ?_) (fun h5 => ?_)
  · skip
    refine g_iload_n dX7_list_11 rfl rfl ?_
    refine g_iconst (v := nI 0) dX7_list_12 rfl (by decide) ?_
    refine g_bipush (v := nI 30) dX7_list_13 rfl (by decide) ?_
    refine g_callS (c_X7_in sk) m_X7_61 a_X7_in dX7_list_15 rfl [] rfl rfl rfl rfl (by decide) (by decide) (by decide) (by decide) (Nat.le_of_ble_eq_true rfl) (fun r w hK => ?_)
    obtain ⟨rfl, rfl⟩ := hK
    refine ⟨rfl, ?_⟩
    dsimp only [puts, List.set, Option.toList, List.cons_append, List.nil_append, List.append_nil]
    refine g_if_neB (t := 24) dX7_list_18 (by decide) rfl (fun h18 => ?_) (fun h18 => ?_)
    · skip
      refine g_aload_n dX7_list_24 rfl rfl ?_
      refine g_get f_X7_151 dX7_list_25 rfl 0 rfl rfl ?_
      refine g_bipush (v := nI 12) dX7_list_28 rfl (by decide) ?_
      refine g_icmp_neN (t := 36) dX7_list_30 (by decide) rfl (by omega) (by omega) (fun h30 => ?_) (fun h30 => ?_)
      · exact absurd rfl h30
      · skip
        refine g_ldc dX7_list_33 rfl k_X7_69 ?_
        exact g_iret dX7_list_35 rfl (Nat.le_refl _) (Nat.le_refl _) (⟨rfl, rfl⟩)
    · exact absurd (inI_f h18) (lstB hx5 hz)
  · exact absurd h5 (by rw [hx5]; decide)
theorem farR_cong {w : Nat} {sand : Bool} {sl sl2 : Nat → Nat} : ∀ (n i left : Nat), (∀ j, i ≤ j → j < i + n → sl j = sl2 j) → farR w sand sl n i left = farR w sand sl2 n i left
  | 0, _, _, _ => rfl
  | n + 1, i, left, h => by
    rw [farR, farR, h i (Nat.le_refl _) (by omega), farR_cong n (i + 1) _ (fun j h1 h2 => h j (by omega) (by omega))]
theorem rubT_cong {R : Nat} {sl sl2 : Nat → Nat} : ∀ (n : Nat), (∀ j, j < n → sl j = sl2 j) → rubT R sl n = rubT R sl2 n
  | 0, _ => rfl
  | n + 1, h => by rw [rubT, rubT, h n (by omega), rubT_cong n (fun j h1 => h j (by omega))]
theorem goS1_cong {e R F : Nat} {sl sl2 : Nat → Nat} (he : e ≤ F) (h : ∀ j, j < F → sl j = sl2 j) : ∀ j, j < F → goS1 e R sl j = goS1 e R sl2 j := fun j hj => by
  unfold goS1
  rw [rubT_cong e (fun j h1 => h j (by omega))]
  unfold smS rubS
  rw [h j hj]
/-- states alike on the feet of the pole -/
def LK (F : Nat) (s t : PSt) : Prop := s.2 = t.2 ∧ ∀ j, j < F → s.1 j = t.1 j
theorem far1_cong {F : Nat} {w a : Nat → Nat} {sand : Bool} {s t : PSt} {c : Nat} (h : LK F s t) : far1 F w a sand s c = far1 F w a sand t c := farR_cong F 0 _ (fun j _ h2 => h.2 j (by omega))
theorem go1_LK {F N S : Nat} {w a r : Nat → Nat} {sand : Bool} {s t : PSt} {c : Nat} (h : LK F s t) : LK F (go1 F N S w a r sand s c) (go1 F N S w a r sand t c) := by
  have e1 := far1_cong (w := w) (a := a) (sand := sand) (c := c) h
  have hg : s.2.1 = t.2.1 := by rw [h.1]
  have hh : s.2.2 = t.2.2 := by rw [h.1]
  refine ⟨?_, fun j hj => ?_⟩
  · show (s.2.1 + nI 1, goH F (far1 F w a sand s c) s.2.2 c) = (t.2.1 + nI 1, goH F (far1 F w a sand t c) t.2.2 c)
    rw [e1, hg, hh]
  · show goS F N S (far1 F w a sand s c) (r c) s.1 (s.2.1 + nI 1) j = goS F N S (far1 F w a sand t c) (r c) t.1 (t.2.1 + nI 1) j
    rw [e1, hg]
    have h1 := goS1_cong (R := r c) (far1_le F w a sand t c) h.2 j hj
    unfold goS
    cases sunB (t.2.1 + nI 1) N with
    | false => exact h1
    | true => show adS 0 F S _ j = adS 0 F S _ j; unfold adS; rw [h1]
theorem hasR_LK {F N S : Nat} {w a r who : Nat → Nat} : ∀ (m i : Nat) (s t : PSt), LK F s t → hasR F N S w a r who m i s = hasR F N S w a r who m i t
  | 0, _, _, _, _ => rfl
  | m + 1, i, s, t, h => by
    have h1 := go1_LK (N := N) (S := S) (w := w) (a := a) (r := r) (sand := false) (c := who i) h
    rw [hasR, hasR, hasR_LK m (i + 1) _ _ h1, show (go1 F N S w a r false s (who i)).2.2 = (go1 F N S w a r false t (who i)).2.2 by rw [h1.1]]
theorem coat_LK {F v : Nat} {s : PSt} (hF : F ≤ 30) : LK F (coat v s) (coS v s.1 F, s.2) := ⟨rfl, fun j hj => by
  show coS v s.1 30 j = coS v s.1 F j
  unfold coS
  rw [if_pos hj, if_pos (show j < 30 by omega)]⟩
theorem coS_SB {v : Nat} {sl : Nat → Nat} (hv : v ≤ 99) (h : SB sl) (i : Nat) : SB (coS v sl i) := fun j hj => by
  unfold coS
  split
  · exact hv
  · exact h j hj
set_option maxRecDepth 20000 in
theorem lp_eno106 (sk : Nat → Nat) {h mt mo md ms mn mi mz mk mw mf mr mb mu : Nat} {ty se fAt at_ so sta sz fl : Int32} {iha isn : Bool} {T : Nat → Nat} {w a r : Nat → Nat} {n k v : Nat} {fw : Nat → Int32} {who : Nat → Nat} {s : PSt} {Z Hs : Int32} {p : Nat} {t : PSt} {ru : Int32} {l4 : Option Value} (hB : PB (T 0) (T 1) (T 4) (T 5) w a r) (hW : TWR T w a r) (hn : n ≤ 12) (hwho : ∀ i, i < n → fw i = nI (who i) ∧ who i < T 1) (hk : k < n) (hA : Hs = nI k → Z = nI v) (hN : ¬ Hs = nI k → ∀ (t : PSt) (ru l3 : Int32) (l4 : Option Value), GG sk RX7 yX7_enough cX7_enough 5 (some .int) 2 0 0 (fun q w1 => q = some (.int Z) ∧ ∃ (ru2 : Int32) (fn2 : Nat → Int32), w1 = [oMod h mt ty mo md ms mn mi mz mk mw mf (nI n) se fAt at_ so sta sz fl iha isn ru2 mr mb mu, cI mo 56 (fI T), cI ms 32 (fS s), cI mn 32 fn2, cI mw 12 fw]) 0 0 126 [some (.ref h), some (.int (nI k)), some (.int (nI v)), some (.int l3), l4] [] [oMod h mt ty mo md ms mn mi mz mk mw mf (nI n) se fAt at_ so sta sz fl iha isn ru mr mb mu, cI mo 56 (fI T), cI ms 32 (fS s), cI mn 32 (fS t), cI mw 12 fw]) (hp : p ≤ 12) (h1 : t.2.2 = -1 → ¬ Hs = nI k) (h2 : ¬ t.2.2 = -1 → (Hs = nI k ↔ p = k + 1)) : GG sk RX7 yX7_enough cX7_enough 5 (some .int) 2 0 0 (fun q w1 => q = some (.int Z) ∧ ∃ (ru2 : Int32) (fn2 : Nat → Int32), w1 = [oMod h mt ty mo md ms mn mi mz mk mw mf (nI n) se fAt at_ so sta sz fl iha isn ru2 mr mb mu, cI mo 56 (fI T), cI ms 32 (fS s), cI mn 32 fn2, cI mw 12 fw]) 0 0 106 [some (.ref h), some (.int (nI k)), some (.int (nI v)), some (.int (nI p)), l4] [] [oMod h mt ty mo md ms mn mi mz mk mw mf (nI n) se fAt at_ so sta sz fl iha isn ru mr mb mu, cI mo 56 (fI T), cI ms 32 (fS s), cI mn 32 (fS t), cI mw 12 fw] := by
  refine g_aload_n dX7_enough_106 rfl rfl ?_
  refine g_get f_X7_22 dX7_enough_107 rfl 0 rfl rfl ?_
  refine g_bipush (v := nI 31) dX7_enough_110 rfl (by decide) ?_
  refine g_ialdN (v := t.2.2) dX7_enough_112 rfl 3 rfl (by omega) (by decide) (rfl) ?_
  refine g_iconst (v := -1) dX7_enough_113 rfl (by decide) ?_
  refine g_icmp_eq (t := 126) dX7_enough_114 (by decide) rfl (fun h114 => ?_) (fun h114 => ?_)
  · exact hN (h1 h114) _ _ _ _
  · skip
    refine g_iload_n dX7_enough_117 rfl rfl ?_
    refine g_iload_n dX7_enough_118 rfl rfl ?_
    refine g_iconst (v := nI 1) dX7_enough_119 rfl (by decide) ?_
    refine g_iadd dX7_enough_120 rfl (nI_add _ _) ?_
    refine g_icmp_neN (t := 126) dX7_enough_121 (by decide) rfl (by omega) (by omega) (fun h121 => ?_) (fun h121 => ?_)
    · skip
      exact hN (fun e => h121 ((h2 h114).mp e)) _ _ _ _
    · have hz := hA ((h2 h114).mpr h121)
      subst hz
      refine g_iload_n dX7_enough_124 rfl rfl ?_
      exact g_iret dX7_enough_125 rfl (Nat.le_refl _) (Nat.le_refl _) (⟨rfl, _, _, rfl⟩)
set_option maxRecDepth 20000 in
theorem lp_eno71b (sk : Nat → Nat) {h mt mo md ms mn mi mz mk mw mf mr mb mu : Nat} {ty se fAt at_ so sta sz fl : Int32} {iha isn : Bool} {T : Nat → Nat} {w a r : Nat → Nat} {n k v : Nat} {fw : Nat → Int32} {who : Nat → Nat} {s : PSt} {Z Hs : Int32} {p : Nat} {t : PSt} {ru : Int32} {l4 : Option Value} (hB : PB (T 0) (T 1) (T 4) (T 5) w a r) (hW : TWR T w a r) (hn : n ≤ 12) (hwho : ∀ i, i < n → fw i = nI (who i) ∧ who i < T 1) (hk : k < n) (hA : Hs = nI k → Z = nI v) (hN : ¬ Hs = nI k → ∀ (t : PSt) (ru l3 : Int32) (l4 : Option Value), GG sk RX7 yX7_enough cX7_enough 5 (some .int) 2 0 0 (fun q w1 => q = some (.int Z) ∧ ∃ (ru2 : Int32) (fn2 : Nat → Int32), w1 = [oMod h mt ty mo md ms mn mi mz mk mw mf (nI n) se fAt at_ so sta sz fl iha isn ru2 mr mb mu, cI mo 56 (fI T), cI ms 32 (fS s), cI mn 32 fn2, cI mw 12 fw]) 0 0 126 [some (.ref h), some (.int (nI k)), some (.int (nI v)), some (.int l3), l4] [] [oMod h mt ty mo md ms mn mi mz mk mw mf (nI n) se fAt at_ so sta sz fl iha isn ru mr mb mu, cI mo 56 (fI T), cI ms 32 (fS s), cI mn 32 (fS t), cI mw 12 fw]) (hp : p ≤ 12) (hh : ¬ t.2.2 = -1) (h2 : Hs = nI k ↔ p = k + 1) : GG sk RX7 yX7_enough cX7_enough 5 (some .int) 2 0 0 (fun q w1 => q = some (.int Z) ∧ ∃ (ru2 : Int32) (fn2 : Nat → Int32), w1 = [oMod h mt ty mo md ms mn mi mz mk mw mf (nI n) se fAt at_ so sta sz fl iha isn ru2 mr mb mu, cI mo 56 (fI T), cI ms 32 (fS s), cI mn 32 fn2, cI mw 12 fw]) 0 0 71 [some (.ref h), some (.int (nI k)), some (.int (nI v)), some (.int (nI p)), l4] [] [oMod h mt ty mo md ms mn mi mz mk mw mf (nI n) se fAt at_ so sta sz fl iha isn ru mr mb mu, cI mo 56 (fI T), cI ms 32 (fS s), cI mn 32 (fS t), cI mw 12 fw] := by
  refine g_iload_n dX7_enough_71 rfl rfl ?_
  refine g_iload_n dX7_enough_72 rfl rfl ?_
  refine g_icmp_gtN (t := 106) dX7_enough_73 (by decide) rfl (by omega) (by omega) (fun h73 => ?_) (fun h73 => ?_)
  · skip
    exact lp_eno106 sk hB hW hn hwho hk hA hN hp (fun q => absurd q hh) (fun _ => h2)
  · skip
    refine g_aload_n dX7_enough_76 rfl rfl ?_
    refine g_get f_X7_22 dX7_enough_77 rfl 0 rfl rfl ?_
    refine g_bipush (v := nI 31) dX7_enough_80 rfl (by decide) ?_
    refine g_ialdN (v := t.2.2) dX7_enough_82 rfl 3 rfl (by omega) (by decide) (rfl) ?_
    refine g_iconst (v := -1) dX7_enough_83 rfl (by decide) ?_
    refine g_icmp_ne (t := 106) dX7_enough_84 (by decide) rfl (fun h84 => ?_) (fun h84 => ?_)
    · skip
      exact lp_eno106 sk hB hW hn hwho hk hA hN hp (fun q => absurd q hh) (fun _ => h2)
    · exact absurd h84 hh
set_option maxRecDepth 20000 in
theorem lp_eno71 (sk : Nat → Nat) {h mt mo md ms mn mi mz mk mw mf mr mb mu : Nat} {ty se fAt at_ so sta sz fl : Int32} {iha isn : Bool} {T : Nat → Nat} {w a r : Nat → Nat} {n k v : Nat} {fw : Nat → Int32} {who : Nat → Nat} {s : PSt} {Z Hs : Int32} (hB : PB (T 0) (T 1) (T 4) (T 5) w a r) (hW : TWR T w a r) (hn : n ≤ 12) (hwho : ∀ i, i < n → fw i = nI (who i) ∧ who i < T 1) (hk : k < n) (hA : Hs = nI k → Z = nI v) (hN : ¬ Hs = nI k → ∀ (t : PSt) (ru l3 : Int32) (l4 : Option Value), GG sk RX7 yX7_enough cX7_enough 5 (some .int) 2 0 0 (fun q w1 => q = some (.int Z) ∧ ∃ (ru2 : Int32) (fn2 : Nat → Int32), w1 = [oMod h mt ty mo md ms mn mi mz mk mw mf (nI n) se fAt at_ so sta sz fl iha isn ru2 mr mb mu, cI mo 56 (fI T), cI ms 32 (fS s), cI mn 32 fn2, cI mw 12 fw]) 0 0 126 [some (.ref h), some (.int (nI k)), some (.int (nI v)), some (.int l3), l4] [] [oMod h mt ty mo md ms mn mi mz mk mw mf (nI n) se fAt at_ so sta sz fl iha isn ru mr mb mu, cI mo 56 (fI T), cI ms 32 (fS s), cI mn 32 (fS t), cI mw 12 fw]) : ∀ (m p : Nat) (t : PSt) (ru : Int32) (l4 : Option Value), p + m = k + 1 → SB t.1 → t.2.2 = -1 → hasR (T 0) (T 4) (T 5) w a r who m p t = Hs → GG sk RX7 yX7_enough cX7_enough 5 (some .int) 2 0 0 (fun q w1 => q = some (.int Z) ∧ ∃ (ru2 : Int32) (fn2 : Nat → Int32), w1 = [oMod h mt ty mo md ms mn mi mz mk mw mf (nI n) se fAt at_ so sta sz fl iha isn ru2 mr mb mu, cI mo 56 (fI T), cI ms 32 (fS s), cI mn 32 fn2, cI mw 12 fw]) 0 0 71 [some (.ref h), some (.int (nI k)), some (.int (nI v)), some (.int (nI p)), l4] [] [oMod h mt ty mo md ms mn mi mz mk mw mf (nI n) se fAt at_ so sta sz fl iha isn ru mr mb mu, cI mo 56 (fI T), cI ms 32 (fS s), cI mn 32 (fS t), cI mw 12 fw] := by
  intro m
  induction m with
  | zero =>
    intro p t ru l4 hp ht hh hR
    rw [hasR] at hR
    refine g_iload_n dX7_enough_71 rfl rfl ?_
    refine g_iload_n dX7_enough_72 rfl rfl ?_
    refine g_icmp_gtN (t := 106) dX7_enough_73 (by decide) rfl (by omega) (by omega) (fun h73 => ?_) (fun h73 => ?_)
    · skip
      exact lp_eno106 sk hB hW hn hwho hk hA hN (by omega) (fun _ => by rw [← hR]; exact fun q => nI_m1 (show k < 2 ^ 31 by omega) q.symm) (fun q => absurd hh q)
    · exact absurd h73 (by omega)
  | succ m ih =>
    intro p t ru l4 hp ht hh hR
    rw [hasR] at hR
    have hwi := hwho p (by omega)
    refine g_iload_n dX7_enough_71 rfl rfl ?_
    refine g_iload_n dX7_enough_72 rfl rfl ?_
    refine g_icmp_gtN (t := 106) dX7_enough_73 (by decide) rfl (by omega) (by omega) (fun h73 => ?_) (fun h73 => ?_)
    · exact absurd h73 (by omega)
    · skip
      refine g_aload_n dX7_enough_76 rfl rfl ?_
      refine g_get f_X7_22 dX7_enough_77 rfl 0 rfl rfl ?_
      refine g_bipush (v := nI 31) dX7_enough_80 rfl (by decide) ?_
      refine g_ialdN (v := t.2.2) dX7_enough_82 rfl 3 rfl (by omega) (by decide) (rfl) ?_
      refine g_iconst (v := -1) dX7_enough_83 rfl (by decide) ?_
      refine g_icmp_ne (t := 106) dX7_enough_84 (by decide) rfl (fun h84 => ?_) (fun h84 => ?_)
      · exact absurd hh h84
      · skip
        refine g_aload_n dX7_enough_87 rfl rfl ?_
        refine g_aload_n dX7_enough_88 rfl rfl ?_
        refine g_get f_X7_35 dX7_enough_89 rfl 0 rfl rfl ?_
        refine g_iload_n dX7_enough_92 rfl rfl ?_
        refine g_ialdN (v := nI (who p)) dX7_enough_93 rfl 4 rfl (by omega) (by decide) (hwi.1) ?_
        refine g_iconst (v := nI 0) dX7_enough_94 rfl (by decide) ?_
        refine g_callV (c_goes sk (sand := false) hB hW hwi.2 ht) m_X7_176 a_X7_goes dX7_enough_95 rfl [0, 1, 3] rfl rfl 0 rfl rfl rfl (by decide) (by decide) (by decide) (by decide) (Nat.le_of_ble_eq_true rfl) (fun r w hK => ?_)
        obtain ⟨rfl, rfl⟩ := hK
        refine ⟨rfl, ?_⟩
        dsimp only [puts, List.set, Option.toList, List.cons_append, List.nil_append, List.append_nil]
        refine g_istore dX7_enough_98 rfl (by decide) rfl rfl ?_
        refine g_iinc dX7_enough_100 rfl rfl (nI_1 _) (by decide) rfl rfl ?_
        refine g_goto (q := 71) dX7_enough_103 (by decide) ?_
        by_cases hg : (go1 (T 0) (T 4) (T 5) w a r false t (who p)).2.2 = -1
        · rw [if_pos hg] at hR
          exact ih (p + 1) _ _ _ (by omega) (go1_SB ht) hg hR
        · rw [if_neg hg] at hR
          refine lp_eno71b sk hB hW hn hwho hk hA hN (by omega) hg ?_
          rw [← hR]
          exact ⟨fun q => by have := nI_inj (show p < 2 ^ 31 by omega) (show k < 2 ^ 31 by omega) q; omega, fun q => by rw [show p = k by omega]⟩
theorem fS_co {sl : Nat → Nat} {i v : Nat} (y : Int32 × Int32) (hi : i < 30) : upd (fS (coS v sl i, y)) i (nI v) = fS (coS v sl (i + 1), y) := by
  rw [fS_up _ _ hi]
  show fS (nup (coS v sl i) i v, y) = _
  rw [coS_up]
set_option maxRecDepth 20000 in
theorem lp_eno46 (sk : Nat → Nat) {ru : Int32} {h mt mo md ms mn mi mz mk mw mf mr mb mu : Nat} {ty se fAt at_ so sta sz fl : Int32} {iha isn : Bool} {T : Nat → Nat} {w a r : Nat → Nat} {n k v : Nat} {fw : Nat → Int32} {who : Nat → Nat} {s : PSt} {Z : Int32} (hB : PB (T 0) (T 1) (T 4) (T 5) w a r) (hW : TWR T w a r) (hn : n ≤ 12) (hwho : ∀ i, i < n → fw i = nI (who i) ∧ who i < T 1) (hk : k < n) (hL : ∀ (l4 : Option Value), GG sk RX7 yX7_enough cX7_enough 5 (some .int) 2 0 0 (fun q w1 => q = some (.int Z) ∧ ∃ (ru2 : Int32) (fn2 : Nat → Int32), w1 = [oMod h mt ty mo md ms mn mi mz mk mw mf (nI n) se fAt at_ so sta sz fl iha isn ru2 mr mb mu, cI mo 56 (fI T), cI ms 32 (fS s), cI mn 32 fn2, cI mw 12 fw]) 0 0 69 [some (.ref h), some (.int (nI k)), some (.int (nI v)), some (.int (nI (T 0))), l4] [] [oMod h mt ty mo md ms mn mi mz mk mw mf (nI n) se fAt at_ so sta sz fl iha isn ru mr mb mu, cI mo 56 (fI T), cI ms 32 (fS s), cI mn 32 (fS (coS v s.1 (T 0), s.2)), cI mw 12 fw]) : ∀ (m i : Nat) (l4 : Option Value), i + m = T 0 → GG sk RX7 yX7_enough cX7_enough 5 (some .int) 2 0 0 (fun q w1 => q = some (.int Z) ∧ ∃ (ru2 : Int32) (fn2 : Nat → Int32), w1 = [oMod h mt ty mo md ms mn mi mz mk mw mf (nI n) se fAt at_ so sta sz fl iha isn ru2 mr mb mu, cI mo 56 (fI T), cI ms 32 (fS s), cI mn 32 fn2, cI mw 12 fw]) 0 0 46 [some (.ref h), some (.int (nI k)), some (.int (nI v)), some (.int (nI i)), l4] [] [oMod h mt ty mo md ms mn mi mz mk mw mf (nI n) se fAt at_ so sta sz fl iha isn ru mr mb mu, cI mo 56 (fI T), cI ms 32 (fS s), cI mn 32 (fS (coS v s.1 i, s.2)), cI mw 12 fw] := by
  have hT0 := hB.1
  intro m
  induction m with
  | zero =>
    intro i l4 hi
    have e : i = T 0 := by omega
    subst e
    refine g_iload_n dX7_enough_46 rfl rfl ?_
    refine g_aload_n dX7_enough_47 rfl rfl ?_
    refine g_get f_X7_13 dX7_enough_48 rfl 0 rfl rfl ?_
    refine g_iconst (v := nI 0) dX7_enough_51 rfl (by decide) ?_
    refine g_ialdN (v := nI _) dX7_enough_52 rfl 1 rfl (by omega) (by decide) (rfl) ?_
    refine g_icmp_geN (t := 69) dX7_enough_53 (by decide) rfl (by omega) (by omega) (fun h53 => ?_) (fun h53 => ?_)
    · skip
      exact hL _
    · exact absurd h53 (by omega)
  | succ m ih =>
    intro i l4 hi
    refine g_iload_n dX7_enough_46 rfl rfl ?_
    refine g_aload_n dX7_enough_47 rfl rfl ?_
    refine g_get f_X7_13 dX7_enough_48 rfl 0 rfl rfl ?_
    refine g_iconst (v := nI 0) dX7_enough_51 rfl (by decide) ?_
    refine g_ialdN (v := nI _) dX7_enough_52 rfl 1 rfl (by omega) (by decide) (rfl) ?_
    refine g_icmp_geN (t := 69) dX7_enough_53 (by decide) rfl (by omega) (by omega) (fun h53 => ?_) (fun h53 => ?_)
    · exact absurd h53 (by omega)
    · skip
      refine g_aload_n dX7_enough_56 rfl rfl ?_
      refine g_get f_X7_22 dX7_enough_57 rfl 0 rfl rfl ?_
      refine g_iload_n dX7_enough_60 rfl rfl ?_
      refine g_iload_n dX7_enough_61 rfl rfl ?_
      refine g_iastN dX7_enough_62 rfl 3 rfl (by omega) (by decide) (fS_co s.2 (show i < 30 by omega)) rfl ?_
      refine g_iinc dX7_enough_63 rfl rfl (nI_1 _) (by decide) rfl rfl ?_
      refine g_goto (q := 46) dX7_enough_66 (by decide) ?_
      exact ih (i + 1) _ (by omega)
set_option maxRecDepth 20000 in
theorem lp_eno15 (sk : Nat → Nat) {h mt mo md ms mn mi mz mk mw mf mr mb mu : Nat} {ty se fAt at_ so sta sz fl : Int32} {iha isn : Bool} {T : Nat → Nat} {w a r : Nat → Nat} {n k : Nat} {fw : Nat → Int32} {who : Nat → Nat} {s : PSt} {Z : Int32} (hB : PB (T 0) (T 1) (T 4) (T 5) w a r) (hW : TWR T w a r) (hn : n ≤ 12) (hwho : ∀ i, i < n → fw i = nI (who i) ∧ who i < T 1) (hk : k < n) (hs0 : SB s.1) (hh : s.2.2 = -1) : ∀ (m v : Nat) (ru : Int32) (fn : Nat → Int32) (l3 l4 : Option Value), v + m = 100 → leastR (T 0) (T 4) (T 5) w a r who k s m v = Z → GG sk RX7 yX7_enough cX7_enough 5 (some .int) 2 0 0 (fun q w1 => q = some (.int Z) ∧ ∃ (ru2 : Int32) (fn2 : Nat → Int32), w1 = [oMod h mt ty mo md ms mn mi mz mk mw mf (nI n) se fAt at_ so sta sz fl iha isn ru2 mr mb mu, cI mo 56 (fI T), cI ms 32 (fS s), cI mn 32 fn2, cI mw 12 fw]) 0 0 15 [some (.ref h), some (.int (nI k)), some (.int (nI v)), l3, l4] [] [oMod h mt ty mo md ms mn mi mz mk mw mf (nI n) se fAt at_ so sta sz fl iha isn ru mr mb mu, cI mo 56 (fI T), cI ms 32 (fS s), cI mn 32 fn, cI mw 12 fw] := by
  intro m
  induction m with
  | zero =>
    intro v ru fn l3 l4 hv hZ
    rw [leastR] at hZ
    subst hZ
    refine g_iload_n dX7_enough_15 rfl rfl ?_
    refine g_bipush (v := nI 99) dX7_enough_16 rfl (by decide) ?_
    refine g_icmp_gtN (t := 132) dX7_enough_18 (by decide) rfl (by omega) (by omega) (fun h18 => ?_) (fun h18 => ?_)
    · skip
      refine g_iconst (v := -1) dX7_enough_132 rfl (by decide) ?_
      exact g_iret dX7_enough_133 rfl (Nat.le_refl _) (Nat.le_refl _) (⟨rfl, _, _, rfl⟩)
    · exact absurd h18 (by omega)
  | succ m ih =>
    intro v ru fn l3 l4 hv hZ
    rw [leastR, hasR_LK _ _ _ _ (coat_LK hB.1)] at hZ
    have hT0 := hB.1
    refine g_iload_n dX7_enough_15 rfl rfl ?_
    refine g_bipush (v := nI 99) dX7_enough_16 rfl (by decide) ?_
    refine g_icmp_gtN (t := 132) dX7_enough_18 (by decide) rfl (by omega) (by omega) (fun h18 => ?_) (fun h18 => ?_)
    · exact absurd h18 (by omega)
    · skip
      refine g_iload_n dX7_enough_21 rfl rfl ?_
      refine g_aload_n dX7_enough_22 rfl rfl ?_
      refine g_get f_X7_151 dX7_enough_23 rfl 0 rfl rfl ?_
      refine g_icmp_geN (t := 132) dX7_enough_26 (by decide) rfl (by omega) (by omega) (fun h26 => ?_) (fun h26 => ?_)
      · exact absurd h26 (by omega)
      · skip
        refine g_aload_n dX7_enough_29 rfl rfl ?_
        refine g_get f_X7_19 dX7_enough_30 rfl 0 rfl rfl ?_
        refine g_bipush (v := nI 31) dX7_enough_33 rfl (by decide) ?_
        refine g_ialdN (v := s.2.2) dX7_enough_35 rfl 2 rfl (by omega) (by decide) (rfl) ?_
        refine g_iconst (v := -1) dX7_enough_36 rfl (by decide) ?_
        refine g_icmp_ne (t := 132) dX7_enough_37 (by decide) rfl (fun h37 => ?_) (fun h37 => ?_)
        · exact absurd hh h37
        · skip
          refine g_aload_n dX7_enough_40 rfl rfl ?_
          refine g_callV (c_X7_lays sk) m_X7_172 a_X7_lays dX7_enough_41 rfl [0, 2, 3] rfl rfl 0 rfl rfl rfl (by decide) (by decide) (by decide) (by decide) (Nat.le_of_ble_eq_true rfl) (fun r w hK => ?_)
          obtain ⟨rfl, rfl⟩ := hK
          refine ⟨rfl, ?_⟩
          dsimp only [puts, List.set, Option.toList, List.cons_append, List.nil_append, List.append_nil]
          refine g_iconst (v := nI 0) dX7_enough_44 rfl (by decide) ?_
          refine g_istore_n dX7_enough_45 rfl (by decide) rfl rfl ?_
          refine lp_eno46 sk hB hW hn hwho hk (fun l4 => ?_) (T 0) 0 _ (by omega)
          refine g_iconst (v := nI 0) dX7_enough_69 rfl (by decide) ?_
          refine g_istore_n dX7_enough_70 rfl (by decide) rfl rfl ?_
          refine lp_eno71 sk hB hW hn hwho hk (Hs := hasR (T 0) (T 4) (T 5) w a r who (k + 1) 0 (coS v s.1 (T 0), s.2)) (fun q => ?_) (fun q t ru l3 l4 => ?_) (k + 1) 0 _ _ _ (by omega) (coS_SB (by omega) hs0 _) hh rfl
          · rw [if_pos q] at hZ; exact hZ.symm
          · rw [if_neg q] at hZ
            refine g_iinc dX7_enough_126 rfl rfl (nI_1 _) (by decide) rfl rfl ?_
            refine g_goto (q := 15) dX7_enough_129 (by decide) ?_
            exact ih (v + 1) _ _ _ _ (by omega) hZ
set_option maxRecDepth 20000 in
theorem c_X7_enough (sk : Nat → Nat) {h mt mo md ms mn mi mz mk mw mf mr mb mu : Nat} {ty se fAt at_ so sta sz fl ru : Int32} {iha isn : Bool} {T : Nat → Nat} {w a r : Nat → Nat} {n : Nat} {fw fn : Nat → Int32} {who : Nat → Nat} {s : PSt} {x : Int32} (hB : PB (T 0) (T 1) (T 4) (T 5) w a r) (hW : TWR T w a r) (hn : n ≤ 12) (hwho : ∀ i, i < n → fw i = nI (who i) ∧ who i < T 1) (hs0 : SB s.1) : Ct sk yX7_enough cX7_enough 5 (some .int) 2 0 0 [oMod h mt ty mo md ms mn mi mz mk mw mf (nI n) se fAt at_ so sta sz fl iha isn ru mr mb mu, cI mo 56 (fI T), cI ms 32 (fS s), cI mn 32 fn, cI mw 12 fw] [.ref h, .int x] (fun q w1 => q = some (.int (enoA (T 0) (T 4) (T 5) w a r who n s x)) ∧ ∃ (ru2 : Int32) (fn2 : Nat → Int32), w1 = [oMod h mt ty mo md ms mn mi mz mk mw mf (nI n) se fAt at_ so sta sz fl iha isn ru2 mr mb mu, cI mo 56 (fI T), cI ms 32 (fS s), cI mn 32 fn2, cI mw 12 fw]) := by
  refine Ct.of (own := RX7) (l := [some (.ref h), some (.int x), none, none, none]) (by decide) rfl (Nat.le_of_ble_eq_true rfl) rfl ?_
  refine g_iload_n dX7_enough_0 rfl rfl ?_
  refine g_iconst (v := nI 0) dX7_enough_1 rfl (by decide) ?_
  refine g_bipush (v := nI 11) dX7_enough_2 rfl (by decide) ?_
  refine g_callS (c_X7_in sk) m_X7_61 a_X7_in dX7_enough_4 rfl [] rfl rfl rfl rfl (by decide) (by decide) (by decide) (by decide) (Nat.le_of_ble_eq_true rfl) (fun r w hK => ?_)
  obtain ⟨rfl, rfl⟩ := hK
  refine ⟨rfl, ?_⟩
  dsimp only [puts, List.set, Option.toList, List.cons_append, List.nil_append, List.append_nil]
  refine g_if_neB (t := 13) dX7_enough_7 (by decide) rfl (fun h7 => ?_) (fun h7 => ?_)
  · have hr : inR x 12 = true := inR_t2 (fun q => inI_t h7 (Or.inl q)) (fun q => inI_t h7 (Or.inr (le_gt q)))
    obtain ⟨k, hk12, rfl⟩ := inR_t (by decide) hr
    rw [enoA, if_pos hr, nI_clamp (by omega)]
    refine g_iconst (v := nI 0) dX7_enough_13 rfl (by decide) ?_
    refine g_istore_n dX7_enough_14 rfl (by decide) rfl rfl ?_
    by_cases hq : k < n ∧ s.2.2 = -1
    · rw [if_pos hq]
      exact lp_eno15 sk hB hW hn hwho hq.1 hs0 hq.2 100 0 _ _ _ _ (by omega) rfl
    · rw [if_neg hq]
      refine g_iload_n dX7_enough_15 rfl rfl ?_
      refine g_bipush (v := nI 99) dX7_enough_16 rfl (by decide) ?_
      refine g_icmp_gtN (t := 132) dX7_enough_18 (by decide) rfl (by omega) (by omega) (fun h18 => ?_) (fun h18 => ?_)
      · exact absurd h18 (by decide)
      · skip
        refine g_iload_n dX7_enough_21 rfl rfl ?_
        refine g_aload_n dX7_enough_22 rfl rfl ?_
        refine g_get f_X7_151 dX7_enough_23 rfl 0 rfl rfl ?_
        refine g_icmp_geN (t := 132) dX7_enough_26 (by decide) rfl (by omega) (by omega) (fun h26 => ?_) (fun h26 => ?_)
        · skip
          refine g_iconst (v := -1) dX7_enough_132 rfl (by decide) ?_
          exact g_iret dX7_enough_133 rfl (Nat.le_refl _) (Nat.le_refl _) (⟨rfl, _, _, rfl⟩)
        · skip
          refine g_aload_n dX7_enough_29 rfl rfl ?_
          refine g_get f_X7_19 dX7_enough_30 rfl 0 rfl rfl ?_
          refine g_bipush (v := nI 31) dX7_enough_33 rfl (by decide) ?_
          refine g_ialdN (v := s.2.2) dX7_enough_35 rfl 2 rfl (by omega) (by decide) (rfl) ?_
          refine g_iconst (v := -1) dX7_enough_36 rfl (by decide) ?_
          refine g_icmp_ne (t := 132) dX7_enough_37 (by decide) rfl (fun h37 => ?_) (fun h37 => ?_)
          · skip
            refine g_iconst (v := -1) dX7_enough_132 rfl (by decide) ?_
            exact g_iret dX7_enough_133 rfl (Nat.le_refl _) (Nat.le_refl _) (⟨rfl, _, _, rfl⟩)
          · exact absurd ⟨by omega, h37⟩ hq
  · have hr : inR x 12 = false := by
      rcases inI_f h7 with q | q
      · exact inR_f1 q
      · exact inR_f2 (gt_le q)
    rw [enoA, if_neg (by rw [hr]; decide)]
    refine g_ldc dX7_enough_10 rfl k_X7_65 ?_
    exact g_iret dX7_enough_12 rfl (Nat.le_refl _) (Nat.le_refl _) (⟨rfl, _, _, rfl⟩)
