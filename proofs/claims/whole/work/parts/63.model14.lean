/-! the reference: FOR ONE -/
theorem pw_le {b k : Nat} (hb : b ≤ 6) (hk : k ≤ 5) : b ^ k ≤ 7776 := Nat.le_trans (Nat.pow_le_pow_left hb k) (Nat.pow_le_pow_right (by decide) hk)
def figR (row b n i : Nat) : Nat := row / b ^ (n - 1 - i) % b
/-- the row of n goes and then one more of c: c has the ham, and only by that one -/
def hisR (F C N S : Nat) (w a r : Nat → Nat) (n row c : Nat) : Nat → Nat → PSt → Bool
  | 0, _, t => if t.2.2 = -1 then decide ((go1 F N S w a r false t c).2.2 = nI c) else false
  | m + 1, k, t => if t.2.2 = -1 then hisR F C N S w a r n row c m (k + 1) (go1 F N S w a r false t (figR row C n k)) else false
def frwR (F C N S : Nat) (w a r : Nat → Nat) (s : PSt) (n c : Nat) : Nat → Nat → Option Nat
  | 0, _ => none
  | m + 1, row => if hisR F C N S w a r n row c n 0 s = true then some row else frwR F C N S w a r s n c m (row + 1)
def f1R (F C N S : Nat) (w a r : Nat → Nat) (s : PSt) (c : Nat) : Nat → Nat → Option (Nat × Nat)
  | 0, _ => none
  | m + 1, n => match frwR F C N S w a r s n c (C ^ n) 0 with
    | some row => some (n, row)
    | none => f1R F C N S w a r s c m (n + 1)
def f1A (C c : Nat) (v : Option (Nat × Nat)) (x : Int32) : Int32 := match v with
  | none => -1
  | some (n, row) => if x = -1 then nI (n + 1) else if x < nI n then nI (figR row C n x.toNatClampNeg) else if x = nI n then nI c else -1
theorem f1A_none (C c : Nat) (x : Int32) : f1A C c none x = -1 := rfl
theorem f1A_some (C c n row : Nat) (x : Int32) : f1A C c (some (n, row)) x = if x = -1 then nI (n + 1) else if x < nI n then nI (figR row C n x.toNatClampNeg) else if x = nI n then nI c else -1 := rfl
set_option maxRecDepth 20000 in
theorem lp_power (sk : Nat → Nat) {b n : Nat} (hn : n ≤ 6) : ∀ (m i : Nat), i + m = n → GG sk RX7 yX7_power cX7_power 4 (some .int) 0 0 0 (zD (some (.int (nI (b ^ n)))) []) 0 0 4 [some (.int (nI b)), some (.int (nI n)), some (.int (nI (b ^ i))), some (.int (nI i))] [] [] := by
  intro m
  induction m with
  | zero =>
    intro i hi
    have e : i = n := by omega
    subst e
    refine g_iload_n dX7_power_4 rfl rfl ?_
    refine g_iload_n dX7_power_5 rfl rfl ?_
    refine g_icmp_geN (t := 19) dX7_power_6 (by decide) rfl (by omega) (by omega) (fun h6 => ?_) (fun h6 => ?_)
    · skip
      refine g_iload_n dX7_power_19 rfl rfl ?_
      exact g_iret dX7_power_20 rfl (Nat.le_refl _) (Nat.le_refl _) (⟨rfl, rfl⟩)
    · exact absurd h6 (by omega)
  | succ m ih =>
    intro i hi
    refine g_iload_n dX7_power_4 rfl rfl ?_
    refine g_iload_n dX7_power_5 rfl rfl ?_
    refine g_icmp_geN (t := 19) dX7_power_6 (by decide) rfl (by omega) (by omega) (fun h6 => ?_) (fun h6 => ?_)
    · exact absurd h6 (by omega)
    · skip
      refine g_iload_n dX7_power_9 rfl rfl ?_
      refine g_iload_n dX7_power_10 rfl rfl ?_
      refine g_imul dX7_power_11 rfl (pk_mul _ _) ?_
      refine g_istore_n dX7_power_12 rfl (by decide) rfl rfl ?_
      refine g_iinc dX7_power_13 rfl rfl (nI_1 _) (by decide) rfl rfl ?_
      refine g_goto (q := 4) dX7_power_16 (by decide) ?_
      exact ih (i + 1) (by omega)
set_option maxRecDepth 20000 in
theorem c_X7_power (sk : Nat → Nat) {b n : Nat} (hn : n ≤ 6) : Ct sk yX7_power cX7_power 4 (some .int) 0 0 0 [] [.int (nI b), .int (nI n)] (zD (some (.int (nI (b ^ n)))) []) := by
  refine Ct.of (own := RX7) (l := [some (.int (nI b)), some (.int (nI n)), none, none]) (by decide) rfl (Nat.le_of_ble_eq_true rfl) rfl ?_
  refine g_iconst (v := nI 1) dX7_power_0 rfl (by decide) ?_
  refine g_istore_n dX7_power_1 rfl (by decide) rfl rfl ?_
  refine g_iconst (v := nI 0) dX7_power_2 rfl (by decide) ?_
  refine g_istore_n dX7_power_3 rfl (by decide) rfl rfl ?_
  exact lp_power sk hn n 0 (by omega)
set_option maxRecDepth 20000 in
theorem c_X7_figure (sk : Nat → Nat) {row b n i : Nat} (hb : 1 ≤ b ∧ b ≤ 6) (hn : n ≤ 6) (hi : i < n) (hr : row < 2 ^ 31) : Ct sk yX7_figure cX7_figure 4 (some .int) 1 0 0 [] [.int (nI row), .int (nI b), .int (nI n), .int (nI i)] (zD (some (.int (nI (figR row b n i)))) []) := by
  have hpw := pw_le hb.2 (show n - 1 - i ≤ 5 by omega)
  have hp0 : 0 < b ^ (n - 1 - i) := Nat.pow_pos hb.1
  refine Ct.of (own := RX7) (l := [some (.int (nI row)), some (.int (nI b)), some (.int (nI n)), some (.int (nI i))]) (by decide) rfl (Nat.le_of_ble_eq_true rfl) rfl ?_
  refine g_iload_n dX7_figure_0 rfl rfl ?_
  refine g_iload_n dX7_figure_1 rfl rfl ?_
  refine g_iload_n dX7_figure_2 rfl rfl ?_
  refine g_iconst (v := nI 1) dX7_figure_3 rfl (by decide) ?_
  refine g_isub dX7_figure_4 rfl (pk_sub (by omega)) ?_
  refine g_iload_n dX7_figure_5 rfl rfl ?_
  refine g_isub dX7_figure_6 rfl (pk_sub (by omega)) ?_
  refine g_callS (c_X7_power sk (b := b) (n := n - 1 - i) (by omega)) m_X7_193 a_X7_power dX7_figure_7 rfl [] rfl rfl rfl rfl (by decide) (by decide) (by decide) (by decide) (Nat.le_of_ble_eq_true rfl) (fun r w hK => ?_)
  obtain ⟨rfl, rfl⟩ := hK
  refine ⟨rfl, ?_⟩
  dsimp only [puts, List.set, Option.toList, List.cons_append, List.nil_append, List.append_nil]
  refine g_idiv dX7_figure_10 rfl (nI_ne0 hp0 (by omega)) (pk_div (by omega) hp0 (by omega)) ?_
  refine g_iload_n dX7_figure_11 rfl rfl ?_
  refine g_irem dX7_figure_12 rfl (nI_ne0 (by omega) (by omega)) (pk_rem (Nat.lt_of_le_of_lt (Nat.div_le_self _ _) hr) (by omega) (by omega)) ?_
  exact g_iret dX7_figure_13 rfl (Nat.le_refl _) (Nat.le_refl _) (⟨rfl, rfl⟩)
set_option maxRecDepth 20000 in
theorem lp_his50 (sk : Nat → Nat) {ru : Int32} {h mt mo md ms mn mi mz mk mw mf mr mb mu : Nat} {ty li se fAt at_ so sta sz fl : Int32} {iha isn : Bool} {T : Nat → Nat} {w a r : Nat → Nat} {n row c k : Nat} {s : PSt} {Z : Bool} {t : PSt} {l5 : Option Value} (hB : PB (T 0) (T 1) (T 4) (T 5) w a r) (hW : TWR T w a r) (hn : n ≤ 5) (hc : c < T 1) (hr : row < 2 ^ 31) (ht : SB t.1) (hZ : (if t.2.2 = -1 then decide (((go1 (T 0) (T 4) (T 5) w a r false t c)).2.2 = nI c) else false) = Z) : GG sk RX7 yX7_isHis cX7_isHis 6 (some .boolean) 2 0 0 (fun q w1 => q = some (.int (zb Z)) ∧ ∃ (ru2 : Int32) (fn2 : Nat → Int32), w1 = [oMod h mt ty mo md ms mn mi mz mk mw mf li se fAt at_ so sta sz fl iha isn ru2 mr mb mu, cI mo 56 (fI T), cI ms 32 (fS s), cI mn 32 fn2]) 0 0 50 [some (.ref h), some (.int (nI row)), some (.int (nI n)), some (.int (nI c)), some (.int (nI k)), l5] [] [oMod h mt ty mo md ms mn mi mz mk mw mf li se fAt at_ so sta sz fl iha isn ru mr mb mu, cI mo 56 (fI T), cI ms 32 (fS s), cI mn 32 (fS t)] := by
  refine g_aload_n dX7_isHis_50 rfl rfl ?_
  refine g_get f_X7_22 dX7_isHis_51 rfl 0 rfl rfl ?_
  refine g_bipush (v := nI 31) dX7_isHis_54 rfl (by decide) ?_
  refine g_ialdN (v := t.2.2) dX7_isHis_56 rfl 3 rfl (by omega) (by decide) (rfl) ?_
  refine g_iconst (v := -1) dX7_isHis_57 rfl (by decide) ?_
  refine g_icmp_eq (t := 63) dX7_isHis_58 (by decide) rfl (fun h58 => ?_) (fun h58 => ?_)
  · rw [if_pos h58] at hZ
    refine g_aload_n dX7_isHis_63 rfl rfl ?_
    refine g_iload_n dX7_isHis_64 rfl rfl ?_
    refine g_iconst (v := nI 0) dX7_isHis_65 rfl (by decide) ?_
    refine g_callV (c_goes sk (sand := false) hB hW hc ht) m_X7_176 a_X7_goes dX7_isHis_66 rfl [0, 1, 3] rfl rfl 0 rfl rfl rfl (by decide) (by decide) (by decide) (by decide) (Nat.le_of_ble_eq_true rfl) (fun r w hK => ?_)
    obtain ⟨rfl, rfl⟩ := hK
    refine ⟨rfl, ?_⟩
    dsimp only [puts, List.set, Option.toList, List.cons_append, List.nil_append, List.append_nil]
    refine g_istore dX7_isHis_69 rfl (by decide) rfl rfl ?_
    refine g_aload_n dX7_isHis_71 rfl rfl ?_
    refine g_get f_X7_22 dX7_isHis_72 rfl 0 rfl rfl ?_
    refine g_bipush (v := nI 31) dX7_isHis_75 rfl (by decide) ?_
    refine g_ialdN (v := (go1 (T 0) (T 4) (T 5) w a r false t c).2.2) dX7_isHis_77 rfl 3 rfl (by omega) (by decide) (rfl) ?_
    refine g_iload_n dX7_isHis_78 rfl rfl ?_
    refine g_icmp_ne (t := 86) dX7_isHis_79 (by decide) rfl (fun h79 => ?_) (fun h79 => ?_)
    · rw [decide_eq_false h79] at hZ
      subst hZ
      refine g_iconst (v := nI 0) dX7_isHis_86 rfl (by decide) ?_
      exact g_zret (b := false) dX7_isHis_87 rfl (Nat.le_refl _) (Nat.le_refl _) (⟨rfl, _, _, rfl⟩)
    · rw [decide_eq_true h79] at hZ
      subst hZ
      refine g_iconst (v := nI 1) dX7_isHis_82 rfl (by decide) ?_
      refine g_goto (q := 87) dX7_isHis_83 (by decide) ?_
      exact g_zret (b := true) dX7_isHis_87 rfl (Nat.le_refl _) (Nat.le_refl _) (⟨rfl, _, _, rfl⟩)
  · rw [if_neg h58] at hZ
    subst hZ
    refine g_iconst (v := nI 0) dX7_isHis_61 rfl (by decide) ?_
    exact g_zret (b := false) dX7_isHis_62 rfl (Nat.le_refl _) (Nat.le_refl _) (⟨rfl, _, _, rfl⟩)
set_option maxRecDepth 20000 in
theorem lp_his (sk : Nat → Nat) {h mt mo md ms mn mi mz mk mw mf mr mb mu : Nat} {ty li se fAt at_ so sta sz fl : Int32} {iha isn : Bool} {T : Nat → Nat} {w a r : Nat → Nat} {n row c : Nat} {s : PSt} {Z : Bool} (hB : PB (T 0) (T 1) (T 4) (T 5) w a r) (hW : TWR T w a r) (hn : n ≤ 5) (hc : c < T 1) (hr : row < 2 ^ 31) : ∀ (m k : Nat) (t : PSt) (ru : Int32) (l5 : Option Value), k + m = n → SB t.1 → hisR (T 0) (T 1) (T 4) (T 5) w a r n row c m k t = Z → GG sk RX7 yX7_isHis cX7_isHis 6 (some .boolean) 2 0 0 (fun q w1 => q = some (.int (zb Z)) ∧ ∃ (ru2 : Int32) (fn2 : Nat → Int32), w1 = [oMod h mt ty mo md ms mn mi mz mk mw mf li se fAt at_ so sta sz fl iha isn ru2 mr mb mu, cI mo 56 (fI T), cI ms 32 (fS s), cI mn 32 fn2]) 0 0 7 [some (.ref h), some (.int (nI row)), some (.int (nI n)), some (.int (nI c)), some (.int (nI k)), l5] [] [oMod h mt ty mo md ms mn mi mz mk mw mf li se fAt at_ so sta sz fl iha isn ru mr mb mu, cI mo 56 (fI T), cI ms 32 (fS s), cI mn 32 (fS t)] := by
  have hC6 := hB.2.1
  intro m
  induction m with
  | zero =>
    intro k t ru l5 hk ht hZ
    rw [hisR] at hZ
    refine g_iload dX7_isHis_7 rfl rfl ?_
    refine g_iload_n dX7_isHis_9 rfl rfl ?_
    refine g_icmp_geN (t := 50) dX7_isHis_10 (by decide) rfl (by omega) (by omega) (fun h10 => ?_) (fun h10 => ?_)
    · skip
      exact lp_his50 sk hB hW hn hc hr ht hZ
    · exact absurd h10 (by omega)
  | succ m ih =>
    intro k t ru l5 hk ht hZ
    rw [hisR] at hZ
    have hfl : figR row (T 1) n k < T 1 := Nat.mod_lt _ (by omega)
    refine g_iload dX7_isHis_7 rfl rfl ?_
    refine g_iload_n dX7_isHis_9 rfl rfl ?_
    refine g_icmp_geN (t := 50) dX7_isHis_10 (by decide) rfl (by omega) (by omega) (fun h10 => ?_) (fun h10 => ?_)
    · exact absurd h10 (by omega)
    · skip
      refine g_aload_n dX7_isHis_13 rfl rfl ?_
      refine g_get f_X7_22 dX7_isHis_14 rfl 0 rfl rfl ?_
      refine g_bipush (v := nI 31) dX7_isHis_17 rfl (by decide) ?_
      refine g_ialdN (v := t.2.2) dX7_isHis_19 rfl 3 rfl (by omega) (by decide) (rfl) ?_
      refine g_iconst (v := -1) dX7_isHis_20 rfl (by decide) ?_
      refine g_icmp_ne (t := 50) dX7_isHis_21 (by decide) rfl (fun h21 => ?_) (fun h21 => ?_)
      · rw [if_neg h21] at hZ
        exact lp_his50 sk hB hW hn hc hr ht (by rw [if_neg h21]; exact hZ)
      · rw [if_pos h21] at hZ
        refine g_aload_n dX7_isHis_24 rfl rfl ?_
        refine g_iload_n dX7_isHis_25 rfl rfl ?_
        refine g_aload_n dX7_isHis_26 rfl rfl ?_
        refine g_get f_X7_13 dX7_isHis_27 rfl 0 rfl rfl ?_
        refine g_iconst (v := nI 1) dX7_isHis_30 rfl (by decide) ?_
        refine g_ialdN (v := nI _) dX7_isHis_31 rfl 1 rfl (by omega) (by decide) (rfl) ?_
        refine g_iload_n dX7_isHis_32 rfl rfl ?_
        refine g_iload dX7_isHis_33 rfl rfl ?_
        refine g_callS (c_X7_figure sk (row := row) (b := T 1) (n := n) (i := k) ⟨by omega, hC6⟩ (by omega) (by omega) hr) m_X7_206 a_X7_figure dX7_isHis_35 rfl [] rfl rfl rfl rfl (by decide) (by decide) (by decide) (by decide) (Nat.le_of_ble_eq_true rfl) (fun r w hK => ?_)
        obtain ⟨rfl, rfl⟩ := hK
        refine ⟨rfl, ?_⟩
        dsimp only [puts, List.set, Option.toList, List.cons_append, List.nil_append, List.append_nil]
        refine g_iconst (v := nI 0) dX7_isHis_38 rfl (by decide) ?_
        refine g_callV (c_goes sk (sand := false) hB hW hfl ht) m_X7_176 a_X7_goes dX7_isHis_39 rfl [0, 1, 3] rfl rfl 0 rfl rfl rfl (by decide) (by decide) (by decide) (by decide) (Nat.le_of_ble_eq_true rfl) (fun r w hK => ?_)
        obtain ⟨rfl, rfl⟩ := hK
        refine ⟨rfl, ?_⟩
        dsimp only [puts, List.set, Option.toList, List.cons_append, List.nil_append, List.append_nil]
        refine g_istore dX7_isHis_42 rfl (by decide) rfl rfl ?_
        refine g_iinc dX7_isHis_44 rfl rfl (nI_1 _) (by decide) rfl rfl ?_
        refine g_goto (q := 7) dX7_isHis_47 (by decide) ?_
        exact ih (k + 1) _ _ _ (by omega) (go1_SB ht) hZ
set_option maxRecDepth 20000 in
theorem c_X7_isHis (sk : Nat → Nat) {h mt mo md ms mn mi mz mk mw mf mr mb mu : Nat} {ty li se fAt at_ so sta sz fl ru : Int32} {iha isn : Bool} {T : Nat → Nat} {w a r : Nat → Nat} {n row c : Nat} {s : PSt} {fn : Nat → Int32} (hB : PB (T 0) (T 1) (T 4) (T 5) w a r) (hW : TWR T w a r) (hn : n ≤ 5) (hc : c < T 1) (hr : row < 2 ^ 31) (hs0 : SB s.1) : Ct sk yX7_isHis cX7_isHis 6 (some .boolean) 2 0 0 [oMod h mt ty mo md ms mn mi mz mk mw mf li se fAt at_ so sta sz fl iha isn ru mr mb mu, cI mo 56 (fI T), cI ms 32 (fS s), cI mn 32 fn] [.ref h, .int (nI row), .int (nI n), .int (nI c)] ((fun q w1 => q = some (.int (zb (hisR (T 0) (T 1) (T 4) (T 5) w a r n row c n 0 s))) ∧ ∃ (ru2 : Int32) (fn2 : Nat → Int32), w1 = [oMod h mt ty mo md ms mn mi mz mk mw mf li se fAt at_ so sta sz fl iha isn ru2 mr mb mu, cI mo 56 (fI T), cI ms 32 (fS s), cI mn 32 fn2])) := by
  refine Ct.of (own := RX7) (l := [some (.ref h), some (.int (nI row)), some (.int (nI n)), some (.int (nI c)), none, none]) (by decide) rfl (Nat.le_of_ble_eq_true rfl) rfl ?_
  refine g_aload_n dX7_isHis_0 rfl rfl ?_
  refine g_callV (c_X7_lays sk) m_X7_172 a_X7_lays dX7_isHis_1 rfl [0, 2, 3] rfl rfl 0 rfl rfl rfl (by decide) (by decide) (by decide) (by decide) (Nat.le_of_ble_eq_true rfl) (fun r w hK => ?_)
  obtain ⟨rfl, rfl⟩ := hK
  refine ⟨rfl, ?_⟩
  dsimp only [puts, List.set, Option.toList, List.cons_append, List.nil_append, List.append_nil]
  refine g_iconst (v := nI 0) dX7_isHis_4 rfl (by decide) ?_
  refine g_istore dX7_isHis_5 rfl (by decide) rfl rfl ?_
  exact lp_his sk hB hW hn hc hr n 0 s _ _ (by omega) hs0 rfl
set_option maxRecDepth 20000 in
theorem lp_f140 (sk : Nat → Nat) {h mt mo md ms mn mi mz mk mw mf mr mb mu : Nat} {ty li se fAt at_ so sta sz fl : Int32} {iha isn : Bool} {T : Nat → Nat} {w a r : Nat → Nat} {c : Nat} {s : PSt} {x Z : Int32} {n : Nat} {R2 : Option Nat} (hB : PB (T 0) (T 1) (T 4) (T 5) w a r) (hW : TWR T w a r) (hc : c < T 1) (hs0 : SB s.1) (hx : x = -1 ∨ ∃ j, j < 2 ^ 31 ∧ x = nI j) (hn : n ≤ 5) (hK2 : R2 = none → ∀ (ru : Int32) (fn : Nat → Int32) (l4 : Option Value), GG sk RX7 yX7_forOne cX7_forOne 5 (some .int) 3 0 0 (fun q w1 => q = some (.int (Z)) ∧ ∃ (ru2 : Int32) (fn2 : Nat → Int32), w1 = [oMod h mt ty mo md ms mn mi mz mk mw mf li se fAt at_ so sta sz fl iha isn ru2 mr mb mu, cI mo 56 (fI T), cI ms 32 (fS s), cI mn 32 fn2]) 0 0 115 [some (.ref h), some (.int (nI c)), some (.int x), some (.int (nI n)), l4] [] [oMod h mt ty mo md ms mn mi mz mk mw mf li se fAt at_ so sta sz fl iha isn ru mr mb mu, cI mo 56 (fI T), cI ms 32 (fS s), cI mn 32 fn]) (hZ : ∀ row, R2 = some row → f1A (T 1) c (some (n, row)) x = Z) : ∀ (m row : Nat) (ru : Int32) (fn : Nat → Int32), row + m = T 1 ^ n → frwR (T 0) (T 1) (T 4) (T 5) w a r s n c m row = R2 → GG sk RX7 yX7_forOne cX7_forOne 5 (some .int) 3 0 0 (fun q w1 => q = some (.int (Z)) ∧ ∃ (ru2 : Int32) (fn2 : Nat → Int32), w1 = [oMod h mt ty mo md ms mn mi mz mk mw mf li se fAt at_ so sta sz fl iha isn ru2 mr mb mu, cI mo 56 (fI T), cI ms 32 (fS s), cI mn 32 fn2]) 0 0 40 [some (.ref h), some (.int (nI c)), some (.int x), some (.int (nI n)), some (.int (nI row))] [] [oMod h mt ty mo md ms mn mi mz mk mw mf li se fAt at_ so sta sz fl iha isn ru mr mb mu, cI mo 56 (fI T), cI ms 32 (fS s), cI mn 32 fn] := by
  have hC6 := hB.2.1
  have hpw := pw_le hC6 hn
  intro m
  induction m with
  | zero =>
    intro row ru fn hm hR
    rw [frwR] at hR
    refine g_iload dX7_forOne_40 rfl rfl ?_
    refine g_aload_n dX7_forOne_42 rfl rfl ?_
    refine g_get f_X7_13 dX7_forOne_43 rfl 0 rfl rfl ?_
    refine g_iconst (v := nI 1) dX7_forOne_46 rfl (by decide) ?_
    refine g_ialdN (v := nI _) dX7_forOne_47 rfl 1 rfl (by omega) (by decide) (rfl) ?_
    refine g_iload_n dX7_forOne_48 rfl rfl ?_
    refine g_callS (c_X7_power sk (b := T 1) (n := n) (by omega)) m_X7_193 a_X7_power dX7_forOne_49 rfl [] rfl rfl rfl rfl (by decide) (by decide) (by decide) (by decide) (Nat.le_of_ble_eq_true rfl) (fun r w hK => ?_)
    obtain ⟨rfl, rfl⟩ := hK
    refine ⟨rfl, ?_⟩
    dsimp only [puts, List.set, Option.toList, List.cons_append, List.nil_append, List.append_nil]
    refine g_icmp_geN (t := 115) dX7_forOne_52 (by decide) rfl (by omega) (by omega) (fun h52 => ?_) (fun h52 => ?_)
    · skip
      exact hK2 hR.symm _ _ _
    · exact absurd h52 (by omega)
  | succ m ih =>
    intro row ru fn hm hR
    rw [frwR] at hR
    refine g_iload dX7_forOne_40 rfl rfl ?_
    refine g_aload_n dX7_forOne_42 rfl rfl ?_
    refine g_get f_X7_13 dX7_forOne_43 rfl 0 rfl rfl ?_
    refine g_iconst (v := nI 1) dX7_forOne_46 rfl (by decide) ?_
    refine g_ialdN (v := nI _) dX7_forOne_47 rfl 1 rfl (by omega) (by decide) (rfl) ?_
    refine g_iload_n dX7_forOne_48 rfl rfl ?_
    refine g_callS (c_X7_power sk (b := T 1) (n := n) (by omega)) m_X7_193 a_X7_power dX7_forOne_49 rfl [] rfl rfl rfl rfl (by decide) (by decide) (by decide) (by decide) (Nat.le_of_ble_eq_true rfl) (fun r w hK => ?_)
    obtain ⟨rfl, rfl⟩ := hK
    refine ⟨rfl, ?_⟩
    dsimp only [puts, List.set, Option.toList, List.cons_append, List.nil_append, List.append_nil]
    refine g_icmp_geN (t := 115) dX7_forOne_52 (by decide) rfl (by omega) (by omega) (fun h52 => ?_) (fun h52 => ?_)
    · exact absurd h52 (by omega)
    · skip
      refine g_aload_n dX7_forOne_55 rfl rfl ?_
      refine g_iload dX7_forOne_56 rfl rfl ?_
      refine g_iload_n dX7_forOne_58 rfl rfl ?_
      refine g_iload_n dX7_forOne_59 rfl rfl ?_
      refine g_callV (c_X7_isHis sk hB hW hn hc (show row < 2 ^ 31 by omega) hs0) m_X7_210 a_X7_isHis dX7_forOne_60 rfl [0, 1, 2, 3] rfl rfl 0 rfl rfl rfl (by decide) (by decide) (by decide) (by decide) (Nat.le_of_ble_eq_true rfl) (fun r w hK => ?_)
      obtain ⟨rfl, ru2, fn2, rfl⟩ := hK
      refine ⟨rfl, ?_⟩
      dsimp only [puts, List.set, Option.toList, List.cons_append, List.nil_append, List.append_nil]
      refine g_if_eqB (t := 109) dX7_forOne_63 (by decide) rfl (fun h63 => ?_) (fun h63 => ?_)
      · rw [if_neg (by rw [h63]; decide)] at hR
        refine g_iinc dX7_forOne_109 rfl rfl (nI_1 _) (by decide) rfl rfl ?_
        refine g_goto (q := 40) dX7_forOne_112 (by decide) ?_
        exact ih (row + 1) _ _ (by omega) hR
      · rw [if_pos h63] at hR
        have hz := hZ row hR.symm
        rw [f1A_some] at hz
        refine g_iload_n dX7_forOne_66 rfl rfl ?_
        refine g_iconst (v := -1) dX7_forOne_67 rfl (by decide) ?_
        refine g_icmp_ne (t := 77) dX7_forOne_68 (by decide) rfl (fun h68 => ?_) (fun h68 => ?_)
        · rw [if_neg h68] at hz
          obtain ⟨j, hj31, rfl⟩ := hx.resolve_left h68
          refine g_iload_n dX7_forOne_77 rfl rfl ?_
          refine g_iload_n dX7_forOne_78 rfl rfl ?_
          refine g_icmp_geN (t := 98) dX7_forOne_79 (by decide) rfl (hj31) (by omega) (fun h79 => ?_) (fun h79 => ?_)
          · rw [if_neg (fun q => absurd ((nI_ltI hj31 (by omega)).mp q) (by omega))] at hz
            refine g_iload_n dX7_forOne_98 rfl rfl ?_
            refine g_iload_n dX7_forOne_99 rfl rfl ?_
            refine g_icmp_neN (t := 107) dX7_forOne_100 (by decide) rfl (hj31) (by omega) (fun h100 => ?_) (fun h100 => ?_)
            · rw [if_neg (fun q => h100 (nI_inj hj31 (by omega) q))] at hz
              subst hz
              refine g_iconst (v := -1) dX7_forOne_107 rfl (by decide) ?_
              exact g_iret dX7_forOne_108 rfl (Nat.le_refl _) (Nat.le_refl _) (⟨rfl, _, _, rfl⟩)
            · rw [if_pos (congrArg nI h100)] at hz
              subst hz
              refine g_iload_n dX7_forOne_103 rfl rfl ?_
              refine g_goto (q := 108) dX7_forOne_104 (by decide) ?_
              exact g_iret dX7_forOne_108 rfl (Nat.le_refl _) (Nat.le_refl _) (⟨rfl, _, _, rfl⟩)
          · rw [if_pos ((nI_ltI hj31 (by omega)).mpr h79), nI_clamp hj31] at hz
            subst hz
            refine g_iload dX7_forOne_82 rfl rfl ?_
            refine g_aload_n dX7_forOne_84 rfl rfl ?_
            refine g_get f_X7_13 dX7_forOne_85 rfl 0 rfl rfl ?_
            refine g_iconst (v := nI 1) dX7_forOne_88 rfl (by decide) ?_
            refine g_ialdN (v := nI _) dX7_forOne_89 rfl 1 rfl (by omega) (by decide) (rfl) ?_
            refine g_iload_n dX7_forOne_90 rfl rfl ?_
            refine g_iload_n dX7_forOne_91 rfl rfl ?_
            refine g_callS (c_X7_figure sk (row := row) (b := T 1) (n := n) (i := j) ⟨by omega, hC6⟩ (by omega) h79 (by omega)) m_X7_206 a_X7_figure dX7_forOne_92 rfl [] rfl rfl rfl rfl (by decide) (by decide) (by decide) (by decide) (Nat.le_of_ble_eq_true rfl) (fun r w hK => ?_)
            obtain ⟨rfl, rfl⟩ := hK
            refine ⟨rfl, ?_⟩
            dsimp only [puts, List.set, Option.toList, List.cons_append, List.nil_append, List.append_nil]
            refine g_goto (q := 108) dX7_forOne_95 (by decide) ?_
            exact g_iret dX7_forOne_108 rfl (Nat.le_refl _) (Nat.le_refl _) (⟨rfl, _, _, rfl⟩)
        · rw [if_pos h68] at hz
          subst hz
          refine g_iload_n dX7_forOne_71 rfl rfl ?_
          refine g_iconst (v := nI 1) dX7_forOne_72 rfl (by decide) ?_
          refine g_iadd dX7_forOne_73 rfl (nI_add _ _) ?_
          refine g_goto (q := 108) dX7_forOne_74 (by decide) ?_
          exact g_iret dX7_forOne_108 rfl (Nat.le_refl _) (Nat.le_refl _) (⟨rfl, _, _, rfl⟩)
set_option maxRecDepth 20000 in
theorem lp_f131 (sk : Nat → Nat) {h mt mo md ms mn mi mz mk mw mf mr mb mu : Nat} {ty li se fAt at_ so sta sz fl : Int32} {iha isn : Bool} {T : Nat → Nat} {w a r : Nat → Nat} {c : Nat} {s : PSt} {x Z : Int32} (hB : PB (T 0) (T 1) (T 4) (T 5) w a r) (hW : TWR T w a r) (hc : c < T 1) (hs0 : SB s.1) (hx : x = -1 ∨ ∃ j, j < 2 ^ 31 ∧ x = nI j) : ∀ (m n : Nat) (ru : Int32) (fn : Nat → Int32) (l4 : Option Value), n + m = 6 → f1A (T 1) c (f1R (T 0) (T 1) (T 4) (T 5) w a r s c m n) x = Z → GG sk RX7 yX7_forOne cX7_forOne 5 (some .int) 3 0 0 (fun q w1 => q = some (.int (Z)) ∧ ∃ (ru2 : Int32) (fn2 : Nat → Int32), w1 = [oMod h mt ty mo md ms mn mi mz mk mw mf li se fAt at_ so sta sz fl iha isn ru2 mr mb mu, cI mo 56 (fI T), cI ms 32 (fS s), cI mn 32 fn2]) 0 0 31 [some (.ref h), some (.int (nI c)), some (.int x), some (.int (nI n)), l4] [] [oMod h mt ty mo md ms mn mi mz mk mw mf li se fAt at_ so sta sz fl iha isn ru mr mb mu, cI mo 56 (fI T), cI ms 32 (fS s), cI mn 32 fn] := by
  intro m
  induction m with
  | zero =>
    intro n ru fn l4 hn hZ
    rw [f1R, f1A_none] at hZ
    subst hZ
    refine g_iload_n dX7_forOne_31 rfl rfl ?_
    refine g_bipush (v := nI 6) dX7_forOne_32 rfl (by decide) ?_
    refine g_icmp_geN (t := 121) dX7_forOne_34 (by decide) rfl (by omega) (by omega) (fun h34 => ?_) (fun h34 => ?_)
    · skip
      refine g_iconst (v := -1) dX7_forOne_121 rfl (by decide) ?_
      exact g_iret dX7_forOne_122 rfl (Nat.le_refl _) (Nat.le_refl _) (⟨rfl, _, _, rfl⟩)
    · exact absurd h34 (by omega)
  | succ m ih =>
    intro n ru fn l4 hn hZ
    rw [f1R] at hZ
    refine g_iload_n dX7_forOne_31 rfl rfl ?_
    refine g_bipush (v := nI 6) dX7_forOne_32 rfl (by decide) ?_
    refine g_icmp_geN (t := 121) dX7_forOne_34 (by decide) rfl (by omega) (by omega) (fun h34 => ?_) (fun h34 => ?_)
    · exact absurd h34 (by omega)
    · skip
      refine g_iconst (v := nI 0) dX7_forOne_37 rfl (by decide) ?_
      refine g_istore dX7_forOne_38 rfl (by decide) rfl rfl ?_
      refine lp_f140 sk hB hW hc hs0 hx (n := n) (R2 := frwR (T 0) (T 1) (T 4) (T 5) w a r s n c (T 1 ^ n) 0) (by omega) (fun q ru fn l4 => ?_) (fun row q => by rw [q] at hZ; exact hZ) (T 1 ^ n) 0 _ _ (by omega) rfl
      rw [q] at hZ
      dsimp only at hZ
      refine g_iinc dX7_forOne_115 rfl rfl (nI_1 _) (by decide) rfl rfl ?_
      refine g_goto (q := 31) dX7_forOne_118 (by decide) ?_
      exact ih (n + 1) _ _ _ (by omega) hZ
set_option maxRecDepth 20000 in
theorem c_X7_forOneF (sk : Nat → Nat) {h mt mo md ms mn mi mz mk mw mf mr mb mu : Nat} {ty li se fAt at_ so sta sz fl ru : Int32} {iha isn : Bool} {T : Nat → Nat} {s : PSt} {x y : Int32} (hC6 : T 1 ≤ 6) (hx : inR x (T 1) = false) : Ct sk yX7_forOne cX7_forOne 5 (some .int) 3 0 0 [oMod h mt ty mo md ms mn mi mz mk mw mf li se fAt at_ so sta sz fl iha isn ru mr mb mu, cI mo 56 (fI T), cI ms 32 (fS s)] [.ref h, .int x, .int y] (zD (some (.int (-1000000001))) [oMod h mt ty mo md ms mn mi mz mk mw mf li se fAt at_ so sta sz fl iha isn ru mr mb mu, cI mo 56 (fI T), cI ms 32 (fS s)]) := by
  refine Ct.of (own := RX7) (l := [some (.ref h), some (.int x), some (.int y), none, none]) (by decide) rfl (Nat.le_of_ble_eq_true rfl) rfl ?_
  refine g_aload_n dX7_forOne_0 rfl rfl ?_
  refine g_iload_n dX7_forOne_1 rfl rfl ?_
  refine g_callV (c_X7_isClimber sk hC6) m_X7_169 a_X7_isClimber dX7_forOne_2 rfl [0, 1] rfl rfl 0 rfl rfl rfl (by decide) (by decide) (by decide) (by decide) (Nat.le_of_ble_eq_true rfl) (fun r w hK => ?_)
  obtain ⟨rfl, rfl⟩ := hK
  refine ⟨rfl, ?_⟩
  dsimp only [puts, List.set, Option.toList, List.cons_append, List.nil_append, List.append_nil]
  refine g_if_neB (t := 11) dX7_forOne_5 (by decide) rfl (fun h5 => ?_) (fun h5 => ?_)
  · exact absurd h5 (by rw [hx]; decide)
  · skip
    refine g_ldc dX7_forOne_8 rfl k_X7_161 ?_
    exact g_iret dX7_forOne_10 rfl (Nat.le_refl _) (Nat.le_refl _) (⟨rfl, rfl⟩)
set_option maxRecDepth 20000 in
theorem c_X7_forOneN (sk : Nat → Nat) {h mt mo md ms mn mi mz mk mw mf mr mb mu : Nat} {ty li se fAt at_ so sta sz fl ru : Int32} {iha isn : Bool} {T : Nat → Nat} {s : PSt} {c : Nat} {x : Int32} (hC6 : T 1 ≤ 6) (hc : c < T 1) (hx : ¬ s.2.2 = -1 ∨ x < -1) : Ct sk yX7_forOne cX7_forOne 5 (some .int) 3 0 0 [oMod h mt ty mo md ms mn mi mz mk mw mf li se fAt at_ so sta sz fl iha isn ru mr mb mu, cI mo 56 (fI T), cI ms 32 (fS s)] [.ref h, .int (nI c), .int x] (zD (some (.int (-1))) [oMod h mt ty mo md ms mn mi mz mk mw mf li se fAt at_ so sta sz fl iha isn ru mr mb mu, cI mo 56 (fI T), cI ms 32 (fS s)]) := by
  refine Ct.of (own := RX7) (l := [some (.ref h), some (.int (nI c)), some (.int x), none, none]) (by decide) rfl (Nat.le_of_ble_eq_true rfl) rfl ?_
  refine g_aload_n dX7_forOne_0 rfl rfl ?_
  refine g_iload_n dX7_forOne_1 rfl rfl ?_
  refine g_callV (c_X7_isClimber sk hC6) m_X7_169 a_X7_isClimber dX7_forOne_2 rfl [0, 1] rfl rfl 0 rfl rfl rfl (by decide) (by decide) (by decide) (by decide) (Nat.le_of_ble_eq_true rfl) (fun r w hK => ?_)
  obtain ⟨rfl, rfl⟩ := hK
  refine ⟨rfl, ?_⟩
  dsimp only [puts, List.set, Option.toList, List.cons_append, List.nil_append, List.append_nil]
  refine g_if_neB (t := 11) dX7_forOne_5 (by decide) rfl (fun h5 => ?_) (fun h5 => ?_)
  · skip
    refine g_aload_n dX7_forOne_11 rfl rfl ?_
    refine g_get f_X7_19 dX7_forOne_12 rfl 0 rfl rfl ?_
    refine g_bipush (v := nI 31) dX7_forOne_15 rfl (by decide) ?_
    refine g_ialdN (v := s.2.2) dX7_forOne_17 rfl 2 rfl (by omega) (by decide) (rfl) ?_
    refine g_iconst (v := -1) dX7_forOne_18 rfl (by decide) ?_
    refine g_icmp_ne (t := 27) dX7_forOne_19 (by decide) rfl (fun h19 => ?_) (fun h19 => ?_)
    · skip
      refine g_iconst (v := -1) dX7_forOne_27 rfl (by decide) ?_
      exact g_iret dX7_forOne_28 rfl (Nat.le_refl _) (Nat.le_refl _) (⟨rfl, rfl⟩)
    · skip
      refine g_iload_n dX7_forOne_22 rfl rfl ?_
      refine g_iconst (v := -1) dX7_forOne_23 rfl (by decide) ?_
      refine g_icmp_ge (t := 29) dX7_forOne_24 (by decide) rfl (fun h24 => ?_) (fun h24 => ?_)
      · exact absurd hx (fun q => q.elim (fun q => q h19) (fun q => Int32.not_le.mpr q h24))
      · skip
        refine g_iconst (v := -1) dX7_forOne_27 rfl (by decide) ?_
        exact g_iret dX7_forOne_28 rfl (Nat.le_refl _) (Nat.le_refl _) (⟨rfl, rfl⟩)
  · exact absurd h5 (by rw [inR_N hc (by omega)]; decide)
theorem f1_x {x : Int32} (hx : x = -1 ∨ ∃ j, j < 2 ^ 31 ∧ x = nI j) : -1 ≤ x := by
  rcases hx with rfl | ⟨j, hj, rfl⟩
  · decide
  · rw [Int32.le_iff_toInt_le, nI_toInt hj, show (-1 : Int32).toInt = -1 from rfl]
    omega
set_option maxRecDepth 20000 in
theorem c_X7_forOne (sk : Nat → Nat) {h mt mo md ms mn mi mz mk mw mf mr mb mu : Nat} {ty li se fAt at_ so sta sz fl ru : Int32} {iha isn : Bool} {T : Nat → Nat} {w a r : Nat → Nat} {c : Nat} {s : PSt} {x : Int32} {fn : Nat → Int32} (hB : PB (T 0) (T 1) (T 4) (T 5) w a r) (hW : TWR T w a r) (hc : c < T 1) (hs0 : SB s.1) (hx : x = -1 ∨ ∃ j, j < 2 ^ 31 ∧ x = nI j) (hh : s.2.2 = -1) : Ct sk yX7_forOne cX7_forOne 5 (some .int) 3 0 0 [oMod h mt ty mo md ms mn mi mz mk mw mf li se fAt at_ so sta sz fl iha isn ru mr mb mu, cI mo 56 (fI T), cI ms 32 (fS s), cI mn 32 fn] [.ref h, .int (nI c), .int x] ((fun q w1 => q = some (.int (f1A (T 1) c (f1R (T 0) (T 1) (T 4) (T 5) w a r s c 6 0) x)) ∧ ∃ (ru2 : Int32) (fn2 : Nat → Int32), w1 = [oMod h mt ty mo md ms mn mi mz mk mw mf li se fAt at_ so sta sz fl iha isn ru2 mr mb mu, cI mo 56 (fI T), cI ms 32 (fS s), cI mn 32 fn2])) := by
  have hC6 := hB.2.1
  refine Ct.of (own := RX7) (l := [some (.ref h), some (.int (nI c)), some (.int x), none, none]) (by decide) rfl (Nat.le_of_ble_eq_true rfl) rfl ?_
  refine g_aload_n dX7_forOne_0 rfl rfl ?_
  refine g_iload_n dX7_forOne_1 rfl rfl ?_
  refine g_callV (c_X7_isClimber sk hC6) m_X7_169 a_X7_isClimber dX7_forOne_2 rfl [0, 1] rfl rfl 0 rfl rfl rfl (by decide) (by decide) (by decide) (by decide) (Nat.le_of_ble_eq_true rfl) (fun r w hK => ?_)
  obtain ⟨rfl, rfl⟩ := hK
  refine ⟨rfl, ?_⟩
  dsimp only [puts, List.set, Option.toList, List.cons_append, List.nil_append, List.append_nil]
  refine g_if_neB (t := 11) dX7_forOne_5 (by decide) rfl (fun h5 => ?_) (fun h5 => ?_)
  · skip
    refine g_aload_n dX7_forOne_11 rfl rfl ?_
    refine g_get f_X7_19 dX7_forOne_12 rfl 0 rfl rfl ?_
    refine g_bipush (v := nI 31) dX7_forOne_15 rfl (by decide) ?_
    refine g_ialdN (v := s.2.2) dX7_forOne_17 rfl 2 rfl (by omega) (by decide) (rfl) ?_
    refine g_iconst (v := -1) dX7_forOne_18 rfl (by decide) ?_
    refine g_icmp_ne (t := 27) dX7_forOne_19 (by decide) rfl (fun h19 => ?_) (fun h19 => ?_)
    · exact absurd hh h19
    · skip
      refine g_iload_n dX7_forOne_22 rfl rfl ?_
      refine g_iconst (v := -1) dX7_forOne_23 rfl (by decide) ?_
      refine g_icmp_ge (t := 29) dX7_forOne_24 (by decide) rfl (fun h24 => ?_) (fun h24 => ?_)
      · skip
        refine g_iconst (v := nI 0) dX7_forOne_29 rfl (by decide) ?_
        refine g_istore_n dX7_forOne_30 rfl (by decide) rfl rfl ?_
        exact lp_f131 sk hB hW hc hs0 hx 6 0 _ _ _ (by omega) rfl
      · exact absurd (f1_x hx) h24
  · exact absurd h5 (by rw [inR_N hc (by omega)]; decide)
