/-! the reference: who and which foot; sums; beginning-/
theorem inI_pred {x : Int32} {n : Nat} (hn : n < 2 ^ 30) : inI x (nI 0) (nI n - nI 1) = inR x n := by
  unfold inI inR
  have h1 : (¬ (nI n - nI 1 < x)) ↔ x < nI n := by
    rw [Int32.lt_iff_toInt_lt, Int32.lt_iff_toInt_lt, pk_sub_toInt hn (by decide), nI_toInt (by omega)]
    omega
  rw [decide_eq_decide.mpr h1]
  rfl
set_option maxRecDepth 20000 in
theorem c_X7_isFoot (sk : Nat → Nat) {h mt mo md ms mn mi mz mk mw mf mr mb mu : Nat} {ty li se fAt at_ so sta sz fl ru : Int32} {iha isn : Bool}{x : Int32} {T : Nat → Nat} (hT : T 0 ≤ 30) : Ct sk yX7_isFoot cX7_isFoot 2 (some .boolean) 1 0 0 [oMod h mt ty mo md ms mn mi mz mk mw mf li se fAt at_ so sta sz fl iha isn ru mr mb mu, cI mo 56 (fI T)] [.ref h, .int x] (zD (some (.int (zb (inR x (T 0))))) [oMod h mt ty mo md ms mn mi mz mk mw mf li se fAt at_ so sta sz fl iha isn ru mr mb mu, cI mo 56 (fI T)]) := by
  refine Ct.of (own := RX7) (l := [some (.ref h), some (.int x)]) (by decide) rfl (Nat.le_of_ble_eq_true rfl) rfl ?_
  refine g_iload_n dX7_isFoot_0 rfl rfl ?_
  refine g_iconst (v := nI 0) dX7_isFoot_1 rfl (by decide) ?_
  refine g_aload_n dX7_isFoot_2 rfl rfl ?_
  refine g_get f_X7_13 dX7_isFoot_3 rfl 0 rfl rfl ?_
  refine g_iconst (v := nI 0) dX7_isFoot_6 rfl (by decide) ?_
  refine g_ialdN (v := nI _) dX7_isFoot_7 rfl 1 rfl (by omega) (by decide) (rfl) ?_
  refine g_iconst (v := nI 1) dX7_isFoot_8 rfl (by decide) ?_
  refine g_isub dX7_isFoot_9 rfl rfl ?_
  refine g_callS (c_X7_in sk) m_X7_61 a_X7_in dX7_isFoot_10 rfl [] rfl rfl rfl rfl (by decide) (by decide) (by decide) (by decide) (Nat.le_of_ble_eq_true rfl) (fun r w hK => ?_)
  obtain ⟨rfl, rfl⟩ := hK
  refine ⟨rfl, ?_⟩
  rw [inI_pred (by omega)]
  dsimp only [puts, List.set, Option.toList, List.cons_append, List.nil_append, List.append_nil]
  exact g_zret dX7_isFoot_13 rfl (Nat.le_refl _) (Nat.le_refl _) (⟨rfl, rfl⟩)
set_option maxRecDepth 20000 in
theorem c_X7_isClimber (sk : Nat → Nat) {h mt mo md ms mn mi mz mk mw mf mr mb mu : Nat} {ty li se fAt at_ so sta sz fl ru : Int32} {iha isn : Bool}{x : Int32} {T : Nat → Nat} (hT : T 1 ≤ 6) : Ct sk yX7_isClimber cX7_isClimber 2 (some .boolean) 1 0 0 [oMod h mt ty mo md ms mn mi mz mk mw mf li se fAt at_ so sta sz fl iha isn ru mr mb mu, cI mo 56 (fI T)] [.ref h, .int x] (zD (some (.int (zb (inR x (T 1))))) [oMod h mt ty mo md ms mn mi mz mk mw mf li se fAt at_ so sta sz fl iha isn ru mr mb mu, cI mo 56 (fI T)]) := by
  refine Ct.of (own := RX7) (l := [some (.ref h), some (.int x)]) (by decide) rfl (Nat.le_of_ble_eq_true rfl) rfl ?_
  refine g_iload_n dX7_isClimber_0 rfl rfl ?_
  refine g_iconst (v := nI 0) dX7_isClimber_1 rfl (by decide) ?_
  refine g_aload_n dX7_isClimber_2 rfl rfl ?_
  refine g_get f_X7_13 dX7_isClimber_3 rfl 0 rfl rfl ?_
  refine g_iconst (v := nI 1) dX7_isClimber_6 rfl (by decide) ?_
  refine g_ialdN (v := nI _) dX7_isClimber_7 rfl 1 rfl (by omega) (by decide) (rfl) ?_
  refine g_iconst (v := nI 1) dX7_isClimber_8 rfl (by decide) ?_
  refine g_isub dX7_isClimber_9 rfl rfl ?_
  refine g_callS (c_X7_in sk) m_X7_61 a_X7_in dX7_isClimber_10 rfl [] rfl rfl rfl rfl (by decide) (by decide) (by decide) (by decide) (Nat.le_of_ble_eq_true rfl) (fun r w hK => ?_)
  obtain ⟨rfl, rfl⟩ := hK
  refine ⟨rfl, ?_⟩
  rw [inI_pred (by omega)]
  dsimp only [puts, List.set, Option.toList, List.cons_append, List.nil_append, List.append_nil]
  exact g_zret dX7_isClimber_13 rfl (Nat.le_refl _) (Nat.le_refl _) (⟨rfl, rfl⟩)
set_option maxRecDepth 20000 in
theorem c_X7_slip (sk : Nat → Nat) {h mt mo md ms mn mi mz mk mw mf mr mb mu : Nat} {ty li se fAt at_ so sta sz fl ru : Int32} {iha isn : Bool}{x : Int32} {T : Nat → Nat} {s : PSt} (hT : T 0 ≤ 30) : Ct sk yX7_slip cX7_slip 2 (some .int) 2 0 0 [oMod h mt ty mo md ms mn mi mz mk mw mf li se fAt at_ so sta sz fl iha isn ru mr mb mu, cI mo 56 (fI T), cI ms 32 (fS s)] [.ref h, .int x] (zD (some (.int (slipA (T 0) s x))) [oMod h mt ty mo md ms mn mi mz mk mw mf li se fAt at_ so sta sz fl iha isn ru mr mb mu, cI mo 56 (fI T), cI ms 32 (fS s)]) := by
  refine Ct.of (own := RX7) (l := [some (.ref h), some (.int x)]) (by decide) rfl (Nat.le_of_ble_eq_true rfl) rfl ?_
  refine g_aload_n dX7_slip_0 rfl rfl ?_
  refine g_iload_n dX7_slip_1 rfl rfl ?_
  refine g_callV (c_X7_isFoot sk hT) m_X7_158 a_X7_isFoot dX7_slip_2 rfl [0, 1] rfl rfl 0 rfl rfl rfl (by decide) (by decide) (by decide) (by decide) (Nat.le_of_ble_eq_true rfl) (fun r w hK => ?_)
  obtain ⟨rfl, rfl⟩ := hK
  refine ⟨rfl, ?_⟩
  dsimp only [puts, List.set, Option.toList, List.cons_append, List.nil_append, List.append_nil]
  refine g_if_eqB (t := 17) dX7_slip_5 (by decide) rfl (fun h5 => ?_) (fun h5 => ?_)
  · rw [slipA, if_neg (by rw [h5]; decide)]
    refine g_ldc dX7_slip_17 rfl k_X7_161 ?_
    exact g_iret dX7_slip_19 rfl (Nat.le_refl _) (Nat.le_refl _) (⟨rfl, rfl⟩)
  · obtain ⟨c, hc, rfl⟩ := inR_t (by omega) h5
    rw [slipA, if_pos h5, nI_clamp (by omega)]
    refine g_aload_n dX7_slip_8 rfl rfl ?_
    refine g_get f_X7_19 dX7_slip_9 rfl 0 rfl rfl ?_
    refine g_iload_n dX7_slip_12 rfl rfl ?_
    refine g_ialdN (v := nI (s.1 c)) dX7_slip_13 rfl 2 rfl (by omega) (by decide) (fS_lt s (show c < 30 by omega)) ?_
    refine g_goto (q := 19) dX7_slip_14 (by decide) ?_
    exact g_iret dX7_slip_19 rfl (Nat.le_refl _) (Nat.le_refl _) (⟨rfl, rfl⟩)
theorem fS_up (s : PSt) {i : Nat} (v : Nat) (h : i < 30) : upd (fS s) i (nI v) = fS (nup s.1 i v, s.2) := by
  funext j
  unfold upd fS nup
  dsimp only
  by_cases e : j = i
  · subst e; rw [if_pos rfl, if_pos h, if_pos rfl]
  · rw [if_neg e]
    by_cases e2 : j < 30
    · rw [if_pos e2, if_pos e2, if_neg e]
    · rw [if_neg e2, if_neg e2]
/-- the reference's climb: n feet left, from foot i on -/
def clM (w R : Nat) (sand : Bool) : Nat → Nat → Nat → (Nat → Nat) → Nat → Nat × (Nat → Nat) × Nat
  | 0, i, _, sl, ru => (i, sl, ru)
  | n + 1, i, left, sl, ru => if left < tk sand (sl i) w then (i, sl, ru) else clM w R sand n (i + 1) (left - tk sand (sl i) w) (nup sl i (sl i - min (sl i) R)) (ru + min (sl i) R)
theorem tk_lt (sand : Bool) {s w : Nat} (hs : s ≤ 99) (hw : w ≤ 99) : tk sand s w ≤ 1000 := by
  have h1 : s * w ≤ 99 * 99 := Nat.mul_le_mul hs hw
  cases sand with
  | false => show s * w / 50 + 1 ≤ _; omega
  | true => show max 1 ((s * w / 50 + 1) / 2) ≤ _; omega
theorem nup_SB {sl : Nat → Nat} (h : SB sl) {i v : Nat} (hv : v ≤ 99) : SB (nup sl i v) := fun j hj => by
  unfold nup
  split
  · exact hv
  · exact h j hj
set_option maxRecDepth 20000 in
theorem lp_climbs (sk : Nat → Nat) {h mt mo md ms mn mi mz mk mw mf mr mb mu : Nat} {ty li se fAt at_ so sta sz fl ru : Int32} {iha isn : Bool} {T : Nat → Nat} {g ho : Int32} {c : Nat} {sand : Bool} {Z : Nat × (Nat → Nat) × Nat} (hF : T 0 ≤ 30) (hc : c < 6) (hw : T (6 + c) ≤ 99) (ha : T (12 + c) ≤ 999) (hr : T (18 + c) ≤ 20) : ∀ (n i left : Nat) (sl : Nat → Nat) (ru : Nat) (l2 l6 l7 : Option Value), i + n = T 0 → SB sl → left ≤ 999 → ru ≤ 20 * i → clM (T (6 + c)) (T (18 + c)) sand n i left sl ru = Z → GG sk RX7 yX7_climbs cX7_climbs 8 (some .int) 0 0 0 (zD (some (.int (nI Z.1))) [oMod h mt ty mo md ms mn mi mz mk mw mf li se fAt at_ so sta sz fl iha isn (nI Z.2.2) mr mb mu, cI mo 56 (fI T), cI mn 32 (fS (Z.2.1, g, ho))]) 0 0 19 [some (.ref h), some (.int (nI c)), l2, some (.int (zb sand)), some (.int (nI left)), some (.int (nI i)), l6, l7] [] [oMod h mt ty mo md ms mn mi mz mk mw mf li se fAt at_ so sta sz fl iha isn (nI ru) mr mb mu, cI mo 56 (fI T), cI mn 32 (fS (sl, g, ho))] := by
  intro n
  induction n with
  | zero =>
    intro i left sl ru l2 l6 l7 hi hs0 hl hru hZ
    rw [clM] at hZ
    subst hZ
    refine g_iload dX7_climbs_19 rfl rfl ?_
    refine g_aload_n dX7_climbs_21 rfl rfl ?_
    refine g_get f_X7_13 dX7_climbs_22 rfl 0 rfl rfl ?_
    refine g_iconst (v := nI 0) dX7_climbs_25 rfl (by decide) ?_
    refine g_ialdN (v := nI _) dX7_climbs_26 rfl 1 rfl (by omega) (by decide) (rfl) ?_
    refine g_icmp_geN (t := 165) dX7_climbs_27 (by decide) rfl (by omega) (by omega) (fun h27 => ?_) (fun h27 => ?_)
    · skip
      refine g_aload_n dX7_climbs_165 rfl rfl ?_
      refine g_get f_X7_13 dX7_climbs_166 rfl 0 rfl rfl ?_
      refine g_iconst (v := nI 0) dX7_climbs_169 rfl (by decide) ?_
      refine g_ialdN (v := nI _) dX7_climbs_170 rfl 1 rfl (by omega) (by decide) (rfl) ?_
      exact g_iret dX7_climbs_171 rfl (Nat.le_refl _) (Nat.le_refl _) (⟨by rw [show T 0 = i by omega], rfl⟩)
    · exact absurd h27 (by omega)
  | succ n ih =>
    intro i left sl ru l2 l6 l7 hi hs0 hl hru hZ
    rw [clM] at hZ
    have hsi := hs0 i (by omega)
    have htk := tk_lt sand hsi hw
    have hm : sl i * T (6 + c) ≤ 99 * 99 := Nat.mul_le_mul hsi hw
    have key : ∀ (v : Nat) (l6 l7 : Option Value), v = tk sand (sl i) (T (6 + c)) → GG sk RX7 yX7_climbs cX7_climbs 8 (some .int) 0 0 0 (zD (some (.int (nI Z.1))) [oMod h mt ty mo md ms mn mi mz mk mw mf li se fAt at_ so sta sz fl iha isn (nI Z.2.2) mr mb mu, cI mo 56 (fI T), cI mn 32 (fS (Z.2.1, g, ho))]) 0 0 77 [some (.ref h), some (.int (nI c)), l2, some (.int (zb sand)), some (.int (nI left)), some (.int (nI i)), l6, l7] [.int (nI v)] [oMod h mt ty mo md ms mn mi mz mk mw mf li se fAt at_ so sta sz fl iha isn (nI ru) mr mb mu, cI mo 56 (fI T), cI mn 32 (fS (sl, g, ho))] := by
      intro v l6 l7 hv
      rw [← hv] at hZ htk
      refine g_istore dX7_climbs_77 rfl (by decide) rfl rfl ?_
      refine g_iload dX7_climbs_79 rfl rfl ?_
      refine g_iload dX7_climbs_81 rfl rfl ?_
      refine g_icmp_leN (t := 89) dX7_climbs_83 (by decide) rfl (by omega) (by omega) (fun h83 => ?_) (fun h83 => ?_)
      · rw [if_neg (by omega)] at hZ
        refine g_iload dX7_climbs_89 rfl rfl ?_
        refine g_iload dX7_climbs_91 rfl rfl ?_
        refine g_isub dX7_climbs_93 rfl (pk_sub (by omega)) ?_
        refine g_istore dX7_climbs_94 rfl (by decide) rfl rfl ?_
        refine g_aload_n dX7_climbs_96 rfl rfl ?_
        refine g_get f_X7_22 dX7_climbs_97 rfl 0 rfl rfl ?_
        refine g_iload dX7_climbs_100 rfl rfl ?_
        refine g_ialdN (v := nI (sl i)) dX7_climbs_102 rfl 2 rfl (by omega) (by decide) (fS_lt (sl, g, ho) (by omega)) ?_
        refine g_aload_n dX7_climbs_103 rfl rfl ?_
        refine g_get f_X7_13 dX7_climbs_104 rfl 0 rfl rfl ?_
        refine g_bipush (v := nI 18) dX7_climbs_107 rfl (by decide) ?_
        refine g_iload_n dX7_climbs_109 rfl rfl ?_
        refine g_iadd dX7_climbs_110 rfl (nI_add _ _) ?_
        refine g_ialdN (v := nI _) dX7_climbs_111 rfl 1 rfl (by omega) (by decide) (rfl) ?_
        refine g_icmp_geN (t := 125) dX7_climbs_112 (by decide) rfl (by omega) (by omega) (fun h112 => ?_) (fun h112 => ?_)
        · rw [Nat.min_eq_right h112] at hZ
          refine g_aload_n dX7_climbs_125 rfl rfl ?_
          refine g_get f_X7_13 dX7_climbs_126 rfl 0 rfl rfl ?_
          refine g_bipush (v := nI 18) dX7_climbs_129 rfl (by decide) ?_
          refine g_iload_n dX7_climbs_131 rfl rfl ?_
          refine g_iadd dX7_climbs_132 rfl (nI_add _ _) ?_
          refine g_ialdN (v := nI _) dX7_climbs_133 rfl 1 rfl (by omega) (by decide) (rfl) ?_
          refine g_istore dX7_climbs_134 rfl (by decide) rfl rfl ?_
          refine g_aload_n dX7_climbs_136 rfl rfl ?_
          refine g_get f_X7_22 dX7_climbs_137 rfl 0 rfl rfl ?_
          refine g_iload dX7_climbs_140 rfl rfl ?_
          refine g_dup2 dX7_climbs_142 rfl rfl rfl ?_
          refine g_ialdN (v := nI (sl i)) dX7_climbs_143 rfl 2 rfl (by omega) (by decide) (fS_lt (sl, g, ho) (by omega)) ?_
          refine g_iload dX7_climbs_144 rfl rfl ?_
          refine g_isub dX7_climbs_146 rfl (pk_sub (by omega)) ?_
          refine g_iastN dX7_climbs_147 rfl 2 rfl (by omega) (by decide) (fS_up (sl, g, ho) _ (by omega)) rfl ?_
          refine g_aload_n dX7_climbs_148 rfl rfl ?_
          refine g_dup dX7_climbs_149 rfl rfl ?_
          refine g_get f_X7_162 dX7_climbs_150 rfl 0 rfl rfl ?_
          refine g_iload dX7_climbs_153 rfl rfl ?_
          refine g_iadd dX7_climbs_155 rfl (nI_add _ _) ?_
          refine g_putI f_X7_162 dX7_climbs_156 rfl 0 rfl (Nat.le_of_ble_eq_true rfl) rfl ?_
          dsimp only [List.set]
          refine g_iinc dX7_climbs_159 rfl rfl (nI_1 _) (by decide) rfl rfl ?_
          refine g_goto (q := 19) dX7_climbs_162 (by decide) ?_
          exact ih (i + 1) _ _ _ _ _ _ (by omega) (nup_SB hs0 (by omega)) (by omega) (by omega) hZ
        · rw [Nat.min_eq_left (by omega)] at hZ
          refine g_aload_n dX7_climbs_115 rfl rfl ?_
          refine g_get f_X7_22 dX7_climbs_116 rfl 0 rfl rfl ?_
          refine g_iload dX7_climbs_119 rfl rfl ?_
          refine g_ialdN (v := nI (sl i)) dX7_climbs_121 rfl 2 rfl (by omega) (by decide) (fS_lt (sl, g, ho) (by omega)) ?_
          refine g_goto (q := 134) dX7_climbs_122 (by decide) ?_
          refine g_istore dX7_climbs_134 rfl (by decide) rfl rfl ?_
          refine g_aload_n dX7_climbs_136 rfl rfl ?_
          refine g_get f_X7_22 dX7_climbs_137 rfl 0 rfl rfl ?_
          refine g_iload dX7_climbs_140 rfl rfl ?_
          refine g_dup2 dX7_climbs_142 rfl rfl rfl ?_
          refine g_ialdN (v := nI (sl i)) dX7_climbs_143 rfl 2 rfl (by omega) (by decide) (fS_lt (sl, g, ho) (by omega)) ?_
          refine g_iload dX7_climbs_144 rfl rfl ?_
          refine g_isub dX7_climbs_146 rfl (pk_sub (by omega)) ?_
          refine g_iastN dX7_climbs_147 rfl 2 rfl (by omega) (by decide) (fS_up (sl, g, ho) _ (by omega)) rfl ?_
          refine g_aload_n dX7_climbs_148 rfl rfl ?_
          refine g_dup dX7_climbs_149 rfl rfl ?_
          refine g_get f_X7_162 dX7_climbs_150 rfl 0 rfl rfl ?_
          refine g_iload dX7_climbs_153 rfl rfl ?_
          refine g_iadd dX7_climbs_155 rfl (nI_add _ _) ?_
          refine g_putI f_X7_162 dX7_climbs_156 rfl 0 rfl (Nat.le_of_ble_eq_true rfl) rfl ?_
          dsimp only [List.set]
          refine g_iinc dX7_climbs_159 rfl rfl (nI_1 _) (by decide) rfl rfl ?_
          refine g_goto (q := 19) dX7_climbs_162 (by decide) ?_
          exact ih (i + 1) _ _ _ _ _ _ (by omega) (nup_SB hs0 (by omega)) (by omega) (by omega) hZ
      · rw [if_pos (by omega)] at hZ
        subst hZ
        refine g_iload dX7_climbs_86 rfl rfl ?_
        exact g_iret dX7_climbs_88 rfl (Nat.le_refl _) (Nat.le_refl _) (⟨rfl, rfl⟩)
    refine g_iload dX7_climbs_19 rfl rfl ?_
    refine g_aload_n dX7_climbs_21 rfl rfl ?_
    refine g_get f_X7_13 dX7_climbs_22 rfl 0 rfl rfl ?_
    refine g_iconst (v := nI 0) dX7_climbs_25 rfl (by decide) ?_
    refine g_ialdN (v := nI _) dX7_climbs_26 rfl 1 rfl (by omega) (by decide) (rfl) ?_
    refine g_icmp_geN (t := 165) dX7_climbs_27 (by decide) rfl (by omega) (by omega) (fun h27 => ?_) (fun h27 => ?_)
    · exact absurd h27 (by omega)
    · skip
      refine g_aload_n dX7_climbs_30 rfl rfl ?_
      refine g_get f_X7_22 dX7_climbs_31 rfl 0 rfl rfl ?_
      refine g_iload dX7_climbs_34 rfl rfl ?_
      refine g_ialdN (v := nI (sl i)) dX7_climbs_36 rfl 2 rfl (by omega) (by decide) (fS_lt (sl, g, ho) (by omega)) ?_
      refine g_aload_n dX7_climbs_37 rfl rfl ?_
      refine g_get f_X7_13 dX7_climbs_38 rfl 0 rfl rfl ?_
      refine g_bipush (v := nI 6) dX7_climbs_41 rfl (by decide) ?_
      refine g_iload_n dX7_climbs_43 rfl rfl ?_
      refine g_iadd dX7_climbs_44 rfl (nI_add _ _) ?_
      refine g_ialdN (v := nI _) dX7_climbs_45 rfl 1 rfl (by omega) (by decide) (rfl) ?_
      refine g_imul dX7_climbs_46 rfl (pk_mul _ _) ?_
      refine g_bipush (v := nI 50) dX7_climbs_47 rfl (by decide) ?_
      refine g_idiv dX7_climbs_49 rfl (by decide) (pk_div (by omega) (by omega) (by omega)) ?_
      refine g_iconst (v := nI 1) dX7_climbs_50 rfl (by decide) ?_
      refine g_iadd dX7_climbs_51 rfl (nI_add _ _) ?_
      refine g_istore dX7_climbs_52 rfl (by decide) rfl rfl ?_
      refine g_iload_n dX7_climbs_54 rfl rfl ?_
      refine g_if_eqB (t := 75) dX7_climbs_55 (by decide) rfl (fun h55 => ?_) (fun h55 => ?_)
      · subst h55
        refine g_iload dX7_climbs_75 rfl rfl ?_
        exact key _ _ _ (by unfold tk; first | rfl | omega | (dsimp only; omega))
      · subst h55
        refine g_iload dX7_climbs_58 rfl rfl ?_
        refine g_iconst (v := nI 4) dX7_climbs_60 rfl (by decide) ?_
        refine g_icmp_geN (t := 68) dX7_climbs_61 (by decide) rfl (by omega) (by omega) (fun h61 => ?_) (fun h61 => ?_)
        · skip
          refine g_iload dX7_climbs_68 rfl rfl ?_
          refine g_iconst (v := nI 2) dX7_climbs_70 rfl (by decide) ?_
          refine g_idiv dX7_climbs_71 rfl (by decide) (pk_div (by omega) (by omega) (by omega)) ?_
          refine g_goto (q := 77) dX7_climbs_72 (by decide) ?_
          exact key _ _ _ (by unfold tk; first | rfl | omega | (dsimp only; omega))
        · skip
          refine g_iconst (v := nI 1) dX7_climbs_64 rfl (by decide) ?_
          refine g_goto (q := 77) dX7_climbs_65 (by decide) ?_
          exact key _ _ _ (by unfold tk; first | rfl | omega | (dsimp only; omega))
set_option maxRecDepth 20000 in
theorem c_X7_climbs (sk : Nat → Nat) {h mt mo md ms mn mi mz mk mw mf mr mb mu : Nat} {ty li se fAt at_ so sta sz fl ru : Int32} {iha isn : Bool} {T sl : Nat → Nat} {g ho : Int32} {c fr : Nat} {sand : Bool} {Z : Nat × (Nat → Nat) × Nat} (hF : T 0 ≤ 30) (hc : c < 6) (hw : T (6 + c) ≤ 99) (ha : T (12 + c) ≤ 999) (hr : T (18 + c) ≤ 20) (hs0 : SB sl) (hfr : fr ≤ T 0) (hZ : clM (T (6 + c)) (T (18 + c)) sand (T 0 - fr) fr (T (12 + c)) sl 0 = Z) : Ct sk yX7_climbs cX7_climbs 8 (some .int) 0 0 0 [oMod h mt ty mo md ms mn mi mz mk mw mf li se fAt at_ so sta sz fl iha isn ru mr mb mu, cI mo 56 (fI T), cI mn 32 (fS (sl, g, ho))] [.ref h, .int (nI c), .int (nI fr), .int (zb sand)] (zD (some (.int (nI Z.1))) [oMod h mt ty mo md ms mn mi mz mk mw mf li se fAt at_ so sta sz fl iha isn (nI Z.2.2) mr mb mu, cI mo 56 (fI T), cI mn 32 (fS (Z.2.1, g, ho))]) := by
  refine Ct.of (own := RX7) (l := [some (.ref h), some (.int (nI c)), some (.int (nI fr)), some (.int (zb sand)), none, none, none, none]) (by decide) rfl (Nat.le_of_ble_eq_true rfl) rfl ?_
  refine g_aload_n dX7_climbs_0 rfl rfl ?_
  refine g_get f_X7_13 dX7_climbs_1 rfl 0 rfl rfl ?_
  refine g_bipush (v := nI 12) dX7_climbs_4 rfl (by decide) ?_
  refine g_iload_n dX7_climbs_6 rfl rfl ?_
  refine g_iadd dX7_climbs_7 rfl (nI_add _ _) ?_
  refine g_ialdN (v := nI _) dX7_climbs_8 rfl 1 rfl (by omega) (by decide) (rfl) ?_
  refine g_istore dX7_climbs_9 rfl (by decide) rfl rfl ?_
  refine g_aload_n dX7_climbs_11 rfl rfl ?_
  refine g_iconst (v := nI 0) dX7_climbs_12 rfl (by decide) ?_
  refine g_putI f_X7_162 dX7_climbs_13 rfl 0 rfl (Nat.le_of_ble_eq_true rfl) rfl ?_
  dsimp only [List.set]
  refine g_iload_n dX7_climbs_16 rfl rfl ?_
  refine g_istore dX7_climbs_17 rfl (by decide) rfl rfl ?_
  exact lp_climbs sk (ru := ru) hF hc hw ha hr (T 0 - fr) fr (T (12 + c)) sl 0 _ none none (by omega) hs0 ha (by omega) hZ
theorem clM_eq (w R : Nat) (sand : Bool) (sl : Nat → Nat) : ∀ (n i left : Nat), clM w R sand n i left (rubS i R sl) (rubT R sl i) = (farR w sand sl n i left, rubS (farR w sand sl n i left) R sl, rubT R sl (farR w sand sl n i left))
  | 0, i, left => by rw [clM, farR]
  | n + 1, i, left => by
    rw [clM, rubS_at]
    by_cases h : left < tk sand (sl i) w
    · rw [if_pos h, farR_stop h]
    · rw [if_neg h, farR_on h, Nat.min_comm, rubS_up]
      exact clM_eq w R sand sl n (i + 1) _
theorem clM_go (F w a R : Nat) (sand : Bool) (sl : Nat → Nat) : clM w R sand F 0 a sl 0 = (goF F w a sand sl, rubS (goF F w a sand sl) R sl, rubT R sl (goF F w a sand sl)) := by
  have h := clM_eq w R sand sl F 0 a
  rw [rubS_0] at h
  exact h
theorem clM_far (w R : Nat) (sand : Bool) (sl : Nat → Nat) : ∀ (n i left : Nat) (sl2 : Nat → Nat) (ru : Nat), (∀ j, i ≤ j → sl2 j = sl j) → (clM w R sand n i left sl2 ru).1 = farR w sand sl n i left
  | 0, i, left, sl2, ru, h => by rw [clM, farR]
  | n + 1, i, left, sl2, ru, h => by
    rw [clM, h i (Nat.le_refl i)]
    by_cases h1 : left < tk sand (sl i) w
    · rw [if_pos h1, farR_stop h1]
    · rw [if_neg h1, farR_on h1]
      exact clM_far w R sand sl n (i + 1) _ _ _ (fun j hj => (nup_n _ (by omega) _).trans (h j (by omega)))
/-- smearing one by one -/
def smO (far : Nat) : Nat → Nat → (Nat → Nat) → (Nat → Nat)
  | 0, _, sl => sl
  | n + 1, i, sl => smO far n (i + 1) (nup sl (i % far) (sl (i % far) + (if sl (i % far) < 99 then 1 else 0)))
theorem smO_SB (far : Nat) (hf : far ≤ 30) (h1 : 1 ≤ far) : ∀ (n i : Nat) (sl : Nat → Nat), SB sl → SB (smO far n i sl)
  | 0, _, _, h => h
  | n + 1, i, sl, h => smO_SB far hf h1 n (i + 1) _ (nup_SB h (by
      have h2 := h (i % far) (by have := Nat.mod_lt i (show 0 < far by omega); omega)
      split <;> omega))
theorem sm_step {far i : Nat} (h1 : 1 ≤ far) (sl : Nat → Nat) (hs : SB sl) (hf : far ≤ 30) : nup (smS far i sl far) (i % far) (smS far i sl far (i % far) + (if smS far i sl far (i % far) < 99 then 1 else 0)) = smS far (i + 1) sl far := by
  have hb := Nat.mod_lt i (show 0 < far by omega)
  have hdm := Nat.div_add_mod i far
  have hnx : ((i + 1) / far = i / far ∧ (i + 1) % far = i % far + 1 ∧ i % far + 1 < far) ∨ ((i + 1) / far = i / far + 1 ∧ (i + 1) % far = 0 ∧ i % far + 1 = far) := by
    by_cases e : i % far + 1 < far
    · refine Or.inl ?_
      have := (Nat.div_mod_unique (a := i + 1) (b := far) (c := i % far + 1) (d := i / far) (by omega)).mpr ⟨by omega, e⟩
      exact ⟨this.1, this.2, e⟩
    · refine Or.inr ?_
      have := (Nat.div_mod_unique (a := i + 1) (b := far) (c := 0) (d := i / far + 1) (by omega)).mpr ⟨by rw [Nat.mul_add, Nat.mul_one]; omega, by omega⟩
      exact ⟨this.1, this.2, by omega⟩
  have key : ∀ v : Nat, min 99 v + (if min 99 v < 99 then 1 else 0) = min 99 (v + 1) := fun v => by
    by_cases h : min 99 v < 99
    · rw [if_pos h]; omega
    · rw [if_neg h]; omega
  funext j
  unfold nup smS
  by_cases e : j = i % far
  · rw [if_pos e, if_pos hb, if_neg (Nat.lt_irrefl _), if_pos (show j < far by omega)]
    have h99 := hs (i % far) (by omega)
    rw [e]
    rcases hnx with ⟨x1, x2, x3⟩ | ⟨x1, x2, x3⟩
    · rw [x1, x2, key, if_pos (by omega), Nat.add_assoc]
    · rw [x1, x2, key, if_neg (by omega), Nat.add_assoc]
  · rw [if_neg e]
    by_cases e2 : j < far
    · rw [if_pos e2, if_pos e2]
      rcases hnx with ⟨x1, x2, x3⟩ | ⟨x1, x2, x3⟩
      · rw [x1, x2]
        by_cases e3 : j < i % far
        · rw [if_pos e3, if_pos (by omega)]
        · rw [if_neg e3, if_neg (by omega)]
      · rw [x1, x2, if_pos (show j < i % far by omega), if_neg (by omega)]
    · rw [if_neg e2, if_neg e2]
theorem sm_0 {far : Nat} (sl : Nat → Nat) (hs : SB sl) (hf : far ≤ 30) : ∀ j, j < 30 → smS far 0 sl far j = sl j := fun j hj => by
  unfold smS
  have := hs j hj
  split
  · rw [Nat.zero_div, Nat.zero_mod, if_neg (by omega)]; omega
  · rfl
