/-! the reference: a go-/
theorem fS_go (s : PSt) (x : Int32) : ∀ j, j < 32 → upd (fS s) 30 x j = fS (s.1, x, s.2.2) j := fun j hj => by
  unfold upd fS
  by_cases e : j = 30
  · rw [if_pos e, if_neg (by omega), if_pos e]
  · rw [if_neg e]
    by_cases e2 : j < 30
    · rw [if_pos e2, if_pos e2]
    · rw [if_neg e2, if_neg e2, if_neg e, if_neg e]
theorem fS_goE (s : PSt) (x : Int32) : upd (fS s) 30 x = fS (s.1, x, s.2.2) := by
  funext j
  unfold upd fS
  by_cases e : j = 30
  · rw [if_pos e, if_neg (by omega), if_pos e]
  · rw [if_neg e]
    by_cases e2 : j < 30
    · rw [if_pos e2, if_pos e2]
    · rw [if_neg e2, if_neg e2, if_neg e, if_neg e]
theorem fS_sun {sl : Nat → Nat} {i n v : Nat} (g ho : Int32) (hi : i < 30) (hv : v = min 99 (sl i + n)) : upd (fS (adS 0 i n sl, g, ho)) i (nI v) = fS (adS 0 (i + 1) n sl, g, ho) := by
  subst hv
  rw [fS_up _ _ hi]
  show fS (nup (adS 0 i n sl) i (min 99 (sl i + n)), g, ho) = _
  rw [adS_up 0 i n sl (Nat.zero_le _)]
set_option maxRecDepth 20000 in
theorem lp_sun (sk : Nat → Nat) {h mt mo md ms mn mi mz mk mw mf mr mb mu : Nat} {ty li se fAt at_ so sta sz fl ru : Int32} {iha isn : Bool} {T : Nat → Nat} {c : Nat} {sand : Bool} {g ho : Int32} {sl : Nat → Nat} {e : Nat} {t : PSt} {l5 : Option Value} (hF : T 0 ≤ 30) (hc : c < 6) (hw : T (6 + c) ≤ 99) (ha : T (12 + c) ≤ 999) (hr : T (18 + c) ≤ 20) (hN : 1 ≤ T 4 ∧ T 4 ≤ 20) (hS : T 5 ≤ 9) (hs0 : SB sl) (hg : g - g / nI (T 4) * nI (T 4) = 0) (ht : (adS 0 (T 0) (T 5) sl, g, ho) = t) : ∀ (n i : Nat), i + n = T 0 → GG sk RX7 yX7_goes cX7_goes 6 (some .int) 1 0 0 (zD (some (.int (nI e))) [oMod h mt ty mo md ms mn mi mz mk mw mf li se fAt at_ so sta sz fl iha isn ru mr mb mu, cI mo 56 (fI T), cI mn 32 (fS t)]) 0 0 114 [some (.ref h), some (.int (nI c)), some (.int (zb sand)), some (.int (nI e)), some (.int (nI i)), l5] [] [oMod h mt ty mo md ms mn mi mz mk mw mf li se fAt at_ so sta sz fl iha isn ru mr mb mu, cI mo 56 (fI T), cI mn 32 (fS (adS 0 i (T 5) sl, g, ho))] := by
  intro n
  induction n with
  | zero =>
    intro i hi
    have ei : i = T 0 := by omega
    subst ei
    subst ht
    refine g_iload dX7_goes_114 rfl rfl ?_
    refine g_aload_n dX7_goes_116 rfl rfl ?_
    refine g_get f_X7_13 dX7_goes_117 rfl 0 rfl rfl ?_
    refine g_iconst (v := nI 0) dX7_goes_120 rfl (by decide) ?_
    refine g_ialdN (v := nI _) dX7_goes_121 rfl 1 rfl (by omega) (by decide) (rfl) ?_
    refine g_icmp_geN (t := 193) dX7_goes_122 (by decide) rfl (by omega) (by omega) (fun h122 => ?_) (fun h122 => ?_)
    · skip
      refine g_iload_n dX7_goes_193 rfl rfl ?_
      exact g_iret dX7_goes_194 rfl (Nat.le_refl _) (Nat.le_refl _) (⟨rfl, rfl⟩)
    · exact absurd h122 (by omega)
  | succ n ih =>
    intro i hi
    have hsi := hs0 i (by omega)
    refine g_iload dX7_goes_114 rfl rfl ?_
    refine g_aload_n dX7_goes_116 rfl rfl ?_
    refine g_get f_X7_13 dX7_goes_117 rfl 0 rfl rfl ?_
    refine g_iconst (v := nI 0) dX7_goes_120 rfl (by decide) ?_
    refine g_ialdN (v := nI _) dX7_goes_121 rfl 1 rfl (by omega) (by decide) (rfl) ?_
    refine g_icmp_geN (t := 193) dX7_goes_122 (by decide) rfl (by omega) (by omega) (fun h122 => ?_) (fun h122 => ?_)
    · exact absurd h122 (by omega)
    · skip
      refine g_aload_n dX7_goes_125 rfl rfl ?_
      refine g_get f_X7_22 dX7_goes_126 rfl 0 rfl rfl ?_
      refine g_bipush (v := nI 30) dX7_goes_129 rfl (by decide) ?_
      refine g_ialdN (v := g) dX7_goes_131 rfl 2 rfl (by omega) (by decide) (rfl) ?_
      refine g_aload_n dX7_goes_132 rfl rfl ?_
      refine g_get f_X7_13 dX7_goes_133 rfl 0 rfl rfl ?_
      refine g_iconst (v := nI 4) dX7_goes_136 rfl (by decide) ?_
      refine g_ialdN (v := nI _) dX7_goes_137 rfl 1 rfl (by omega) (by decide) (rfl) ?_
      refine g_irem dX7_goes_138 rfl (nI_ne0 (by omega) (by omega)) rfl ?_
      refine g_if_ne (t := 193) dX7_goes_139 (by decide) rfl (fun h139 => ?_) (fun h139 => ?_)
      · exact absurd hg h139
      · skip
        refine g_aload_n dX7_goes_142 rfl rfl ?_
        refine g_get f_X7_22 dX7_goes_143 rfl 0 rfl rfl ?_
        refine g_iload dX7_goes_146 rfl rfl ?_
        refine g_aload_n dX7_goes_148 rfl rfl ?_
        refine g_get f_X7_22 dX7_goes_149 rfl 0 rfl rfl ?_
        refine g_iload dX7_goes_152 rfl rfl ?_
        refine g_ialdN (v := nI (sl i)) dX7_goes_154 rfl 2 rfl (by omega) (by decide) ((fS_lt (adS 0 i (T 5) sl, g, ho) (by omega)).trans (congrArg nI (adS_at 0 i (T 5) sl))) ?_
        refine g_aload_n dX7_goes_155 rfl rfl ?_
        refine g_get f_X7_13 dX7_goes_156 rfl 0 rfl rfl ?_
        refine g_iconst (v := nI 5) dX7_goes_159 rfl (by decide) ?_
        refine g_ialdN (v := nI _) dX7_goes_160 rfl 1 rfl (by omega) (by decide) (rfl) ?_
        refine g_iadd dX7_goes_161 rfl (nI_add _ _) ?_
        refine g_bipush (v := nI 99) dX7_goes_162 rfl (by decide) ?_
        refine g_icmp_leN (t := 172) dX7_goes_164 (by decide) rfl (by omega) (by omega) (fun h164 => ?_) (fun h164 => ?_)
        · skip
          refine g_aload_n dX7_goes_172 rfl rfl ?_
          refine g_get f_X7_22 dX7_goes_173 rfl 0 rfl rfl ?_
          refine g_iload dX7_goes_176 rfl rfl ?_
          refine g_ialdN (v := nI (sl i)) dX7_goes_178 rfl 2 rfl (by omega) (by decide) ((fS_lt (adS 0 i (T 5) sl, g, ho) (by omega)).trans (congrArg nI (adS_at 0 i (T 5) sl))) ?_
          refine g_aload_n dX7_goes_179 rfl rfl ?_
          refine g_get f_X7_13 dX7_goes_180 rfl 0 rfl rfl ?_
          refine g_iconst (v := nI 5) dX7_goes_183 rfl (by decide) ?_
          refine g_ialdN (v := nI _) dX7_goes_184 rfl 1 rfl (by omega) (by decide) (rfl) ?_
          refine g_iadd dX7_goes_185 rfl (nI_add _ _) ?_
          refine g_iastN dX7_goes_186 rfl 2 rfl (by omega) (by decide) (fS_sun g ho (by omega) (by omega)) rfl ?_
          refine g_iinc dX7_goes_187 rfl rfl (nI_1 _) (by decide) rfl rfl ?_
          refine g_goto (q := 114) dX7_goes_190 (by decide) ?_
          exact ih (i + 1) (by omega)
        · skip
          refine g_bipush (v := nI 99) dX7_goes_167 rfl (by decide) ?_
          refine g_goto (q := 186) dX7_goes_169 (by decide) ?_
          refine g_iastN dX7_goes_186 rfl 2 rfl (by omega) (by decide) (fS_sun g ho (by omega) (by omega)) rfl ?_
          refine g_iinc dX7_goes_187 rfl rfl (nI_1 _) (by decide) rfl rfl ?_
          refine g_goto (q := 114) dX7_goes_190 (by decide) ?_
          exact ih (i + 1) (by omega)
theorem sm_0e {far : Nat} (sl : Nat → Nat) (hs : SB sl) (hf : far ≤ 30) : smS far 0 sl far = sl := by
  funext j
  by_cases h : j < 30
  · exact sm_0 sl hs hf j h
  · unfold smS
    rw [if_neg (by omega)]
def sunT (F N S : Nat) (sl : Nat → Nat) (g : Int32) : Nat → Nat := match sunB g N with
  | true => adS 0 F S sl
  | false => sl
set_option maxRecDepth 20000 in
theorem lp_sm0 (sk : Nat → Nat) {h mt mo md ms mn mi mz mk mw mf mr mb mu : Nat} {ty li se fAt at_ so sta sz fl : Int32} {iha isn : Bool} {T : Nat → Nat} {c : Nat} {sand : Bool} {g ho : Int32} {sl : Nat → Nat} {e ru : Nat} {t : PSt} {l5 : Option Value} (hF : T 0 ≤ 30) (hc : c < 6) (hw : T (6 + c) ≤ 99) (ha : T (12 + c) ≤ 999) (hr : T (18 + c) ≤ 20) (hN : 1 ≤ T 4 ∧ T 4 ≤ 20) (hS : T 5 ≤ 9) (hs0 : SB sl) (heF : e ≤ T 0) (hF1 : 1 ≤ T 0) (hru : ru ≤ 1000) (he : 1 ≤ e ∨ ru < 4) (ht : (sunT (T 0) (T 4) (T 5) (smS e (ru / 4) sl e) (g + nI 1), g + nI 1, ho) = t) : GG sk RX7 yX7_goes cX7_goes 6 (some .int) 1 0 0 (zD (some (.int (nI e))) [oMod h mt ty mo md ms mn mi mz mk mw mf li se fAt at_ so sta sz fl iha isn (nI ru) mr mb mu, cI mo 56 (fI T), cI mn 32 (fS t)]) 0 0 114 [some (.ref h), some (.int (nI c)), some (.int (zb sand)), some (.int (nI e)), some (.int (nI 0)), l5] [] [oMod h mt ty mo md ms mn mi mz mk mw mf li se fAt at_ so sta sz fl iha isn (nI ru) mr mb mu, cI mo 56 (fI T), cI mn 32 (fS (smS e (ru / 4) sl e, g + nI 1, ho))] := by
  have hsS := smS_le e (ru / 4) sl e hs0
  cases hsun : sunB (g + nI 1) (T 4) with
  | true =>
    rw [sunT, hsun] at ht
    have h0 := lp_sun sk (h := h) (mt := mt) (ty := ty) (mo := mo) (md := md) (ms := ms) (mn := mn) (mi := mi) (mz := mz) (mk := mk) (mw := mw) (mf := mf) (li := li) (se := se) (fAt := fAt) (at_ := at_) (so := so) (sta := sta) (sz := sz) (fl := fl) (iha := iha) (isn := isn) (ru := nI ru) (mr := mr) (mb := mb) (mu := mu) (T := T) (c := c) (sand := sand) (e := e) (l5 := l5) hF hc hw ha hr hN hS hsS (of_decide_eq_true hsun) ht (T 0) 0 (by omega)
    rw [adS_0] at h0
    exact h0
  | false =>
    rw [sunT, hsun] at ht
    subst ht
    refine g_iload dX7_goes_114 rfl rfl ?_
    refine g_aload_n dX7_goes_116 rfl rfl ?_
    refine g_get f_X7_13 dX7_goes_117 rfl 0 rfl rfl ?_
    refine g_iconst (v := nI 0) dX7_goes_120 rfl (by decide) ?_
    refine g_ialdN (v := nI _) dX7_goes_121 rfl 1 rfl (by omega) (by decide) (rfl) ?_
    refine g_icmp_geN (t := 193) dX7_goes_122 (by decide) rfl (by omega) (by omega) (fun h122 => ?_) (fun h122 => ?_)
    · exact absurd h122 (by omega)
    · skip
      refine g_aload_n dX7_goes_125 rfl rfl ?_
      refine g_get f_X7_22 dX7_goes_126 rfl 0 rfl rfl ?_
      refine g_bipush (v := nI 30) dX7_goes_129 rfl (by decide) ?_
      refine g_ialdN (v := g + nI 1) dX7_goes_131 rfl 2 rfl (by omega) (by decide) (rfl) ?_
      refine g_aload_n dX7_goes_132 rfl rfl ?_
      refine g_get f_X7_13 dX7_goes_133 rfl 0 rfl rfl ?_
      refine g_iconst (v := nI 4) dX7_goes_136 rfl (by decide) ?_
      refine g_ialdN (v := nI _) dX7_goes_137 rfl 1 rfl (by omega) (by decide) (rfl) ?_
      refine g_irem dX7_goes_138 rfl (nI_ne0 (by omega) (by omega)) rfl ?_
      refine g_if_ne (t := 193) dX7_goes_139 (by decide) rfl (fun h139 => ?_) (fun h139 => ?_)
      · skip
        refine g_iload_n dX7_goes_193 rfl rfl ?_
        exact g_iret dX7_goes_194 rfl (Nat.le_refl _) (Nat.le_refl _) (⟨rfl, rfl⟩)
      · exact absurd h139 (of_decide_eq_false hsun)
set_option maxRecDepth 20000 in
theorem lp_sm (sk : Nat → Nat) {h mt mo md ms mn mi mz mk mw mf mr mb mu : Nat} {ty li se fAt at_ so sta sz fl : Int32} {iha isn : Bool} {T : Nat → Nat} {c : Nat} {sand : Bool} {g ho : Int32} {sl : Nat → Nat} {e ru : Nat} {t : PSt} (hF : T 0 ≤ 30) (hc : c < 6) (hw : T (6 + c) ≤ 99) (ha : T (12 + c) ≤ 999) (hr : T (18 + c) ≤ 20) (hN : 1 ≤ T 4 ∧ T 4 ≤ 20) (hS : T 5 ≤ 9) (hs0 : SB sl) (heF : e ≤ T 0) (hF1 : 1 ≤ T 0) (hru : ru ≤ 1000) (he : 1 ≤ e ∨ ru < 4) (ht : (sunT (T 0) (T 4) (T 5) (smS e (ru / 4) sl e) (g + nI 1), g + nI 1, ho) = t) : ∀ (n i : Nat) (l5 : Option Value), i + n = ru / 4 → GG sk RX7 yX7_goes cX7_goes 6 (some .int) 1 0 0 (zD (some (.int (nI e))) [oMod h mt ty mo md ms mn mi mz mk mw mf li se fAt at_ so sta sz fl iha isn (nI ru) mr mb mu, cI mo 56 (fI T), cI mn 32 (fS t)]) 0 0 50 [some (.ref h), some (.int (nI c)), some (.int (zb sand)), some (.int (nI e)), some (.int (nI i)), l5] [] [oMod h mt ty mo md ms mn mi mz mk mw mf li se fAt at_ so sta sz fl iha isn (nI ru) mr mb mu, cI mo 56 (fI T), cI mn 32 (fS (smS e i sl e, g, ho))] := by
  intro n
  induction n with
  | zero =>
    intro i l5 hi
    have ei : i = ru / 4 := by omega
    subst ei
    refine g_iload dX7_goes_50 rfl rfl ?_
    refine g_aload_n dX7_goes_52 rfl rfl ?_
    refine g_get f_X7_162 dX7_goes_53 rfl 0 rfl rfl ?_
    refine g_iconst (v := nI 4) dX7_goes_56 rfl (by decide) ?_
    refine g_idiv dX7_goes_57 rfl (by decide) (pk_div (by omega) (by omega) (by omega)) ?_
    refine g_icmp_geN (t := 100) dX7_goes_58 (by decide) rfl (by omega) (by omega) (fun h58 => ?_) (fun h58 => ?_)
    · skip
      refine g_aload_n dX7_goes_100 rfl rfl ?_
      refine g_get f_X7_22 dX7_goes_101 rfl 0 rfl rfl ?_
      refine g_bipush (v := nI 30) dX7_goes_104 rfl (by decide) ?_
      refine g_dup2 dX7_goes_106 rfl rfl rfl ?_
      refine g_ialdN (v := g) dX7_goes_107 rfl 2 rfl (by omega) (by decide) (rfl) ?_
      refine g_iconst (v := nI 1) dX7_goes_108 rfl (by decide) ?_
      refine g_iadd dX7_goes_109 rfl rfl ?_
      refine g_iastN dX7_goes_110 rfl 2 rfl (by omega) (by decide) (fS_goE _ _) rfl ?_
      refine g_iconst (v := nI 0) dX7_goes_111 rfl (by decide) ?_
      refine g_istore dX7_goes_112 rfl (by decide) rfl rfl ?_
      exact lp_sm0 sk hF hc hw ha hr hN hS hs0 heF hF1 hru he ht
    · exact absurd h58 (by omega)
  | succ n ih =>
    intro i l5 hi
    have he1 : 1 ≤ e := by omega
    have hm := Nat.mod_lt i (show 0 < e by omega)
    have hsm := smS_le e i sl e hs0 (i % e) (by omega)
    have hst := sm_step (far := e) (i := i) he1 sl hs0 (by omega)
    refine g_iload dX7_goes_50 rfl rfl ?_
    refine g_aload_n dX7_goes_52 rfl rfl ?_
    refine g_get f_X7_162 dX7_goes_53 rfl 0 rfl rfl ?_
    refine g_iconst (v := nI 4) dX7_goes_56 rfl (by decide) ?_
    refine g_idiv dX7_goes_57 rfl (by decide) (pk_div (by omega) (by omega) (by omega)) ?_
    refine g_icmp_geN (t := 100) dX7_goes_58 (by decide) rfl (by omega) (by omega) (fun h58 => ?_) (fun h58 => ?_)
    · exact absurd h58 (by omega)
    · skip
      refine g_iload dX7_goes_61 rfl rfl ?_
      refine g_iload_n dX7_goes_63 rfl rfl ?_
      refine g_irem dX7_goes_64 rfl (nI_ne0 (by omega) (by omega)) (pk_rem (by omega) (by omega) (by omega)) ?_
      refine g_istore dX7_goes_65 rfl (by decide) rfl rfl ?_
      refine g_aload_n dX7_goes_67 rfl rfl ?_
      refine g_get f_X7_22 dX7_goes_68 rfl 0 rfl rfl ?_
      refine g_iload dX7_goes_71 rfl rfl ?_
      refine g_dup2 dX7_goes_73 rfl rfl rfl ?_
      refine g_ialdN (v := nI (smS e i sl e (i % e))) dX7_goes_74 rfl 2 rfl (show i % e < 32 by omega) (by decide) (fS_lt (smS e i sl e, g, ho) (show i % e < 30 by omega)) ?_
      refine g_aload_n dX7_goes_75 rfl rfl ?_
      refine g_get f_X7_22 dX7_goes_76 rfl 0 rfl rfl ?_
      refine g_iload dX7_goes_79 rfl rfl ?_
      refine g_ialdN (v := nI (smS e i sl e (i % e))) dX7_goes_81 rfl 2 rfl (show i % e < 32 by omega) (by decide) (fS_lt (smS e i sl e, g, ho) (show i % e < 30 by omega)) ?_
      refine g_bipush (v := nI 99) dX7_goes_82 rfl (by decide) ?_
      refine g_icmp_geN (t := 91) dX7_goes_84 (by decide) rfl (by omega) (by omega) (fun h84 => ?_) (fun h84 => ?_)
      · rw [if_neg (by omega)] at hst
        refine g_iconst (v := nI 0) dX7_goes_91 rfl (by decide) ?_
        refine g_iadd dX7_goes_92 rfl (nI_add _ _) ?_
        refine g_iastN dX7_goes_93 rfl 2 rfl (show i % e < 32 by omega) (by decide) ((fS_up (smS e i sl e, g, ho) _ (show i % e < 30 by omega)).trans (congrArg (fun q => fS (q, g, ho)) hst)) rfl ?_
        refine g_iinc dX7_goes_94 rfl rfl (nI_1 _) (by decide) rfl rfl ?_
        refine g_goto (q := 50) dX7_goes_97 (by decide) ?_
        exact ih (i + 1) _ (by omega)
      · rw [if_pos (by omega)] at hst
        refine g_iconst (v := nI 1) dX7_goes_87 rfl (by decide) ?_
        refine g_goto (q := 92) dX7_goes_88 (by decide) ?_
        refine g_iadd dX7_goes_92 rfl (nI_add _ _) ?_
        refine g_iastN dX7_goes_93 rfl 2 rfl (show i % e < 32 by omega) (by decide) ((fS_up (smS e i sl e, g, ho) _ (show i % e < 30 by omega)).trans (congrArg (fun q => fS (q, g, ho)) hst)) rfl ?_
        refine g_iinc dX7_goes_94 rfl rfl (nI_1 _) (by decide) rfl rfl ?_
        refine g_goto (q := 50) dX7_goes_97 (by decide) ?_
        exact ih (i + 1) _ (by omega)
theorem sunT_goS (F N S e R : Nat) (sl : Nat → Nat) (g : Int32) : sunT F N S (smS e (rubT R sl e / 4) (rubS e R sl) e) g = goS F N S e R sl g := by
  unfold sunT goS
  cases sunB g N <;> rfl
set_option maxRecDepth 20000 in
theorem c_X7_goes (sk : Nat → Nat) {h mt mo md ms mn mi mz mk mw mf mr mb mu : Nat} {ty li se fAt at_ so sta sz fl ru : Int32} {iha isn : Bool} {T : Nat → Nat} {c : Nat} {sand : Bool} {s t : PSt} (hF : T 0 ≤ 30) (hc : c < 6) (hw : T (6 + c) ≤ 99) (ha : T (12 + c) ≤ 999) (hr : T (18 + c) ≤ 20) (hN : 1 ≤ T 4 ∧ T 4 ≤ 20) (hS : T 5 ≤ 9) (hs0 : SB s.1) (hF1 : 1 ≤ T 0) (ht0 : (go1 (T 0) (T 4) (T 5) (fun c => T (6 + c)) (fun c => T (12 + c)) (fun c => T (18 + c)) sand s c) = t) : Ct sk yX7_goes cX7_goes 6 (some .int) 1 0 0 [oMod h mt ty mo md ms mn mi mz mk mw mf li se fAt at_ so sta sz fl iha isn ru mr mb mu, cI mo 56 (fI T), cI mn 32 (fS s)] [.ref h, .int (nI c), .int (zb sand)] (zD (some (.int (nI (goF (T 0) (T (6 + c)) (T (12 + c)) sand s.1)))) [oMod h mt ty mo md ms mn mi mz mk mw mf li se fAt at_ so sta sz fl iha isn (nI (rubT (T (18 + c)) s.1 (goF (T 0) (T (6 + c)) (T (12 + c)) sand s.1))) mr mb mu, cI mo 56 (fI T), cI mn 32 (fS t)]) := by
  refine Ct.of (own := RX7) (l := [some (.ref h), some (.int (nI c)), some (.int (zb sand)), none, none, none]) (by decide) rfl (Nat.le_of_ble_eq_true rfl) rfl ?_
  refine g_aload_n dX7_goes_0 rfl rfl ?_
  refine g_iload_n dX7_goes_1 rfl rfl ?_
  refine g_iconst (v := nI 0) dX7_goes_2 rfl (by decide) ?_
  refine g_iload_n dX7_goes_3 rfl rfl ?_
  refine g_callV (c_X7_climbs sk (fr := 0) (sl := s.1) (g := s.2.1) (ho := s.2.2) hF hc hw ha hr hs0 (Nat.zero_le _) (clM_go (T 0) (T (6 + c)) (T (12 + c)) (T (18 + c)) sand s.1)) m_X7_165 a_X7_climbs dX7_goes_4 rfl [0, 1, 2] rfl rfl 0 rfl rfl rfl (by decide) (by decide) (by decide) (by decide) (Nat.le_of_ble_eq_true rfl) (fun r w hK => ?_)
  obtain ⟨rfl, rfl⟩ := hK
  refine ⟨rfl, ?_⟩
  have he : (goF (T 0) (T (6 + c)) (T (12 + c)) sand s.1) ≤ T 0 := goF_le _ _ _ _ _
  have ht : (sunT (T 0) (T 4) (T 5) (smS (goF (T 0) (T (6 + c)) (T (12 + c)) sand s.1) ((rubT (T (18 + c)) s.1 (goF (T 0) (T (6 + c)) (T (12 + c)) sand s.1)) / 4) (rubS (goF (T 0) (T (6 + c)) (T (12 + c)) sand s.1) (T (18 + c)) s.1) (goF (T 0) (T (6 + c)) (T (12 + c)) sand s.1)) (s.2.1 + nI 1), s.2.1 + nI 1, goH (T 0) (goF (T 0) (T (6 + c)) (T (12 + c)) sand s.1) s.2.2 c) = t := by rw [sunT_goS]; exact ht0
  have hsb := rubS_le (goF (T 0) (T (6 + c)) (T (12 + c)) sand s.1) (T (18 + c)) s.1 hs0
  have hru : (rubT (T (18 + c)) s.1 (goF (T 0) (T (6 + c)) (T (12 + c)) sand s.1)) ≤ 1000 := by have := rubT_le (T (18 + c)) s.1 hr (goF (T 0) (T (6 + c)) (T (12 + c)) sand s.1); omega
  have hel : 1 ≤ (goF (T 0) (T (6 + c)) (T (12 + c)) sand s.1) ∨ (rubT (T (18 + c)) s.1 (goF (T 0) (T (6 + c)) (T (12 + c)) sand s.1)) < 4 := by
    cases hz : (goF (T 0) (T (6 + c)) (T (12 + c)) sand s.1) with
    | zero => right; show 0 < 4; decide
    | succ m => left; omega
  generalize (goF (T 0) (T (6 + c)) (T (12 + c)) sand s.1) = e at he ht hsb hru hel ⊢
  dsimp only [puts, List.set, Option.toList, List.cons_append, List.nil_append, List.append_nil]
  refine g_istore_n dX7_goes_7 rfl (by decide) rfl rfl ?_
  refine g_aload_n dX7_goes_8 rfl rfl ?_
  refine g_get f_X7_22 dX7_goes_9 rfl 0 rfl rfl ?_
  refine g_bipush (v := nI 31) dX7_goes_12 rfl (by decide) ?_
  refine g_iload_n dX7_goes_14 rfl rfl ?_
  refine g_aload_n dX7_goes_15 rfl rfl ?_
  refine g_get f_X7_13 dX7_goes_16 rfl 0 rfl rfl ?_
  refine g_iconst (v := nI 0) dX7_goes_19 rfl (by decide) ?_
  refine g_ialdN (v := nI _) dX7_goes_20 rfl 1 rfl (by omega) (by decide) (rfl) ?_
  refine g_icmp_neN (t := 39) dX7_goes_21 (by decide) rfl (by omega) (by omega) (fun h21 => ?_) (fun h21 => ?_)
  · rw [show goH (T 0) e s.2.2 c = s.2.2 from if_neg (fun q => h21 q.1)] at ht
    refine g_aload_n dX7_goes_39 rfl rfl ?_
    refine g_get f_X7_22 dX7_goes_40 rfl 0 rfl rfl ?_
    refine g_bipush (v := nI 31) dX7_goes_43 rfl (by decide) ?_
    refine g_ialdN (v := s.2.2) dX7_goes_45 rfl 2 rfl (by omega) (by decide) (rfl) ?_
    refine g_iastN dX7_goes_46 rfl 2 rfl (by omega) (by decide) (rfl) rfl ?_
    refine g_cong (g := fS (rubS e (T (18 + c)) s.1, s.2.1, s.2.2)) 2 rfl (fS_ham _ _) rfl ?_
    dsimp only [List.set]
    refine g_iconst (v := nI 0) dX7_goes_47 rfl (by decide) ?_
    refine g_istore dX7_goes_48 rfl (by decide) rfl rfl ?_
    have h0 := lp_sm sk (h := h) (mt := mt) (ty := ty) (mo := mo) (md := md) (ms := ms) (mn := mn) (mi := mi) (mz := mz) (mk := mk) (mw := mw) (mf := mf) (li := li) (se := se) (fAt := fAt) (at_ := at_) (so := so) (sta := sta) (sz := sz) (fl := fl) (iha := iha) (isn := isn) (mr := mr) (mb := mb) (mu := mu) (T := T) (c := c) (sand := sand) (ho := s.2.2) hF hc hw ha hr hN hS hsb he hF1 hru hel ht ((rubT (T (18 + c)) s.1 e) / 4) 0 none (by omega)
    rw [sm_0e _ hsb (by omega)] at h0
    exact h0
  · skip
    refine g_aload_n dX7_goes_24 rfl rfl ?_
    refine g_get f_X7_22 dX7_goes_25 rfl 0 rfl rfl ?_
    refine g_bipush (v := nI 31) dX7_goes_28 rfl (by decide) ?_
    refine g_ialdN (v := s.2.2) dX7_goes_30 rfl 2 rfl (by omega) (by decide) (rfl) ?_
    refine g_iconst (v := -1) dX7_goes_31 rfl (by decide) ?_
    refine g_icmp_ne (t := 39) dX7_goes_32 (by decide) rfl (fun h32 => ?_) (fun h32 => ?_)
    · rw [show goH (T 0) e s.2.2 c = s.2.2 from if_neg (fun q => h32 q.2)] at ht
      refine g_aload_n dX7_goes_39 rfl rfl ?_
      refine g_get f_X7_22 dX7_goes_40 rfl 0 rfl rfl ?_
      refine g_bipush (v := nI 31) dX7_goes_43 rfl (by decide) ?_
      refine g_ialdN (v := s.2.2) dX7_goes_45 rfl 2 rfl (by omega) (by decide) (rfl) ?_
      refine g_iastN dX7_goes_46 rfl 2 rfl (by omega) (by decide) (rfl) rfl ?_
      refine g_cong (g := fS (rubS e (T (18 + c)) s.1, s.2.1, s.2.2)) 2 rfl (fS_ham _ _) rfl ?_
      dsimp only [List.set]
      refine g_iconst (v := nI 0) dX7_goes_47 rfl (by decide) ?_
      refine g_istore dX7_goes_48 rfl (by decide) rfl rfl ?_
      have h0 := lp_sm sk (h := h) (mt := mt) (ty := ty) (mo := mo) (md := md) (ms := ms) (mn := mn) (mi := mi) (mz := mz) (mk := mk) (mw := mw) (mf := mf) (li := li) (se := se) (fAt := fAt) (at_ := at_) (so := so) (sta := sta) (sz := sz) (fl := fl) (iha := iha) (isn := isn) (mr := mr) (mb := mb) (mu := mu) (T := T) (c := c) (sand := sand) (ho := s.2.2) hF hc hw ha hr hN hS hsb he hF1 hru hel ht ((rubT (T (18 + c)) s.1 e) / 4) 0 none (by omega)
      rw [sm_0e _ hsb (by omega)] at h0
      exact h0
    · rw [show goH (T 0) e s.2.2 c = nI c from if_pos ⟨h21, h32⟩] at ht
      refine g_iload_n dX7_goes_35 rfl rfl ?_
      refine g_goto (q := 46) dX7_goes_36 (by decide) ?_
      refine g_iastN dX7_goes_46 rfl 2 rfl (by omega) (by decide) (rfl) rfl ?_
      refine g_cong (g := fS (rubS e (T (18 + c)) s.1, s.2.1, nI c)) 2 rfl (fS_ham _ _) rfl ?_
      dsimp only [List.set]
      refine g_iconst (v := nI 0) dX7_goes_47 rfl (by decide) ?_
      refine g_istore dX7_goes_48 rfl (by decide) rfl rfl ?_
      have h0 := lp_sm sk (h := h) (mt := mt) (ty := ty) (mo := mo) (md := md) (ms := ms) (mn := mn) (mi := mi) (mz := mz) (mk := mk) (mw := mw) (mf := mf) (li := li) (se := se) (fAt := fAt) (at_ := at_) (so := so) (sta := sta) (sz := sz) (fl := fl) (iha := iha) (isn := isn) (mr := mr) (mb := mb) (mu := mu) (T := T) (c := c) (sand := sand) (ho := nI c) hF hc hw ha hr hN hS hsb he hF1 hru hel ht ((rubT (T (18 + c)) s.1 e) / 4) 0 none (by omega)
      rw [sm_0e _ hsb (by omega)] at h0
      exact h0
