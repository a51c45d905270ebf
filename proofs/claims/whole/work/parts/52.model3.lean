/-! the reference: a go-/
theorem fS_go (s : PSt) (x : Int32) : ∀ j, j < 32 → upd (fS s) 30 x j = fS (s.1, x, s.2.2) j := fun j hj => by
  unfold upd fS
  by_cases e : j = 30
  · rw [if_pos e, if_neg (by omega), if_pos e]
  · rw [if_neg e]
    by_cases e2 : j < 30
    · rw [if_pos e2, if_pos e2]
    · rw [if_neg e2, if_neg e2, if_neg e, if_neg e]
theorem fS_goE (s : PSt) (x : Int32) : upd (fS s) 30 x = fS (s.1, x, s.2.2) := by
  funext j
  unfold upd fS
  by_cases e : j = 30
  · rw [if_pos e, if_neg (by omega), if_pos e]
  · rw [if_neg e]
    by_cases e2 : j < 30
    · rw [if_pos e2, if_pos e2]
    · rw [if_neg e2, if_neg e2, if_neg e, if_neg e]
theorem fS_sun {sl : Nat → Nat} {i n v : Nat} (g ho : Int32) (hi : i < 30) (hv : v = min 99 (sl i + n)) : upd (fS (adS 0 i n sl, g, ho)) i (nI v) = fS (adS 0 (i + 1) n sl, g, ho) := by
  subst hv
  rw [fS_up _ _ hi]
  show fS (nup (adS 0 i n sl) i (min 99 (sl i + n)), g, ho) = _
  rw [adS_up 0 i n sl (Nat.zero_le _)]
set_option maxRecDepth 20000 in
theorem lp_sun (sk : Nat → Nat) {h mt mo md ms mn mi mz mk mw mf mr mb mu : Nat} {ty li se fAt at_ so sta sz fl ru : Int32} {iha isn : Bool} {T : Nat → Nat} {c : Nat} {sand : Bool} {g ho : Int32} {sl : Nat → Nat} {e : Nat} {t : PSt} {l5 : Option Value} (hF : T 0 ≤ 30) (hc : c < 6) (hw : T (6 + c) ≤ 99) (ha : T (12 + c) ≤ 999) (hr : T (18 + c) ≤ 20) (hN : 1 ≤ T 4 ∧ T 4 ≤ 20) (hS : T 5 ≤ 9) (hs0 : SB sl) (hg : g - g / nI (T 4) * nI (T 4) = 0) (ht : (adS 0 (T 0) (T 5) sl, g, ho) = t) : ∀ (n i : Nat), i + n = T 0 → GG sk RX7 yX7_goes cX7_goes 6 (some .int) 1 0 0 (zD (some (.int (nI e))) [oMod h mt ty mo md ms mn mi mz mk mw mf li se fAt at_ so sta sz fl iha isn ru mr mb mu, cI mo 56 (fI T), cI mn 32 (fS t)]) 0 0 114 [some (.ref h), some (.int (nI c)), some (.int (zb sand)), some (.int (nI e)), some (.int (nI i)), l5] [] [oMod h mt ty mo md ms mn mi mz mk mw mf li se fAt at_ so sta sz fl iha isn ru mr mb mu, cI mo 56 (fI T), cI mn 32 (fS (adS 0 i (T 5) sl, g, ho))] := by
  intro n
  induction n with
  | zero =>
    intro i hi
    have ei : i = T 0 := by omega
    subst ei
    subst ht
    refine g_iload dX7_goes_114 rfl rfl ?_
    refine g_aload_n dX7_goes_116 rfl rfl ?_
    refine g_get f_X7_13 dX7_goes_117 rfl 0 rfl rfl ?_
    refine g_iconst (v := nI 0) dX7_goes_120 rfl (by decide) ?_
    refine g_ialdN (v := nI _) dX7_goes_121 rfl 1 rfl (by omega) (by decide) (rfl) ?_
    refine g_icmp_geN (t := 193) dX7_goes_122 (by decide) rfl (by omega) (by omega) (fun h122 => ?_) (fun h122 => ?_)
    · skip
      refine g_iload_n dX7_goes_193 rfl rfl ?_
      exact g_iret dX7_goes_194 rfl (Nat.le_refl _) (Nat.le_refl _) (⟨rfl, rfl⟩)
    · exact absurd h122 (by omega)
  | succ n ih =>
    intro i hi
    have hsi := hs0 i (by omega)
    refine g_iload dX7_goes_114 rfl rfl ?_
    refine g_aload_n dX7_goes_116 rfl rfl ?_
    refine g_get f_X7_13 dX7_goes_117 rfl 0 rfl rfl ?_
    refine g_iconst (v := nI 0) dX7_goes_120 rfl (by decide) ?_
    refine g_ialdN (v := nI _) dX7_goes_121 rfl 1 rfl (by omega) (by decide) (rfl) ?_
    refine g_icmp_geN (t := 193) dX7_goes_122 (by decide) rfl (by omega) (by omega) (fun h122 => ?_) (fun h122 => ?_)
    · exact absurd h122 (by omega)
    · skip
      refine g_aload_n dX7_goes_125 rfl rfl ?_
      refine g_get f_X7_22 dX7_goes_126 rfl 0 rfl rfl ?_
      refine g_bipush (v := nI 30) dX7_goes_129 rfl (by decide) ?_
      refine g_ialdN (v := g) dX7_goes_131 rfl 2 rfl (by omega) (by decide) (rfl) ?_
      refine g_aload_n dX7_goes_132 rfl rfl ?_
      refine g_get f_X7_13 dX7_goes_133 rfl 0 rfl rfl ?_
      refine g_iconst (v := nI 4) dX7_goes_136 rfl (by decide) ?_
      refine g_ialdN (v := nI _) dX7_goes_137 rfl 1 rfl (by omega) (by decide) (rfl) ?_
      refine g_irem dX7_goes_138 rfl (nI_ne0 (by omega) (by omega)) rfl ?_
      refine g_if_ne (t := 193) dX7_goes_139 (by decide) rfl (fun h139 => ?_) (fun h139 => ?_)
      · exact absurd hg h139
      · skip
        refine g_aload_n dX7_goes_142 rfl rfl ?_
        refine g_get f_X7_22 dX7_goes_143 rfl 0 rfl rfl ?_
        refine g_iload dX7_goes_146 rfl rfl ?_
        refine g_aload_n dX7_goes_148 rfl rfl ?_
        refine g_get f_X7_22 dX7_goes_149 rfl 0 rfl rfl ?_
        refine g_iload dX7_goes_152 rfl rfl ?_
        refine g_ialdN (v := nI (sl i)) dX7_goes_154 rfl 2 rfl (by omega) (by decide) ((fS_lt (adS 0 i (T 5) sl, g, ho) (by omega)).trans (congrArg nI (adS_at 0 i (T 5) sl))) ?_
        refine g_aload_n dX7_goes_155 rfl rfl ?_
        refine g_get f_X7_13 dX7_goes_156 rfl 0 rfl rfl ?_
        refine g_iconst (v := nI 5) dX7_goes_159 rfl (by decide) ?_
        refine g_ialdN (v := nI _) dX7_goes_160 rfl 1 rfl (by omega) (by decide) (rfl) ?_
        refine g_iadd dX7_goes_161 rfl (nI_add _ _) ?_
        refine g_bipush (v := nI 99) dX7_goes_162 rfl (by decide) ?_
        refine g_icmp_leN (t := 172) dX7_goes_164 (by decide) rfl (by omega) (by omega) (fun h164 => ?_) (fun h164 => ?_)
        · skip
          refine g_aload_n dX7_goes_172 rfl rfl ?_
          refine g_get f_X7_22 dX7_goes_173 rfl 0 rfl rfl ?_
          refine g_iload dX7_goes_176 rfl rfl ?_
          refine g_ialdN (v := nI (sl i)) dX7_goes_178 rfl 2 rfl (by omega) (by decide) ((fS_lt (adS 0 i (T 5) sl, g, ho) (by omega)).trans (congrArg nI (adS_at 0 i (T 5) sl))) ?_
          refine g_aload_n dX7_goes_179 rfl rfl ?_
          refine g_get f_X7_13 dX7_goes_180 rfl 0 rfl rfl ?_
          refine g_iconst (v := nI 5) dX7_goes_183 rfl (by decide) ?_
          refine g_ialdN (v := nI _) dX7_goes_184 rfl 1 rfl (by omega) (by decide) (rfl) ?_
          refine g_iadd dX7_goes_185 rfl (nI_add _ _) ?_
          refine g_iastN dX7_goes_186 rfl 2 rfl (by omega) (by decide) (fS_sun g ho (by omega) (by omega)) rfl ?_
          refine g_iinc dX7_goes_187 rfl rfl (nI_1 _) (by decide) rfl rfl ?_
          refine g_goto (q := 114) dX7_goes_190 (by decide) ?_
          exact ih (i + 1) (by omega)
        · skip
          refine g_bipush (v := nI 99) dX7_goes_167 rfl (by decide) ?_
          refine g_goto (q := 186) dX7_goes_169 (by decide) ?_
          refine g_iastN dX7_goes_186 rfl 2 rfl (by omega) (by decide) (fS_sun g ho (by omega) (by omega)) rfl ?_
          refine g_iinc dX7_goes_187 rfl rfl (nI_1 _) (by decide) rfl rfl ?_
          refine g_goto (q := 114) dX7_goes_190 (by decide) ?_
          exact ih (i + 1) (by omega)
