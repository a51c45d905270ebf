/-! the reference: climber, sums-/
set_option maxRecDepth 20000 in
theorem lp_tog (sk : Nat → Nat) {h mt mo md ms mn mi mz mk mw mf mr mb mu : Nat} {ty li se fAt at_ so sta sz fl ru : Int32} {iha isn : Bool} {s : PSt} {e Z : Nat} (he : e < 30) (hs0 : SB s.1) : ∀ (n i acc : Nat) (l1 : Option Value), i + n = e + 1 → acc ≤ 99 * i → acc + sumR s.1 n i = Z → GG sk RX7 yX7_together cX7_together 5 (some .int) 0 0 0 (zD (some (.int (nI Z))) [oMod h mt ty mo md ms mn mi mz mk mw mf li se fAt at_ so sta sz fl iha isn ru mr mb mu, cI ms 32 (fS s)]) 0 0 5 [some (.ref h), l1, some (.int (nI e)), some (.int (nI acc)), some (.int (nI i))] [] [oMod h mt ty mo md ms mn mi mz mk mw mf li se fAt at_ so sta sz fl iha isn ru mr mb mu, cI ms 32 (fS s)] := by
  intro n
  induction n with
  | zero =>
    intro i acc l1 hi ha hZ
    rw [sumR, Nat.add_zero] at hZ
    subst hZ
    refine g_iload dX7_together_5 rfl rfl ?_
    refine g_iload_n dX7_together_7 rfl rfl ?_
    refine g_icmp_gtN (t := 27) dX7_together_8 (by decide) rfl (by omega) (by omega) (fun h8 => ?_) (fun h8 => ?_)
    · skip
      refine g_iload_n dX7_together_27 rfl rfl ?_
      exact g_iret dX7_together_28 rfl (Nat.le_refl _) (Nat.le_refl _) (⟨rfl, rfl⟩)
    · exact absurd h8 (by omega)
  | succ n ih =>
    intro i acc l1 hi ha hZ
    rw [sumR] at hZ
    have hsi := hs0 i (by omega)
    refine g_iload dX7_together_5 rfl rfl ?_
    refine g_iload_n dX7_together_7 rfl rfl ?_
    refine g_icmp_gtN (t := 27) dX7_together_8 (by decide) rfl (by omega) (by omega) (fun h8 => ?_) (fun h8 => ?_)
    · exact absurd h8 (by omega)
    · skip
      refine g_iload_n dX7_together_11 rfl rfl ?_
      refine g_aload_n dX7_together_12 rfl rfl ?_
      refine g_get f_X7_19 dX7_together_13 rfl 0 rfl rfl ?_
      refine g_iload dX7_together_16 rfl rfl ?_
      refine g_ialdN (v := nI (s.1 i)) dX7_together_18 rfl 1 rfl (by omega) (by decide) (fS_lt s (by omega)) ?_
      refine g_iadd dX7_together_19 rfl (nI_add _ _) ?_
      refine g_istore_n dX7_together_20 rfl (by decide) rfl rfl ?_
      refine g_iinc dX7_together_21 rfl rfl (nI_1 _) (by decide) rfl rfl ?_
      refine g_goto (q := 5) dX7_together_24 (by decide) ?_
      exact ih (i + 1) _ _ (by omega) (by omega) (by omega)
set_option maxRecDepth 20000 in
theorem c_X7_together (sk : Nat → Nat) {h mt mo md ms mn mi mz mk mw mf mr mb mu : Nat} {ty li se fAt at_ so sta sz fl ru : Int32} {iha isn : Bool} {s : PSt} {i e : Nat} (he : e < 30) (hs0 : SB s.1) (hi : i ≤ e + 1) : Ct sk yX7_together cX7_together 5 (some .int) 0 0 0 [oMod h mt ty mo md ms mn mi mz mk mw mf li se fAt at_ so sta sz fl iha isn ru mr mb mu, cI ms 32 (fS s)] [.ref h, .int (nI i), .int (nI e)] (zD (some (.int (nI (sumR s.1 (e + 1 - i) i)))) [oMod h mt ty mo md ms mn mi mz mk mw mf li se fAt at_ so sta sz fl iha isn ru mr mb mu, cI ms 32 (fS s)]) := by
  refine Ct.of (own := RX7) (l := [some (.ref h), some (.int (nI i)), some (.int (nI e)), none, none]) (by decide) rfl (Nat.le_of_ble_eq_true rfl) rfl ?_
  refine g_iconst (v := nI 0) dX7_together_0 rfl (by decide) ?_
  refine g_istore_n dX7_together_1 rfl (by decide) rfl rfl ?_
  refine g_iload_n dX7_together_2 rfl rfl ?_
  refine g_istore dX7_together_3 rfl (by decide) rfl rfl ?_
  exact lp_tog sk he hs0 (e + 1 - i) i 0 _ (by omega) (by omega) (Nat.zero_add _)
