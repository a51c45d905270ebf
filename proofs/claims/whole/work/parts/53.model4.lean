/-! the reference: calls that go-/
set_option maxRecDepth 20000 in
theorem c_X7_go (sk : Nat → Nat) {h mt mo md ms mn mi mz mk mw mf mr mb mu : Nat} {ty li se fAt at_ so sta sz fl ru : Int32} {iha isn : Bool} {T : Nat → Nat} {ft : Nat → Bool} {fc : Nat} {hm sn : Bool} {s : PSt} {fn : Nat → Int32} {x : Int32} {Z : Int32 × PSt} (hQ : QB (T, ft, fc, hm, sn)) (hs0 : SB s.1) (hZ : goA (T 0) (T 1) (T 4) (T 5) (fun c => T (6 + c)) (fun c => T (12 + c)) (fun c => T (18 + c)) s x = Z) : Ct sk yX7_go cX7_go 3 (some .int) 2 0 0 [oMod h mt ty mo md ms mn mi mz mk mw mf li se fAt at_ so sta sz fl iha isn ru mr mb mu, cI mo 56 (fI T), cI ms 32 (fS s), cI mn 32 fn] [.ref h, .int x] (fun q w1 => q = some (.int Z.1) ∧ ∃ (ru2 : Int32) (fn2 : Nat → Int32), w1 = [oMod h mt ty mo md ms mn mi mz mk mw mf li se fAt at_ so sta sz fl iha isn ru2 mr mb mu, cI mo 56 (fI T), cI ms 32 (fS Z.2), cI mn 32 fn2]) := by
  have hT0 : T 0 ≤ 30 := hQ.1
  have hT1 : T 1 ≤ 6 := hQ.2.1
  refine Ct.of (own := RX7) (l := [some (.ref h), some (.int x), none]) (by decide) rfl (Nat.le_of_ble_eq_true rfl) rfl ?_
  refine g_aload_n dX7_go_0 rfl rfl ?_
  refine g_iload_n dX7_go_1 rfl rfl ?_
  refine g_callV (c_X7_isClimber sk hT1) m_X7_169 a_X7_isClimber dX7_go_2 rfl [0, 1] rfl rfl 0 rfl rfl rfl (by decide) (by decide) (by decide) (by decide) (Nat.le_of_ble_eq_true rfl) (fun r w hK => ?_)
  obtain ⟨rfl, rfl⟩ := hK
  refine ⟨rfl, ?_⟩
  dsimp only [puts, List.set, Option.toList, List.cons_append, List.nil_append, List.append_nil]
  refine g_if_neB (t := 11) dX7_go_5 (by decide) rfl (fun h5 => ?_) (fun h5 => ?_)
  · obtain ⟨c, hc, rfl⟩ := inR_t (by omega) h5
    rw [goA, if_pos h5, nI_clamp (by omega)] at hZ
    subst hZ
    have hF1 := hQ.2.2.1 (show 1 ≤ T 1 by omega)
    have hcc := hQ.2.2.2.2.2.2.1 c hc
    dsimp only at hF1 hcc
    refine g_aload_n dX7_go_11 rfl rfl ?_
    refine g_get f_X7_13 dX7_go_12 rfl 0 rfl rfl ?_
    refine g_iconst (v := nI 0) dX7_go_15 rfl (by decide) ?_
    refine g_ialdN (v := nI _) dX7_go_16 rfl 1 rfl (by omega) (by decide) (rfl) ?_
    refine g_if_ne (t := 23) dX7_go_17 (by decide) rfl (fun h17 => ?_) (fun h17 => ?_)
    · skip
      refine g_aload_n dX7_go_23 rfl rfl ?_
      refine g_callV (c_X7_lays sk) m_X7_172 a_X7_lays dX7_go_24 rfl [0, 2, 3] rfl rfl 0 rfl rfl rfl (by decide) (by decide) (by decide) (by decide) (Nat.le_of_ble_eq_true rfl) (fun r w hK => ?_)
      obtain ⟨rfl, rfl⟩ := hK
      refine ⟨rfl, ?_⟩
      dsimp only [puts, List.set, Option.toList, List.cons_append, List.nil_append, List.append_nil]
      refine g_aload_n dX7_go_27 rfl rfl ?_
      refine g_iload_n dX7_go_28 rfl rfl ?_
      refine g_iconst (v := nI 0) dX7_go_29 rfl (by decide) ?_
      refine g_callV (c_X7_goes sk (sand := false) hT0 (by omega) hcc.1 hcc.2.1 hcc.2.2 ⟨hQ.2.2.2.2.1, hQ.2.2.2.1⟩ hQ.2.2.2.2.2.1 hs0 hF1 rfl) m_X7_176 a_X7_goes dX7_go_30 rfl [0, 1, 3] rfl rfl 0 rfl rfl rfl (by decide) (by decide) (by decide) (by decide) (Nat.le_of_ble_eq_true rfl) (fun r w hK => ?_)
      obtain ⟨rfl, rfl⟩ := hK
      refine ⟨rfl, ?_⟩
      dsimp only [puts, List.set, Option.toList, List.cons_append, List.nil_append, List.append_nil]
      refine g_istore_n dX7_go_33 rfl (by decide) rfl rfl ?_
      refine g_aload_n dX7_go_34 rfl rfl ?_
      refine g_callV (c_X7_takes sk) m_X7_180 a_X7_takes dX7_go_35 rfl [0, 3, 2] rfl rfl 0 rfl rfl rfl (by decide) (by decide) (by decide) (by decide) (Nat.le_of_ble_eq_true rfl) (fun r w hK => ?_)
      obtain ⟨rfl, rfl⟩ := hK
      refine ⟨rfl, ?_⟩
      dsimp only [puts, List.set, Option.toList, List.cons_append, List.nil_append, List.append_nil]
      refine g_iload_n dX7_go_38 rfl rfl ?_
      exact g_iret dX7_go_39 rfl (Nat.le_refl _) (Nat.le_refl _) (⟨rfl, _, _, rfl⟩)
    · exact absurd h17 (nI_ne0 (by omega) (by omega))
  · rw [goA, if_neg (by rw [h5]; decide)] at hZ
    subst hZ
    refine g_ldc dX7_go_8 rfl k_X7_161 ?_
    exact g_iret dX7_go_10 rfl (Nat.le_refl _) (Nat.le_refl _) (⟨rfl, _, _, rfl⟩)
