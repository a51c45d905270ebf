/-! the reference: beginning-/
def bgF (T : Nat → Nat) (i : Nat) (f : Nat → Int32) : Nat → Int32 := fun j => if j < i then nI (T (24 + j)) else f j
theorem bgF_0 (T : Nat → Nat) (f : Nat → Int32) : bgF T 0 f = f := by funext j; simp [bgF]
theorem bgF_up (T : Nat → Nat) (i : Nat) (f : Nat → Int32) : upd (bgF T i f) i (nI (T (24 + i))) = bgF T (i + 1) f := by
  funext j
  unfold upd bgF
  by_cases h : j = i
  · subst h; simp
  · by_cases h2 : j < i
    · simp [h, h2, show j < i + 1 by omega]
    · simp [h, h2, show ¬ j < i + 1 by omega]
set_option maxRecDepth 20000 in
theorem lp_begins (sk : Nat → Nat) {h mt mo md ms mn mi mz mk mw mf mr mb mu : Nat} {ty li se fAt at_ so sta sz fl ru : Int32} {iha isn : Bool} {T : Nat → Nat} {f : Nat → Int32}  : ∀ (n i : Nat), i + n = 30 → GG sk RX7 yX7_begins cX7_begins 2 none 0 0 0 (zD none [oMod h mt ty mo md ms mn mi mz mk mw mf li se fAt at_ so sta sz fl iha isn ru mr mb mu, cI mo 56 (fI T), cI ms 32 (fS (fun j => T (24 + j), nI 0, -1))]) 0 0 2 [some (.ref h), some (.int (nI i))] [] [oMod h mt ty mo md ms mn mi mz mk mw mf li se fAt at_ so sta sz fl iha isn ru mr mb mu, cI mo 56 (fI T), cI ms 32 (bgF T i f)] := by
  intro n
  induction n with
  | zero =>
    intro i hi
    have e : i = 30 := by omega
    subst e
    refine g_iload_n dX7_begins_2 rfl rfl ?_
    refine g_bipush (v := nI 30) dX7_begins_3 rfl (by decide) ?_
    refine g_icmp_geN (t := 29) dX7_begins_5 (by decide) rfl (by omega) (by omega) (fun h5 => ?_) (fun h5 => ?_)
    · skip
      refine g_aload_n dX7_begins_29 rfl rfl ?_
      refine g_get f_X7_19 dX7_begins_30 rfl 0 rfl rfl ?_
      refine g_bipush (v := nI 30) dX7_begins_33 rfl (by decide) ?_
      refine g_iconst (v := nI 0) dX7_begins_35 rfl (by decide) ?_
      refine g_iastN dX7_begins_36 rfl 2 rfl (by omega) (by decide) (rfl) rfl ?_
      refine g_aload_n dX7_begins_37 rfl rfl ?_
      refine g_get f_X7_19 dX7_begins_38 rfl 0 rfl rfl ?_
      refine g_bipush (v := nI 31) dX7_begins_41 rfl (by decide) ?_
      refine g_iconst (v := -1) dX7_begins_43 rfl (by decide) ?_
      refine g_iastN dX7_begins_44 rfl 2 rfl (by omega) (by decide) (rfl) rfl ?_
      refine g_cong (g := (fS (fun j => T (24 + j), nI 0, -1))) 2 rfl (fun j hj => ?_) rfl ?_
      · show (if j = 31 then (-1 : Int32) else if j = 30 then nI 0 else if j < 30 then nI (T (24 + j)) else f j) = (if j < 30 then nI (T (24 + j)) else if j = 30 then nI 0 else -1)
        by_cases e1 : j < 30
        · rw [if_neg (by omega), if_neg (by omega), if_pos e1, if_pos e1]
        · by_cases e2 : j = 30
          · rw [if_neg (by omega), if_pos e2, if_neg e1, if_pos e2]
          · rw [if_pos (by omega), if_neg e1, if_neg e2]
      dsimp only [List.set]
      exact g_vret dX7_begins_45 rfl (Nat.le_refl _) (Nat.le_refl _) (⟨rfl, rfl⟩)
    · exact absurd h5 (by decide)
  | succ n ih =>
    intro i hi
    refine g_iload_n dX7_begins_2 rfl rfl ?_
    refine g_bipush (v := nI 30) dX7_begins_3 rfl (by decide) ?_
    refine g_icmp_geN (t := 29) dX7_begins_5 (by decide) rfl (by omega) (by omega) (fun h5 => ?_) (fun h5 => ?_)
    · exact absurd h5 (by omega)
    · skip
      refine g_aload_n dX7_begins_8 rfl rfl ?_
      refine g_get f_X7_19 dX7_begins_9 rfl 0 rfl rfl ?_
      refine g_iload_n dX7_begins_12 rfl rfl ?_
      refine g_aload_n dX7_begins_13 rfl rfl ?_
      refine g_get f_X7_13 dX7_begins_14 rfl 0 rfl rfl ?_
      refine g_bipush (v := nI 24) dX7_begins_17 rfl (by decide) ?_
      refine g_iload_n dX7_begins_19 rfl rfl ?_
      refine g_iadd dX7_begins_20 rfl (nI_add _ _) ?_
      refine g_ialdN (v := nI _) dX7_begins_21 rfl 1 rfl (by omega) (by decide) (rfl) ?_
      refine g_iastN dX7_begins_22 rfl 2 rfl (by omega) (by decide) (bgF_up T i f) rfl ?_
      refine g_iinc dX7_begins_23 rfl rfl (nI_1 _) (by decide) rfl rfl ?_
      refine g_goto (q := 2) dX7_begins_26 (by decide) ?_
      exact ih (i + 1) (by omega)
set_option maxRecDepth 20000 in
theorem c_X7_begins (sk : Nat → Nat) {h mt mo md ms mn mi mz mk mw mf mr mb mu : Nat} {ty li se fAt at_ so sta sz fl ru : Int32} {iha isn : Bool} {T : Nat → Nat} {f : Nat → Int32}  : Ct sk yX7_begins cX7_begins 2 none 0 0 0 [oMod h mt ty mo md ms mn mi mz mk mw mf li se fAt at_ so sta sz fl iha isn ru mr mb mu, cI mo 56 (fI T), cI ms 32 f] [.ref h] (zD none [oMod h mt ty mo md ms mn mi mz mk mw mf li se fAt at_ so sta sz fl iha isn ru mr mb mu, cI mo 56 (fI T), cI ms 32 (fS (fun j => T (24 + j), nI 0, -1))]) := by
  refine Ct.of (own := RX7) (l := [some (.ref h), none]) (by decide) rfl (Nat.le_of_ble_eq_true rfl) rfl ?_
  refine g_iconst (v := nI 0) dX7_begins_0 rfl (by decide) ?_
  refine g_istore_n dX7_begins_1 rfl (by decide) rfl rfl ?_
  have h0 := lp_begins sk (h := h) (mt := mt) (ty := ty) (mo := mo) (md := md) (ms := ms) (mn := mn) (mi := mi) (mz := mz) (mk := mk) (mw := mw) (mf := mf) (li := li) (se := se) (fAt := fAt) (at_ := at_) (so := so) (sta := sta) (sz := sz) (fl := fl) (ru := ru) (iha := iha) (isn := isn) (mr := mr) (mb := mb) (mu := mu) (T := T) (f := f) 30 0 (by decide)
  rw [bgF_0] at h0
  exact h0
set_option maxRecDepth 20000 in
theorem c_X7_begin (sk : Nat → Nat) {h mt mo md ms mn mi mz mk mw mf mr mb mu : Nat} {ty li se fAt at_ so sta sz fl ru : Int32} {iha isn : Bool} {T : Nat → Nat} {s : PSt}  : Ct sk yX7_begin cX7_begin 2 (some .int) 1 0 0 [oMod h mt ty mo md ms mn mi mz mk mw mf li se fAt at_ so sta sz fl iha isn ru mr mb mu, cI mo 56 (fI T), cI ms 32 (fS s)] [.ref h] (zD (some (.int s.2.1)) [oMod h mt ty mo md ms mn mi mz mk mw mf li se fAt at_ so sta sz fl iha isn ru mr mb mu, cI mo 56 (fI T), cI ms 32 (fS (fun j => T (24 + j), nI 0, -1))]) := by
  refine Ct.of (own := RX7) (l := [some (.ref h), none]) (by decide) rfl (Nat.le_of_ble_eq_true rfl) rfl ?_
  refine g_aload_n dX7_begin_0 rfl rfl ?_
  refine g_get f_X7_19 dX7_begin_1 rfl 0 rfl rfl ?_
  refine g_bipush (v := nI 30) dX7_begin_4 rfl (by decide) ?_
  refine g_ialdN (v := s.2.1) dX7_begin_6 rfl 2 rfl (by omega) (by decide) (rfl) ?_
  refine g_istore_n dX7_begin_7 rfl (by decide) rfl rfl ?_
  refine g_aload_n dX7_begin_8 rfl rfl ?_
  refine g_callV (c_X7_begins sk) m_X7_148 a_X7_begins dX7_begin_9 rfl [0, 1, 2] rfl rfl 0 rfl rfl rfl (by decide) (by decide) (by decide) (by decide) (Nat.le_of_ble_eq_true rfl) (fun r w hK => ?_)
  obtain ⟨rfl, rfl⟩ := hK
  refine ⟨rfl, ?_⟩
  dsimp only [puts, List.set, Option.toList, List.cons_append, List.nil_append, List.append_nil]
  refine g_iload_n dX7_begin_12 rfl rfl ?_
  exact g_iret dX7_begin_13 rfl (Nat.le_refl _) (Nat.le_refl _) (⟨rfl, rfl⟩)
