/-! the reference: the reading, the call pole, the start -/
def rdM (res : (Nat × Nat) ⊕ QS) (W : Int32 → Int32 → Int32 → Int32 → Int32 → Bool → Bool → (Nat → Int32) → AW) : PS := fun q w1 => match res with
  | .inl f => q = some (.int (zb false)) ∧ ∃ (a so sz : Int32) (b1 b2 : Bool) (fd : Nat → Int32), w1 = W a so (nI f.2) sz (nI f.1) b1 b2 fd
  | .inr u => q = some (.int (zb true)) ∧ ∃ (a so sta sz : Int32) (b1 b2 : Bool) (fd : Nat → Int32), w1 = W a so sta sz (nI 0) b1 b2 fd ∧ DR u.1 u.2.1 u.2.2.1 fd
def zfF (i : Nat) (f : Nat → Int32) : Nat → Int32 := fun j => if j < i then nI 0 else f j
theorem zfF_up (i : Nat) (f : Nat → Int32) : upd (zfF i f) i (nI 0) = zfF (i + 1) f := by
  funext j
  unfold upd zfF
  by_cases h : j = i
  · rw [if_pos h, if_pos (show j < i + 1 by omega)]
  · rw [if_neg h]
    by_cases h2 : j < i
    · rw [if_pos h2, if_pos (show j < i + 1 by omega)]
    · rw [if_neg h2, if_neg (show ¬ j < i + 1 by omega)]
theorem zfF_0 (f : Nat → Int32) : zfF 0 f = f := funext (fun j => if_neg (Nat.not_lt_zero j))
theorem DR_0 : DR q0R.1 q0R.2.1 q0R.2.2.1 (upd (upd (upd (fun _ => nI 0) 2 (nI 100)) 3 (nI 1)) 4 (nI 1)) := by
  refine ⟨fun j hj => ?_, fun i hi => b_0 i, rfl⟩
  show (if j = 4 then nI 1 else if j = 3 then nI 1 else if j = 2 then nI 100 else nI 0) = nI (if j = 2 then 100 else if j = 3 then 1 else if j = 4 then 1 else 0)
  by_cases e4 : j = 4
  · subst e4; rfl
  · by_cases e3 : j = 3
    · subst e3; rfl
    · by_cases e2 : j = 2
      · subst e2; rfl
      · rw [if_neg e4, if_neg e3, if_neg e2, if_neg e2, if_neg e3, if_neg e4]
theorem soI_0 {tx : Nat → Nat} {len p : Nat} : nI (soN tx len p) = 0 ↔ len ≤ p := by
  rw [← soN_0]
  have h := soN_le tx len p
  exact nI_eq (b := 0) (by omega) (by decide)
set_option maxRecDepth 20000 in
theorem lp_reads67 (sk : Nat → Nat) {h mt mo md ms mn mi mz mk mw mf mr mb mu : Nat} {li se fAt ru : Int32} {len : Nat} {tx : Nat → Nat} {fx : Nat → Int32} {res : (Nat × Nat) ⊕ QS} (hlen : len ≤ 400) (htx : ∀ j, j < len → fx j = nI (tx j) ∧ tx j < 256) : ∀ (n p1 : Nat) (q : QS) (fd : Nat → Int32) (l1 : Option Value), p1 ≤ len → len ≤ p1 + n → QB q → DR q.1 q.2.1 q.2.2.1 fd → parseR tx len n q p1 = res → GG sk RX7 yX7_reads cX7_reads 2 (some .boolean) 6 0 0 (rdM res (fun a so sta sz fl b1 b2 fd => [oMod h mt (nI len) mo md ms mn mi mz mk mw mf li se fAt a so sta sz fl b1 b2 ru mr mb mu, cI mt 400 fx, cI md 56 fd])) 0 0 67 [some (.ref h), l1] [] [oMod h mt (nI len) mo md ms mn mi mz mk mw mf li se fAt (nI (tokE tx len p1)) (nI (soN tx len p1)) (nI p1) (nI (tokE tx len p1 - p1)) (nI 0) q.2.2.2.1 q.2.2.2.2 ru mr mb mu, cI mt 400 fx, cI md 56 fd] := by
  intro n
  induction n with
  | zero =>
    intro p1 q fd l1 hp hn hQ hD hZ
    rw [parseR] at hZ
    subst hZ
    refine g_aload_n dX7_reads_67 rfl rfl ?_
    refine g_get f_X7_85 dX7_reads_68 rfl 0 rfl rfl ?_
    refine g_if_eq (t := 90) dX7_reads_71 (by decide) rfl (fun h71 => ?_) (fun h71 => ?_)
    · skip
      refine g_iconst (v := nI 1) dX7_reads_90 rfl (by decide) ?_
      exact g_zret (b := true) dX7_reads_91 rfl (Nat.le_refl _) (Nat.le_refl _) (⟨rfl, _, _, _, _, _, _, _, rfl, hD⟩)
    · exact absurd (soI_0.mpr (by omega)) h71
  | succ n ih =>
    intro p1 q fd l1 hp hn hQ hD hZ
    rw [parseR] at hZ
    refine g_aload_n dX7_reads_67 rfl rfl ?_
    refine g_get f_X7_85 dX7_reads_68 rfl 0 rfl rfl ?_
    refine g_if_eq (t := 90) dX7_reads_71 (by decide) rfl (fun h71 => ?_) (fun h71 => ?_)
    · rw [if_neg (by have := soI_0.mp h71; omega)] at hZ
      subst hZ
      refine g_iconst (v := nI 1) dX7_reads_90 rfl (by decide) ?_
      exact g_zret (b := true) dX7_reads_91 rfl (Nat.le_refl _) (Nat.le_refl _) (⟨rfl, _, _, _, _, _, _, _, rfl, hD⟩)
    · have hlt : p1 < len := Nat.not_le.mp (fun z => h71 (soI_0.mpr z))
      rw [if_pos hlt] at hZ
      obtain ⟨T, ft, fc, hm, sn⟩ := q
      rcases hc : clauseR tx len (T, ft, fc, hm, sn) p1 with f | ⟨q2, p⟩
      · rw [hc] at hZ
        dsimp only at hZ
        subst hZ
        refine g_aload_n dX7_reads_74 rfl rfl ?_
        refine g_callV (c_X7_readsClause sk hlen htx hp hQ hD hc) m_X7_145 a_X7_readsClause dX7_reads_75 rfl [0, 1, 2] rfl rfl 0 rfl rfl rfl (by decide) (by decide) (by decide) (by decide) (Nat.le_of_ble_eq_true rfl) (fun r w hK => ?_)
        obtain ⟨rfl, a1, so1, sz1, b1, b2, fd1, rfl⟩ := hK
        refine ⟨rfl, ?_⟩
        dsimp only [puts, List.set, Option.toList, List.cons_append, List.nil_append, List.append_nil]
        refine g_if_neB (t := 83) dX7_reads_78 (by decide) rfl (fun h78 => ?_) (fun h78 => ?_)
        · exact absurd h78 (by decide)
        · skip
          refine g_iconst (v := nI 0) dX7_reads_81 rfl (by decide) ?_
          exact g_zret (b := false) dX7_reads_82 rfl (Nat.le_refl _) (Nat.le_refl _) (⟨rfl, _, _, _, _, _, _, rfl⟩)
      · rw [hc] at hZ
        dsimp only at hZ
        obtain ⟨hQ2, hp1, hp2⟩ := clauseR_ok hQ hp hc
        have hb := runTo_le isB tx hp2
        refine g_aload_n dX7_reads_74 rfl rfl ?_
        refine g_callV (c_X7_readsClause sk hlen htx hp hQ hD hc) m_X7_145 a_X7_readsClause dX7_reads_75 rfl [0, 1, 2] rfl rfl 0 rfl rfl rfl (by decide) (by decide) (by decide) (by decide) (Nat.le_of_ble_eq_true rfl) (fun r w hK => ?_)
        obtain ⟨rfl, so1, sta1, sz1, fd1, rfl, hD1⟩ := hK
        refine ⟨rfl, ?_⟩
        dsimp only [puts, List.set, Option.toList, List.cons_append, List.nil_append, List.append_nil]
        refine g_if_neB (t := 83) dX7_reads_78 (by decide) rfl (fun h78 => ?_) (fun h78 => ?_)
        · skip
          refine g_aload_n dX7_reads_83 rfl rfl ?_
          refine g_callV (c_X7_token sk (p := p) hlen htx hp2) m_X7_96 a_X7_token dX7_reads_84 rfl [0, 1] rfl rfl 0 rfl rfl rfl (by decide) (by decide) (by decide) (by decide) (Nat.le_of_ble_eq_true rfl) (fun r w hK => ?_)
          obtain ⟨rfl, rfl⟩ := hK
          refine ⟨rfl, ?_⟩
          dsimp only [puts, List.set, Option.toList, List.cons_append, List.nil_append, List.append_nil]
          refine g_goto (q := 67) dX7_reads_87 (by decide) ?_
          exact ih _ q2 _ _ hb.2 (by omega) hQ2 hD1 hZ
        · exact absurd h78 (by decide)
set_option maxRecDepth 20000 in
theorem lp_reads2 (sk : Nat → Nat) {h mt mo md ms mn mi mz mk mw mf mr mb mu : Nat} {li se fAt ru : Int32} {iha isn : Bool} {len : Nat} {tx : Nat → Nat} {fx : Nat → Int32} {at_ so sta sz fl : Int32} {fd : Nat → Int32} {res : (Nat × Nat) ⊕ QS} (hlen : len ≤ 400) (htx : ∀ j, j < len → fx j = nI (tx j) ∧ tx j < 256) (hres : readR tx len = res) : ∀ (n i : Nat), i + n = 56 → GG sk RX7 yX7_reads cX7_reads 2 (some .boolean) 6 0 0 (rdM res (fun a so sta sz fl b1 b2 fd => [oMod h mt (nI len) mo md ms mn mi mz mk mw mf li se fAt a so sta sz fl b1 b2 ru mr mb mu, cI mt 400 fx, cI md 56 fd])) 0 0 2 [some (.ref h), some (.int (nI i))] [] [oMod h mt (nI len) mo md ms mn mi mz mk mw mf li se fAt at_ so sta sz fl iha isn ru mr mb mu, cI mt 400 fx, cI md 56 (zfF i fd)] := by
  have hb0 := runTo_le isB tx (Nat.zero_le len)
  intro n
  induction n with
  | zero =>
    intro i hi
    have e : i = 56 := by omega
    subst e
    refine g_cong (g := fun _ => nI 0) 2 rfl (fun j hj => if_pos hj) rfl ?_
    dsimp only [List.set]
    refine g_iload_n dX7_reads_2 rfl rfl ?_
    refine g_bipush (v := nI 56) dX7_reads_3 rfl (by decide) ?_
    refine g_icmp_geN (t := 21) dX7_reads_5 (by decide) rfl (by omega) (by omega) (fun h5 => ?_) (fun h5 => ?_)
    · skip
      refine g_aload_n dX7_reads_21 rfl rfl ?_
      refine g_get f_X7_16 dX7_reads_22 rfl 0 rfl rfl ?_
      refine g_iconst (v := nI 2) dX7_reads_25 rfl (by decide) ?_
      refine g_bipush (v := nI 100) dX7_reads_26 rfl (by decide) ?_
      refine g_iastN dX7_reads_28 rfl 2 rfl (by omega) (by decide) (rfl) rfl ?_
      refine g_aload_n dX7_reads_29 rfl rfl ?_
      refine g_get f_X7_16 dX7_reads_30 rfl 0 rfl rfl ?_
      refine g_iconst (v := nI 3) dX7_reads_33 rfl (by decide) ?_
      refine g_iconst (v := nI 1) dX7_reads_34 rfl (by decide) ?_
      refine g_iastN dX7_reads_35 rfl 2 rfl (by omega) (by decide) (rfl) rfl ?_
      refine g_aload_n dX7_reads_36 rfl rfl ?_
      refine g_get f_X7_16 dX7_reads_37 rfl 0 rfl rfl ?_
      refine g_iconst (v := nI 4) dX7_reads_40 rfl (by decide) ?_
      refine g_iconst (v := nI 1) dX7_reads_41 rfl (by decide) ?_
      refine g_iastN dX7_reads_42 rfl 2 rfl (by omega) (by decide) (rfl) rfl ?_
      refine g_aload_n dX7_reads_43 rfl rfl ?_
      refine g_iconst (v := nI 0) dX7_reads_44 rfl (by decide) ?_
      refine g_putZ (b := false) f_X7_109 dX7_reads_45 rfl 0 rfl (Nat.le_of_ble_eq_true rfl) rfl ?_
      dsimp only [List.set]
      refine g_aload_n dX7_reads_48 rfl rfl ?_
      refine g_iconst (v := nI 0) dX7_reads_49 rfl (by decide) ?_
      refine g_putZ (b := false) f_X7_113 dX7_reads_50 rfl 0 rfl (Nat.le_of_ble_eq_true rfl) rfl ?_
      dsimp only [List.set]
      refine g_aload_n dX7_reads_53 rfl rfl ?_
      refine g_iconst (v := nI 0) dX7_reads_54 rfl (by decide) ?_
      refine g_putI f_X7_93 dX7_reads_55 rfl 0 rfl (Nat.le_of_ble_eq_true rfl) rfl ?_
      dsimp only [List.set]
      refine g_aload_n dX7_reads_58 rfl rfl ?_
      refine g_iconst (v := nI 0) dX7_reads_59 rfl (by decide) ?_
      refine g_putI f_X7_72 dX7_reads_60 rfl 0 rfl (Nat.le_of_ble_eq_true rfl) rfl ?_
      dsimp only [List.set]
      refine g_aload_n dX7_reads_63 rfl rfl ?_
      refine g_callV (c_X7_token sk (p := 0) hlen htx (Nat.zero_le len)) m_X7_96 a_X7_token dX7_reads_64 rfl [0, 1] rfl rfl 0 rfl rfl rfl (by decide) (by decide) (by decide) (by decide) (Nat.le_of_ble_eq_true rfl) (fun r w hK => ?_)
      obtain ⟨rfl, rfl⟩ := hK
      refine ⟨rfl, ?_⟩
      dsimp only [puts, List.set, Option.toList, List.cons_append, List.nil_append, List.append_nil]
      exact lp_reads67 sk hlen htx len _ q0R _ _ hb0.2 (by omega) q0QB DR_0 hres
    · exact absurd h5 (by decide)
  | succ n ih =>
    intro i hi
    refine g_iload_n dX7_reads_2 rfl rfl ?_
    refine g_bipush (v := nI 56) dX7_reads_3 rfl (by decide) ?_
    refine g_icmp_geN (t := 21) dX7_reads_5 (by decide) rfl (by omega) (by omega) (fun h5 => ?_) (fun h5 => ?_)
    · exact absurd h5 (by omega)
    · skip
      refine g_aload_n dX7_reads_8 rfl rfl ?_
      refine g_get f_X7_16 dX7_reads_9 rfl 0 rfl rfl ?_
      refine g_iload_n dX7_reads_12 rfl rfl ?_
      refine g_iconst (v := nI 0) dX7_reads_13 rfl (by decide) ?_
      refine g_iastN dX7_reads_14 rfl 2 rfl (by omega) (by decide) (zfF_up i fd) rfl ?_
      refine g_iinc dX7_reads_15 rfl rfl (nI_1 _) (by decide) rfl rfl ?_
      refine g_goto (q := 2) dX7_reads_18 (by decide) ?_
      exact ih (i + 1) (by omega)
set_option maxRecDepth 20000 in
theorem c_X7_reads (sk : Nat → Nat) {h mt mo md ms mn mi mz mk mw mf mr mb mu : Nat} {li se fAt ru : Int32} {iha isn : Bool} {len : Nat} {tx : Nat → Nat} {fx : Nat → Int32} {at_ so sta sz fl : Int32} {fd : Nat → Int32} {res : (Nat × Nat) ⊕ QS} (hlen : len ≤ 400) (htx : ∀ j, j < len → fx j = nI (tx j) ∧ tx j < 256) (hres : readR tx len = res) : Ct sk yX7_reads cX7_reads 2 (some .boolean) 6 0 0 [oMod h mt (nI len) mo md ms mn mi mz mk mw mf li se fAt at_ so sta sz fl iha isn ru mr mb mu, cI mt 400 fx, cI md 56 fd] [.ref h] (rdM res (fun a so sta sz fl b1 b2 fd => [oMod h mt (nI len) mo md ms mn mi mz mk mw mf li se fAt a so sta sz fl b1 b2 ru mr mb mu, cI mt 400 fx, cI md 56 fd])) := by
  refine Ct.of (own := RX7) (l := [some (.ref h), none]) (by decide) rfl (Nat.le_of_ble_eq_true rfl) rfl ?_
  refine g_iconst (v := nI 0) dX7_reads_0 rfl (by decide) ?_
  refine g_istore_n dX7_reads_1 rfl (by decide) rfl rfl ?_
  have h0 := lp_reads2 sk (h := h) (mt := mt) (mo := mo) (md := md) (ms := ms) (mn := mn) (mi := mi) (mz := mz) (mk := mk) (mw := mw) (mf := mf) (mr := mr) (mb := mb) (mu := mu) (li := li) (se := se) (fAt := fAt) (ru := ru) (iha := iha) (isn := isn) (len := len) (tx := tx) (fx := fx) (at_ := at_) (so := so) (sta := sta) (sz := sz) (fl := fl) (fd := fd) hlen htx hres 56 0 (by decide)
  rw [zfF_0] at h0
  exact h0
set_option maxRecDepth 20000 in
theorem lp_tells (sk : Nat → Nat) {h mt mo md ms mn mi mz mk mw mf mr mb mu : Nat} {ty li se fAt at_ so sta sz fl ru : Int32} {iha isn : Bool} {T : Nat → Nat} {fo fs fk : Nat → Int32}  : ∀ (n i : Nat), i + n = 56 → GG sk RX7 yX7_tells cX7_tells 2 none 1 0 0 (zD none [oMod h mt ty mo md ms mn mi mz mk mw mf (nI 0) se fAt at_ so sta sz fl iha isn ru mr mb mu, cI mo 56 (fI T), cI md 56 (fI T), cI ms 32 (fS (fun j => T (24 + j), nI 0, -1)), cZ mk 2 (fun _ => zb false)]) 0 0 2 [some (.ref h), some (.int (nI i))] [] [oMod h mt ty mo md ms mn mi mz mk mw mf li se fAt at_ so sta sz fl iha isn ru mr mb mu, cI mo 56 (cpF_lays i (fI T) fo), cI md 56 (fI T), cI ms 32 fs, cZ mk 2 fk] := by
  intro n
  induction n with
  | zero =>
    intro i hi
    have e : i = 56 := by omega
    subst e
    refine g_cong (g := fI T) 1 rfl (fun j hj => if_pos hj) rfl ?_
    dsimp only [List.set]
    refine g_iload_n dX7_tells_2 rfl rfl ?_
    refine g_bipush (v := nI 56) dX7_tells_3 rfl (by decide) ?_
    refine g_icmp_geN (t := 26) dX7_tells_5 (by decide) rfl (by omega) (by omega) (fun h5 => ?_) (fun h5 => ?_)
    · skip
      refine g_aload_n dX7_tells_26 rfl rfl ?_
      refine g_callV (c_X7_begins sk) m_X7_148 a_X7_begins dX7_tells_27 rfl [0, 1, 3] rfl rfl 0 rfl rfl rfl (by decide) (by decide) (by decide) (by decide) (Nat.le_of_ble_eq_true rfl) (fun r w hK => ?_)
      obtain ⟨rfl, rfl⟩ := hK
      refine ⟨rfl, ?_⟩
      dsimp only [puts, List.set, Option.toList, List.cons_append, List.nil_append, List.append_nil]
      refine g_aload_n dX7_tells_30 rfl rfl ?_
      refine g_iconst (v := nI 0) dX7_tells_31 rfl (by decide) ?_
      refine g_putI f_X7_151 dX7_tells_32 rfl 0 rfl (Nat.le_of_ble_eq_true rfl) rfl ?_
      dsimp only [List.set]
      refine g_aload_n dX7_tells_35 rfl rfl ?_
      refine g_get f_X7_31 dX7_tells_36 rfl 0 rfl rfl ?_
      refine g_iconst (v := nI 0) dX7_tells_39 rfl (by decide) ?_
      refine g_iconst (v := nI 0) dX7_tells_40 rfl (by decide) ?_
      refine g_zastN (b := false) dX7_tells_41 rfl 4 rfl (by omega) (by decide) (rfl) rfl ?_
      refine g_aload_n dX7_tells_42 rfl rfl ?_
      refine g_get f_X7_31 dX7_tells_43 rfl 0 rfl rfl ?_
      refine g_iconst (v := nI 1) dX7_tells_46 rfl (by decide) ?_
      refine g_iconst (v := nI 0) dX7_tells_47 rfl (by decide) ?_
      refine g_zastN (b := false) dX7_tells_48 rfl 4 rfl (by omega) (by decide) (rfl) rfl ?_
      refine g_cong (g := fun _ => zb false) 4 rfl (fun j hj => by unfold upd; rcases (show j = 0 ∨ j = 1 by omega) with rfl | rfl <;> rfl) rfl ?_
      dsimp only [List.set]
      exact g_vret dX7_tells_49 rfl (Nat.le_refl _) (Nat.le_refl _) (⟨rfl, rfl⟩)
    · exact absurd h5 (by decide)
  | succ n ih =>
    intro i hi
    refine g_iload_n dX7_tells_2 rfl rfl ?_
    refine g_bipush (v := nI 56) dX7_tells_3 rfl (by decide) ?_
    refine g_icmp_geN (t := 26) dX7_tells_5 (by decide) rfl (by omega) (by omega) (fun h5 => ?_) (fun h5 => ?_)
    · exact absurd h5 (by omega)
    · skip
      refine g_aload_n dX7_tells_8 rfl rfl ?_
      refine g_get f_X7_13 dX7_tells_9 rfl 0 rfl rfl ?_
      refine g_iload_n dX7_tells_12 rfl rfl ?_
      refine g_aload_n dX7_tells_13 rfl rfl ?_
      refine g_get f_X7_16 dX7_tells_14 rfl 0 rfl rfl ?_
      refine g_iload_n dX7_tells_17 rfl rfl ?_
      refine g_ialdN (v := fI T i) dX7_tells_18 rfl 2 rfl (by omega) (by decide) (rfl) ?_
      refine g_iastN dX7_tells_19 rfl 1 rfl (by omega) (by decide) (cpF_up i (fI T) fo) rfl ?_
      refine g_iinc dX7_tells_20 rfl rfl (nI_1 _) (by decide) rfl rfl ?_
      refine g_goto (q := 2) dX7_tells_23 (by decide) ?_
      exact ih (i + 1) (by omega)
set_option maxRecDepth 20000 in
theorem c_X7_tells (sk : Nat → Nat) {h mt mo md ms mn mi mz mk mw mf mr mb mu : Nat} {ty li se fAt at_ so sta sz fl ru : Int32} {iha isn : Bool} {T : Nat → Nat} {fo fs fk : Nat → Int32}  : Ct sk yX7_tells cX7_tells 2 none 1 0 0 [oMod h mt ty mo md ms mn mi mz mk mw mf li se fAt at_ so sta sz fl iha isn ru mr mb mu, cI mo 56 fo, cI md 56 (fI T), cI ms 32 fs, cZ mk 2 fk] [.ref h] (zD none [oMod h mt ty mo md ms mn mi mz mk mw mf (nI 0) se fAt at_ so sta sz fl iha isn ru mr mb mu, cI mo 56 (fI T), cI md 56 (fI T), cI ms 32 (fS (fun j => T (24 + j), nI 0, -1)), cZ mk 2 (fun _ => zb false)]) := by
  refine Ct.of (own := RX7) (l := [some (.ref h), none]) (by decide) rfl (Nat.le_of_ble_eq_true rfl) rfl ?_
  refine g_iconst (v := nI 0) dX7_tells_0 rfl (by decide) ?_
  refine g_istore_n dX7_tells_1 rfl (by decide) rfl rfl ?_
  have h0 := lp_tells sk (h := h) (mt := mt) (mo := mo) (md := md) (ms := ms) (mn := mn) (mi := mi) (mz := mz) (mk := mk) (mw := mw) (mf := mf) (mr := mr) (mb := mb) (mu := mu) (ty := ty) (li := li) (se := se) (fAt := fAt) (at_ := at_) (so := so) (sta := sta) (sz := sz) (fl := fl) (ru := ru) (iha := iha) (isn := isn) (T := T) (fo := fo) (fs := fs) (fk := fk) 56 0 (by decide)
  rw [cpF_0] at h0
  exact h0
theorem fI_of (f : Nat → Int32) : fI (fun j => (f j).toBitVec.toNat) = f := by
  funext j
  apply Int32.toBitVec_inj.mp
  show BitVec.ofNat 32 _ = _
  rw [BitVec.ofNat_toNat, BitVec.setWidth_eq]
/-- the told numbers, out of the draft -/
def tdR (T : Nat → Nat) (fd : Nat → Int32) : Nat → Nat := fun j => if j < 54 then T j else (fd j).toBitVec.toNat
theorem tdR_fI {T : Nat → Nat} {ft : Nat → Bool} {fc : Nat} {fd : Nat → Int32} (h : DR T ft fc fd) : fI (tdR T fd) = fd := by
  funext j
  show nI (tdR T fd j) = fd j
  unfold tdR
  by_cases e : j < 54
  · rw [if_pos e]; exact (h.1 j e).symm
  · rw [if_neg e]; exact congrFun (fI_of fd) j
set_option maxRecDepth 20000 in
theorem c_X7_pole (sk : Nat → Nat) {h mt mo md ms mn mi mz mk mw mf mr mb mu : Nat} {li se fAt at_ so sta sz fl ru : Int32} {iha isn : Bool} {len : Nat} {tx : Nat → Nat} {fx : Nat → Int32} {fo fd fs fk : Nat → Int32} {res : (Nat × Nat) ⊕ QS} (hlen : len ≤ 400) (htx : ∀ j, j < len → fx j = nI (tx j) ∧ tx j < 256) (hres : readR tx len = res) : Ct sk yX7_pole cX7_pole 2 (some .int) 7 0 0 [oMod h mt (nI len) mo md ms mn mi mz mk mw mf li se fAt at_ so sta sz fl iha isn ru mr mb mu, cI mt 400 fx, cI mo 56 fo, cI md 56 fd, cI ms 32 fs, cZ mk 2 fk] [.ref h] (fun q w1 => match res with | .inl f => q = some (.int (-10 - nI f.1)) ∧ ∃ (a2 so2 sz2 : Int32) (b1 b2 : Bool) (fd2 : Nat → Int32), w1 = [oMod h mt (nI 0) mo md ms mn mi mz mk mw mf li se (nI f.2) a2 so2 (nI f.2) sz2 (nI f.1) b1 b2 ru mr mb mu, cI mt 400 fx, cI mo 56 fo, cI md 56 fd2, cI ms 32 fs, cZ mk 2 fk] | .inr u => q = some (.int (nI (u.1 0))) ∧ ∃ (a2 so2 sta2 sz2 fl2 : Int32) (b1 b2 : Bool) (T2 : Nat → Nat), w1 = [oMod h mt (nI 0) mo md ms mn mi mz mk mw mf (nI 0) se (-1) a2 so2 sta2 sz2 fl2 b1 b2 ru mr mb mu, cI mt 400 fx, cI mo 56 (fI T2), cI md 56 (fI T2), cI ms 32 (fS (fun j => T2 (24 + j), nI 0, -1)), cZ mk 2 (fun _ => zb false)] ∧ ∀ j, j < 54 → T2 j = u.1 j) := by
  refine Ct.of (own := RX7) (l := [some (.ref h), none]) (by decide) rfl (Nat.le_of_ble_eq_true rfl) rfl ?_
  cases res with
  | inl f =>
    refine g_aload_n dX7_pole_0 rfl rfl ?_
    refine g_callV (c_X7_reads sk hlen htx hres) m_X7_54 a_X7_reads dX7_pole_1 rfl [0, 1, 3] rfl rfl 0 rfl rfl rfl (by decide) (by decide) (by decide) (by decide) (Nat.le_of_ble_eq_true rfl) (fun r w hK => ?_)
    obtain ⟨rfl, a1, so1, sz1, b1, b2, fd1, rfl⟩ := hK
    refine ⟨rfl, ?_⟩
    dsimp only [puts, List.set, Option.toList, List.cons_append, List.nil_append, List.append_nil]
    refine g_istore_n dX7_pole_4 rfl (by decide) rfl rfl ?_
    refine g_aload_n dX7_pole_5 rfl rfl ?_
    refine g_iconst (v := nI 0) dX7_pole_6 rfl (by decide) ?_
    refine g_putI f_X7_66 dX7_pole_7 rfl 0 rfl (Nat.le_of_ble_eq_true rfl) rfl ?_
    dsimp only [List.set]
    refine g_aload_n dX7_pole_10 rfl rfl ?_
    refine g_iload_n dX7_pole_11 rfl rfl ?_
    refine g_if_eqB (t := 19) dX7_pole_12 (by decide) rfl (fun h12 => ?_) (fun h12 => ?_)
    · skip
      refine g_aload_n dX7_pole_19 rfl rfl ?_
      refine g_get f_X7_79 dX7_pole_20 rfl 0 rfl rfl ?_
      refine g_putI f_X7_41 dX7_pole_23 rfl 0 rfl (Nat.le_of_ble_eq_true rfl) rfl ?_
      dsimp only [List.set]
      refine g_iload_n dX7_pole_26 rfl rfl ?_
      refine g_if_neB (t := 38) dX7_pole_27 (by decide) rfl (fun h27 => ?_) (fun h27 => ?_)
      · exact absurd h27 (by decide)
      · skip
        refine g_bipush (v := -10) dX7_pole_30 rfl (by decide) ?_
        refine g_aload_n dX7_pole_32 rfl rfl ?_
        refine g_get f_X7_93 dX7_pole_33 rfl 0 rfl rfl ?_
        refine g_isub dX7_pole_36 rfl rfl ?_
        exact g_iret dX7_pole_37 rfl (Nat.le_refl _) (Nat.le_refl _) (⟨rfl, _, _, _, _, _, _, rfl⟩)
    · exact absurd h12 (by decide)
  | inr u =>
    refine g_aload_n dX7_pole_0 rfl rfl ?_
    refine g_callV (c_X7_reads sk hlen htx hres) m_X7_54 a_X7_reads dX7_pole_1 rfl [0, 1, 3] rfl rfl 0 rfl rfl rfl (by decide) (by decide) (by decide) (by decide) (Nat.le_of_ble_eq_true rfl) (fun r w hK => ?_)
    obtain ⟨rfl, a1, so1, sta1, sz1, b1, b2, fd1, rfl, hD⟩ := hK
    refine ⟨rfl, ?_⟩
    rw [← tdR_fI hD]
    dsimp only [puts, List.set, Option.toList, List.cons_append, List.nil_append, List.append_nil]
    refine g_istore_n dX7_pole_4 rfl (by decide) rfl rfl ?_
    refine g_aload_n dX7_pole_5 rfl rfl ?_
    refine g_iconst (v := nI 0) dX7_pole_6 rfl (by decide) ?_
    refine g_putI f_X7_66 dX7_pole_7 rfl 0 rfl (Nat.le_of_ble_eq_true rfl) rfl ?_
    dsimp only [List.set]
    refine g_aload_n dX7_pole_10 rfl rfl ?_
    refine g_iload_n dX7_pole_11 rfl rfl ?_
    refine g_if_eqB (t := 19) dX7_pole_12 (by decide) rfl (fun h12 => ?_) (fun h12 => ?_)
    · exact absurd h12 (by decide)
    · skip
      refine g_iconst (v := -1) dX7_pole_15 rfl (by decide) ?_
      refine g_goto (q := 23) dX7_pole_16 (by decide) ?_
      refine g_putI f_X7_41 dX7_pole_23 rfl 0 rfl (Nat.le_of_ble_eq_true rfl) rfl ?_
      dsimp only [List.set]
      refine g_iload_n dX7_pole_26 rfl rfl ?_
      refine g_if_neB (t := 38) dX7_pole_27 (by decide) rfl (fun h27 => ?_) (fun h27 => ?_)
      · skip
        refine g_aload_n dX7_pole_38 rfl rfl ?_
        refine g_callV (c_X7_tells sk) m_X7_58 a_X7_tells dX7_pole_39 rfl [0, 2, 3, 4, 5] rfl rfl 0 rfl rfl rfl (by decide) (by decide) (by decide) (by decide) (Nat.le_of_ble_eq_true rfl) (fun r w hK => ?_)
        obtain ⟨rfl, rfl⟩ := hK
        refine ⟨rfl, ?_⟩
        dsimp only [puts, List.set, Option.toList, List.cons_append, List.nil_append, List.append_nil]
        refine g_aload_n dX7_pole_42 rfl rfl ?_
        refine g_get f_X7_13 dX7_pole_43 rfl 0 rfl rfl ?_
        refine g_iconst (v := nI 0) dX7_pole_46 rfl (by decide) ?_
        refine g_ialdN (v := nI (tdR u.1 fd1 0)) dX7_pole_47 rfl 2 rfl (by omega) (by decide) (rfl) ?_
        exact g_iret dX7_pole_48 rfl (Nat.le_refl _) (Nat.le_refl _) (⟨rfl, _, _, _, _, _, _, _, _, rfl, fun j hj => if_pos hj⟩)
      · exact absurd h27 (by decide)
set_option maxRecDepth 20000 in
theorem c_X7_init (sk : Nat → Nat) {h : Nat} : Ct sk yX7_init cX7_init 1 none 7 13 686 [(h, .inr (7, [.null, .int 0, .null, .null, .null, .null, .null, .null, .null, .null, .null, .int 0, .int 0, .int 0, .int 0, .int 0, .int 0, .int 0, .int 0, .int 0, .int 0, .int 0, .null, .null, .null]))] [.ref h] (fun q w1 => q = none ∧ ∃ (mt mo md ms mn mi mz mk mw mf mr mb mu : Nat) (a2 so2 sta2 sz2 fl2 : Int32) (b1 b2 : Bool) (T2 : Nat → Nat), w1 = [oMod h mt (nI 0) mo md ms mn mi mz mk mw mf (nI 0) (nI 0) (-1) a2 so2 sta2 sz2 fl2 b1 b2 (nI 0) mr mb mu, cI mt 400 (fun _ => nI 0), cI mo 56 (fI T2), cI md 56 (fI T2), cI ms 32 (fS (fun j => T2 (24 + j), nI 0, -1)), cI mn 32 (fun _ => nI 0), cI mi 64 (fun _ => nI 0), cI mz 2 (fun _ => nI 0), cZ mk 2 (fun _ => zb false), cI mw 12 (fun _ => nI 0), cI mf 12 (fun _ => nI 0), cI mr 6 (fun _ => nI 0), cI mb 6 (fun _ => nI 0), cI mu 6 (fun _ => nI 0)] ∧ ∀ j, j < 54 → T2 j = q0R.1 j) := by
  refine Ct.of (own := RX7) (l := [some (.ref h)]) (by decide) rfl (Nat.le_of_ble_eq_true rfl) rfl ?_
  refine g_aload_n dX7_init_0 rfl rfl ?_
  refine g_obj dX7_init_1 rfl m_X7_1 (by decide) (Nat.le_of_ble_eq_true rfl) ?_
  refine g_aload_n dX7_init_4 rfl rfl ?_
  refine g_sipush (v := nI 400) dX7_init_5 rfl (by decide) ?_
  refine g_newI (by decide) dX7_init_8 rfl (by decide) (by decide) (fun a1 => ?_)
  dsimp only [List.cons_append, List.nil_append]
  refine g_putF f_X7_7 rfl (fun _ _ _ z => by cases z; rfl) dX7_init_10 rfl 0 rfl rfl rfl (Nat.le_of_ble_eq_true rfl) rfl ?_
  dsimp only [List.set]
  refine g_aload_n dX7_init_13 rfl rfl ?_
  refine g_bipush (v := nI 56) dX7_init_14 rfl (by decide) ?_
  refine g_newI (by decide) dX7_init_16 rfl (by decide) (by decide) (fun a2 => ?_)
  dsimp only [List.cons_append, List.nil_append]
  refine g_putF f_X7_13 rfl (fun _ _ _ z => by cases z; rfl) dX7_init_18 rfl 0 rfl rfl rfl (Nat.le_of_ble_eq_true rfl) rfl ?_
  dsimp only [List.set]
  refine g_aload_n dX7_init_21 rfl rfl ?_
  refine g_bipush (v := nI 56) dX7_init_22 rfl (by decide) ?_
  refine g_newI (by decide) dX7_init_24 rfl (by decide) (by decide) (fun a3 => ?_)
  dsimp only [List.cons_append, List.nil_append]
  refine g_putF f_X7_16 rfl (fun _ _ _ z => by cases z; rfl) dX7_init_26 rfl 0 rfl rfl rfl (Nat.le_of_ble_eq_true rfl) rfl ?_
  dsimp only [List.set]
  refine g_aload_n dX7_init_29 rfl rfl ?_
  refine g_bipush (v := nI 32) dX7_init_30 rfl (by decide) ?_
  refine g_newI (by decide) dX7_init_32 rfl (by decide) (by decide) (fun a4 => ?_)
  dsimp only [List.cons_append, List.nil_append]
  refine g_putF f_X7_19 rfl (fun _ _ _ z => by cases z; rfl) dX7_init_34 rfl 0 rfl rfl rfl (Nat.le_of_ble_eq_true rfl) rfl ?_
  dsimp only [List.set]
  refine g_aload_n dX7_init_37 rfl rfl ?_
  refine g_bipush (v := nI 32) dX7_init_38 rfl (by decide) ?_
  refine g_newI (by decide) dX7_init_40 rfl (by decide) (by decide) (fun a5 => ?_)
  dsimp only [List.cons_append, List.nil_append]
  refine g_putF f_X7_22 rfl (fun _ _ _ z => by cases z; rfl) dX7_init_42 rfl 0 rfl rfl rfl (Nat.le_of_ble_eq_true rfl) rfl ?_
  dsimp only [List.set]
  refine g_aload_n dX7_init_45 rfl rfl ?_
  refine g_bipush (v := nI 64) dX7_init_46 rfl (by decide) ?_
  refine g_newI (by decide) dX7_init_48 rfl (by decide) (by decide) (fun a6 => ?_)
  dsimp only [List.cons_append, List.nil_append]
  refine g_putF f_X7_25 rfl (fun _ _ _ z => by cases z; rfl) dX7_init_50 rfl 0 rfl rfl rfl (Nat.le_of_ble_eq_true rfl) rfl ?_
  dsimp only [List.set]
  refine g_aload_n dX7_init_53 rfl rfl ?_
  refine g_iconst (v := nI 2) dX7_init_54 rfl (by decide) ?_
  refine g_newI (by decide) dX7_init_55 rfl (by decide) (by decide) (fun a7 => ?_)
  dsimp only [List.cons_append, List.nil_append]
  refine g_putF f_X7_28 rfl (fun _ _ _ z => by cases z; rfl) dX7_init_57 rfl 0 rfl rfl rfl (Nat.le_of_ble_eq_true rfl) rfl ?_
  dsimp only [List.set]
  refine g_aload_n dX7_init_60 rfl rfl ?_
  refine g_iconst (v := nI 2) dX7_init_61 rfl (by decide) ?_
  refine g_newZ (by decide) dX7_init_62 rfl (by decide) (by decide) (fun a8 => ?_)
  dsimp only [List.cons_append, List.nil_append]
  refine g_putF f_X7_31 rfl (fun _ _ _ z => by cases z; rfl) dX7_init_64 rfl 0 rfl rfl rfl (Nat.le_of_ble_eq_true rfl) rfl ?_
  dsimp only [List.set]
  refine g_aload_n dX7_init_67 rfl rfl ?_
  refine g_bipush (v := nI 12) dX7_init_68 rfl (by decide) ?_
  refine g_newI (by decide) dX7_init_70 rfl (by decide) (by decide) (fun a9 => ?_)
  dsimp only [List.cons_append, List.nil_append]
  refine g_putF f_X7_35 rfl (fun _ _ _ z => by cases z; rfl) dX7_init_72 rfl 0 rfl rfl rfl (Nat.le_of_ble_eq_true rfl) rfl ?_
  dsimp only [List.set]
  refine g_aload_n dX7_init_75 rfl rfl ?_
  refine g_bipush (v := nI 12) dX7_init_76 rfl (by decide) ?_
  refine g_newI (by decide) dX7_init_78 rfl (by decide) (by decide) (fun a10 => ?_)
  dsimp only [List.cons_append, List.nil_append]
  refine g_putF f_X7_38 rfl (fun _ _ _ z => by cases z; rfl) dX7_init_80 rfl 0 rfl rfl rfl (Nat.le_of_ble_eq_true rfl) rfl ?_
  dsimp only [List.set]
  refine g_aload_n dX7_init_83 rfl rfl ?_
  refine g_iconst (v := -1) dX7_init_84 rfl (by decide) ?_
  refine g_putI f_X7_41 dX7_init_85 rfl 0 rfl (Nat.le_of_ble_eq_true rfl) rfl ?_
  dsimp only [List.set]
  refine g_aload_n dX7_init_88 rfl rfl ?_
  refine g_bipush (v := nI 6) dX7_init_89 rfl (by decide) ?_
  refine g_newI (by decide) dX7_init_91 rfl (by decide) (by decide) (fun a11 => ?_)
  dsimp only [List.cons_append, List.nil_append]
  refine g_putF f_X7_45 rfl (fun _ _ _ z => by cases z; rfl) dX7_init_93 rfl 0 rfl rfl rfl (Nat.le_of_ble_eq_true rfl) rfl ?_
  dsimp only [List.set]
  refine g_aload_n dX7_init_96 rfl rfl ?_
  refine g_bipush (v := nI 6) dX7_init_97 rfl (by decide) ?_
  refine g_newI (by decide) dX7_init_99 rfl (by decide) (by decide) (fun a12 => ?_)
  dsimp only [List.cons_append, List.nil_append]
  refine g_putF f_X7_48 rfl (fun _ _ _ z => by cases z; rfl) dX7_init_101 rfl 0 rfl rfl rfl (Nat.le_of_ble_eq_true rfl) rfl ?_
  dsimp only [List.set]
  refine g_aload_n dX7_init_104 rfl rfl ?_
  refine g_bipush (v := nI 6) dX7_init_105 rfl (by decide) ?_
  refine g_newI (by decide) dX7_init_107 rfl (by decide) (by decide) (fun a13 => ?_)
  dsimp only [List.cons_append, List.nil_append]
  refine g_putF f_X7_51 rfl (fun _ _ _ z => by cases z; rfl) dX7_init_109 rfl 0 rfl rfl rfl (Nat.le_of_ble_eq_true rfl) rfl ?_
  dsimp only [List.set]
  refine g_aload_n dX7_init_112 rfl rfl ?_
  refine g_callV (c_X7_reads sk (len := 0) (tx := fun _ => 0) (fx := fun _ => nI 0) (res := .inr q0R) (iha := false) (isn := false) (at_ := 0) (so := 0) (sta := 0) (sz := 0) (fl := 0) (by decide) (fun j hj => absurd hj (Nat.not_lt_zero j)) rfl) m_X7_54 a_X7_reads dX7_init_113 rfl [0, 1, 3] rfl rfl 0 rfl rfl rfl (by decide) (by decide) (by decide) (by decide) (Nat.le_of_ble_eq_true rfl) (fun r w hK => ?_)
  obtain ⟨rfl, a1, so1, sta1, sz1, b1, b2, fd1, rfl, hD⟩ := hK
  refine ⟨rfl, ?_⟩
  rw [← tdR_fI hD]
  dsimp only [puts, List.set, Option.toList, List.cons_append, List.nil_append, List.append_nil]
  refine g_pop dX7_init_116 rfl rfl ?_
  refine g_aload_n dX7_init_117 rfl rfl ?_
  refine g_callV (c_X7_tells sk) m_X7_58 a_X7_tells dX7_init_118 rfl [0, 2, 3, 4, 8] rfl rfl 0 rfl rfl rfl (by decide) (by decide) (by decide) (by decide) (Nat.le_of_ble_eq_true rfl) (fun r w hK => ?_)
  obtain ⟨rfl, rfl⟩ := hK
  refine ⟨rfl, ?_⟩
  dsimp only [puts, List.set, Option.toList, List.cons_append, List.nil_append, List.append_nil]
  exact g_vret dX7_init_121 rfl (Nat.le_refl _) (Nat.le_refl _) (⟨rfl, _, _, _, _, _, _, _, _, _, _, _, _, _, _, _, _, _, _, _, _, _, rfl, fun j hj => if_pos hj⟩)
