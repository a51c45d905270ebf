/-! the reference: clauses -/
/-- the draft says what is told so far -/
def DR (T : Nat → Nat) (ft : Nat → Bool) (fc : Nat) (fd : Nat → Int32) : Prop := (∀ j, j < 54 → fd j = nI (T j)) ∧ (∀ i, i < 30 → bt (fd 54) i = ft i) ∧ fd 55 = nI fc
def clmQ (res : (Nat × Nat) ⊕ (QS × Nat)) (W : Int32 → Int32 → Int32 → Int32 → Int32 → Bool → Bool → (Nat → Int32) → AW) (fl : Int32) : PS := fun q w1 => match res with
  | .inl f => q = some (.int (zb false)) ∧ ∃ (a so sz : Int32) (b1 b2 : Bool) (fd : Nat → Int32), w1 = W a so (nI f.2) sz (nI f.1) b1 b2 fd
  | .inr u => q = some (.int (zb true)) ∧ ∃ (so sta sz : Int32) (fd : Nat → Int32), w1 = W (nI u.2) so sta sz fl u.1.2.2.2.1 u.1.2.2.2.2 fd ∧ DR u.1.1 u.1.2.1 u.1.2.2.1 fd
/-- what a clause of kind k does, its word read -/
def clK (tx : Nat → Nat) (len k cnt pos p1 : Nat) (q : QS) : (Nat × Nat) ⊕ (QS × Nat) := if tooB k q = true then .inl (3, p1) else match numsR tx len k (q.1 0) q.2.1 cnt 0 pos (fun _ => 0) with
  | .inl f => .inl f
  | .inr (x, p) => .inr (takeQ k x q, p)
theorem DR_up {T : Nat → Nat} {ft : Nat → Bool} {fc : Nat} {fd : Nat → Int32} (h : DR T ft fc fd) {k v : Nat} (hk : k < 54) : DR (nup T k v) ft fc (upd fd k (nI v)) := by
  refine ⟨fun j hj => ?_, fun i hi => ?_, ?_⟩
  · unfold upd nup
    by_cases e : j = k
    · rw [if_pos e, if_pos e]
    · rw [if_neg e, if_neg e]; exact h.1 j hj
  · rw [pk_un (by omega)]; exact h.2.1 i hi
  · rw [pk_un (by omega)]; exact h.2.2
theorem DR_T {T T2 : Nat → Nat} {ft : Nat → Bool} {fc : Nat} {fd : Nat → Int32} (h : DR T ft fc fd) (e : ∀ j, j < 54 → T j = T2 j) : DR T2 ft fc fd := ⟨fun j hj => by rw [← e j hj]; exact h.1 j hj, h.2⟩
theorem nup_c {f : Nat → Nat} {a b x y : Nat} (h : a ≠ b) : nup (nup f a x) b y = nup (nup f b y) a x := by
  funext j
  unfold nup
  by_cases e1 : j = a
  · subst e1; rw [if_neg h, if_pos rfl, if_pos rfl]
  · rw [if_neg e1]
    by_cases e2 : j = b
    · rw [if_pos e2, if_neg e1]
    · rw [if_neg e2, if_neg e1]
set_option maxRecDepth 20000 in
theorem c_X7_readsHam (sk : Nat → Nat) {h mt mo md ms mn mi mz mk mw mf mr mb mu : Nat} {li se fAt ru : Int32} {iha isn : Bool} {len : Nat} {tx : Nat → Nat} {fx : Nat → Int32} {p1 pos : Nat} {so sz fl : Int32} {fd : Nat → Int32} {T : Nat → Nat} {ft : Nat → Bool} {fc : Nat} {Z : (Nat × Nat) ⊕ (QS × Nat)} (hlen : len ≤ 400) (htx : ∀ j, j < len → fx j = nI (tx j) ∧ tx j < 256) (hp : pos ≤ len) (hQ : QB (T, ft, fc, iha, isn)) (hD : DR T ft fc fd) (hF : 1 ≤ T 0) (hZ : clK tx len 4 2 pos p1 (T, ft, fc, iha, isn) = Z) : Ct sk yX7_readsHam cX7_readsHam 1 (some .boolean) 4 0 0 [oMod h mt (nI len) mo md ms mn mi mz mk mw mf li se fAt (nI pos) so (nI p1) sz fl iha isn ru mr mb mu, cI mt 400 fx, cI md 56 fd] [.ref h] (clmQ Z (fun a so sta sz fl b1 b2 fd => [oMod h mt (nI len) mo md ms mn mi mz mk mw mf li se fAt a so sta sz fl b1 b2 ru mr mb mu, cI mt 400 fx, cI md 56 fd]) fl) := by
  refine Ct.of (own := RX7) (l := [some (.ref h)]) (by decide) rfl (Nat.le_of_ble_eq_true rfl) rfl ?_
  unfold clK at hZ
  by_cases hT : tooB 4 (T, ft, fc, iha, isn) = true
  · rw [if_pos hT] at hZ
    subst hZ
    refine g_aload_n dX7_readsHam_0 rfl rfl ?_
    refine g_get f_X7_109 dX7_readsHam_1 rfl 0 rfl rfl ?_
    refine g_if_eqB (t := 13) dX7_readsHam_4 (by decide) rfl (fun h4 => ?_) (fun h4 => ?_)
    · exact absurd (show iha = true from hT) (by rw [h4]; decide)
    · skip
      refine g_aload_n dX7_readsHam_7 rfl rfl ?_
      refine g_iconst (v := nI 3) dX7_readsHam_8 rfl (by decide) ?_
      refine g_callV (c_X7_wrong sk) m_X7_99 a_X7_wrong dX7_readsHam_9 rfl [0] rfl rfl 0 rfl rfl rfl (by decide) (by decide) (by decide) (by decide) (Nat.le_of_ble_eq_true rfl) (fun r w hK => ?_)
      obtain ⟨rfl, rfl⟩ := hK
      refine ⟨rfl, ?_⟩
      dsimp only [puts, List.set, Option.toList, List.cons_append, List.nil_append, List.append_nil]
      exact g_zret dX7_readsHam_12 rfl (Nat.le_refl _) (Nat.le_refl _) (⟨rfl, _, _, _, _, _, _, rfl⟩)
  · rw [if_neg hT] at hZ
    rw [numsR, numR_M (lo := 0) (hi := 999) (by decide) rfl rfl] at hZ
    rcases hn0 : numM tx len (0) (999) pos with f | ⟨v0, e0⟩
    · rw [hn0] at hZ
      dsimp only at hZ
      subst hZ
      refine g_aload_n dX7_readsHam_0 rfl rfl ?_
      refine g_get f_X7_109 dX7_readsHam_1 rfl 0 rfl rfl ?_
      refine g_if_eqB (t := 13) dX7_readsHam_4 (by decide) rfl (fun h4 => ?_) (fun h4 => ?_)
      · skip
        refine g_aload_n dX7_readsHam_13 rfl rfl ?_
        refine g_iconst (v := nI 1) dX7_readsHam_14 rfl (by decide) ?_
        refine g_putZ (b := true) f_X7_109 dX7_readsHam_15 rfl 0 rfl (Nat.le_of_ble_eq_true rfl) rfl ?_
        dsimp only [List.set]
        refine g_aload_n dX7_readsHam_18 rfl rfl ?_
        refine g_iconst (v := nI 2) dX7_readsHam_19 rfl (by decide) ?_
        refine g_iconst (v := nI 0) dX7_readsHam_20 rfl (by decide) ?_
        refine g_sipush (v := nI 999) dX7_readsHam_21 rfl (by decide) ?_
        refine g_callV (c_X7_number sk (pl := 2) (lo := 0) (hi := 999) hlen htx hp (by omega) (by omega) (by omega) hn0) m_X7_103 a_X7_number dX7_readsHam_24 rfl [0, 1, 2] rfl rfl 0 rfl rfl rfl (by decide) (by decide) (by decide) (by decide) (Nat.le_of_ble_eq_true rfl) (fun r w hK => ?_)
        obtain ⟨rfl, a1, so1, sz1, rfl⟩ := hK
        refine ⟨rfl, ?_⟩
        dsimp only [puts, List.set, Option.toList, List.cons_append, List.nil_append, List.append_nil]
        refine g_if_eqB (t := 52) dX7_readsHam_27 (by decide) rfl (fun h27 => ?_) (fun h27 => ?_)
        · skip
          refine g_iconst (v := nI 0) dX7_readsHam_52 rfl (by decide) ?_
          exact g_zret (b := false) dX7_readsHam_53 rfl (Nat.le_refl _) (Nat.le_refl _) (⟨rfl, _, _, _, _, _, _, rfl⟩)
        · exact absurd h27 (by decide)
      · exact absurd (show tooB 4 (T, ft, fc, iha, isn) = true from h4) hT
    · rw [hn0] at hZ
      dsimp only at hZ
      obtain ⟨he0, hl0, hh0⟩ := numM_ok hp hn0
      rw [numsR, numR_M (lo := 0) (hi := 99) (by decide) rfl rfl] at hZ
      rcases hn1 : numM tx len (0) (99) e0 with f | ⟨v1, e1⟩
      · rw [hn1] at hZ
        dsimp only at hZ
        subst hZ
        refine g_aload_n dX7_readsHam_0 rfl rfl ?_
        refine g_get f_X7_109 dX7_readsHam_1 rfl 0 rfl rfl ?_
        refine g_if_eqB (t := 13) dX7_readsHam_4 (by decide) rfl (fun h4 => ?_) (fun h4 => ?_)
        · skip
          refine g_aload_n dX7_readsHam_13 rfl rfl ?_
          refine g_iconst (v := nI 1) dX7_readsHam_14 rfl (by decide) ?_
          refine g_putZ (b := true) f_X7_109 dX7_readsHam_15 rfl 0 rfl (Nat.le_of_ble_eq_true rfl) rfl ?_
          dsimp only [List.set]
          refine g_aload_n dX7_readsHam_18 rfl rfl ?_
          refine g_iconst (v := nI 2) dX7_readsHam_19 rfl (by decide) ?_
          refine g_iconst (v := nI 0) dX7_readsHam_20 rfl (by decide) ?_
          refine g_sipush (v := nI 999) dX7_readsHam_21 rfl (by decide) ?_
          refine g_callV (c_X7_number sk (pl := 2) (lo := 0) (hi := 999) hlen htx hp (by omega) (by omega) (by omega) hn0) m_X7_103 a_X7_number dX7_readsHam_24 rfl [0, 1, 2] rfl rfl 0 rfl rfl rfl (by decide) (by decide) (by decide) (by decide) (Nat.le_of_ble_eq_true rfl) (fun r w hK => ?_)
          obtain ⟨rfl, so0, sz0, rfl⟩ := hK
          refine ⟨rfl, ?_⟩
          dsimp only [puts, List.set, Option.toList, List.cons_append, List.nil_append, List.append_nil]
          refine g_if_eqB (t := 52) dX7_readsHam_27 (by decide) rfl (fun h27 => ?_) (fun h27 => ?_)
          · exact absurd h27 (by decide)
          · skip
            refine g_aload_n dX7_readsHam_30 rfl rfl ?_
            refine g_iconst (v := nI 3) dX7_readsHam_31 rfl (by decide) ?_
            refine g_iconst (v := nI 0) dX7_readsHam_32 rfl (by decide) ?_
            refine g_bipush (v := nI 99) dX7_readsHam_33 rfl (by decide) ?_
            refine g_callV (c_X7_number sk (pl := 3) (lo := 0) (hi := 99) hlen htx he0 (by omega) (by omega) (by omega) hn1) m_X7_103 a_X7_number dX7_readsHam_35 rfl [0, 1, 2] rfl rfl 0 rfl rfl rfl (by decide) (by decide) (by decide) (by decide) (Nat.le_of_ble_eq_true rfl) (fun r w hK => ?_)
            obtain ⟨rfl, a1, so1, sz1, rfl⟩ := hK
            refine ⟨rfl, ?_⟩
            dsimp only [puts, List.set, Option.toList, List.cons_append, List.nil_append, List.append_nil]
            refine g_if_eqB (t := 52) dX7_readsHam_38 (by decide) rfl (fun h38 => ?_) (fun h38 => ?_)
            · skip
              refine g_iconst (v := nI 0) dX7_readsHam_52 rfl (by decide) ?_
              exact g_zret (b := false) dX7_readsHam_53 rfl (Nat.le_refl _) (Nat.le_refl _) (⟨rfl, _, _, _, _, _, _, rfl⟩)
            · exact absurd h38 (by decide)
        · exact absurd (show tooB 4 (T, ft, fc, iha, isn) = true from h4) hT
      · rw [hn1] at hZ
        dsimp only at hZ
        obtain ⟨he1, hl1, hh1⟩ := numM_ok he0 hn1
        rw [numsR] at hZ
        rcases hs : endR tx len e1 with f | pe
        · rw [hs] at hZ
          dsimp only at hZ
          subst hZ
          refine g_aload_n dX7_readsHam_0 rfl rfl ?_
          refine g_get f_X7_109 dX7_readsHam_1 rfl 0 rfl rfl ?_
          refine g_if_eqB (t := 13) dX7_readsHam_4 (by decide) rfl (fun h4 => ?_) (fun h4 => ?_)
          · skip
            refine g_aload_n dX7_readsHam_13 rfl rfl ?_
            refine g_iconst (v := nI 1) dX7_readsHam_14 rfl (by decide) ?_
            refine g_putZ (b := true) f_X7_109 dX7_readsHam_15 rfl 0 rfl (Nat.le_of_ble_eq_true rfl) rfl ?_
            dsimp only [List.set]
            refine g_aload_n dX7_readsHam_18 rfl rfl ?_
            refine g_iconst (v := nI 2) dX7_readsHam_19 rfl (by decide) ?_
            refine g_iconst (v := nI 0) dX7_readsHam_20 rfl (by decide) ?_
            refine g_sipush (v := nI 999) dX7_readsHam_21 rfl (by decide) ?_
            refine g_callV (c_X7_number sk (pl := 2) (lo := 0) (hi := 999) hlen htx hp (by omega) (by omega) (by omega) hn0) m_X7_103 a_X7_number dX7_readsHam_24 rfl [0, 1, 2] rfl rfl 0 rfl rfl rfl (by decide) (by decide) (by decide) (by decide) (Nat.le_of_ble_eq_true rfl) (fun r w hK => ?_)
            obtain ⟨rfl, so0, sz0, rfl⟩ := hK
            refine ⟨rfl, ?_⟩
            dsimp only [puts, List.set, Option.toList, List.cons_append, List.nil_append, List.append_nil]
            refine g_if_eqB (t := 52) dX7_readsHam_27 (by decide) rfl (fun h27 => ?_) (fun h27 => ?_)
            · exact absurd h27 (by decide)
            · skip
              refine g_aload_n dX7_readsHam_30 rfl rfl ?_
              refine g_iconst (v := nI 3) dX7_readsHam_31 rfl (by decide) ?_
              refine g_iconst (v := nI 0) dX7_readsHam_32 rfl (by decide) ?_
              refine g_bipush (v := nI 99) dX7_readsHam_33 rfl (by decide) ?_
              refine g_callV (c_X7_number sk (pl := 3) (lo := 0) (hi := 99) hlen htx he0 (by omega) (by omega) (by omega) hn1) m_X7_103 a_X7_number dX7_readsHam_35 rfl [0, 1, 2] rfl rfl 0 rfl rfl rfl (by decide) (by decide) (by decide) (by decide) (Nat.le_of_ble_eq_true rfl) (fun r w hK => ?_)
              obtain ⟨rfl, so1, sz1, rfl⟩ := hK
              refine ⟨rfl, ?_⟩
              dsimp only [puts, List.set, Option.toList, List.cons_append, List.nil_append, List.append_nil]
              refine g_if_eqB (t := 52) dX7_readsHam_38 (by decide) rfl (fun h38 => ?_) (fun h38 => ?_)
              · exact absurd h38 (by decide)
              · skip
                refine g_aload_n dX7_readsHam_41 rfl rfl ?_
                refine g_callV (c_X7_stops sk hlen htx he1 hs) m_X7_106 a_X7_stops dX7_readsHam_42 rfl [0, 1] rfl rfl 0 rfl rfl rfl (by decide) (by decide) (by decide) (by decide) (Nat.le_of_ble_eq_true rfl) (fun r w hK => ?_)
                obtain ⟨rfl, a1, so1, sz1, rfl⟩ := hK
                refine ⟨rfl, ?_⟩
                dsimp only [puts, List.set, Option.toList, List.cons_append, List.nil_append, List.append_nil]
                refine g_if_eqB (t := 52) dX7_readsHam_45 (by decide) rfl (fun h45 => ?_) (fun h45 => ?_)
                · skip
                  refine g_iconst (v := nI 0) dX7_readsHam_52 rfl (by decide) ?_
                  exact g_zret (b := false) dX7_readsHam_53 rfl (Nat.le_refl _) (Nat.le_refl _) (⟨rfl, _, _, _, _, _, _, rfl⟩)
                · exact absurd h45 (by decide)
          · exact absurd (show tooB 4 (T, ft, fc, iha, isn) = true from h4) hT
        · rw [hs] at hZ
          dsimp only at hZ
          subst hZ
          refine g_aload_n dX7_readsHam_0 rfl rfl ?_
          refine g_get f_X7_109 dX7_readsHam_1 rfl 0 rfl rfl ?_
          refine g_if_eqB (t := 13) dX7_readsHam_4 (by decide) rfl (fun h4 => ?_) (fun h4 => ?_)
          · skip
            refine g_aload_n dX7_readsHam_13 rfl rfl ?_
            refine g_iconst (v := nI 1) dX7_readsHam_14 rfl (by decide) ?_
            refine g_putZ (b := true) f_X7_109 dX7_readsHam_15 rfl 0 rfl (Nat.le_of_ble_eq_true rfl) rfl ?_
            dsimp only [List.set]
            refine g_aload_n dX7_readsHam_18 rfl rfl ?_
            refine g_iconst (v := nI 2) dX7_readsHam_19 rfl (by decide) ?_
            refine g_iconst (v := nI 0) dX7_readsHam_20 rfl (by decide) ?_
            refine g_sipush (v := nI 999) dX7_readsHam_21 rfl (by decide) ?_
            refine g_callV (c_X7_number sk (pl := 2) (lo := 0) (hi := 999) hlen htx hp (by omega) (by omega) (by omega) hn0) m_X7_103 a_X7_number dX7_readsHam_24 rfl [0, 1, 2] rfl rfl 0 rfl rfl rfl (by decide) (by decide) (by decide) (by decide) (Nat.le_of_ble_eq_true rfl) (fun r w hK => ?_)
            obtain ⟨rfl, so0, sz0, rfl⟩ := hK
            refine ⟨rfl, ?_⟩
            dsimp only [puts, List.set, Option.toList, List.cons_append, List.nil_append, List.append_nil]
            refine g_if_eqB (t := 52) dX7_readsHam_27 (by decide) rfl (fun h27 => ?_) (fun h27 => ?_)
            · exact absurd h27 (by decide)
            · skip
              refine g_aload_n dX7_readsHam_30 rfl rfl ?_
              refine g_iconst (v := nI 3) dX7_readsHam_31 rfl (by decide) ?_
              refine g_iconst (v := nI 0) dX7_readsHam_32 rfl (by decide) ?_
              refine g_bipush (v := nI 99) dX7_readsHam_33 rfl (by decide) ?_
              refine g_callV (c_X7_number sk (pl := 3) (lo := 0) (hi := 99) hlen htx he0 (by omega) (by omega) (by omega) hn1) m_X7_103 a_X7_number dX7_readsHam_35 rfl [0, 1, 2] rfl rfl 0 rfl rfl rfl (by decide) (by decide) (by decide) (by decide) (Nat.le_of_ble_eq_true rfl) (fun r w hK => ?_)
              obtain ⟨rfl, so1, sz1, rfl⟩ := hK
              refine ⟨rfl, ?_⟩
              dsimp only [puts, List.set, Option.toList, List.cons_append, List.nil_append, List.append_nil]
              refine g_if_eqB (t := 52) dX7_readsHam_38 (by decide) rfl (fun h38 => ?_) (fun h38 => ?_)
              · exact absurd h38 (by decide)
              · skip
                refine g_aload_n dX7_readsHam_41 rfl rfl ?_
                refine g_callV (c_X7_stops sk hlen htx he1 hs) m_X7_106 a_X7_stops dX7_readsHam_42 rfl [0, 1] rfl rfl 0 rfl rfl rfl (by decide) (by decide) (by decide) (by decide) (Nat.le_of_ble_eq_true rfl) (fun r w hK => ?_)
                obtain ⟨rfl, so9, sta9, sz9, rfl⟩ := hK
                refine ⟨rfl, ?_⟩
                dsimp only [puts, List.set, Option.toList, List.cons_append, List.nil_append, List.append_nil]
                refine g_if_eqB (t := 52) dX7_readsHam_45 (by decide) rfl (fun h45 => ?_) (fun h45 => ?_)
                · exact absurd h45 (by decide)
                · skip
                  refine g_iconst (v := nI 1) dX7_readsHam_48 rfl (by decide) ?_
                  refine g_goto (q := 53) dX7_readsHam_49 (by decide) ?_
                  exact g_zret (b := true) dX7_readsHam_53 rfl (Nat.le_refl _) (Nat.le_refl _) (⟨rfl, _, _, _, _, rfl, DR_up (DR_up hD (by decide)) (by decide)⟩)
          · exact absurd (show tooB 4 (T, ft, fc, iha, isn) = true from h4) hT
set_option maxRecDepth 20000 in
theorem c_X7_readsSun (sk : Nat → Nat) {h mt mo md ms mn mi mz mk mw mf mr mb mu : Nat} {li se fAt ru : Int32} {iha isn : Bool} {len : Nat} {tx : Nat → Nat} {fx : Nat → Int32} {p1 pos : Nat} {so sz fl : Int32} {fd : Nat → Int32} {T : Nat → Nat} {ft : Nat → Bool} {fc : Nat} {Z : (Nat × Nat) ⊕ (QS × Nat)} (hlen : len ≤ 400) (htx : ∀ j, j < len → fx j = nI (tx j) ∧ tx j < 256) (hp : pos ≤ len) (hQ : QB (T, ft, fc, iha, isn)) (hD : DR T ft fc fd) (hF : 1 ≤ T 0) (hZ : clK tx len 5 2 pos p1 (T, ft, fc, iha, isn) = Z) : Ct sk yX7_readsSun cX7_readsSun 1 (some .boolean) 4 0 0 [oMod h mt (nI len) mo md ms mn mi mz mk mw mf li se fAt (nI pos) so (nI p1) sz fl iha isn ru mr mb mu, cI mt 400 fx, cI md 56 fd] [.ref h] (clmQ Z (fun a so sta sz fl b1 b2 fd => [oMod h mt (nI len) mo md ms mn mi mz mk mw mf li se fAt a so sta sz fl b1 b2 ru mr mb mu, cI mt 400 fx, cI md 56 fd]) fl) := by
  refine Ct.of (own := RX7) (l := [some (.ref h)]) (by decide) rfl (Nat.le_of_ble_eq_true rfl) rfl ?_
  unfold clK at hZ
  by_cases hT : tooB 5 (T, ft, fc, iha, isn) = true
  · rw [if_pos hT] at hZ
    subst hZ
    refine g_aload_n dX7_readsSun_0 rfl rfl ?_
    refine g_get f_X7_113 dX7_readsSun_1 rfl 0 rfl rfl ?_
    refine g_if_eqB (t := 13) dX7_readsSun_4 (by decide) rfl (fun h4 => ?_) (fun h4 => ?_)
    · exact absurd (show isn = true from hT) (by rw [h4]; decide)
    · skip
      refine g_aload_n dX7_readsSun_7 rfl rfl ?_
      refine g_iconst (v := nI 3) dX7_readsSun_8 rfl (by decide) ?_
      refine g_callV (c_X7_wrong sk) m_X7_99 a_X7_wrong dX7_readsSun_9 rfl [0] rfl rfl 0 rfl rfl rfl (by decide) (by decide) (by decide) (by decide) (Nat.le_of_ble_eq_true rfl) (fun r w hK => ?_)
      obtain ⟨rfl, rfl⟩ := hK
      refine ⟨rfl, ?_⟩
      dsimp only [puts, List.set, Option.toList, List.cons_append, List.nil_append, List.append_nil]
      exact g_zret dX7_readsSun_12 rfl (Nat.le_refl _) (Nat.le_refl _) (⟨rfl, _, _, _, _, _, _, rfl⟩)
  · rw [if_neg hT] at hZ
    rw [numsR, numR_M (lo := 1) (hi := 20) (by decide) rfl rfl] at hZ
    rcases hn0 : numM tx len (1) (20) pos with f | ⟨v0, e0⟩
    · rw [hn0] at hZ
      dsimp only at hZ
      subst hZ
      refine g_aload_n dX7_readsSun_0 rfl rfl ?_
      refine g_get f_X7_113 dX7_readsSun_1 rfl 0 rfl rfl ?_
      refine g_if_eqB (t := 13) dX7_readsSun_4 (by decide) rfl (fun h4 => ?_) (fun h4 => ?_)
      · skip
        refine g_aload_n dX7_readsSun_13 rfl rfl ?_
        refine g_iconst (v := nI 1) dX7_readsSun_14 rfl (by decide) ?_
        refine g_putZ (b := true) f_X7_113 dX7_readsSun_15 rfl 0 rfl (Nat.le_of_ble_eq_true rfl) rfl ?_
        dsimp only [List.set]
        refine g_aload_n dX7_readsSun_18 rfl rfl ?_
        refine g_iconst (v := nI 4) dX7_readsSun_19 rfl (by decide) ?_
        refine g_iconst (v := nI 1) dX7_readsSun_20 rfl (by decide) ?_
        refine g_bipush (v := nI 20) dX7_readsSun_21 rfl (by decide) ?_
        refine g_callV (c_X7_number sk (pl := 4) (lo := 1) (hi := 20) hlen htx hp (by omega) (by omega) (by omega) hn0) m_X7_103 a_X7_number dX7_readsSun_23 rfl [0, 1, 2] rfl rfl 0 rfl rfl rfl (by decide) (by decide) (by decide) (by decide) (Nat.le_of_ble_eq_true rfl) (fun r w hK => ?_)
        obtain ⟨rfl, a1, so1, sz1, rfl⟩ := hK
        refine ⟨rfl, ?_⟩
        dsimp only [puts, List.set, Option.toList, List.cons_append, List.nil_append, List.append_nil]
        refine g_if_eqB (t := 51) dX7_readsSun_26 (by decide) rfl (fun h26 => ?_) (fun h26 => ?_)
        · skip
          refine g_iconst (v := nI 0) dX7_readsSun_51 rfl (by decide) ?_
          exact g_zret (b := false) dX7_readsSun_52 rfl (Nat.le_refl _) (Nat.le_refl _) (⟨rfl, _, _, _, _, _, _, rfl⟩)
        · exact absurd h26 (by decide)
      · exact absurd (show tooB 5 (T, ft, fc, iha, isn) = true from h4) hT
    · rw [hn0] at hZ
      dsimp only at hZ
      obtain ⟨he0, hl0, hh0⟩ := numM_ok hp hn0
      rw [numsR, numR_M (lo := 0) (hi := 9) (by decide) rfl rfl] at hZ
      rcases hn1 : numM tx len (0) (9) e0 with f | ⟨v1, e1⟩
      · rw [hn1] at hZ
        dsimp only at hZ
        subst hZ
        refine g_aload_n dX7_readsSun_0 rfl rfl ?_
        refine g_get f_X7_113 dX7_readsSun_1 rfl 0 rfl rfl ?_
        refine g_if_eqB (t := 13) dX7_readsSun_4 (by decide) rfl (fun h4 => ?_) (fun h4 => ?_)
        · skip
          refine g_aload_n dX7_readsSun_13 rfl rfl ?_
          refine g_iconst (v := nI 1) dX7_readsSun_14 rfl (by decide) ?_
          refine g_putZ (b := true) f_X7_113 dX7_readsSun_15 rfl 0 rfl (Nat.le_of_ble_eq_true rfl) rfl ?_
          dsimp only [List.set]
          refine g_aload_n dX7_readsSun_18 rfl rfl ?_
          refine g_iconst (v := nI 4) dX7_readsSun_19 rfl (by decide) ?_
          refine g_iconst (v := nI 1) dX7_readsSun_20 rfl (by decide) ?_
          refine g_bipush (v := nI 20) dX7_readsSun_21 rfl (by decide) ?_
          refine g_callV (c_X7_number sk (pl := 4) (lo := 1) (hi := 20) hlen htx hp (by omega) (by omega) (by omega) hn0) m_X7_103 a_X7_number dX7_readsSun_23 rfl [0, 1, 2] rfl rfl 0 rfl rfl rfl (by decide) (by decide) (by decide) (by decide) (Nat.le_of_ble_eq_true rfl) (fun r w hK => ?_)
          obtain ⟨rfl, so0, sz0, rfl⟩ := hK
          refine ⟨rfl, ?_⟩
          dsimp only [puts, List.set, Option.toList, List.cons_append, List.nil_append, List.append_nil]
          refine g_if_eqB (t := 51) dX7_readsSun_26 (by decide) rfl (fun h26 => ?_) (fun h26 => ?_)
          · exact absurd h26 (by decide)
          · skip
            refine g_aload_n dX7_readsSun_29 rfl rfl ?_
            refine g_iconst (v := nI 5) dX7_readsSun_30 rfl (by decide) ?_
            refine g_iconst (v := nI 0) dX7_readsSun_31 rfl (by decide) ?_
            refine g_bipush (v := nI 9) dX7_readsSun_32 rfl (by decide) ?_
            refine g_callV (c_X7_number sk (pl := 5) (lo := 0) (hi := 9) hlen htx he0 (by omega) (by omega) (by omega) hn1) m_X7_103 a_X7_number dX7_readsSun_34 rfl [0, 1, 2] rfl rfl 0 rfl rfl rfl (by decide) (by decide) (by decide) (by decide) (Nat.le_of_ble_eq_true rfl) (fun r w hK => ?_)
            obtain ⟨rfl, a1, so1, sz1, rfl⟩ := hK
            refine ⟨rfl, ?_⟩
            dsimp only [puts, List.set, Option.toList, List.cons_append, List.nil_append, List.append_nil]
            refine g_if_eqB (t := 51) dX7_readsSun_37 (by decide) rfl (fun h37 => ?_) (fun h37 => ?_)
            · skip
              refine g_iconst (v := nI 0) dX7_readsSun_51 rfl (by decide) ?_
              exact g_zret (b := false) dX7_readsSun_52 rfl (Nat.le_refl _) (Nat.le_refl _) (⟨rfl, _, _, _, _, _, _, rfl⟩)
            · exact absurd h37 (by decide)
        · exact absurd (show tooB 5 (T, ft, fc, iha, isn) = true from h4) hT
      · rw [hn1] at hZ
        dsimp only at hZ
        obtain ⟨he1, hl1, hh1⟩ := numM_ok he0 hn1
        rw [numsR] at hZ
        rcases hs : endR tx len e1 with f | pe
        · rw [hs] at hZ
          dsimp only at hZ
          subst hZ
          refine g_aload_n dX7_readsSun_0 rfl rfl ?_
          refine g_get f_X7_113 dX7_readsSun_1 rfl 0 rfl rfl ?_
          refine g_if_eqB (t := 13) dX7_readsSun_4 (by decide) rfl (fun h4 => ?_) (fun h4 => ?_)
          · skip
            refine g_aload_n dX7_readsSun_13 rfl rfl ?_
            refine g_iconst (v := nI 1) dX7_readsSun_14 rfl (by decide) ?_
            refine g_putZ (b := true) f_X7_113 dX7_readsSun_15 rfl 0 rfl (Nat.le_of_ble_eq_true rfl) rfl ?_
            dsimp only [List.set]
            refine g_aload_n dX7_readsSun_18 rfl rfl ?_
            refine g_iconst (v := nI 4) dX7_readsSun_19 rfl (by decide) ?_
            refine g_iconst (v := nI 1) dX7_readsSun_20 rfl (by decide) ?_
            refine g_bipush (v := nI 20) dX7_readsSun_21 rfl (by decide) ?_
            refine g_callV (c_X7_number sk (pl := 4) (lo := 1) (hi := 20) hlen htx hp (by omega) (by omega) (by omega) hn0) m_X7_103 a_X7_number dX7_readsSun_23 rfl [0, 1, 2] rfl rfl 0 rfl rfl rfl (by decide) (by decide) (by decide) (by decide) (Nat.le_of_ble_eq_true rfl) (fun r w hK => ?_)
            obtain ⟨rfl, so0, sz0, rfl⟩ := hK
            refine ⟨rfl, ?_⟩
            dsimp only [puts, List.set, Option.toList, List.cons_append, List.nil_append, List.append_nil]
            refine g_if_eqB (t := 51) dX7_readsSun_26 (by decide) rfl (fun h26 => ?_) (fun h26 => ?_)
            · exact absurd h26 (by decide)
            · skip
              refine g_aload_n dX7_readsSun_29 rfl rfl ?_
              refine g_iconst (v := nI 5) dX7_readsSun_30 rfl (by decide) ?_
              refine g_iconst (v := nI 0) dX7_readsSun_31 rfl (by decide) ?_
              refine g_bipush (v := nI 9) dX7_readsSun_32 rfl (by decide) ?_
              refine g_callV (c_X7_number sk (pl := 5) (lo := 0) (hi := 9) hlen htx he0 (by omega) (by omega) (by omega) hn1) m_X7_103 a_X7_number dX7_readsSun_34 rfl [0, 1, 2] rfl rfl 0 rfl rfl rfl (by decide) (by decide) (by decide) (by decide) (Nat.le_of_ble_eq_true rfl) (fun r w hK => ?_)
              obtain ⟨rfl, so1, sz1, rfl⟩ := hK
              refine ⟨rfl, ?_⟩
              dsimp only [puts, List.set, Option.toList, List.cons_append, List.nil_append, List.append_nil]
              refine g_if_eqB (t := 51) dX7_readsSun_37 (by decide) rfl (fun h37 => ?_) (fun h37 => ?_)
              · exact absurd h37 (by decide)
              · skip
                refine g_aload_n dX7_readsSun_40 rfl rfl ?_
                refine g_callV (c_X7_stops sk hlen htx he1 hs) m_X7_106 a_X7_stops dX7_readsSun_41 rfl [0, 1] rfl rfl 0 rfl rfl rfl (by decide) (by decide) (by decide) (by decide) (Nat.le_of_ble_eq_true rfl) (fun r w hK => ?_)
                obtain ⟨rfl, a1, so1, sz1, rfl⟩ := hK
                refine ⟨rfl, ?_⟩
                dsimp only [puts, List.set, Option.toList, List.cons_append, List.nil_append, List.append_nil]
                refine g_if_eqB (t := 51) dX7_readsSun_44 (by decide) rfl (fun h44 => ?_) (fun h44 => ?_)
                · skip
                  refine g_iconst (v := nI 0) dX7_readsSun_51 rfl (by decide) ?_
                  exact g_zret (b := false) dX7_readsSun_52 rfl (Nat.le_refl _) (Nat.le_refl _) (⟨rfl, _, _, _, _, _, _, rfl⟩)
                · exact absurd h44 (by decide)
          · exact absurd (show tooB 5 (T, ft, fc, iha, isn) = true from h4) hT
        · rw [hs] at hZ
          dsimp only at hZ
          subst hZ
          refine g_aload_n dX7_readsSun_0 rfl rfl ?_
          refine g_get f_X7_113 dX7_readsSun_1 rfl 0 rfl rfl ?_
          refine g_if_eqB (t := 13) dX7_readsSun_4 (by decide) rfl (fun h4 => ?_) (fun h4 => ?_)
          · skip
            refine g_aload_n dX7_readsSun_13 rfl rfl ?_
            refine g_iconst (v := nI 1) dX7_readsSun_14 rfl (by decide) ?_
            refine g_putZ (b := true) f_X7_113 dX7_readsSun_15 rfl 0 rfl (Nat.le_of_ble_eq_true rfl) rfl ?_
            dsimp only [List.set]
            refine g_aload_n dX7_readsSun_18 rfl rfl ?_
            refine g_iconst (v := nI 4) dX7_readsSun_19 rfl (by decide) ?_
            refine g_iconst (v := nI 1) dX7_readsSun_20 rfl (by decide) ?_
            refine g_bipush (v := nI 20) dX7_readsSun_21 rfl (by decide) ?_
            refine g_callV (c_X7_number sk (pl := 4) (lo := 1) (hi := 20) hlen htx hp (by omega) (by omega) (by omega) hn0) m_X7_103 a_X7_number dX7_readsSun_23 rfl [0, 1, 2] rfl rfl 0 rfl rfl rfl (by decide) (by decide) (by decide) (by decide) (Nat.le_of_ble_eq_true rfl) (fun r w hK => ?_)
            obtain ⟨rfl, so0, sz0, rfl⟩ := hK
            refine ⟨rfl, ?_⟩
            dsimp only [puts, List.set, Option.toList, List.cons_append, List.nil_append, List.append_nil]
            refine g_if_eqB (t := 51) dX7_readsSun_26 (by decide) rfl (fun h26 => ?_) (fun h26 => ?_)
            · exact absurd h26 (by decide)
            · skip
              refine g_aload_n dX7_readsSun_29 rfl rfl ?_
              refine g_iconst (v := nI 5) dX7_readsSun_30 rfl (by decide) ?_
              refine g_iconst (v := nI 0) dX7_readsSun_31 rfl (by decide) ?_
              refine g_bipush (v := nI 9) dX7_readsSun_32 rfl (by decide) ?_
              refine g_callV (c_X7_number sk (pl := 5) (lo := 0) (hi := 9) hlen htx he0 (by omega) (by omega) (by omega) hn1) m_X7_103 a_X7_number dX7_readsSun_34 rfl [0, 1, 2] rfl rfl 0 rfl rfl rfl (by decide) (by decide) (by decide) (by decide) (Nat.le_of_ble_eq_true rfl) (fun r w hK => ?_)
              obtain ⟨rfl, so1, sz1, rfl⟩ := hK
              refine ⟨rfl, ?_⟩
              dsimp only [puts, List.set, Option.toList, List.cons_append, List.nil_append, List.append_nil]
              refine g_if_eqB (t := 51) dX7_readsSun_37 (by decide) rfl (fun h37 => ?_) (fun h37 => ?_)
              · exact absurd h37 (by decide)
              · skip
                refine g_aload_n dX7_readsSun_40 rfl rfl ?_
                refine g_callV (c_X7_stops sk hlen htx he1 hs) m_X7_106 a_X7_stops dX7_readsSun_41 rfl [0, 1] rfl rfl 0 rfl rfl rfl (by decide) (by decide) (by decide) (by decide) (Nat.le_of_ble_eq_true rfl) (fun r w hK => ?_)
                obtain ⟨rfl, so9, sta9, sz9, rfl⟩ := hK
                refine ⟨rfl, ?_⟩
                dsimp only [puts, List.set, Option.toList, List.cons_append, List.nil_append, List.append_nil]
                refine g_if_eqB (t := 51) dX7_readsSun_44 (by decide) rfl (fun h44 => ?_) (fun h44 => ?_)
                · exact absurd h44 (by decide)
                · skip
                  refine g_iconst (v := nI 1) dX7_readsSun_47 rfl (by decide) ?_
                  refine g_goto (q := 52) dX7_readsSun_48 (by decide) ?_
                  exact g_zret (b := true) dX7_readsSun_52 rfl (Nat.le_refl _) (Nat.le_refl _) (⟨rfl, _, _, _, _, rfl, DR_up (DR_up hD (by decide)) (by decide)⟩)
          · exact absurd (show tooB 5 (T, ft, fc, iha, isn) = true from h4) hT
set_option maxRecDepth 20000 in
theorem c_X7_readsClimber (sk : Nat → Nat) {h mt mo md ms mn mi mz mk mw mf mr mb mu : Nat} {li se fAt ru : Int32} {iha isn : Bool} {len : Nat} {tx : Nat → Nat} {fx : Nat → Int32} {p1 pos : Nat} {so sz fl : Int32} {fd : Nat → Int32} {T : Nat → Nat} {ft : Nat → Bool} {fc : Nat} {Z : (Nat × Nat) ⊕ (QS × Nat)} (hlen : len ≤ 400) (htx : ∀ j, j < len → fx j = nI (tx j) ∧ tx j < 256) (hp : pos ≤ len) (hQ : QB (T, ft, fc, iha, isn)) (hD : DR T ft fc fd) (hF : 1 ≤ T 0) (hZ : clK tx len 3 3 pos p1 (T, ft, fc, iha, isn) = Z) : Ct sk yX7_readsClimber cX7_readsClimber 2 (some .boolean) 4 0 0 [oMod h mt (nI len) mo md ms mn mi mz mk mw mf li se fAt (nI pos) so (nI p1) sz fl iha isn ru mr mb mu, cI mt 400 fx, cI md 56 fd] [.ref h] (clmQ Z (fun a so sta sz fl b1 b2 fd => [oMod h mt (nI len) mo md ms mn mi mz mk mw mf li se fAt a so sta sz fl b1 b2 ru mr mb mu, cI mt 400 fx, cI md 56 fd]) fl) := by
  refine Ct.of (own := RX7) (l := [some (.ref h), none]) (by decide) rfl (Nat.le_of_ble_eq_true rfl) rfl ?_
  have hC6 : T 1 ≤ 6 := hQ.2.1
  unfold clK at hZ
  by_cases hT : tooB 3 (T, ft, fc, iha, isn) = true
  · rw [if_pos hT] at hZ
    subst hZ
    refine g_aload_n dX7_readsClimber_0 rfl rfl ?_
    refine g_get f_X7_16 dX7_readsClimber_1 rfl 0 rfl rfl ?_
    refine g_iconst (v := nI 1) dX7_readsClimber_4 rfl (by decide) ?_
    refine g_ialdN (v := nI (T 1)) dX7_readsClimber_5 rfl 2 rfl (by omega) (by decide) (hD.1 1 (by decide)) ?_
    refine g_istore_n dX7_readsClimber_6 rfl (by decide) rfl rfl ?_
    refine g_iload_n dX7_readsClimber_7 rfl rfl ?_
    refine g_bipush (v := nI 6) dX7_readsClimber_8 rfl (by decide) ?_
    refine g_icmp_neN (t := 19) dX7_readsClimber_10 (by decide) rfl (by omega) (by omega) (fun h10 => ?_) (fun h10 => ?_)
    · exact absurd (of_decide_eq_true (show decide (6 ≤ T 1) = true from hT)) (by omega)
    · skip
      refine g_aload_n dX7_readsClimber_13 rfl rfl ?_
      refine g_iconst (v := nI 3) dX7_readsClimber_14 rfl (by decide) ?_
      refine g_callV (c_X7_wrong sk) m_X7_99 a_X7_wrong dX7_readsClimber_15 rfl [0] rfl rfl 0 rfl rfl rfl (by decide) (by decide) (by decide) (by decide) (Nat.le_of_ble_eq_true rfl) (fun r w hK => ?_)
      obtain ⟨rfl, rfl⟩ := hK
      refine ⟨rfl, ?_⟩
      dsimp only [puts, List.set, Option.toList, List.cons_append, List.nil_append, List.append_nil]
      exact g_zret dX7_readsClimber_18 rfl (Nat.le_refl _) (Nat.le_refl _) (⟨rfl, _, _, _, _, _, _, rfl⟩)
  · rw [if_neg hT] at hZ
    rw [numsR, numR_M (lo := 1) (hi := 99) (by decide) rfl rfl] at hZ
    rcases hn0 : numM tx len (1) (99) pos with f | ⟨v0, e0⟩
    · rw [hn0] at hZ
      dsimp only at hZ
      subst hZ
      refine g_aload_n dX7_readsClimber_0 rfl rfl ?_
      refine g_get f_X7_16 dX7_readsClimber_1 rfl 0 rfl rfl ?_
      refine g_iconst (v := nI 1) dX7_readsClimber_4 rfl (by decide) ?_
      refine g_ialdN (v := nI (T 1)) dX7_readsClimber_5 rfl 2 rfl (by omega) (by decide) (hD.1 1 (by decide)) ?_
      refine g_istore_n dX7_readsClimber_6 rfl (by decide) rfl rfl ?_
      refine g_iload_n dX7_readsClimber_7 rfl rfl ?_
      refine g_bipush (v := nI 6) dX7_readsClimber_8 rfl (by decide) ?_
      refine g_icmp_neN (t := 19) dX7_readsClimber_10 (by decide) rfl (by omega) (by omega) (fun h10 => ?_) (fun h10 => ?_)
      · skip
        refine g_aload_n dX7_readsClimber_19 rfl rfl ?_
        refine g_get f_X7_16 dX7_readsClimber_20 rfl 0 rfl rfl ?_
        refine g_iconst (v := nI 1) dX7_readsClimber_23 rfl (by decide) ?_
        refine g_dup2 dX7_readsClimber_24 rfl rfl rfl ?_
        refine g_ialdN (v := nI (T 1)) dX7_readsClimber_25 rfl 2 rfl (by omega) (by decide) (hD.1 1 (by decide)) ?_
        refine g_iconst (v := nI 1) dX7_readsClimber_26 rfl (by decide) ?_
        refine g_iadd dX7_readsClimber_27 rfl (nI_add _ _) ?_
        refine g_iastN dX7_readsClimber_28 rfl 2 rfl (by omega) (by decide) (rfl) rfl ?_
        refine g_aload_n dX7_readsClimber_29 rfl rfl ?_
        refine g_bipush (v := nI 6) dX7_readsClimber_30 rfl (by decide) ?_
        refine g_iload_n dX7_readsClimber_32 rfl rfl ?_
        refine g_iadd dX7_readsClimber_33 rfl (nI_add _ _) ?_
        refine g_iconst (v := nI 1) dX7_readsClimber_34 rfl (by decide) ?_
        refine g_bipush (v := nI 99) dX7_readsClimber_35 rfl (by decide) ?_
        refine g_callV (c_X7_number sk (pl := 6 + T 1) (lo := 1) (hi := 99) hlen htx hp (by omega) (by omega) (by omega) hn0) m_X7_103 a_X7_number dX7_readsClimber_37 rfl [0, 1, 2] rfl rfl 0 rfl rfl rfl (by decide) (by decide) (by decide) (by decide) (Nat.le_of_ble_eq_true rfl) (fun r w hK => ?_)
        obtain ⟨rfl, a1, so1, sz1, rfl⟩ := hK
        refine ⟨rfl, ?_⟩
        dsimp only [puts, List.set, Option.toList, List.cons_append, List.nil_append, List.append_nil]
        refine g_if_eqB (t := 83) dX7_readsClimber_40 (by decide) rfl (fun h40 => ?_) (fun h40 => ?_)
        · skip
          refine g_iconst (v := nI 0) dX7_readsClimber_83 rfl (by decide) ?_
          exact g_zret (b := false) dX7_readsClimber_84 rfl (Nat.le_refl _) (Nat.le_refl _) (⟨rfl, _, _, _, _, _, _, rfl⟩)
        · exact absurd h40 (by decide)
      · exact absurd (show tooB 3 (T, ft, fc, iha, isn) = true from decide_eq_true (show 6 ≤ T 1 by omega)) hT
    · rw [hn0] at hZ
      dsimp only at hZ
      obtain ⟨he0, hl0, hh0⟩ := numM_ok hp hn0
      rw [numsR, numR_M (lo := 1) (hi := 999) (by decide) rfl rfl] at hZ
      rcases hn1 : numM tx len (1) (999) e0 with f | ⟨v1, e1⟩
      · rw [hn1] at hZ
        dsimp only at hZ
        subst hZ
        refine g_aload_n dX7_readsClimber_0 rfl rfl ?_
        refine g_get f_X7_16 dX7_readsClimber_1 rfl 0 rfl rfl ?_
        refine g_iconst (v := nI 1) dX7_readsClimber_4 rfl (by decide) ?_
        refine g_ialdN (v := nI (T 1)) dX7_readsClimber_5 rfl 2 rfl (by omega) (by decide) (hD.1 1 (by decide)) ?_
        refine g_istore_n dX7_readsClimber_6 rfl (by decide) rfl rfl ?_
        refine g_iload_n dX7_readsClimber_7 rfl rfl ?_
        refine g_bipush (v := nI 6) dX7_readsClimber_8 rfl (by decide) ?_
        refine g_icmp_neN (t := 19) dX7_readsClimber_10 (by decide) rfl (by omega) (by omega) (fun h10 => ?_) (fun h10 => ?_)
        · skip
          refine g_aload_n dX7_readsClimber_19 rfl rfl ?_
          refine g_get f_X7_16 dX7_readsClimber_20 rfl 0 rfl rfl ?_
          refine g_iconst (v := nI 1) dX7_readsClimber_23 rfl (by decide) ?_
          refine g_dup2 dX7_readsClimber_24 rfl rfl rfl ?_
          refine g_ialdN (v := nI (T 1)) dX7_readsClimber_25 rfl 2 rfl (by omega) (by decide) (hD.1 1 (by decide)) ?_
          refine g_iconst (v := nI 1) dX7_readsClimber_26 rfl (by decide) ?_
          refine g_iadd dX7_readsClimber_27 rfl (nI_add _ _) ?_
          refine g_iastN dX7_readsClimber_28 rfl 2 rfl (by omega) (by decide) (rfl) rfl ?_
          refine g_aload_n dX7_readsClimber_29 rfl rfl ?_
          refine g_bipush (v := nI 6) dX7_readsClimber_30 rfl (by decide) ?_
          refine g_iload_n dX7_readsClimber_32 rfl rfl ?_
          refine g_iadd dX7_readsClimber_33 rfl (nI_add _ _) ?_
          refine g_iconst (v := nI 1) dX7_readsClimber_34 rfl (by decide) ?_
          refine g_bipush (v := nI 99) dX7_readsClimber_35 rfl (by decide) ?_
          refine g_callV (c_X7_number sk (pl := 6 + T 1) (lo := 1) (hi := 99) hlen htx hp (by omega) (by omega) (by omega) hn0) m_X7_103 a_X7_number dX7_readsClimber_37 rfl [0, 1, 2] rfl rfl 0 rfl rfl rfl (by decide) (by decide) (by decide) (by decide) (Nat.le_of_ble_eq_true rfl) (fun r w hK => ?_)
          obtain ⟨rfl, so0, sz0, rfl⟩ := hK
          refine ⟨rfl, ?_⟩
          dsimp only [puts, List.set, Option.toList, List.cons_append, List.nil_append, List.append_nil]
          refine g_if_eqB (t := 83) dX7_readsClimber_40 (by decide) rfl (fun h40 => ?_) (fun h40 => ?_)
          · exact absurd h40 (by decide)
          · skip
            refine g_aload_n dX7_readsClimber_43 rfl rfl ?_
            refine g_bipush (v := nI 12) dX7_readsClimber_44 rfl (by decide) ?_
            refine g_iload_n dX7_readsClimber_46 rfl rfl ?_
            refine g_iadd dX7_readsClimber_47 rfl (nI_add _ _) ?_
            refine g_iconst (v := nI 1) dX7_readsClimber_48 rfl (by decide) ?_
            refine g_sipush (v := nI 999) dX7_readsClimber_49 rfl (by decide) ?_
            refine g_callV (c_X7_number sk (pl := 12 + T 1) (lo := 1) (hi := 999) hlen htx he0 (by omega) (by omega) (by omega) hn1) m_X7_103 a_X7_number dX7_readsClimber_52 rfl [0, 1, 2] rfl rfl 0 rfl rfl rfl (by decide) (by decide) (by decide) (by decide) (Nat.le_of_ble_eq_true rfl) (fun r w hK => ?_)
            obtain ⟨rfl, a1, so1, sz1, rfl⟩ := hK
            refine ⟨rfl, ?_⟩
            dsimp only [puts, List.set, Option.toList, List.cons_append, List.nil_append, List.append_nil]
            refine g_if_eqB (t := 83) dX7_readsClimber_55 (by decide) rfl (fun h55 => ?_) (fun h55 => ?_)
            · skip
              refine g_iconst (v := nI 0) dX7_readsClimber_83 rfl (by decide) ?_
              exact g_zret (b := false) dX7_readsClimber_84 rfl (Nat.le_refl _) (Nat.le_refl _) (⟨rfl, _, _, _, _, _, _, rfl⟩)
            · exact absurd h55 (by decide)
        · exact absurd (show tooB 3 (T, ft, fc, iha, isn) = true from decide_eq_true (show 6 ≤ T 1 by omega)) hT
      · rw [hn1] at hZ
        dsimp only at hZ
        obtain ⟨he1, hl1, hh1⟩ := numM_ok he0 hn1
        rw [numsR, numR_M (lo := 0) (hi := 20) (by decide) rfl rfl] at hZ
        rcases hn2 : numM tx len (0) (20) e1 with f | ⟨v2, e2⟩
        · rw [hn2] at hZ
          dsimp only at hZ
          subst hZ
          refine g_aload_n dX7_readsClimber_0 rfl rfl ?_
          refine g_get f_X7_16 dX7_readsClimber_1 rfl 0 rfl rfl ?_
          refine g_iconst (v := nI 1) dX7_readsClimber_4 rfl (by decide) ?_
          refine g_ialdN (v := nI (T 1)) dX7_readsClimber_5 rfl 2 rfl (by omega) (by decide) (hD.1 1 (by decide)) ?_
          refine g_istore_n dX7_readsClimber_6 rfl (by decide) rfl rfl ?_
          refine g_iload_n dX7_readsClimber_7 rfl rfl ?_
          refine g_bipush (v := nI 6) dX7_readsClimber_8 rfl (by decide) ?_
          refine g_icmp_neN (t := 19) dX7_readsClimber_10 (by decide) rfl (by omega) (by omega) (fun h10 => ?_) (fun h10 => ?_)
          · skip
            refine g_aload_n dX7_readsClimber_19 rfl rfl ?_
            refine g_get f_X7_16 dX7_readsClimber_20 rfl 0 rfl rfl ?_
            refine g_iconst (v := nI 1) dX7_readsClimber_23 rfl (by decide) ?_
            refine g_dup2 dX7_readsClimber_24 rfl rfl rfl ?_
            refine g_ialdN (v := nI (T 1)) dX7_readsClimber_25 rfl 2 rfl (by omega) (by decide) (hD.1 1 (by decide)) ?_
            refine g_iconst (v := nI 1) dX7_readsClimber_26 rfl (by decide) ?_
            refine g_iadd dX7_readsClimber_27 rfl (nI_add _ _) ?_
            refine g_iastN dX7_readsClimber_28 rfl 2 rfl (by omega) (by decide) (rfl) rfl ?_
            refine g_aload_n dX7_readsClimber_29 rfl rfl ?_
            refine g_bipush (v := nI 6) dX7_readsClimber_30 rfl (by decide) ?_
            refine g_iload_n dX7_readsClimber_32 rfl rfl ?_
            refine g_iadd dX7_readsClimber_33 rfl (nI_add _ _) ?_
            refine g_iconst (v := nI 1) dX7_readsClimber_34 rfl (by decide) ?_
            refine g_bipush (v := nI 99) dX7_readsClimber_35 rfl (by decide) ?_
            refine g_callV (c_X7_number sk (pl := 6 + T 1) (lo := 1) (hi := 99) hlen htx hp (by omega) (by omega) (by omega) hn0) m_X7_103 a_X7_number dX7_readsClimber_37 rfl [0, 1, 2] rfl rfl 0 rfl rfl rfl (by decide) (by decide) (by decide) (by decide) (Nat.le_of_ble_eq_true rfl) (fun r w hK => ?_)
            obtain ⟨rfl, so0, sz0, rfl⟩ := hK
            refine ⟨rfl, ?_⟩
            dsimp only [puts, List.set, Option.toList, List.cons_append, List.nil_append, List.append_nil]
            refine g_if_eqB (t := 83) dX7_readsClimber_40 (by decide) rfl (fun h40 => ?_) (fun h40 => ?_)
            · exact absurd h40 (by decide)
            · skip
              refine g_aload_n dX7_readsClimber_43 rfl rfl ?_
              refine g_bipush (v := nI 12) dX7_readsClimber_44 rfl (by decide) ?_
              refine g_iload_n dX7_readsClimber_46 rfl rfl ?_
              refine g_iadd dX7_readsClimber_47 rfl (nI_add _ _) ?_
              refine g_iconst (v := nI 1) dX7_readsClimber_48 rfl (by decide) ?_
              refine g_sipush (v := nI 999) dX7_readsClimber_49 rfl (by decide) ?_
              refine g_callV (c_X7_number sk (pl := 12 + T 1) (lo := 1) (hi := 999) hlen htx he0 (by omega) (by omega) (by omega) hn1) m_X7_103 a_X7_number dX7_readsClimber_52 rfl [0, 1, 2] rfl rfl 0 rfl rfl rfl (by decide) (by decide) (by decide) (by decide) (Nat.le_of_ble_eq_true rfl) (fun r w hK => ?_)
              obtain ⟨rfl, so1, sz1, rfl⟩ := hK
              refine ⟨rfl, ?_⟩
              dsimp only [puts, List.set, Option.toList, List.cons_append, List.nil_append, List.append_nil]
              refine g_if_eqB (t := 83) dX7_readsClimber_55 (by decide) rfl (fun h55 => ?_) (fun h55 => ?_)
              · exact absurd h55 (by decide)
              · skip
                refine g_aload_n dX7_readsClimber_58 rfl rfl ?_
                refine g_bipush (v := nI 18) dX7_readsClimber_59 rfl (by decide) ?_
                refine g_iload_n dX7_readsClimber_61 rfl rfl ?_
                refine g_iadd dX7_readsClimber_62 rfl (nI_add _ _) ?_
                refine g_iconst (v := nI 0) dX7_readsClimber_63 rfl (by decide) ?_
                refine g_bipush (v := nI 20) dX7_readsClimber_64 rfl (by decide) ?_
                refine g_callV (c_X7_number sk (pl := 18 + T 1) (lo := 0) (hi := 20) hlen htx he1 (by omega) (by omega) (by omega) hn2) m_X7_103 a_X7_number dX7_readsClimber_66 rfl [0, 1, 2] rfl rfl 0 rfl rfl rfl (by decide) (by decide) (by decide) (by decide) (Nat.le_of_ble_eq_true rfl) (fun r w hK => ?_)
                obtain ⟨rfl, a1, so1, sz1, rfl⟩ := hK
                refine ⟨rfl, ?_⟩
                dsimp only [puts, List.set, Option.toList, List.cons_append, List.nil_append, List.append_nil]
                refine g_if_eqB (t := 83) dX7_readsClimber_69 (by decide) rfl (fun h69 => ?_) (fun h69 => ?_)
                · skip
                  refine g_iconst (v := nI 0) dX7_readsClimber_83 rfl (by decide) ?_
                  exact g_zret (b := false) dX7_readsClimber_84 rfl (Nat.le_refl _) (Nat.le_refl _) (⟨rfl, _, _, _, _, _, _, rfl⟩)
                · exact absurd h69 (by decide)
          · exact absurd (show tooB 3 (T, ft, fc, iha, isn) = true from decide_eq_true (show 6 ≤ T 1 by omega)) hT
        · rw [hn2] at hZ
          dsimp only at hZ
          obtain ⟨he2, hl2, hh2⟩ := numM_ok he1 hn2
          rw [numsR] at hZ
          rcases hs : endR tx len e2 with f | pe
          · rw [hs] at hZ
            dsimp only at hZ
            subst hZ
            refine g_aload_n dX7_readsClimber_0 rfl rfl ?_
            refine g_get f_X7_16 dX7_readsClimber_1 rfl 0 rfl rfl ?_
            refine g_iconst (v := nI 1) dX7_readsClimber_4 rfl (by decide) ?_
            refine g_ialdN (v := nI (T 1)) dX7_readsClimber_5 rfl 2 rfl (by omega) (by decide) (hD.1 1 (by decide)) ?_
            refine g_istore_n dX7_readsClimber_6 rfl (by decide) rfl rfl ?_
            refine g_iload_n dX7_readsClimber_7 rfl rfl ?_
            refine g_bipush (v := nI 6) dX7_readsClimber_8 rfl (by decide) ?_
            refine g_icmp_neN (t := 19) dX7_readsClimber_10 (by decide) rfl (by omega) (by omega) (fun h10 => ?_) (fun h10 => ?_)
            · skip
              refine g_aload_n dX7_readsClimber_19 rfl rfl ?_
              refine g_get f_X7_16 dX7_readsClimber_20 rfl 0 rfl rfl ?_
              refine g_iconst (v := nI 1) dX7_readsClimber_23 rfl (by decide) ?_
              refine g_dup2 dX7_readsClimber_24 rfl rfl rfl ?_
              refine g_ialdN (v := nI (T 1)) dX7_readsClimber_25 rfl 2 rfl (by omega) (by decide) (hD.1 1 (by decide)) ?_
              refine g_iconst (v := nI 1) dX7_readsClimber_26 rfl (by decide) ?_
              refine g_iadd dX7_readsClimber_27 rfl (nI_add _ _) ?_
              refine g_iastN dX7_readsClimber_28 rfl 2 rfl (by omega) (by decide) (rfl) rfl ?_
              refine g_aload_n dX7_readsClimber_29 rfl rfl ?_
              refine g_bipush (v := nI 6) dX7_readsClimber_30 rfl (by decide) ?_
              refine g_iload_n dX7_readsClimber_32 rfl rfl ?_
              refine g_iadd dX7_readsClimber_33 rfl (nI_add _ _) ?_
              refine g_iconst (v := nI 1) dX7_readsClimber_34 rfl (by decide) ?_
              refine g_bipush (v := nI 99) dX7_readsClimber_35 rfl (by decide) ?_
              refine g_callV (c_X7_number sk (pl := 6 + T 1) (lo := 1) (hi := 99) hlen htx hp (by omega) (by omega) (by omega) hn0) m_X7_103 a_X7_number dX7_readsClimber_37 rfl [0, 1, 2] rfl rfl 0 rfl rfl rfl (by decide) (by decide) (by decide) (by decide) (Nat.le_of_ble_eq_true rfl) (fun r w hK => ?_)
              obtain ⟨rfl, so0, sz0, rfl⟩ := hK
              refine ⟨rfl, ?_⟩
              dsimp only [puts, List.set, Option.toList, List.cons_append, List.nil_append, List.append_nil]
              refine g_if_eqB (t := 83) dX7_readsClimber_40 (by decide) rfl (fun h40 => ?_) (fun h40 => ?_)
              · exact absurd h40 (by decide)
              · skip
                refine g_aload_n dX7_readsClimber_43 rfl rfl ?_
                refine g_bipush (v := nI 12) dX7_readsClimber_44 rfl (by decide) ?_
                refine g_iload_n dX7_readsClimber_46 rfl rfl ?_
                refine g_iadd dX7_readsClimber_47 rfl (nI_add _ _) ?_
                refine g_iconst (v := nI 1) dX7_readsClimber_48 rfl (by decide) ?_
                refine g_sipush (v := nI 999) dX7_readsClimber_49 rfl (by decide) ?_
                refine g_callV (c_X7_number sk (pl := 12 + T 1) (lo := 1) (hi := 999) hlen htx he0 (by omega) (by omega) (by omega) hn1) m_X7_103 a_X7_number dX7_readsClimber_52 rfl [0, 1, 2] rfl rfl 0 rfl rfl rfl (by decide) (by decide) (by decide) (by decide) (Nat.le_of_ble_eq_true rfl) (fun r w hK => ?_)
                obtain ⟨rfl, so1, sz1, rfl⟩ := hK
                refine ⟨rfl, ?_⟩
                dsimp only [puts, List.set, Option.toList, List.cons_append, List.nil_append, List.append_nil]
                refine g_if_eqB (t := 83) dX7_readsClimber_55 (by decide) rfl (fun h55 => ?_) (fun h55 => ?_)
                · exact absurd h55 (by decide)
                · skip
                  refine g_aload_n dX7_readsClimber_58 rfl rfl ?_
                  refine g_bipush (v := nI 18) dX7_readsClimber_59 rfl (by decide) ?_
                  refine g_iload_n dX7_readsClimber_61 rfl rfl ?_
                  refine g_iadd dX7_readsClimber_62 rfl (nI_add _ _) ?_
                  refine g_iconst (v := nI 0) dX7_readsClimber_63 rfl (by decide) ?_
                  refine g_bipush (v := nI 20) dX7_readsClimber_64 rfl (by decide) ?_
                  refine g_callV (c_X7_number sk (pl := 18 + T 1) (lo := 0) (hi := 20) hlen htx he1 (by omega) (by omega) (by omega) hn2) m_X7_103 a_X7_number dX7_readsClimber_66 rfl [0, 1, 2] rfl rfl 0 rfl rfl rfl (by decide) (by decide) (by decide) (by decide) (Nat.le_of_ble_eq_true rfl) (fun r w hK => ?_)
                  obtain ⟨rfl, so2, sz2, rfl⟩ := hK
                  refine ⟨rfl, ?_⟩
                  dsimp only [puts, List.set, Option.toList, List.cons_append, List.nil_append, List.append_nil]
                  refine g_if_eqB (t := 83) dX7_readsClimber_69 (by decide) rfl (fun h69 => ?_) (fun h69 => ?_)
                  · exact absurd h69 (by decide)
                  · skip
                    refine g_aload_n dX7_readsClimber_72 rfl rfl ?_
                    refine g_callV (c_X7_stops sk hlen htx he2 hs) m_X7_106 a_X7_stops dX7_readsClimber_73 rfl [0, 1] rfl rfl 0 rfl rfl rfl (by decide) (by decide) (by decide) (by decide) (Nat.le_of_ble_eq_true rfl) (fun r w hK => ?_)
                    obtain ⟨rfl, a1, so1, sz1, rfl⟩ := hK
                    refine ⟨rfl, ?_⟩
                    dsimp only [puts, List.set, Option.toList, List.cons_append, List.nil_append, List.append_nil]
                    refine g_if_eqB (t := 83) dX7_readsClimber_76 (by decide) rfl (fun h76 => ?_) (fun h76 => ?_)
                    · skip
                      refine g_iconst (v := nI 0) dX7_readsClimber_83 rfl (by decide) ?_
                      exact g_zret (b := false) dX7_readsClimber_84 rfl (Nat.le_refl _) (Nat.le_refl _) (⟨rfl, _, _, _, _, _, _, rfl⟩)
                    · exact absurd h76 (by decide)
            · exact absurd (show tooB 3 (T, ft, fc, iha, isn) = true from decide_eq_true (show 6 ≤ T 1 by omega)) hT
          · rw [hs] at hZ
            dsimp only at hZ
            subst hZ
            refine g_aload_n dX7_readsClimber_0 rfl rfl ?_
            refine g_get f_X7_16 dX7_readsClimber_1 rfl 0 rfl rfl ?_
            refine g_iconst (v := nI 1) dX7_readsClimber_4 rfl (by decide) ?_
            refine g_ialdN (v := nI (T 1)) dX7_readsClimber_5 rfl 2 rfl (by omega) (by decide) (hD.1 1 (by decide)) ?_
            refine g_istore_n dX7_readsClimber_6 rfl (by decide) rfl rfl ?_
            refine g_iload_n dX7_readsClimber_7 rfl rfl ?_
            refine g_bipush (v := nI 6) dX7_readsClimber_8 rfl (by decide) ?_
            refine g_icmp_neN (t := 19) dX7_readsClimber_10 (by decide) rfl (by omega) (by omega) (fun h10 => ?_) (fun h10 => ?_)
            · skip
              refine g_aload_n dX7_readsClimber_19 rfl rfl ?_
              refine g_get f_X7_16 dX7_readsClimber_20 rfl 0 rfl rfl ?_
              refine g_iconst (v := nI 1) dX7_readsClimber_23 rfl (by decide) ?_
              refine g_dup2 dX7_readsClimber_24 rfl rfl rfl ?_
              refine g_ialdN (v := nI (T 1)) dX7_readsClimber_25 rfl 2 rfl (by omega) (by decide) (hD.1 1 (by decide)) ?_
              refine g_iconst (v := nI 1) dX7_readsClimber_26 rfl (by decide) ?_
              refine g_iadd dX7_readsClimber_27 rfl (nI_add _ _) ?_
              refine g_iastN dX7_readsClimber_28 rfl 2 rfl (by omega) (by decide) (rfl) rfl ?_
              refine g_aload_n dX7_readsClimber_29 rfl rfl ?_
              refine g_bipush (v := nI 6) dX7_readsClimber_30 rfl (by decide) ?_
              refine g_iload_n dX7_readsClimber_32 rfl rfl ?_
              refine g_iadd dX7_readsClimber_33 rfl (nI_add _ _) ?_
              refine g_iconst (v := nI 1) dX7_readsClimber_34 rfl (by decide) ?_
              refine g_bipush (v := nI 99) dX7_readsClimber_35 rfl (by decide) ?_
              refine g_callV (c_X7_number sk (pl := 6 + T 1) (lo := 1) (hi := 99) hlen htx hp (by omega) (by omega) (by omega) hn0) m_X7_103 a_X7_number dX7_readsClimber_37 rfl [0, 1, 2] rfl rfl 0 rfl rfl rfl (by decide) (by decide) (by decide) (by decide) (Nat.le_of_ble_eq_true rfl) (fun r w hK => ?_)
              obtain ⟨rfl, so0, sz0, rfl⟩ := hK
              refine ⟨rfl, ?_⟩
              dsimp only [puts, List.set, Option.toList, List.cons_append, List.nil_append, List.append_nil]
              refine g_if_eqB (t := 83) dX7_readsClimber_40 (by decide) rfl (fun h40 => ?_) (fun h40 => ?_)
              · exact absurd h40 (by decide)
              · skip
                refine g_aload_n dX7_readsClimber_43 rfl rfl ?_
                refine g_bipush (v := nI 12) dX7_readsClimber_44 rfl (by decide) ?_
                refine g_iload_n dX7_readsClimber_46 rfl rfl ?_
                refine g_iadd dX7_readsClimber_47 rfl (nI_add _ _) ?_
                refine g_iconst (v := nI 1) dX7_readsClimber_48 rfl (by decide) ?_
                refine g_sipush (v := nI 999) dX7_readsClimber_49 rfl (by decide) ?_
                refine g_callV (c_X7_number sk (pl := 12 + T 1) (lo := 1) (hi := 999) hlen htx he0 (by omega) (by omega) (by omega) hn1) m_X7_103 a_X7_number dX7_readsClimber_52 rfl [0, 1, 2] rfl rfl 0 rfl rfl rfl (by decide) (by decide) (by decide) (by decide) (Nat.le_of_ble_eq_true rfl) (fun r w hK => ?_)
                obtain ⟨rfl, so1, sz1, rfl⟩ := hK
                refine ⟨rfl, ?_⟩
                dsimp only [puts, List.set, Option.toList, List.cons_append, List.nil_append, List.append_nil]
                refine g_if_eqB (t := 83) dX7_readsClimber_55 (by decide) rfl (fun h55 => ?_) (fun h55 => ?_)
                · exact absurd h55 (by decide)
                · skip
                  refine g_aload_n dX7_readsClimber_58 rfl rfl ?_
                  refine g_bipush (v := nI 18) dX7_readsClimber_59 rfl (by decide) ?_
                  refine g_iload_n dX7_readsClimber_61 rfl rfl ?_
                  refine g_iadd dX7_readsClimber_62 rfl (nI_add _ _) ?_
                  refine g_iconst (v := nI 0) dX7_readsClimber_63 rfl (by decide) ?_
                  refine g_bipush (v := nI 20) dX7_readsClimber_64 rfl (by decide) ?_
                  refine g_callV (c_X7_number sk (pl := 18 + T 1) (lo := 0) (hi := 20) hlen htx he1 (by omega) (by omega) (by omega) hn2) m_X7_103 a_X7_number dX7_readsClimber_66 rfl [0, 1, 2] rfl rfl 0 rfl rfl rfl (by decide) (by decide) (by decide) (by decide) (Nat.le_of_ble_eq_true rfl) (fun r w hK => ?_)
                  obtain ⟨rfl, so2, sz2, rfl⟩ := hK
                  refine ⟨rfl, ?_⟩
                  dsimp only [puts, List.set, Option.toList, List.cons_append, List.nil_append, List.append_nil]
                  refine g_if_eqB (t := 83) dX7_readsClimber_69 (by decide) rfl (fun h69 => ?_) (fun h69 => ?_)
                  · exact absurd h69 (by decide)
                  · skip
                    refine g_aload_n dX7_readsClimber_72 rfl rfl ?_
                    refine g_callV (c_X7_stops sk hlen htx he2 hs) m_X7_106 a_X7_stops dX7_readsClimber_73 rfl [0, 1] rfl rfl 0 rfl rfl rfl (by decide) (by decide) (by decide) (by decide) (Nat.le_of_ble_eq_true rfl) (fun r w hK => ?_)
                    obtain ⟨rfl, so9, sta9, sz9, rfl⟩ := hK
                    refine ⟨rfl, ?_⟩
                    dsimp only [puts, List.set, Option.toList, List.cons_append, List.nil_append, List.append_nil]
                    refine g_if_eqB (t := 83) dX7_readsClimber_76 (by decide) rfl (fun h76 => ?_) (fun h76 => ?_)
                    · exact absurd h76 (by decide)
                    · skip
                      refine g_iconst (v := nI 1) dX7_readsClimber_79 rfl (by decide) ?_
                      refine g_goto (q := 84) dX7_readsClimber_80 (by decide) ?_
                      exact g_zret (b := true) dX7_readsClimber_84 rfl (Nat.le_refl _) (Nat.le_refl _) (⟨rfl, _, _, _, _, rfl, DR_T (DR_up (DR_up (DR_up (DR_up hD (v := T 1 + 1) (by decide)) (v := v0) (show 6 + T 1 < 54 by omega)) (v := v1) (show 12 + T 1 < 54 by omega)) (v := v2) (show 18 + T 1 < 54 by omega)) (fun j hj => by show nup (nup (nup (nup T 1 (T 1 + 1)) (6 + T 1) v0) (12 + T 1) v1) (18 + T 1) v2 j = nup (nup (nup (nup T (6 + T 1) v0) (12 + T 1) v1) (18 + T 1) v2) 1 (T 1 + 1) j; rw [nup_c (show 18 + T 1 ≠ 1 by omega), nup_c (show 12 + T 1 ≠ 1 by omega), nup_c (show 6 + T 1 ≠ 1 by omega)])⟩)
            · exact absurd (show tooB 3 (T, ft, fc, iha, isn) = true from decide_eq_true (show 6 ≤ T 1 by omega)) hT
theorem pole_t {n : Nat} (hn : n < 2 ^ 31) (h : nI n ≤ 0) : ¬ 0 < n := fun q => nI_nle q hn h
theorem pole_f {n : Nat} (hn : n < 2 ^ 31) (h : ¬ nI n ≤ 0) : 0 < n := Nat.pos_of_ne_zero (fun q => h (by rw [q]; decide))
/-- the slips, as the reference lays them -/
def slF (F v i : Nat) (f : Nat → Int32) : Nat → Int32 := fun j => if 25 ≤ j ∧ j < 24 + i then nI (if j - 24 < F then v else 0) else f j
theorem slF_1 (F v : Nat) (f : Nat → Int32) : slF F v 1 f = f := by
  funext j
  unfold slF
  rw [if_neg (by omega)]
theorem slF_up (F v i : Nat) (hi : 1 ≤ i) (f : Nat → Int32) {y : Int32} (hy : y = nI (if i < F then v else 0)) : upd (slF F v i f) (24 + i) y = slF F v (i + 1) f := by
  funext j
  subst hy
  unfold upd slF
  by_cases e : j = 24 + i
  · rw [if_pos e, if_pos (show 25 ≤ j ∧ j < 24 + (i + 1) by omega), show j - 24 = i by omega]
  · rw [if_neg e]
    by_cases e2 : 25 ≤ j ∧ j < 24 + i
    · rw [if_pos e2, if_pos (show 25 ≤ j ∧ j < 24 + (i + 1) by omega)]
    · rw [if_neg e2, if_neg (show ¬ (25 ≤ j ∧ j < 24 + (i + 1)) by omega)]
theorem pole_DR {T : Nat → Nat} {ft : Nat → Bool} {fc v0 v1 : Nat} {hm sn : Bool} {fd : Nat → Int32} (hD : DR T ft fc fd) (h0 : 1 ≤ v0 ∧ v0 ≤ 30) : DR (takeQ 1 (nup (nup (fun _ => 0) 0 v0) 1 v1) (T, ft, fc, hm, sn)).1 (takeQ 1 (nup (nup (fun _ => 0) 0 v0) 1 v1) (T, ft, fc, hm, sn)).2.1 (takeQ 1 (nup (nup (fun _ => 0) 0 v0) 1 v1) (T, ft, fc, hm, sn)).2.2.1 (slF v0 v1 30 (upd (upd fd 0 (nI v0)) 24 (nI v1))) := by
  refine ⟨fun j hj => ?_, fun i hi => ?_, ?_⟩
  · show slF v0 v1 30 (upd (upd fd 0 (nI v0)) 24 (nI v1)) j = nI (if j = 0 then v0 else if 24 ≤ j then (if j - 24 < v0 then v1 else 0) else T j)
    unfold slF
    by_cases e : 25 ≤ j ∧ j < 24 + 30
    · rw [if_pos e, if_neg (show ¬ j = 0 by omega), if_pos (show 24 ≤ j by omega)]
    · rw [if_neg e]
      by_cases e2 : j = 24
      · subst e2; rw [pk_us, if_neg (show ¬ (24 : Nat) = 0 by decide), if_pos (show 24 ≤ 24 by decide), if_pos (show 24 - 24 < v0 by omega)]
      · rw [pk_un e2]
        by_cases e3 : j = 0
        · subst e3; rw [pk_us, if_pos rfl]
        · rw [pk_un e3, if_neg e3, if_neg (show ¬ 24 ≤ j by omega)]; exact hD.1 j hj
  · show bt (slF v0 v1 30 (upd (upd fd 0 (nI v0)) 24 (nI v1)) 54) i = ft i
    unfold slF
    rw [if_neg (by decide), pk_un (by decide), pk_un (by decide)]
    exact hD.2.1 i hi
  · show slF v0 v1 30 (upd (upd fd 0 (nI v0)) 24 (nI v1)) 55 = nI fc
    unfold slF
    rw [if_neg (by decide), pk_un (by decide), pk_un (by decide)]
    exact hD.2.2
set_option maxRecDepth 20000 in
theorem lp_pole49 (sk : Nat → Nat) {h mt mo md ms mn mi mz mk mw mf mr mb mu : Nat} {li se fAt ru : Int32} {iha isn : Bool} {len : Nat} {tx : Nat → Nat} {fx : Nat → Int32} {so9 sta9 sz9 fl : Int32} {pe v0 v1 : Nat} {fd : Nat → Int32} {T : Nat → Nat} {ft : Nat → Bool} {fc : Nat} (hD : DR T ft fc fd) (h0 : 1 ≤ v0 ∧ v0 ≤ 30) (h1 : v1 ≤ 99) : ∀ (n i : Nat), 1 ≤ i → i + n = 30 → GG sk RX7 yX7_readsPole cX7_readsPole 2 (some .boolean) 4 0 0 (clmQ (.inr (takeQ 1 (nup (nup (fun _ => 0) 0 v0) 1 v1) (T, ft, fc, iha, isn), pe)) (fun a so sta sz fl b1 b2 fd => [oMod h mt (nI len) mo md ms mn mi mz mk mw mf li se fAt a so sta sz fl b1 b2 ru mr mb mu, cI mt 400 fx, cI md 56 fd]) fl) 0 0 49 [some (.ref h), some (.int (nI i))] [] [oMod h mt (nI len) mo md ms mn mi mz mk mw mf li se fAt (nI pe) so9 sta9 sz9 fl iha isn ru mr mb mu, cI mt 400 fx, cI md 56 (slF v0 v1 i (upd (upd fd 0 (nI v0)) 24 (nI v1)))] := by
  intro n
  induction n with
  | zero =>
    intro i h1 hi
    have e : i = 30 := by omega
    subst e
    refine g_iload_n dX7_readsPole_49 rfl rfl ?_
    refine g_bipush (v := nI 30) dX7_readsPole_50 rfl (by decide) ?_
    refine g_icmp_geN (t := 91) dX7_readsPole_52 (by decide) rfl (by omega) (by omega) (fun h52 => ?_) (fun h52 => ?_)
    · skip
      refine g_iconst (v := nI 1) dX7_readsPole_91 rfl (by decide) ?_
      exact g_zret (b := true) dX7_readsPole_92 rfl (Nat.le_refl _) (Nat.le_refl _) (⟨rfl, _, _, _, _, rfl, pole_DR hD h0⟩)
    · exact absurd h52 (by decide)
  | succ n ih =>
    intro i h1 hi
    refine g_iload_n dX7_readsPole_49 rfl rfl ?_
    refine g_bipush (v := nI 30) dX7_readsPole_50 rfl (by decide) ?_
    refine g_icmp_geN (t := 91) dX7_readsPole_52 (by decide) rfl (by omega) (by omega) (fun h52 => ?_) (fun h52 => ?_)
    · exact absurd h52 (by omega)
    · skip
      refine g_aload_n dX7_readsPole_55 rfl rfl ?_
      refine g_get f_X7_16 dX7_readsPole_56 rfl 0 rfl rfl ?_
      refine g_bipush (v := nI 24) dX7_readsPole_59 rfl (by decide) ?_
      refine g_iload_n dX7_readsPole_61 rfl rfl ?_
      refine g_iadd dX7_readsPole_62 rfl (nI_add _ _) ?_
      refine g_iload_n dX7_readsPole_63 rfl rfl ?_
      refine g_aload_n dX7_readsPole_64 rfl rfl ?_
      refine g_get f_X7_16 dX7_readsPole_65 rfl 0 rfl rfl ?_
      refine g_iconst (v := nI 0) dX7_readsPole_68 rfl (by decide) ?_
      refine g_ialdN (v := nI v0) dX7_readsPole_69 rfl 2 rfl (by omega) (by decide) (rfl) ?_
      refine g_icmp_geN (t := 83) dX7_readsPole_70 (by decide) rfl (by omega) (by omega) (fun h70 => ?_) (fun h70 => ?_)
      · skip
        refine g_iconst (v := nI 0) dX7_readsPole_83 rfl (by decide) ?_
        refine g_iastN dX7_readsPole_84 rfl 2 rfl (by omega) (by decide) (slF_up v0 v1 i h1 _ (by rw [if_neg (by omega)])) rfl ?_
        refine g_iinc dX7_readsPole_85 rfl rfl (nI_1 _) (by decide) rfl rfl ?_
        refine g_goto (q := 49) dX7_readsPole_88 (by decide) ?_
        exact ih (i + 1) (by omega) (by omega)
      · skip
        refine g_aload_n dX7_readsPole_73 rfl rfl ?_
        refine g_get f_X7_16 dX7_readsPole_74 rfl 0 rfl rfl ?_
        refine g_bipush (v := nI 24) dX7_readsPole_77 rfl (by decide) ?_
        refine g_ialdN (v := nI v1) dX7_readsPole_79 rfl 2 rfl (by omega) (by decide) (rfl) ?_
        refine g_goto (q := 84) dX7_readsPole_80 (by decide) ?_
        refine g_iastN dX7_readsPole_84 rfl 2 rfl (by omega) (by decide) (slF_up v0 v1 i h1 _ (by rw [if_pos (by omega)])) rfl ?_
        refine g_iinc dX7_readsPole_85 rfl rfl (nI_1 _) (by decide) rfl rfl ?_
        refine g_goto (q := 49) dX7_readsPole_88 (by decide) ?_
        exact ih (i + 1) (by omega) (by omega)
set_option maxRecDepth 20000 in
theorem c_X7_readsPole (sk : Nat → Nat) {h mt mo md ms mn mi mz mk mw mf mr mb mu : Nat} {li se fAt ru : Int32} {iha isn : Bool} {len : Nat} {tx : Nat → Nat} {fx : Nat → Int32} {p1 pos : Nat} {so sz fl : Int32} {fd : Nat → Int32} {T : Nat → Nat} {ft : Nat → Bool} {fc : Nat} {Z : (Nat × Nat) ⊕ (QS × Nat)} (hlen : len ≤ 400) (htx : ∀ j, j < len → fx j = nI (tx j) ∧ tx j < 256) (hp : pos ≤ len) (hQ : QB (T, ft, fc, iha, isn)) (hD : DR T ft fc fd) (hZ : clK tx len 1 2 pos p1 (T, ft, fc, iha, isn) = Z) : Ct sk yX7_readsPole cX7_readsPole 2 (some .boolean) 4 0 0 [oMod h mt (nI len) mo md ms mn mi mz mk mw mf li se fAt (nI pos) so (nI p1) sz fl iha isn ru mr mb mu, cI mt 400 fx, cI md 56 fd] [.ref h] (clmQ Z (fun a so sta sz fl b1 b2 fd => [oMod h mt (nI len) mo md ms mn mi mz mk mw mf li se fAt a so sta sz fl b1 b2 ru mr mb mu, cI mt 400 fx, cI md 56 fd]) fl) := by
  refine Ct.of (own := RX7) (l := [some (.ref h), none]) (by decide) rfl (Nat.le_of_ble_eq_true rfl) rfl ?_
  have hF30 : T 0 ≤ 30 := hQ.1
  unfold clK at hZ
  by_cases hT : tooB 1 (T, ft, fc, iha, isn) = true
  · rw [if_pos hT] at hZ
    subst hZ
    refine g_aload_n dX7_readsPole_0 rfl rfl ?_
    refine g_get f_X7_16 dX7_readsPole_1 rfl 0 rfl rfl ?_
    refine g_iconst (v := nI 0) dX7_readsPole_4 rfl (by decide) ?_
    refine g_ialdN (v := nI (T 0)) dX7_readsPole_5 rfl 2 rfl (by omega) (by decide) (hD.1 0 (by decide)) ?_
    refine g_if_le (t := 15) dX7_readsPole_6 (by decide) rfl (fun h6 => ?_) (fun h6 => ?_)
    · exact absurd (of_decide_eq_true (show decide (0 < T 0) = true from hT)) (pole_t (n := T 0) (by omega) h6)
    · skip
      refine g_aload_n dX7_readsPole_9 rfl rfl ?_
      refine g_iconst (v := nI 3) dX7_readsPole_10 rfl (by decide) ?_
      refine g_callV (c_X7_wrong sk) m_X7_99 a_X7_wrong dX7_readsPole_11 rfl [0] rfl rfl 0 rfl rfl rfl (by decide) (by decide) (by decide) (by decide) (Nat.le_of_ble_eq_true rfl) (fun r w hK => ?_)
      obtain ⟨rfl, rfl⟩ := hK
      refine ⟨rfl, ?_⟩
      dsimp only [puts, List.set, Option.toList, List.cons_append, List.nil_append, List.append_nil]
      exact g_zret dX7_readsPole_14 rfl (Nat.le_refl _) (Nat.le_refl _) (⟨rfl, _, _, _, _, _, _, rfl⟩)
  · rw [if_neg hT] at hZ
    rw [numsR, numR_M (lo := 1) (hi := 30) (by decide) rfl rfl] at hZ
    rcases hn0 : numM tx len (1) (30) pos with f | ⟨v0, e0⟩
    · rw [hn0] at hZ
      dsimp only at hZ
      subst hZ
      refine g_aload_n dX7_readsPole_0 rfl rfl ?_
      refine g_get f_X7_16 dX7_readsPole_1 rfl 0 rfl rfl ?_
      refine g_iconst (v := nI 0) dX7_readsPole_4 rfl (by decide) ?_
      refine g_ialdN (v := nI (T 0)) dX7_readsPole_5 rfl 2 rfl (by omega) (by decide) (hD.1 0 (by decide)) ?_
      refine g_if_le (t := 15) dX7_readsPole_6 (by decide) rfl (fun h6 => ?_) (fun h6 => ?_)
      · skip
        refine g_aload_n dX7_readsPole_15 rfl rfl ?_
        refine g_iconst (v := nI 0) dX7_readsPole_16 rfl (by decide) ?_
        refine g_iconst (v := nI 1) dX7_readsPole_17 rfl (by decide) ?_
        refine g_bipush (v := nI 30) dX7_readsPole_18 rfl (by decide) ?_
        refine g_callV (c_X7_number sk (pl := 0) (lo := 1) (hi := 30) hlen htx hp (by omega) (by omega) (by omega) hn0) m_X7_103 a_X7_number dX7_readsPole_20 rfl [0, 1, 2] rfl rfl 0 rfl rfl rfl (by decide) (by decide) (by decide) (by decide) (Nat.le_of_ble_eq_true rfl) (fun r w hK => ?_)
        obtain ⟨rfl, a1, so1, sz1, rfl⟩ := hK
        refine ⟨rfl, ?_⟩
        dsimp only [puts, List.set, Option.toList, List.cons_append, List.nil_append, List.append_nil]
        refine g_if_eqB (t := 45) dX7_readsPole_23 (by decide) rfl (fun h23 => ?_) (fun h23 => ?_)
        · skip
          refine g_iconst (v := nI 0) dX7_readsPole_45 rfl (by decide) ?_
          exact g_zret (b := false) dX7_readsPole_46 rfl (Nat.le_refl _) (Nat.le_refl _) (⟨rfl, _, _, _, _, _, _, rfl⟩)
        · exact absurd h23 (by decide)
      · exact absurd (show tooB 1 (T, ft, fc, iha, isn) = true from decide_eq_true (pole_f (n := T 0) (by omega) h6)) hT
    · rw [hn0] at hZ
      dsimp only at hZ
      obtain ⟨he0, hl0, hh0⟩ := numM_ok hp hn0
      rw [numsR, numR_M (lo := 0) (hi := 99) (by decide) rfl rfl] at hZ
      rcases hn1 : numM tx len (0) (99) e0 with f | ⟨v1, e1⟩
      · rw [hn1] at hZ
        dsimp only at hZ
        subst hZ
        refine g_aload_n dX7_readsPole_0 rfl rfl ?_
        refine g_get f_X7_16 dX7_readsPole_1 rfl 0 rfl rfl ?_
        refine g_iconst (v := nI 0) dX7_readsPole_4 rfl (by decide) ?_
        refine g_ialdN (v := nI (T 0)) dX7_readsPole_5 rfl 2 rfl (by omega) (by decide) (hD.1 0 (by decide)) ?_
        refine g_if_le (t := 15) dX7_readsPole_6 (by decide) rfl (fun h6 => ?_) (fun h6 => ?_)
        · skip
          refine g_aload_n dX7_readsPole_15 rfl rfl ?_
          refine g_iconst (v := nI 0) dX7_readsPole_16 rfl (by decide) ?_
          refine g_iconst (v := nI 1) dX7_readsPole_17 rfl (by decide) ?_
          refine g_bipush (v := nI 30) dX7_readsPole_18 rfl (by decide) ?_
          refine g_callV (c_X7_number sk (pl := 0) (lo := 1) (hi := 30) hlen htx hp (by omega) (by omega) (by omega) hn0) m_X7_103 a_X7_number dX7_readsPole_20 rfl [0, 1, 2] rfl rfl 0 rfl rfl rfl (by decide) (by decide) (by decide) (by decide) (Nat.le_of_ble_eq_true rfl) (fun r w hK => ?_)
          obtain ⟨rfl, so0, sz0, rfl⟩ := hK
          refine ⟨rfl, ?_⟩
          dsimp only [puts, List.set, Option.toList, List.cons_append, List.nil_append, List.append_nil]
          refine g_if_eqB (t := 45) dX7_readsPole_23 (by decide) rfl (fun h23 => ?_) (fun h23 => ?_)
          · exact absurd h23 (by decide)
          · skip
            refine g_aload_n dX7_readsPole_26 rfl rfl ?_
            refine g_bipush (v := nI 24) dX7_readsPole_27 rfl (by decide) ?_
            refine g_iconst (v := nI 0) dX7_readsPole_29 rfl (by decide) ?_
            refine g_bipush (v := nI 99) dX7_readsPole_30 rfl (by decide) ?_
            refine g_callV (c_X7_number sk (pl := 24) (lo := 0) (hi := 99) hlen htx he0 (by omega) (by omega) (by omega) hn1) m_X7_103 a_X7_number dX7_readsPole_32 rfl [0, 1, 2] rfl rfl 0 rfl rfl rfl (by decide) (by decide) (by decide) (by decide) (Nat.le_of_ble_eq_true rfl) (fun r w hK => ?_)
            obtain ⟨rfl, a1, so1, sz1, rfl⟩ := hK
            refine ⟨rfl, ?_⟩
            dsimp only [puts, List.set, Option.toList, List.cons_append, List.nil_append, List.append_nil]
            refine g_if_eqB (t := 45) dX7_readsPole_35 (by decide) rfl (fun h35 => ?_) (fun h35 => ?_)
            · skip
              refine g_iconst (v := nI 0) dX7_readsPole_45 rfl (by decide) ?_
              exact g_zret (b := false) dX7_readsPole_46 rfl (Nat.le_refl _) (Nat.le_refl _) (⟨rfl, _, _, _, _, _, _, rfl⟩)
            · exact absurd h35 (by decide)
        · exact absurd (show tooB 1 (T, ft, fc, iha, isn) = true from decide_eq_true (pole_f (n := T 0) (by omega) h6)) hT
      · rw [hn1] at hZ
        dsimp only at hZ
        obtain ⟨he1, hl1, hh1⟩ := numM_ok he0 hn1
        rw [numsR] at hZ
        rcases hs : endR tx len e1 with f | pe
        · rw [hs] at hZ
          dsimp only at hZ
          subst hZ
          refine g_aload_n dX7_readsPole_0 rfl rfl ?_
          refine g_get f_X7_16 dX7_readsPole_1 rfl 0 rfl rfl ?_
          refine g_iconst (v := nI 0) dX7_readsPole_4 rfl (by decide) ?_
          refine g_ialdN (v := nI (T 0)) dX7_readsPole_5 rfl 2 rfl (by omega) (by decide) (hD.1 0 (by decide)) ?_
          refine g_if_le (t := 15) dX7_readsPole_6 (by decide) rfl (fun h6 => ?_) (fun h6 => ?_)
          · skip
            refine g_aload_n dX7_readsPole_15 rfl rfl ?_
            refine g_iconst (v := nI 0) dX7_readsPole_16 rfl (by decide) ?_
            refine g_iconst (v := nI 1) dX7_readsPole_17 rfl (by decide) ?_
            refine g_bipush (v := nI 30) dX7_readsPole_18 rfl (by decide) ?_
            refine g_callV (c_X7_number sk (pl := 0) (lo := 1) (hi := 30) hlen htx hp (by omega) (by omega) (by omega) hn0) m_X7_103 a_X7_number dX7_readsPole_20 rfl [0, 1, 2] rfl rfl 0 rfl rfl rfl (by decide) (by decide) (by decide) (by decide) (Nat.le_of_ble_eq_true rfl) (fun r w hK => ?_)
            obtain ⟨rfl, so0, sz0, rfl⟩ := hK
            refine ⟨rfl, ?_⟩
            dsimp only [puts, List.set, Option.toList, List.cons_append, List.nil_append, List.append_nil]
            refine g_if_eqB (t := 45) dX7_readsPole_23 (by decide) rfl (fun h23 => ?_) (fun h23 => ?_)
            · exact absurd h23 (by decide)
            · skip
              refine g_aload_n dX7_readsPole_26 rfl rfl ?_
              refine g_bipush (v := nI 24) dX7_readsPole_27 rfl (by decide) ?_
              refine g_iconst (v := nI 0) dX7_readsPole_29 rfl (by decide) ?_
              refine g_bipush (v := nI 99) dX7_readsPole_30 rfl (by decide) ?_
              refine g_callV (c_X7_number sk (pl := 24) (lo := 0) (hi := 99) hlen htx he0 (by omega) (by omega) (by omega) hn1) m_X7_103 a_X7_number dX7_readsPole_32 rfl [0, 1, 2] rfl rfl 0 rfl rfl rfl (by decide) (by decide) (by decide) (by decide) (Nat.le_of_ble_eq_true rfl) (fun r w hK => ?_)
              obtain ⟨rfl, so1, sz1, rfl⟩ := hK
              refine ⟨rfl, ?_⟩
              dsimp only [puts, List.set, Option.toList, List.cons_append, List.nil_append, List.append_nil]
              refine g_if_eqB (t := 45) dX7_readsPole_35 (by decide) rfl (fun h35 => ?_) (fun h35 => ?_)
              · exact absurd h35 (by decide)
              · skip
                refine g_aload_n dX7_readsPole_38 rfl rfl ?_
                refine g_callV (c_X7_stops sk hlen htx he1 hs) m_X7_106 a_X7_stops dX7_readsPole_39 rfl [0, 1] rfl rfl 0 rfl rfl rfl (by decide) (by decide) (by decide) (by decide) (Nat.le_of_ble_eq_true rfl) (fun r w hK => ?_)
                obtain ⟨rfl, a1, so1, sz1, rfl⟩ := hK
                refine ⟨rfl, ?_⟩
                dsimp only [puts, List.set, Option.toList, List.cons_append, List.nil_append, List.append_nil]
                refine g_if_neB (t := 47) dX7_readsPole_42 (by decide) rfl (fun h42 => ?_) (fun h42 => ?_)
                · exact absurd h42 (by decide)
                · skip
                  refine g_iconst (v := nI 0) dX7_readsPole_45 rfl (by decide) ?_
                  exact g_zret (b := false) dX7_readsPole_46 rfl (Nat.le_refl _) (Nat.le_refl _) (⟨rfl, _, _, _, _, _, _, rfl⟩)
          · exact absurd (show tooB 1 (T, ft, fc, iha, isn) = true from decide_eq_true (pole_f (n := T 0) (by omega) h6)) hT
        · rw [hs] at hZ
          dsimp only at hZ
          subst hZ
          refine g_aload_n dX7_readsPole_0 rfl rfl ?_
          refine g_get f_X7_16 dX7_readsPole_1 rfl 0 rfl rfl ?_
          refine g_iconst (v := nI 0) dX7_readsPole_4 rfl (by decide) ?_
          refine g_ialdN (v := nI (T 0)) dX7_readsPole_5 rfl 2 rfl (by omega) (by decide) (hD.1 0 (by decide)) ?_
          refine g_if_le (t := 15) dX7_readsPole_6 (by decide) rfl (fun h6 => ?_) (fun h6 => ?_)
          · skip
            refine g_aload_n dX7_readsPole_15 rfl rfl ?_
            refine g_iconst (v := nI 0) dX7_readsPole_16 rfl (by decide) ?_
            refine g_iconst (v := nI 1) dX7_readsPole_17 rfl (by decide) ?_
            refine g_bipush (v := nI 30) dX7_readsPole_18 rfl (by decide) ?_
            refine g_callV (c_X7_number sk (pl := 0) (lo := 1) (hi := 30) hlen htx hp (by omega) (by omega) (by omega) hn0) m_X7_103 a_X7_number dX7_readsPole_20 rfl [0, 1, 2] rfl rfl 0 rfl rfl rfl (by decide) (by decide) (by decide) (by decide) (Nat.le_of_ble_eq_true rfl) (fun r w hK => ?_)
            obtain ⟨rfl, so0, sz0, rfl⟩ := hK
            refine ⟨rfl, ?_⟩
            dsimp only [puts, List.set, Option.toList, List.cons_append, List.nil_append, List.append_nil]
            refine g_if_eqB (t := 45) dX7_readsPole_23 (by decide) rfl (fun h23 => ?_) (fun h23 => ?_)
            · exact absurd h23 (by decide)
            · skip
              refine g_aload_n dX7_readsPole_26 rfl rfl ?_
              refine g_bipush (v := nI 24) dX7_readsPole_27 rfl (by decide) ?_
              refine g_iconst (v := nI 0) dX7_readsPole_29 rfl (by decide) ?_
              refine g_bipush (v := nI 99) dX7_readsPole_30 rfl (by decide) ?_
              refine g_callV (c_X7_number sk (pl := 24) (lo := 0) (hi := 99) hlen htx he0 (by omega) (by omega) (by omega) hn1) m_X7_103 a_X7_number dX7_readsPole_32 rfl [0, 1, 2] rfl rfl 0 rfl rfl rfl (by decide) (by decide) (by decide) (by decide) (Nat.le_of_ble_eq_true rfl) (fun r w hK => ?_)
              obtain ⟨rfl, so1, sz1, rfl⟩ := hK
              refine ⟨rfl, ?_⟩
              dsimp only [puts, List.set, Option.toList, List.cons_append, List.nil_append, List.append_nil]
              refine g_if_eqB (t := 45) dX7_readsPole_35 (by decide) rfl (fun h35 => ?_) (fun h35 => ?_)
              · exact absurd h35 (by decide)
              · skip
                refine g_aload_n dX7_readsPole_38 rfl rfl ?_
                refine g_callV (c_X7_stops sk hlen htx he1 hs) m_X7_106 a_X7_stops dX7_readsPole_39 rfl [0, 1] rfl rfl 0 rfl rfl rfl (by decide) (by decide) (by decide) (by decide) (Nat.le_of_ble_eq_true rfl) (fun r w hK => ?_)
                obtain ⟨rfl, so9, sta9, sz9, rfl⟩ := hK
                refine ⟨rfl, ?_⟩
                dsimp only [puts, List.set, Option.toList, List.cons_append, List.nil_append, List.append_nil]
                refine g_if_neB (t := 47) dX7_readsPole_42 (by decide) rfl (fun h42 => ?_) (fun h42 => ?_)
                · skip
                  refine g_iconst (v := nI 1) dX7_readsPole_47 rfl (by decide) ?_
                  refine g_istore_n dX7_readsPole_48 rfl (by decide) rfl rfl ?_
                  have h49 := lp_pole49 sk (h := h) (mt := mt) (mo := mo) (md := md) (ms := ms) (mn := mn) (mi := mi) (mz := mz) (mk := mk) (mw := mw) (mf := mf) (mr := mr) (mb := mb) (mu := mu) (li := li) (se := se) (fAt := fAt) (ru := ru) (iha := iha) (isn := isn) (len := len) (tx := tx) (fx := fx) (so9 := so9) (sta9 := sta9) (sz9 := sz9) (fl := fl) (pe := pe) hD ⟨hl0, hh0⟩ hh1 29 1 (by decide) (by decide)
                  rw [slF_1] at h49
                  exact h49
                · exact absurd h42 (by decide)
          · exact absurd (show tooB 1 (T, ft, fc, iha, isn) = true from decide_eq_true (pole_f (n := T 0) (by omega) h6)) hT
theorem foot_DR {T : Nat → Nat} {ft : Nat → Bool} {fc v0 v1 : Nat} {hm sn : Bool} {fd : Nat → Int32} (hD : DR T ft fc fd) (h0 : v0 < 30) : DR (takeQ 2 (nup (nup (fun _ => 0) 0 v0) 1 v1) (T, ft, fc, hm, sn)).1 (takeQ 2 (nup (nup (fun _ => 0) 0 v0) 1 v1) (T, ft, fc, hm, sn)).2.1 (takeQ 2 (nup (nup (fun _ => 0) 0 v0) 1 v1) (T, ft, fc, hm, sn)).2.2.1 (upd (upd (upd fd 54 (fd 54 ||| (nI 1 <<< (nI v0 &&& 31)))) 55 (nI (fc + 1))) (24 + v0) (nI v1)) := by
  refine ⟨fun j hj => ?_, fun i hi => ?_, ?_⟩
  · show upd _ (24 + v0) (nI v1) j = nI (nup T (24 + v0) v1 j)
    unfold nup
    by_cases e : j = 24 + v0
    · subst e; rw [pk_us, if_pos rfl]
    · rw [pk_un e, pk_un (by omega), pk_un (by omega), if_neg e]; exact hD.1 j hj
  · show bt (upd _ (24 + v0) (nI v1) 54) i = (if i = v0 then true else ft i)
    rw [pk_un (by omega), pk_un (by decide), pk_us, b_set _ (by omega) (by omega), hD.2.1 i hi]
    by_cases e : i = v0
    · rw [decide_eq_true e, if_pos e, Bool.or_true]
    · rw [decide_eq_false e, if_neg e, Bool.or_false]
  · show upd _ (24 + v0) (nI v1) 55 = nI (fc + 1)
    rw [pk_un (by omega), pk_us]
theorem foot_up (fd : Nat → Int32) (x : Int32) : upd (upd fd 2 x) 2 (fd 2) = fd := by rw [upd_upd, upd_self]
theorem foot_up2 (fd : Nat → Int32) : upd fd 2 (fd 2) = fd := upd_self fd 2
theorem foot_bit {T : Nat → Nat} {ft : Nat → Bool} {fc v : Nat} {fd : Nat → Int32} (hD : DR T ft fc fd) (hv : v < 30) : (fd 54 >>> (nI v &&& 31)) &&& nI 1 = nI 1 ↔ ft v = true := by
  rw [b_get _ (by omega), hD.2.1 v hv]
  cases ft v
  · exact ⟨fun q => absurd q (by decide), fun q => absurd q (by decide)⟩
  · exact ⟨fun _ => rfl, fun _ => rfl⟩
set_option maxRecDepth 20000 in
theorem c_X7_readsFoot (sk : Nat → Nat) {h mt mo md ms mn mi mz mk mw mf mr mb mu : Nat} {li se fAt ru : Int32} {iha isn : Bool} {len : Nat} {tx : Nat → Nat} {fx : Nat → Int32} {p1 pos : Nat} {so sz fl : Int32} {fd : Nat → Int32} {T : Nat → Nat} {ft : Nat → Bool} {fc : Nat} {Z : (Nat × Nat) ⊕ (QS × Nat)} (hlen : len ≤ 400) (htx : ∀ j, j < len → fx j = nI (tx j) ∧ tx j < 256) (hp : pos ≤ len) (hQ : QB (T, ft, fc, iha, isn)) (hD : DR T ft fc fd) (hF : 1 ≤ T 0) (hZ : clK tx len 2 2 pos p1 (T, ft, fc, iha, isn) = Z) : Ct sk yX7_readsFoot cX7_readsFoot 4 (some .boolean) 4 0 0 [oMod h mt (nI len) mo md ms mn mi mz mk mw mf li se fAt (nI pos) so (nI p1) sz fl iha isn ru mr mb mu, cI mt 400 fx, cI md 56 fd] [.ref h] (clmQ Z (fun a so sta sz fl b1 b2 fd => [oMod h mt (nI len) mo md ms mn mi mz mk mw mf li se fAt a so sta sz fl b1 b2 ru mr mb mu, cI mt 400 fx, cI md 56 fd]) fl) := by
  refine Ct.of (own := RX7) (l := [some (.ref h), none, none, none]) (by decide) rfl (Nat.le_of_ble_eq_true rfl) rfl ?_
  have hF30 : T 0 ≤ 30 := hQ.1
  have hfc : fc ≤ 20 := hQ.2.2.2.2.2.2.2.2
  unfold clK at hZ
  by_cases hT : tooB 2 (T, ft, fc, iha, isn) = true
  · rw [if_pos hT] at hZ
    subst hZ
    refine g_aload_n dX7_readsFoot_0 rfl rfl ?_
    refine g_get f_X7_16 dX7_readsFoot_1 rfl 0 rfl rfl ?_
    refine g_bipush (v := nI 55) dX7_readsFoot_4 rfl (by decide) ?_
    refine g_ialdN (v := nI fc) dX7_readsFoot_6 rfl 2 rfl (by omega) (by decide) (hD.2.2) ?_
    refine g_bipush (v := nI 20) dX7_readsFoot_7 rfl (by decide) ?_
    refine g_icmp_neN (t := 18) dX7_readsFoot_9 (by decide) rfl (by omega) (by omega) (fun h9 => ?_) (fun h9 => ?_)
    · exact absurd (of_decide_eq_true (show decide (20 ≤ fc) = true from hT)) (by omega)
    · skip
      refine g_aload_n dX7_readsFoot_12 rfl rfl ?_
      refine g_iconst (v := nI 3) dX7_readsFoot_13 rfl (by decide) ?_
      refine g_callV (c_X7_wrong sk) m_X7_99 a_X7_wrong dX7_readsFoot_14 rfl [0] rfl rfl 0 rfl rfl rfl (by decide) (by decide) (by decide) (by decide) (Nat.le_of_ble_eq_true rfl) (fun r w hK => ?_)
      obtain ⟨rfl, rfl⟩ := hK
      refine ⟨rfl, ?_⟩
      dsimp only [puts, List.set, Option.toList, List.cons_append, List.nil_append, List.append_nil]
      exact g_zret dX7_readsFoot_17 rfl (Nat.le_refl _) (Nat.le_refl _) (⟨rfl, _, _, _, _, _, _, rfl⟩)
  · rw [if_neg hT] at hZ
    rw [numsR, numR_F] at hZ
    rcases hn0 : numM tx len (0) (T 0 - 1) pos with f | ⟨v0, e0⟩
    · rw [hn0] at hZ
      dsimp only at hZ
      subst hZ
      refine g_aload_n dX7_readsFoot_0 rfl rfl ?_
      refine g_get f_X7_16 dX7_readsFoot_1 rfl 0 rfl rfl ?_
      refine g_bipush (v := nI 55) dX7_readsFoot_4 rfl (by decide) ?_
      refine g_ialdN (v := nI fc) dX7_readsFoot_6 rfl 2 rfl (by omega) (by decide) (hD.2.2) ?_
      refine g_bipush (v := nI 20) dX7_readsFoot_7 rfl (by decide) ?_
      refine g_icmp_neN (t := 18) dX7_readsFoot_9 (by decide) rfl (by omega) (by omega) (fun h9 => ?_) (fun h9 => ?_)
      · skip
        refine g_aload_n dX7_readsFoot_18 rfl rfl ?_
        refine g_get f_X7_16 dX7_readsFoot_19 rfl 0 rfl rfl ?_
        refine g_iconst (v := nI 2) dX7_readsFoot_22 rfl (by decide) ?_
        refine g_ialdN (v := fd 2) dX7_readsFoot_23 rfl 2 rfl (by omega) (by decide) (rfl) ?_
        refine g_istore_n dX7_readsFoot_24 rfl (by decide) rfl rfl ?_
        refine g_aload_n dX7_readsFoot_25 rfl rfl ?_
        refine g_iconst (v := nI 2) dX7_readsFoot_26 rfl (by decide) ?_
        refine g_iconst (v := nI 0) dX7_readsFoot_27 rfl (by decide) ?_
        refine g_aload_n dX7_readsFoot_28 rfl rfl ?_
        refine g_get f_X7_16 dX7_readsFoot_29 rfl 0 rfl rfl ?_
        refine g_iconst (v := nI 0) dX7_readsFoot_32 rfl (by decide) ?_
        refine g_ialdN (v := nI (T 0)) dX7_readsFoot_33 rfl 2 rfl (by omega) (by decide) (hD.1 0 (by decide)) ?_
        refine g_iconst (v := nI 1) dX7_readsFoot_34 rfl (by decide) ?_
        refine g_isub dX7_readsFoot_35 rfl (pk_sub (by omega)) ?_
        refine g_callV (c_X7_number sk (pl := 2) (lo := 0) (hi := T 0 - 1) hlen htx hp (by omega) (by omega) (by omega) hn0) m_X7_103 a_X7_number dX7_readsFoot_36 rfl [0, 1, 2] rfl rfl 0 rfl rfl rfl (by decide) (by decide) (by decide) (by decide) (Nat.le_of_ble_eq_true rfl) (fun r w hK => ?_)
        obtain ⟨rfl, a1, so1, sz1, rfl⟩ := hK
        refine ⟨rfl, ?_⟩
        dsimp only [puts, List.set, Option.toList, List.cons_append, List.nil_append, List.append_nil]
        refine g_istore_n dX7_readsFoot_39 rfl (by decide) rfl rfl ?_
        refine g_aload_n dX7_readsFoot_40 rfl rfl ?_
        refine g_get f_X7_16 dX7_readsFoot_41 rfl 0 rfl rfl ?_
        refine g_iconst (v := nI 2) dX7_readsFoot_44 rfl (by decide) ?_
        refine g_ialdN (v := fd 2) dX7_readsFoot_45 rfl 2 rfl (by omega) (by decide) (rfl) ?_
        refine g_istore_n dX7_readsFoot_46 rfl (by decide) rfl rfl ?_
        refine g_aload_n dX7_readsFoot_47 rfl rfl ?_
        refine g_get f_X7_16 dX7_readsFoot_48 rfl 0 rfl rfl ?_
        refine g_iconst (v := nI 2) dX7_readsFoot_51 rfl (by decide) ?_
        refine g_iload_n dX7_readsFoot_52 rfl rfl ?_
        refine g_iastN dX7_readsFoot_53 rfl 2 rfl (by omega) (by decide) (foot_up2 fd) rfl ?_
        refine g_iload_n dX7_readsFoot_54 rfl rfl ?_
        refine g_if_neB (t := 60) dX7_readsFoot_55 (by decide) rfl (fun h55 => ?_) (fun h55 => ?_)
        · exact absurd h55 (by decide)
        · skip
          refine g_iconst (v := nI 0) dX7_readsFoot_58 rfl (by decide) ?_
          exact g_zret (b := false) dX7_readsFoot_59 rfl (Nat.le_refl _) (Nat.le_refl _) (⟨rfl, _, _, _, _, _, _, rfl⟩)
      · exact absurd (show tooB 2 (T, ft, fc, iha, isn) = true from decide_eq_true (show 20 ≤ fc by omega)) hT
    · rw [hn0] at hZ
      dsimp only at hZ
      obtain ⟨he0, hl0, hh0⟩ := numM_ok hp hn0
      by_cases hft : ft v0 = true
      · rw [if_pos hft] at hZ
        subst hZ
        refine g_aload_n dX7_readsFoot_0 rfl rfl ?_
        refine g_get f_X7_16 dX7_readsFoot_1 rfl 0 rfl rfl ?_
        refine g_bipush (v := nI 55) dX7_readsFoot_4 rfl (by decide) ?_
        refine g_ialdN (v := nI fc) dX7_readsFoot_6 rfl 2 rfl (by omega) (by decide) (hD.2.2) ?_
        refine g_bipush (v := nI 20) dX7_readsFoot_7 rfl (by decide) ?_
        refine g_icmp_neN (t := 18) dX7_readsFoot_9 (by decide) rfl (by omega) (by omega) (fun h9 => ?_) (fun h9 => ?_)
        · skip
          refine g_aload_n dX7_readsFoot_18 rfl rfl ?_
          refine g_get f_X7_16 dX7_readsFoot_19 rfl 0 rfl rfl ?_
          refine g_iconst (v := nI 2) dX7_readsFoot_22 rfl (by decide) ?_
          refine g_ialdN (v := fd 2) dX7_readsFoot_23 rfl 2 rfl (by omega) (by decide) (rfl) ?_
          refine g_istore_n dX7_readsFoot_24 rfl (by decide) rfl rfl ?_
          refine g_aload_n dX7_readsFoot_25 rfl rfl ?_
          refine g_iconst (v := nI 2) dX7_readsFoot_26 rfl (by decide) ?_
          refine g_iconst (v := nI 0) dX7_readsFoot_27 rfl (by decide) ?_
          refine g_aload_n dX7_readsFoot_28 rfl rfl ?_
          refine g_get f_X7_16 dX7_readsFoot_29 rfl 0 rfl rfl ?_
          refine g_iconst (v := nI 0) dX7_readsFoot_32 rfl (by decide) ?_
          refine g_ialdN (v := nI (T 0)) dX7_readsFoot_33 rfl 2 rfl (by omega) (by decide) (hD.1 0 (by decide)) ?_
          refine g_iconst (v := nI 1) dX7_readsFoot_34 rfl (by decide) ?_
          refine g_isub dX7_readsFoot_35 rfl (pk_sub (by omega)) ?_
          refine g_callV (c_X7_number sk (pl := 2) (lo := 0) (hi := T 0 - 1) hlen htx hp (by omega) (by omega) (by omega) hn0) m_X7_103 a_X7_number dX7_readsFoot_36 rfl [0, 1, 2] rfl rfl 0 rfl rfl rfl (by decide) (by decide) (by decide) (by decide) (Nat.le_of_ble_eq_true rfl) (fun r w hK => ?_)
          obtain ⟨rfl, so0, sz0, rfl⟩ := hK
          refine ⟨rfl, ?_⟩
          dsimp only [puts, List.set, Option.toList, List.cons_append, List.nil_append, List.append_nil]
          refine g_istore_n dX7_readsFoot_39 rfl (by decide) rfl rfl ?_
          refine g_aload_n dX7_readsFoot_40 rfl rfl ?_
          refine g_get f_X7_16 dX7_readsFoot_41 rfl 0 rfl rfl ?_
          refine g_iconst (v := nI 2) dX7_readsFoot_44 rfl (by decide) ?_
          refine g_ialdN (v := nI v0) dX7_readsFoot_45 rfl 2 rfl (by omega) (by decide) (pk_us) ?_
          refine g_istore_n dX7_readsFoot_46 rfl (by decide) rfl rfl ?_
          refine g_aload_n dX7_readsFoot_47 rfl rfl ?_
          refine g_get f_X7_16 dX7_readsFoot_48 rfl 0 rfl rfl ?_
          refine g_iconst (v := nI 2) dX7_readsFoot_51 rfl (by decide) ?_
          refine g_iload_n dX7_readsFoot_52 rfl rfl ?_
          refine g_iastN dX7_readsFoot_53 rfl 2 rfl (by omega) (by decide) (foot_up fd _) rfl ?_
          refine g_iload_n dX7_readsFoot_54 rfl rfl ?_
          refine g_if_neB (t := 60) dX7_readsFoot_55 (by decide) rfl (fun h55 => ?_) (fun h55 => ?_)
          · skip
            refine g_aload_n dX7_readsFoot_60 rfl rfl ?_
            refine g_get f_X7_16 dX7_readsFoot_61 rfl 0 rfl rfl ?_
            refine g_bipush (v := nI 54) dX7_readsFoot_64 rfl (by decide) ?_
            refine g_ialdN (v := fd 54) dX7_readsFoot_66 rfl 2 rfl (by omega) (by decide) (rfl) ?_
            refine g_iload_n dX7_readsFoot_67 rfl rfl ?_
            refine g_ishr dX7_readsFoot_68 rfl rfl ?_
            refine g_iconst (v := nI 1) dX7_readsFoot_69 rfl (by decide) ?_
            refine g_iand dX7_readsFoot_70 rfl rfl ?_
            refine g_iconst (v := nI 1) dX7_readsFoot_71 rfl (by decide) ?_
            refine g_icmp_ne (t := 81) dX7_readsFoot_72 (by decide) rfl (fun h72 => ?_) (fun h72 => ?_)
            · exact absurd ((foot_bit hD (by omega)).mpr hft) h72
            · skip
              refine g_aload_n dX7_readsFoot_75 rfl rfl ?_
              refine g_iconst (v := nI 4) dX7_readsFoot_76 rfl (by decide) ?_
              refine g_callV (c_X7_wrong sk) m_X7_99 a_X7_wrong dX7_readsFoot_77 rfl [0] rfl rfl 0 rfl rfl rfl (by decide) (by decide) (by decide) (by decide) (Nat.le_of_ble_eq_true rfl) (fun r w hK => ?_)
              obtain ⟨rfl, rfl⟩ := hK
              refine ⟨rfl, ?_⟩
              dsimp only [puts, List.set, Option.toList, List.cons_append, List.nil_append, List.append_nil]
              exact g_zret dX7_readsFoot_80 rfl (Nat.le_refl _) (Nat.le_refl _) (⟨rfl, _, _, _, _, _, _, rfl⟩)
          · exact absurd h55 (by decide)
        · exact absurd (show tooB 2 (T, ft, fc, iha, isn) = true from decide_eq_true (show 20 ≤ fc by omega)) hT
      · rw [if_neg hft] at hZ
        dsimp only at hZ
        rw [numsR, numR_M (lo := 0) (hi := 99) (by decide) rfl rfl] at hZ
        rcases hn1 : numM tx len (0) (99) e0 with f | ⟨v1, e1⟩
        · rw [hn1] at hZ
          dsimp only at hZ
          subst hZ
          refine g_aload_n dX7_readsFoot_0 rfl rfl ?_
          refine g_get f_X7_16 dX7_readsFoot_1 rfl 0 rfl rfl ?_
          refine g_bipush (v := nI 55) dX7_readsFoot_4 rfl (by decide) ?_
          refine g_ialdN (v := nI fc) dX7_readsFoot_6 rfl 2 rfl (by omega) (by decide) (hD.2.2) ?_
          refine g_bipush (v := nI 20) dX7_readsFoot_7 rfl (by decide) ?_
          refine g_icmp_neN (t := 18) dX7_readsFoot_9 (by decide) rfl (by omega) (by omega) (fun h9 => ?_) (fun h9 => ?_)
          · skip
            refine g_aload_n dX7_readsFoot_18 rfl rfl ?_
            refine g_get f_X7_16 dX7_readsFoot_19 rfl 0 rfl rfl ?_
            refine g_iconst (v := nI 2) dX7_readsFoot_22 rfl (by decide) ?_
            refine g_ialdN (v := fd 2) dX7_readsFoot_23 rfl 2 rfl (by omega) (by decide) (rfl) ?_
            refine g_istore_n dX7_readsFoot_24 rfl (by decide) rfl rfl ?_
            refine g_aload_n dX7_readsFoot_25 rfl rfl ?_
            refine g_iconst (v := nI 2) dX7_readsFoot_26 rfl (by decide) ?_
            refine g_iconst (v := nI 0) dX7_readsFoot_27 rfl (by decide) ?_
            refine g_aload_n dX7_readsFoot_28 rfl rfl ?_
            refine g_get f_X7_16 dX7_readsFoot_29 rfl 0 rfl rfl ?_
            refine g_iconst (v := nI 0) dX7_readsFoot_32 rfl (by decide) ?_
            refine g_ialdN (v := nI (T 0)) dX7_readsFoot_33 rfl 2 rfl (by omega) (by decide) (hD.1 0 (by decide)) ?_
            refine g_iconst (v := nI 1) dX7_readsFoot_34 rfl (by decide) ?_
            refine g_isub dX7_readsFoot_35 rfl (pk_sub (by omega)) ?_
            refine g_callV (c_X7_number sk (pl := 2) (lo := 0) (hi := T 0 - 1) hlen htx hp (by omega) (by omega) (by omega) hn0) m_X7_103 a_X7_number dX7_readsFoot_36 rfl [0, 1, 2] rfl rfl 0 rfl rfl rfl (by decide) (by decide) (by decide) (by decide) (Nat.le_of_ble_eq_true rfl) (fun r w hK => ?_)
            obtain ⟨rfl, so0, sz0, rfl⟩ := hK
            refine ⟨rfl, ?_⟩
            dsimp only [puts, List.set, Option.toList, List.cons_append, List.nil_append, List.append_nil]
            refine g_istore_n dX7_readsFoot_39 rfl (by decide) rfl rfl ?_
            refine g_aload_n dX7_readsFoot_40 rfl rfl ?_
            refine g_get f_X7_16 dX7_readsFoot_41 rfl 0 rfl rfl ?_
            refine g_iconst (v := nI 2) dX7_readsFoot_44 rfl (by decide) ?_
            refine g_ialdN (v := nI v0) dX7_readsFoot_45 rfl 2 rfl (by omega) (by decide) (pk_us) ?_
            refine g_istore_n dX7_readsFoot_46 rfl (by decide) rfl rfl ?_
            refine g_aload_n dX7_readsFoot_47 rfl rfl ?_
            refine g_get f_X7_16 dX7_readsFoot_48 rfl 0 rfl rfl ?_
            refine g_iconst (v := nI 2) dX7_readsFoot_51 rfl (by decide) ?_
            refine g_iload_n dX7_readsFoot_52 rfl rfl ?_
            refine g_iastN dX7_readsFoot_53 rfl 2 rfl (by omega) (by decide) (foot_up fd _) rfl ?_
            refine g_iload_n dX7_readsFoot_54 rfl rfl ?_
            refine g_if_neB (t := 60) dX7_readsFoot_55 (by decide) rfl (fun h55 => ?_) (fun h55 => ?_)
            · skip
              refine g_aload_n dX7_readsFoot_60 rfl rfl ?_
              refine g_get f_X7_16 dX7_readsFoot_61 rfl 0 rfl rfl ?_
              refine g_bipush (v := nI 54) dX7_readsFoot_64 rfl (by decide) ?_
              refine g_ialdN (v := fd 54) dX7_readsFoot_66 rfl 2 rfl (by omega) (by decide) (rfl) ?_
              refine g_iload_n dX7_readsFoot_67 rfl rfl ?_
              refine g_ishr dX7_readsFoot_68 rfl rfl ?_
              refine g_iconst (v := nI 1) dX7_readsFoot_69 rfl (by decide) ?_
              refine g_iand dX7_readsFoot_70 rfl rfl ?_
              refine g_iconst (v := nI 1) dX7_readsFoot_71 rfl (by decide) ?_
              refine g_icmp_ne (t := 81) dX7_readsFoot_72 (by decide) rfl (fun h72 => ?_) (fun h72 => ?_)
              · skip
                refine g_aload_n dX7_readsFoot_81 rfl rfl ?_
                refine g_get f_X7_16 dX7_readsFoot_82 rfl 0 rfl rfl ?_
                refine g_bipush (v := nI 54) dX7_readsFoot_85 rfl (by decide) ?_
                refine g_dup2 dX7_readsFoot_87 rfl rfl rfl ?_
                refine g_ialdN (v := fd 54) dX7_readsFoot_88 rfl 2 rfl (by omega) (by decide) (rfl) ?_
                refine g_iconst (v := nI 1) dX7_readsFoot_89 rfl (by decide) ?_
                refine g_iload_n dX7_readsFoot_90 rfl rfl ?_
                refine g_ishl dX7_readsFoot_91 rfl rfl ?_
                refine g_ior dX7_readsFoot_92 rfl rfl ?_
                refine g_iastN dX7_readsFoot_93 rfl 2 rfl (by omega) (by decide) (rfl) rfl ?_
                refine g_aload_n dX7_readsFoot_94 rfl rfl ?_
                refine g_get f_X7_16 dX7_readsFoot_95 rfl 0 rfl rfl ?_
                refine g_bipush (v := nI 55) dX7_readsFoot_98 rfl (by decide) ?_
                refine g_dup2 dX7_readsFoot_100 rfl rfl rfl ?_
                refine g_ialdN (v := nI fc) dX7_readsFoot_101 rfl 2 rfl (by omega) (by decide) ((pk_un (by decide)).trans hD.2.2) ?_
                refine g_iconst (v := nI 1) dX7_readsFoot_102 rfl (by decide) ?_
                refine g_iadd dX7_readsFoot_103 rfl (nI_add _ _) ?_
                refine g_iastN dX7_readsFoot_104 rfl 2 rfl (by omega) (by decide) (rfl) rfl ?_
                refine g_aload_n dX7_readsFoot_105 rfl rfl ?_
                refine g_bipush (v := nI 24) dX7_readsFoot_106 rfl (by decide) ?_
                refine g_iload_n dX7_readsFoot_108 rfl rfl ?_
                refine g_iadd dX7_readsFoot_109 rfl (nI_add _ _) ?_
                refine g_iconst (v := nI 0) dX7_readsFoot_110 rfl (by decide) ?_
                refine g_bipush (v := nI 99) dX7_readsFoot_111 rfl (by decide) ?_
                refine g_callV (c_X7_number sk (pl := 24 + v0) (lo := 0) (hi := 99) hlen htx he0 (by omega) (by omega) (by omega) hn1) m_X7_103 a_X7_number dX7_readsFoot_113 rfl [0, 1, 2] rfl rfl 0 rfl rfl rfl (by decide) (by decide) (by decide) (by decide) (Nat.le_of_ble_eq_true rfl) (fun r w hK => ?_)
                obtain ⟨rfl, a1, so1, sz1, rfl⟩ := hK
                refine ⟨rfl, ?_⟩
                dsimp only [puts, List.set, Option.toList, List.cons_append, List.nil_append, List.append_nil]
                refine g_if_eqB (t := 130) dX7_readsFoot_116 (by decide) rfl (fun h116 => ?_) (fun h116 => ?_)
                · skip
                  refine g_iconst (v := nI 0) dX7_readsFoot_130 rfl (by decide) ?_
                  exact g_zret (b := false) dX7_readsFoot_131 rfl (Nat.le_refl _) (Nat.le_refl _) (⟨rfl, _, _, _, _, _, _, rfl⟩)
                · exact absurd h116 (by decide)
              · exact absurd ((foot_bit hD (by omega)).mp h72) hft
            · exact absurd h55 (by decide)
          · exact absurd (show tooB 2 (T, ft, fc, iha, isn) = true from decide_eq_true (show 20 ≤ fc by omega)) hT
        · rw [hn1] at hZ
          dsimp only at hZ
          obtain ⟨he1, hl1, hh1⟩ := numM_ok he0 hn1
          rw [numsR] at hZ
          rcases hs : endR tx len e1 with f | pe
          · rw [hs] at hZ
            dsimp only at hZ
            subst hZ
            refine g_aload_n dX7_readsFoot_0 rfl rfl ?_
            refine g_get f_X7_16 dX7_readsFoot_1 rfl 0 rfl rfl ?_
            refine g_bipush (v := nI 55) dX7_readsFoot_4 rfl (by decide) ?_
            refine g_ialdN (v := nI fc) dX7_readsFoot_6 rfl 2 rfl (by omega) (by decide) (hD.2.2) ?_
            refine g_bipush (v := nI 20) dX7_readsFoot_7 rfl (by decide) ?_
            refine g_icmp_neN (t := 18) dX7_readsFoot_9 (by decide) rfl (by omega) (by omega) (fun h9 => ?_) (fun h9 => ?_)
            · skip
              refine g_aload_n dX7_readsFoot_18 rfl rfl ?_
              refine g_get f_X7_16 dX7_readsFoot_19 rfl 0 rfl rfl ?_
              refine g_iconst (v := nI 2) dX7_readsFoot_22 rfl (by decide) ?_
              refine g_ialdN (v := fd 2) dX7_readsFoot_23 rfl 2 rfl (by omega) (by decide) (rfl) ?_
              refine g_istore_n dX7_readsFoot_24 rfl (by decide) rfl rfl ?_
              refine g_aload_n dX7_readsFoot_25 rfl rfl ?_
              refine g_iconst (v := nI 2) dX7_readsFoot_26 rfl (by decide) ?_
              refine g_iconst (v := nI 0) dX7_readsFoot_27 rfl (by decide) ?_
              refine g_aload_n dX7_readsFoot_28 rfl rfl ?_
              refine g_get f_X7_16 dX7_readsFoot_29 rfl 0 rfl rfl ?_
              refine g_iconst (v := nI 0) dX7_readsFoot_32 rfl (by decide) ?_
              refine g_ialdN (v := nI (T 0)) dX7_readsFoot_33 rfl 2 rfl (by omega) (by decide) (hD.1 0 (by decide)) ?_
              refine g_iconst (v := nI 1) dX7_readsFoot_34 rfl (by decide) ?_
              refine g_isub dX7_readsFoot_35 rfl (pk_sub (by omega)) ?_
              refine g_callV (c_X7_number sk (pl := 2) (lo := 0) (hi := T 0 - 1) hlen htx hp (by omega) (by omega) (by omega) hn0) m_X7_103 a_X7_number dX7_readsFoot_36 rfl [0, 1, 2] rfl rfl 0 rfl rfl rfl (by decide) (by decide) (by decide) (by decide) (Nat.le_of_ble_eq_true rfl) (fun r w hK => ?_)
              obtain ⟨rfl, so0, sz0, rfl⟩ := hK
              refine ⟨rfl, ?_⟩
              dsimp only [puts, List.set, Option.toList, List.cons_append, List.nil_append, List.append_nil]
              refine g_istore_n dX7_readsFoot_39 rfl (by decide) rfl rfl ?_
              refine g_aload_n dX7_readsFoot_40 rfl rfl ?_
              refine g_get f_X7_16 dX7_readsFoot_41 rfl 0 rfl rfl ?_
              refine g_iconst (v := nI 2) dX7_readsFoot_44 rfl (by decide) ?_
              refine g_ialdN (v := nI v0) dX7_readsFoot_45 rfl 2 rfl (by omega) (by decide) (pk_us) ?_
              refine g_istore_n dX7_readsFoot_46 rfl (by decide) rfl rfl ?_
              refine g_aload_n dX7_readsFoot_47 rfl rfl ?_
              refine g_get f_X7_16 dX7_readsFoot_48 rfl 0 rfl rfl ?_
              refine g_iconst (v := nI 2) dX7_readsFoot_51 rfl (by decide) ?_
              refine g_iload_n dX7_readsFoot_52 rfl rfl ?_
              refine g_iastN dX7_readsFoot_53 rfl 2 rfl (by omega) (by decide) (foot_up fd _) rfl ?_
              refine g_iload_n dX7_readsFoot_54 rfl rfl ?_
              refine g_if_neB (t := 60) dX7_readsFoot_55 (by decide) rfl (fun h55 => ?_) (fun h55 => ?_)
              · skip
                refine g_aload_n dX7_readsFoot_60 rfl rfl ?_
                refine g_get f_X7_16 dX7_readsFoot_61 rfl 0 rfl rfl ?_
                refine g_bipush (v := nI 54) dX7_readsFoot_64 rfl (by decide) ?_
                refine g_ialdN (v := fd 54) dX7_readsFoot_66 rfl 2 rfl (by omega) (by decide) (rfl) ?_
                refine g_iload_n dX7_readsFoot_67 rfl rfl ?_
                refine g_ishr dX7_readsFoot_68 rfl rfl ?_
                refine g_iconst (v := nI 1) dX7_readsFoot_69 rfl (by decide) ?_
                refine g_iand dX7_readsFoot_70 rfl rfl ?_
                refine g_iconst (v := nI 1) dX7_readsFoot_71 rfl (by decide) ?_
                refine g_icmp_ne (t := 81) dX7_readsFoot_72 (by decide) rfl (fun h72 => ?_) (fun h72 => ?_)
                · skip
                  refine g_aload_n dX7_readsFoot_81 rfl rfl ?_
                  refine g_get f_X7_16 dX7_readsFoot_82 rfl 0 rfl rfl ?_
                  refine g_bipush (v := nI 54) dX7_readsFoot_85 rfl (by decide) ?_
                  refine g_dup2 dX7_readsFoot_87 rfl rfl rfl ?_
                  refine g_ialdN (v := fd 54) dX7_readsFoot_88 rfl 2 rfl (by omega) (by decide) (rfl) ?_
                  refine g_iconst (v := nI 1) dX7_readsFoot_89 rfl (by decide) ?_
                  refine g_iload_n dX7_readsFoot_90 rfl rfl ?_
                  refine g_ishl dX7_readsFoot_91 rfl rfl ?_
                  refine g_ior dX7_readsFoot_92 rfl rfl ?_
                  refine g_iastN dX7_readsFoot_93 rfl 2 rfl (by omega) (by decide) (rfl) rfl ?_
                  refine g_aload_n dX7_readsFoot_94 rfl rfl ?_
                  refine g_get f_X7_16 dX7_readsFoot_95 rfl 0 rfl rfl ?_
                  refine g_bipush (v := nI 55) dX7_readsFoot_98 rfl (by decide) ?_
                  refine g_dup2 dX7_readsFoot_100 rfl rfl rfl ?_
                  refine g_ialdN (v := nI fc) dX7_readsFoot_101 rfl 2 rfl (by omega) (by decide) ((pk_un (by decide)).trans hD.2.2) ?_
                  refine g_iconst (v := nI 1) dX7_readsFoot_102 rfl (by decide) ?_
                  refine g_iadd dX7_readsFoot_103 rfl (nI_add _ _) ?_
                  refine g_iastN dX7_readsFoot_104 rfl 2 rfl (by omega) (by decide) (rfl) rfl ?_
                  refine g_aload_n dX7_readsFoot_105 rfl rfl ?_
                  refine g_bipush (v := nI 24) dX7_readsFoot_106 rfl (by decide) ?_
                  refine g_iload_n dX7_readsFoot_108 rfl rfl ?_
                  refine g_iadd dX7_readsFoot_109 rfl (nI_add _ _) ?_
                  refine g_iconst (v := nI 0) dX7_readsFoot_110 rfl (by decide) ?_
                  refine g_bipush (v := nI 99) dX7_readsFoot_111 rfl (by decide) ?_
                  refine g_callV (c_X7_number sk (pl := 24 + v0) (lo := 0) (hi := 99) hlen htx he0 (by omega) (by omega) (by omega) hn1) m_X7_103 a_X7_number dX7_readsFoot_113 rfl [0, 1, 2] rfl rfl 0 rfl rfl rfl (by decide) (by decide) (by decide) (by decide) (Nat.le_of_ble_eq_true rfl) (fun r w hK => ?_)
                  obtain ⟨rfl, so1, sz1, rfl⟩ := hK
                  refine ⟨rfl, ?_⟩
                  dsimp only [puts, List.set, Option.toList, List.cons_append, List.nil_append, List.append_nil]
                  refine g_if_eqB (t := 130) dX7_readsFoot_116 (by decide) rfl (fun h116 => ?_) (fun h116 => ?_)
                  · exact absurd h116 (by decide)
                  · skip
                    refine g_aload_n dX7_readsFoot_119 rfl rfl ?_
                    refine g_callV (c_X7_stops sk hlen htx he1 hs) m_X7_106 a_X7_stops dX7_readsFoot_120 rfl [0, 1] rfl rfl 0 rfl rfl rfl (by decide) (by decide) (by decide) (by decide) (Nat.le_of_ble_eq_true rfl) (fun r w hK => ?_)
                    obtain ⟨rfl, a1, so1, sz1, rfl⟩ := hK
                    refine ⟨rfl, ?_⟩
                    dsimp only [puts, List.set, Option.toList, List.cons_append, List.nil_append, List.append_nil]
                    refine g_if_eqB (t := 130) dX7_readsFoot_123 (by decide) rfl (fun h123 => ?_) (fun h123 => ?_)
                    · skip
                      refine g_iconst (v := nI 0) dX7_readsFoot_130 rfl (by decide) ?_
                      exact g_zret (b := false) dX7_readsFoot_131 rfl (Nat.le_refl _) (Nat.le_refl _) (⟨rfl, _, _, _, _, _, _, rfl⟩)
                    · exact absurd h123 (by decide)
                · exact absurd ((foot_bit hD (by omega)).mp h72) hft
              · exact absurd h55 (by decide)
            · exact absurd (show tooB 2 (T, ft, fc, iha, isn) = true from decide_eq_true (show 20 ≤ fc by omega)) hT
          · rw [hs] at hZ
            dsimp only at hZ
            subst hZ
            refine g_aload_n dX7_readsFoot_0 rfl rfl ?_
            refine g_get f_X7_16 dX7_readsFoot_1 rfl 0 rfl rfl ?_
            refine g_bipush (v := nI 55) dX7_readsFoot_4 rfl (by decide) ?_
            refine g_ialdN (v := nI fc) dX7_readsFoot_6 rfl 2 rfl (by omega) (by decide) (hD.2.2) ?_
            refine g_bipush (v := nI 20) dX7_readsFoot_7 rfl (by decide) ?_
            refine g_icmp_neN (t := 18) dX7_readsFoot_9 (by decide) rfl (by omega) (by omega) (fun h9 => ?_) (fun h9 => ?_)
            · skip
              refine g_aload_n dX7_readsFoot_18 rfl rfl ?_
              refine g_get f_X7_16 dX7_readsFoot_19 rfl 0 rfl rfl ?_
              refine g_iconst (v := nI 2) dX7_readsFoot_22 rfl (by decide) ?_
              refine g_ialdN (v := fd 2) dX7_readsFoot_23 rfl 2 rfl (by omega) (by decide) (rfl) ?_
              refine g_istore_n dX7_readsFoot_24 rfl (by decide) rfl rfl ?_
              refine g_aload_n dX7_readsFoot_25 rfl rfl ?_
              refine g_iconst (v := nI 2) dX7_readsFoot_26 rfl (by decide) ?_
              refine g_iconst (v := nI 0) dX7_readsFoot_27 rfl (by decide) ?_
              refine g_aload_n dX7_readsFoot_28 rfl rfl ?_
              refine g_get f_X7_16 dX7_readsFoot_29 rfl 0 rfl rfl ?_
              refine g_iconst (v := nI 0) dX7_readsFoot_32 rfl (by decide) ?_
              refine g_ialdN (v := nI (T 0)) dX7_readsFoot_33 rfl 2 rfl (by omega) (by decide) (hD.1 0 (by decide)) ?_
              refine g_iconst (v := nI 1) dX7_readsFoot_34 rfl (by decide) ?_
              refine g_isub dX7_readsFoot_35 rfl (pk_sub (by omega)) ?_
              refine g_callV (c_X7_number sk (pl := 2) (lo := 0) (hi := T 0 - 1) hlen htx hp (by omega) (by omega) (by omega) hn0) m_X7_103 a_X7_number dX7_readsFoot_36 rfl [0, 1, 2] rfl rfl 0 rfl rfl rfl (by decide) (by decide) (by decide) (by decide) (Nat.le_of_ble_eq_true rfl) (fun r w hK => ?_)
              obtain ⟨rfl, so0, sz0, rfl⟩ := hK
              refine ⟨rfl, ?_⟩
              dsimp only [puts, List.set, Option.toList, List.cons_append, List.nil_append, List.append_nil]
              refine g_istore_n dX7_readsFoot_39 rfl (by decide) rfl rfl ?_
              refine g_aload_n dX7_readsFoot_40 rfl rfl ?_
              refine g_get f_X7_16 dX7_readsFoot_41 rfl 0 rfl rfl ?_
              refine g_iconst (v := nI 2) dX7_readsFoot_44 rfl (by decide) ?_
              refine g_ialdN (v := nI v0) dX7_readsFoot_45 rfl 2 rfl (by omega) (by decide) (pk_us) ?_
              refine g_istore_n dX7_readsFoot_46 rfl (by decide) rfl rfl ?_
              refine g_aload_n dX7_readsFoot_47 rfl rfl ?_
              refine g_get f_X7_16 dX7_readsFoot_48 rfl 0 rfl rfl ?_
              refine g_iconst (v := nI 2) dX7_readsFoot_51 rfl (by decide) ?_
              refine g_iload_n dX7_readsFoot_52 rfl rfl ?_
              refine g_iastN dX7_readsFoot_53 rfl 2 rfl (by omega) (by decide) (foot_up fd _) rfl ?_
              refine g_iload_n dX7_readsFoot_54 rfl rfl ?_
              refine g_if_neB (t := 60) dX7_readsFoot_55 (by decide) rfl (fun h55 => ?_) (fun h55 => ?_)
              · skip
                refine g_aload_n dX7_readsFoot_60 rfl rfl ?_
                refine g_get f_X7_16 dX7_readsFoot_61 rfl 0 rfl rfl ?_
                refine g_bipush (v := nI 54) dX7_readsFoot_64 rfl (by decide) ?_
                refine g_ialdN (v := fd 54) dX7_readsFoot_66 rfl 2 rfl (by omega) (by decide) (rfl) ?_
                refine g_iload_n dX7_readsFoot_67 rfl rfl ?_
                refine g_ishr dX7_readsFoot_68 rfl rfl ?_
                refine g_iconst (v := nI 1) dX7_readsFoot_69 rfl (by decide) ?_
                refine g_iand dX7_readsFoot_70 rfl rfl ?_
                refine g_iconst (v := nI 1) dX7_readsFoot_71 rfl (by decide) ?_
                refine g_icmp_ne (t := 81) dX7_readsFoot_72 (by decide) rfl (fun h72 => ?_) (fun h72 => ?_)
                · skip
                  refine g_aload_n dX7_readsFoot_81 rfl rfl ?_
                  refine g_get f_X7_16 dX7_readsFoot_82 rfl 0 rfl rfl ?_
                  refine g_bipush (v := nI 54) dX7_readsFoot_85 rfl (by decide) ?_
                  refine g_dup2 dX7_readsFoot_87 rfl rfl rfl ?_
                  refine g_ialdN (v := fd 54) dX7_readsFoot_88 rfl 2 rfl (by omega) (by decide) (rfl) ?_
                  refine g_iconst (v := nI 1) dX7_readsFoot_89 rfl (by decide) ?_
                  refine g_iload_n dX7_readsFoot_90 rfl rfl ?_
                  refine g_ishl dX7_readsFoot_91 rfl rfl ?_
                  refine g_ior dX7_readsFoot_92 rfl rfl ?_
                  refine g_iastN dX7_readsFoot_93 rfl 2 rfl (by omega) (by decide) (rfl) rfl ?_
                  refine g_aload_n dX7_readsFoot_94 rfl rfl ?_
                  refine g_get f_X7_16 dX7_readsFoot_95 rfl 0 rfl rfl ?_
                  refine g_bipush (v := nI 55) dX7_readsFoot_98 rfl (by decide) ?_
                  refine g_dup2 dX7_readsFoot_100 rfl rfl rfl ?_
                  refine g_ialdN (v := nI fc) dX7_readsFoot_101 rfl 2 rfl (by omega) (by decide) ((pk_un (by decide)).trans hD.2.2) ?_
                  refine g_iconst (v := nI 1) dX7_readsFoot_102 rfl (by decide) ?_
                  refine g_iadd dX7_readsFoot_103 rfl (nI_add _ _) ?_
                  refine g_iastN dX7_readsFoot_104 rfl 2 rfl (by omega) (by decide) (rfl) rfl ?_
                  refine g_aload_n dX7_readsFoot_105 rfl rfl ?_
                  refine g_bipush (v := nI 24) dX7_readsFoot_106 rfl (by decide) ?_
                  refine g_iload_n dX7_readsFoot_108 rfl rfl ?_
                  refine g_iadd dX7_readsFoot_109 rfl (nI_add _ _) ?_
                  refine g_iconst (v := nI 0) dX7_readsFoot_110 rfl (by decide) ?_
                  refine g_bipush (v := nI 99) dX7_readsFoot_111 rfl (by decide) ?_
                  refine g_callV (c_X7_number sk (pl := 24 + v0) (lo := 0) (hi := 99) hlen htx he0 (by omega) (by omega) (by omega) hn1) m_X7_103 a_X7_number dX7_readsFoot_113 rfl [0, 1, 2] rfl rfl 0 rfl rfl rfl (by decide) (by decide) (by decide) (by decide) (Nat.le_of_ble_eq_true rfl) (fun r w hK => ?_)
                  obtain ⟨rfl, so1, sz1, rfl⟩ := hK
                  refine ⟨rfl, ?_⟩
                  dsimp only [puts, List.set, Option.toList, List.cons_append, List.nil_append, List.append_nil]
                  refine g_if_eqB (t := 130) dX7_readsFoot_116 (by decide) rfl (fun h116 => ?_) (fun h116 => ?_)
                  · exact absurd h116 (by decide)
                  · skip
                    refine g_aload_n dX7_readsFoot_119 rfl rfl ?_
                    refine g_callV (c_X7_stops sk hlen htx he1 hs) m_X7_106 a_X7_stops dX7_readsFoot_120 rfl [0, 1] rfl rfl 0 rfl rfl rfl (by decide) (by decide) (by decide) (by decide) (Nat.le_of_ble_eq_true rfl) (fun r w hK => ?_)
                    obtain ⟨rfl, so9, sta9, sz9, rfl⟩ := hK
                    refine ⟨rfl, ?_⟩
                    dsimp only [puts, List.set, Option.toList, List.cons_append, List.nil_append, List.append_nil]
                    refine g_if_eqB (t := 130) dX7_readsFoot_123 (by decide) rfl (fun h123 => ?_) (fun h123 => ?_)
                    · exact absurd h123 (by decide)
                    · skip
                      refine g_iconst (v := nI 1) dX7_readsFoot_126 rfl (by decide) ?_
                      refine g_goto (q := 131) dX7_readsFoot_127 (by decide) ?_
                      exact g_zret (b := true) dX7_readsFoot_131 rfl (Nat.le_refl _) (Nat.le_refl _) (⟨rfl, _, _, _, _, rfl, foot_DR hD (by omega)⟩)
                · exact absurd ((foot_bit hD (by omega)).mp h72) hft
              · exact absurd h55 (by decide)
            · exact absurd (show tooB 2 (T, ft, fc, iha, isn) = true from decide_eq_true (show 20 ≤ fc by omega)) hT
theorem isW_s {i : Nat} {tx : Nat → Nat} {len p1 : Nat} (hi : i < 5) (hp : p1 ≤ len) (h : isW i tx p1 (runTo isL tx len p1) = true) : soN tx len p1 = 1 := by
  have hL := runTo_le isL tx hp
  have h1 : runTo isL tx len p1 - p1 = zLen.getD i 0 := by
    unfold isW at h
    rw [Bool.and_eq_true] at h
    exact of_decide_eq_true h.1
  have h2 : 0 < zLen.getD i 0 := by
    rcases (show i = 0 ∨ i = 1 ∨ i = 2 ∨ i = 3 ∨ i = 4 by omega) with rfl | rfl | rfl | rfl | rfl <;> decide
  have h3 := run_all isL tx hp 0 (by omega)
  rw [Nat.add_zero] at h3
  exact soN_1.mpr ⟨by omega, h3⟩
theorem kd_0 {tx : Nat → Nat} {a b : Nat} (h0 : isW 0 tx a b = true) : kindN tx a b = 1 := by unfold kindN; rw [if_pos h0]
theorem kd_1 {tx : Nat → Nat} {a b : Nat} (h0 : ¬ isW 0 tx a b = true) (h1 : isW 1 tx a b = true) : kindN tx a b = 2 := by unfold kindN; rw [if_neg h0, if_pos h1]
theorem kd_2 {tx : Nat → Nat} {a b : Nat} (h0 : ¬ isW 0 tx a b = true) (h1 : ¬ isW 1 tx a b = true) (h2 : isW 2 tx a b = true) : kindN tx a b = 3 := by unfold kindN; rw [if_neg h0, if_neg h1, if_pos h2]
theorem kd_3 {tx : Nat → Nat} {a b : Nat} (h0 : ¬ isW 0 tx a b = true) (h1 : ¬ isW 1 tx a b = true) (h2 : ¬ isW 2 tx a b = true) (h3 : isW 3 tx a b = true) : kindN tx a b = 4 := by unfold kindN; rw [if_neg h0, if_neg h1, if_neg h2, if_pos h3]
theorem kd_4 {tx : Nat → Nat} {a b : Nat} (h0 : ¬ isW 0 tx a b = true) (h1 : ¬ isW 1 tx a b = true) (h2 : ¬ isW 2 tx a b = true) (h3 : ¬ isW 3 tx a b = true) (h4 : isW 4 tx a b = true) : kindN tx a b = 5 := by unfold kindN; rw [if_neg h0, if_neg h1, if_neg h2, if_neg h3, if_pos h4]
theorem kd_5 {tx : Nat → Nat} {a b : Nat} (h0 : ¬ isW 0 tx a b = true) (h1 : ¬ isW 1 tx a b = true) (h2 : ¬ isW 2 tx a b = true) (h3 : ¬ isW 3 tx a b = true) (h4 : ¬ isW 4 tx a b = true) : kindN tx a b = 0 := by unfold kindN; rw [if_neg h0, if_neg h1, if_neg h2, if_neg h3, if_neg h4]
theorem kd_n1 {tx : Nat → Nat} {a b : Nat} (h0 : ¬ isW 0 tx a b = true) : kindN tx a b ≠ 1 := by
  unfold kindN
  rw [if_neg h0]
  repeat (split; · decide)
  decide
theorem cl_1 {tx : Nat → Nat} {len p1 : Nat} {q : QS} {k cnt : Nat} (hk : kindN tx p1 (runTo isL tx len p1) = k) (h0 : 1 ≤ k) (h1 : k = 1 ∨ ¬ q.1 0 = 0) (hc : cnt = if k = 3 then 3 else 2) : clauseR tx len q p1 = clK tx len k cnt (runTo isL tx len p1) p1 q := by
  subst hc
  unfold clauseR clK
  rw [hk, if_neg (by omega)]
  cases numsR tx len k (q.1 0) q.2.1 (if k = 3 then 3 else 2) 0 (runTo isL tx len p1) (fun _ => 0) with
  | inl f => rfl
  | inr u => rfl
theorem cl_0 {tx : Nat → Nat} {len p1 : Nat} {q : QS} {k : Nat} (hk : kindN tx p1 (runTo isL tx len p1) = k) (h : k = 0 ∨ (k ≠ 1 ∧ q.1 0 = 0)) : clauseR tx len q p1 = .inl (1, p1) := by
  unfold clauseR
  rw [hk, if_pos h]
theorem lcm_0 {a c : Nat} (ha : a < 2 ^ 63) (hc : c < 2 ^ 63) : lg_cmp (lN a) (lN c) = 0 ↔ a = c := by rw [lg_cmp_eq, pk_lEQ ha hc]
set_option maxRecDepth 20000 in
theorem c_X7_readsClause (sk : Nat → Nat) {h mt mo md ms mn mi mz mk mw mf mr mb mu : Nat} {li se fAt ru : Int32} {iha isn : Bool} {len : Nat} {tx : Nat → Nat} {fx : Nat → Int32} {p1 : Nat} {fl : Int32} {fd : Nat → Int32} {T : Nat → Nat} {ft : Nat → Bool} {fc : Nat} {Z : (Nat × Nat) ⊕ (QS × Nat)} (hlen : len ≤ 400) (htx : ∀ j, j < len → fx j = nI (tx j) ∧ tx j < 256) (hp : p1 ≤ len) (hQ : QB (T, ft, fc, iha, isn)) (hD : DR T ft fc fd) (hZ : clauseR tx len (T, ft, fc, iha, isn) p1 = Z) : Ct sk yX7_readsClause cX7_readsClause 3 (some .boolean) 5 0 0 [oMod h mt (nI len) mo md ms mn mi mz mk mw mf li se fAt (nI (tokE tx len p1)) (nI (soN tx len p1)) (nI p1) (nI (tokE tx len p1 - p1)) fl iha isn ru mr mb mu, cI mt 400 fx, cI md 56 fd] [.ref h] (clmQ Z (fun a so sta sz fl b1 b2 fd => [oMod h mt (nI len) mo md ms mn mi mz mk mw mf li se fAt a so sta sz fl b1 b2 ru mr mb mu, cI mt 400 fx, cI md 56 fd]) fl) := by
  have hb : ∀ j, j < len → tx j < 256 := fun j hj => (htx j hj).2
  have hsz := tokE_le (tx := tx) hp
  have hso := soN_le tx len p1
  have hlt := wordV_lt (tx := tx) (p := p1) (so := soN tx len p1) (sz := tokE tx len p1 - p1) (fun j hj => hb _ (by omega))
  have hLL := runTo_le isL tx hp
  have k0 := kw_0 hp hb
  have k1 := kw_1 hp hb
  have k2 := kw_2 hp hb
  have k3 := kw_3 hp hb
  have k4 := kw_4 hp hb
  generalize hWV : wordV tx p1 (soN tx len p1) (tokE tx len p1 - p1) = wv at k0 k1 k2 k3 k4 hlt
  refine Ct.of (own := RX7) (l := [some (.ref h), none, none]) (by decide) rfl (Nat.le_of_ble_eq_true rfl) rfl ?_
  refine g_aload_n dX7_readsClause_0 rfl rfl ?_
  refine g_callV (c_X7_word sk hlen htx (p1 := p1) (so := soN tx len p1) (sz := tokE tx len p1 - p1) (by omega) hso) m_X7_116 a_X7_word dX7_readsClause_1 rfl [0, 1] rfl rfl 0 rfl rfl rfl (by decide) (by decide) (by decide) (by decide) (Nat.le_of_ble_eq_true rfl) (fun r w hK => ?_)
  obtain ⟨rfl, rfl⟩ := hK
  refine ⟨rfl, ?_⟩
  rw [hWV]
  dsimp only [puts, List.set, Option.toList, List.cons_append, List.nil_append, List.append_nil]
  refine g_lstore_n dX7_readsClause_4 rfl (by decide) rfl rfl ?_
  refine g_lload_n dX7_readsClause_5 rfl rfl ?_
  refine g_ldc2 dX7_readsClause_6 rfl k_X7_120 ?_
  refine g_lcmp dX7_readsClause_9 rfl rfl ?_
  refine g_if_ne (t := 18) dX7_readsClause_10 (by decide) rfl (fun h10 => ?_) (fun h10 => ?_)
  · have w0 : ¬ isW 0 tx p1 (runTo isL tx len p1) = true := fun q => h10 ((lcm_0 hlt (by decide)).mpr (k0.mpr q))
    refine g_aload_n dX7_readsClause_18 rfl rfl ?_
    refine g_get f_X7_16 dX7_readsClause_19 rfl 0 rfl rfl ?_
    refine g_iconst (v := nI 0) dX7_readsClause_22 rfl (by decide) ?_
    refine g_ialdN (v := nI (T 0)) dX7_readsClause_23 rfl 2 rfl (by omega) (by decide) (hD.1 0 (by decide)) ?_
    refine g_if_ne (t := 33) dX7_readsClause_24 (by decide) rfl (fun h24 => ?_) (fun h24 => ?_)
    · have hF : ¬ T 0 = 0 := fun q => h24 (by rw [q]; rfl)
      refine g_lload_n dX7_readsClause_33 rfl rfl ?_
      refine g_ldc2 dX7_readsClause_34 rfl k_X7_125 ?_
      refine g_lcmp dX7_readsClause_37 rfl rfl ?_
      refine g_if_ne (t := 48) dX7_readsClause_38 (by decide) rfl (fun h38 => ?_) (fun h38 => ?_)
      · have w1 : ¬ isW 1 tx p1 (runTo isL tx len p1) = true := fun q => h38 ((lcm_0 hlt (by decide)).mpr (k1.mpr q))
        refine g_lload_n dX7_readsClause_48 rfl rfl ?_
        refine g_ldc2 dX7_readsClause_49 rfl k_X7_130 ?_
        refine g_lcmp dX7_readsClause_52 rfl rfl ?_
        refine g_if_ne (t := 63) dX7_readsClause_53 (by decide) rfl (fun h53 => ?_) (fun h53 => ?_)
        · have w2 : ¬ isW 2 tx p1 (runTo isL tx len p1) = true := fun q => h53 ((lcm_0 hlt (by decide)).mpr (k2.mpr q))
          refine g_lload_n dX7_readsClause_63 rfl rfl ?_
          refine g_ldc2 dX7_readsClause_64 rfl k_X7_135 ?_
          refine g_lcmp dX7_readsClause_67 rfl rfl ?_
          refine g_if_ne (t := 78) dX7_readsClause_68 (by decide) rfl (fun h68 => ?_) (fun h68 => ?_)
          · have w3 : ¬ isW 3 tx p1 (runTo isL tx len p1) = true := fun q => h68 ((lcm_0 hlt (by decide)).mpr (k3.mpr q))
            refine g_lload_n dX7_readsClause_78 rfl rfl ?_
            refine g_ldc2 dX7_readsClause_79 rfl k_X7_140 ?_
            refine g_lcmp dX7_readsClause_82 rfl rfl ?_
            refine g_if_ne (t := 93) dX7_readsClause_83 (by decide) rfl (fun h83 => ?_) (fun h83 => ?_)
            · have w4 : ¬ isW 4 tx p1 (runTo isL tx len p1) = true := fun q => h83 ((lcm_0 hlt (by decide)).mpr (k4.mpr q))
              rw [cl_0 (kd_5 w0 w1 w2 w3 w4) (Or.inl rfl)] at hZ
              subst hZ
              refine g_aload_n dX7_readsClause_93 rfl rfl ?_
              refine g_iconst (v := nI 1) dX7_readsClause_94 rfl (by decide) ?_
              refine g_callV (c_X7_wrong sk) m_X7_99 a_X7_wrong dX7_readsClause_95 rfl [0] rfl rfl 0 rfl rfl rfl (by decide) (by decide) (by decide) (by decide) (Nat.le_of_ble_eq_true rfl) (fun r w hK => ?_)
              obtain ⟨rfl, rfl⟩ := hK
              refine ⟨rfl, ?_⟩
              dsimp only [puts, List.set, Option.toList, List.cons_append, List.nil_append, List.append_nil]
              exact g_zret dX7_readsClause_98 rfl (Nat.le_refl _) (Nat.le_refl _) (⟨rfl, _, _, _, _, _, _, rfl⟩)
            · have w4 : isW 4 tx p1 (runTo isL tx len p1) = true := k4.mp ((lcm_0 hlt (by decide)).mp h83)
              have hs := isW_s (by decide) hp w4
              rw [tokE_1 hs]
              have hz := hZ
              rw [cl_1 (kd_4 w0 w1 w2 w3 w4) (by decide) (Or.inr hF) rfl] at hz
              refine g_aload_n dX7_readsClause_86 rfl rfl ?_
              refine g_callV (c_X7_readsSun sk (so := nI (soN tx len p1)) (sz := nI (runTo isL tx len p1 - p1)) hlen htx hLL.2 hQ hD (by omega) hz) m_X7_142 a_X7_readsSun dX7_readsClause_87 rfl [0, 1, 2] rfl rfl 0 rfl rfl rfl (by decide) (by decide) (by decide) (by decide) (Nat.le_of_ble_eq_true rfl) (fun r w hK => ?_)
              cases Z with
              | inl f =>
                obtain ⟨rfl, a9, so9, sz9, b1, b2, fd9, rfl⟩ := hK
                refine ⟨rfl, ?_⟩
                dsimp only [puts, List.set, Option.toList, List.cons_append, List.nil_append, List.append_nil]
                refine g_goto (q := 98) dX7_readsClause_90 (by decide) ?_
                exact g_zret dX7_readsClause_98 rfl (Nat.le_refl _) (Nat.le_refl _) (⟨rfl, _, _, _, _, _, _, rfl⟩)
              | inr u =>
                obtain ⟨rfl, so9, sta9, sz9, fd9, rfl, hD9⟩ := hK
                refine ⟨rfl, ?_⟩
                dsimp only [puts, List.set, Option.toList, List.cons_append, List.nil_append, List.append_nil]
                refine g_goto (q := 98) dX7_readsClause_90 (by decide) ?_
                exact g_zret dX7_readsClause_98 rfl (Nat.le_refl _) (Nat.le_refl _) (⟨rfl, _, _, _, _, rfl, hD9⟩)
          · have w3 : isW 3 tx p1 (runTo isL tx len p1) = true := k3.mp ((lcm_0 hlt (by decide)).mp h68)
            have hs := isW_s (by decide) hp w3
            rw [tokE_1 hs]
            have hz := hZ
            rw [cl_1 (kd_3 w0 w1 w2 w3) (by decide) (Or.inr hF) rfl] at hz
            refine g_aload_n dX7_readsClause_71 rfl rfl ?_
            refine g_callV (c_X7_readsHam sk (so := nI (soN tx len p1)) (sz := nI (runTo isL tx len p1 - p1)) hlen htx hLL.2 hQ hD (by omega) hz) m_X7_137 a_X7_readsHam dX7_readsClause_72 rfl [0, 1, 2] rfl rfl 0 rfl rfl rfl (by decide) (by decide) (by decide) (by decide) (Nat.le_of_ble_eq_true rfl) (fun r w hK => ?_)
            cases Z with
            | inl f =>
              obtain ⟨rfl, a9, so9, sz9, b1, b2, fd9, rfl⟩ := hK
              refine ⟨rfl, ?_⟩
              dsimp only [puts, List.set, Option.toList, List.cons_append, List.nil_append, List.append_nil]
              refine g_goto (q := 98) dX7_readsClause_75 (by decide) ?_
              exact g_zret dX7_readsClause_98 rfl (Nat.le_refl _) (Nat.le_refl _) (⟨rfl, _, _, _, _, _, _, rfl⟩)
            | inr u =>
              obtain ⟨rfl, so9, sta9, sz9, fd9, rfl, hD9⟩ := hK
              refine ⟨rfl, ?_⟩
              dsimp only [puts, List.set, Option.toList, List.cons_append, List.nil_append, List.append_nil]
              refine g_goto (q := 98) dX7_readsClause_75 (by decide) ?_
              exact g_zret dX7_readsClause_98 rfl (Nat.le_refl _) (Nat.le_refl _) (⟨rfl, _, _, _, _, rfl, hD9⟩)
        · have w2 : isW 2 tx p1 (runTo isL tx len p1) = true := k2.mp ((lcm_0 hlt (by decide)).mp h53)
          have hs := isW_s (by decide) hp w2
          rw [tokE_1 hs]
          have hz := hZ
          rw [cl_1 (kd_2 w0 w1 w2) (by decide) (Or.inr hF) rfl] at hz
          refine g_aload_n dX7_readsClause_56 rfl rfl ?_
          refine g_callV (c_X7_readsClimber sk (so := nI (soN tx len p1)) (sz := nI (runTo isL tx len p1 - p1)) hlen htx hLL.2 hQ hD (by omega) hz) m_X7_132 a_X7_readsClimber dX7_readsClause_57 rfl [0, 1, 2] rfl rfl 0 rfl rfl rfl (by decide) (by decide) (by decide) (by decide) (Nat.le_of_ble_eq_true rfl) (fun r w hK => ?_)
          cases Z with
          | inl f =>
            obtain ⟨rfl, a9, so9, sz9, b1, b2, fd9, rfl⟩ := hK
            refine ⟨rfl, ?_⟩
            dsimp only [puts, List.set, Option.toList, List.cons_append, List.nil_append, List.append_nil]
            refine g_goto (q := 98) dX7_readsClause_60 (by decide) ?_
            exact g_zret dX7_readsClause_98 rfl (Nat.le_refl _) (Nat.le_refl _) (⟨rfl, _, _, _, _, _, _, rfl⟩)
          | inr u =>
            obtain ⟨rfl, so9, sta9, sz9, fd9, rfl, hD9⟩ := hK
            refine ⟨rfl, ?_⟩
            dsimp only [puts, List.set, Option.toList, List.cons_append, List.nil_append, List.append_nil]
            refine g_goto (q := 98) dX7_readsClause_60 (by decide) ?_
            exact g_zret dX7_readsClause_98 rfl (Nat.le_refl _) (Nat.le_refl _) (⟨rfl, _, _, _, _, rfl, hD9⟩)
      · have w1 : isW 1 tx p1 (runTo isL tx len p1) = true := k1.mp ((lcm_0 hlt (by decide)).mp h38)
        have hs := isW_s (by decide) hp w1
        rw [tokE_1 hs]
        have hz := hZ
        rw [cl_1 (kd_1 w0 w1) (by decide) (Or.inr hF) rfl] at hz
        refine g_aload_n dX7_readsClause_41 rfl rfl ?_
        refine g_callV (c_X7_readsFoot sk (so := nI (soN tx len p1)) (sz := nI (runTo isL tx len p1 - p1)) hlen htx hLL.2 hQ hD (by omega) hz) m_X7_127 a_X7_readsFoot dX7_readsClause_42 rfl [0, 1, 2] rfl rfl 0 rfl rfl rfl (by decide) (by decide) (by decide) (by decide) (Nat.le_of_ble_eq_true rfl) (fun r w hK => ?_)
        cases Z with
        | inl f =>
          obtain ⟨rfl, a9, so9, sz9, b1, b2, fd9, rfl⟩ := hK
          refine ⟨rfl, ?_⟩
          dsimp only [puts, List.set, Option.toList, List.cons_append, List.nil_append, List.append_nil]
          refine g_goto (q := 98) dX7_readsClause_45 (by decide) ?_
          exact g_zret dX7_readsClause_98 rfl (Nat.le_refl _) (Nat.le_refl _) (⟨rfl, _, _, _, _, _, _, rfl⟩)
        | inr u =>
          obtain ⟨rfl, so9, sta9, sz9, fd9, rfl, hD9⟩ := hK
          refine ⟨rfl, ?_⟩
          dsimp only [puts, List.set, Option.toList, List.cons_append, List.nil_append, List.append_nil]
          refine g_goto (q := 98) dX7_readsClause_45 (by decide) ?_
          exact g_zret dX7_readsClause_98 rfl (Nat.le_refl _) (Nat.le_refl _) (⟨rfl, _, _, _, _, rfl, hD9⟩)
    · have hF0 : T 0 = 0 := nI_inj (by have := hQ.1; dsimp only at this; omega) (by decide) h24
      have hk0 : kindN tx p1 (runTo isL tx len p1) ≠ 1 := kd_n1 w0
      rw [cl_0 rfl (Or.inr ⟨hk0, hF0⟩)] at hZ
      subst hZ
      refine g_aload_n dX7_readsClause_27 rfl rfl ?_
      refine g_iconst (v := nI 1) dX7_readsClause_28 rfl (by decide) ?_
      refine g_callV (c_X7_wrong sk) m_X7_99 a_X7_wrong dX7_readsClause_29 rfl [0] rfl rfl 0 rfl rfl rfl (by decide) (by decide) (by decide) (by decide) (Nat.le_of_ble_eq_true rfl) (fun r w hK => ?_)
      obtain ⟨rfl, rfl⟩ := hK
      refine ⟨rfl, ?_⟩
      dsimp only [puts, List.set, Option.toList, List.cons_append, List.nil_append, List.append_nil]
      exact g_zret dX7_readsClause_32 rfl (Nat.le_refl _) (Nat.le_refl _) (⟨rfl, _, _, _, _, _, _, rfl⟩)
  · have w0 : isW 0 tx p1 (runTo isL tx len p1) = true := k0.mp ((lcm_0 hlt (by decide)).mp h10)
    have hs := isW_s (by decide) hp w0
    rw [tokE_1 hs]
    have hz := hZ
    rw [cl_1 (kd_0 w0) (by decide) (Or.inl rfl) rfl] at hz
    refine g_aload_n dX7_readsClause_13 rfl rfl ?_
    refine g_callV (c_X7_readsPole sk (so := nI (soN tx len p1)) (sz := nI (runTo isL tx len p1 - p1)) hlen htx hLL.2 hQ hD hz) m_X7_122 a_X7_readsPole dX7_readsClause_14 rfl [0, 1, 2] rfl rfl 0 rfl rfl rfl (by decide) (by decide) (by decide) (by decide) (Nat.le_of_ble_eq_true rfl) (fun r w hK => ?_)
    cases Z with
    | inl f =>
      obtain ⟨rfl, a9, so9, sz9, b1, b2, fd9, rfl⟩ := hK
      refine ⟨rfl, ?_⟩
      dsimp only [puts, List.set, Option.toList, List.cons_append, List.nil_append, List.append_nil]
      exact g_zret dX7_readsClause_17 rfl (Nat.le_refl _) (Nat.le_refl _) (⟨rfl, _, _, _, _, _, _, rfl⟩)
    | inr u =>
      obtain ⟨rfl, so9, sta9, sz9, fd9, rfl, hD9⟩ := hK
      refine ⟨rfl, ?_⟩
      dsimp only [puts, List.set, Option.toList, List.cons_append, List.nil_append, List.append_nil]
      exact g_zret dX7_readsClause_17 rfl (Nat.le_refl _) (Nat.le_refl _) (⟨rfl, _, _, _, _, rfl, hD9⟩)
