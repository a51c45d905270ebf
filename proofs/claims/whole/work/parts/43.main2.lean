/-! SoapPole: images, THE LIST, soap -/
set_option maxRecDepth 20000 in
theorem c_X6_keepF (sk : Nat → Nat) {h rd pl sp nw im kp tl ro rs ak : Nat} {st : Bool} {fp : Int32} {x : Int32} {fi : Nat → Option Nat} {fk : Nat → Int32} (hx : inR x 2 = false) : Ct sk yX6_keep cX6_keep 2 (some .int) 4 0 0 [oMain h rd pl sp nw im kp tl ro rs ak st fp, cP im 2 fi, cZ kp 2 fk] [.ref h, .int x] (zD (some (.int (-1000000001))) [oMain h rd pl sp nw im kp tl ro rs ak st fp, cP im 2 fi, cZ kp 2 fk]) := by
  refine Ct.of (own := RX6) (l := [some (.ref h), some (.int x)]) (by decide) rfl (Nat.le_of_ble_eq_true rfl) rfl ?_
  refine g_aload_n dX6_keep_0 rfl rfl ?_
  refine g_iload_n dX6_keep_1 rfl rfl ?_
  refine g_callV (c_X6_isImage sk) m_X6_208 a_X6_isImage dX6_keep_2 rfl [0, 1, 2] rfl rfl 0 rfl rfl rfl (by decide) (by decide) (by decide) (by decide) (Nat.le_of_ble_eq_true rfl) (fun r w hK => ?_)
  obtain ⟨rfl, rfl⟩ := hK
  refine ⟨rfl, ?_⟩
  dsimp only [puts, List.set, Option.toList, List.cons_append, List.nil_append, List.append_nil]
  refine g_if_neB (t := 11) dX6_keep_5 (by decide) rfl (fun h5 => ?_) (fun h5 => ?_)
  · exact absurd hx (by rw [h5]; decide)
  · skip
    refine g_ldc dX6_keep_8 rfl k_X6_143 ?_
    exact g_iret dX6_keep_10 rfl (Nat.le_refl _) (Nat.le_refl _) (⟨rfl, rfl⟩)
set_option maxRecDepth 20000 in
theorem c_X6_goBackF (sk : Nat → Nat) {h rd pl sp nw im kp tl ro rs ak : Nat} {st : Bool} {fp : Int32} {x : Int32} {fi : Nat → Option Nat} {fk : Nat → Int32} (hx : inR x 2 = false) : Ct sk yX6_goBack cX6_goBack 2 (some .int) 4 0 0 [oMain h rd pl sp nw im kp tl ro rs ak st fp, cP im 2 fi, cZ kp 2 fk] [.ref h, .int x] (zD (some (.int (-1000000001))) [oMain h rd pl sp nw im kp tl ro rs ak st fp, cP im 2 fi, cZ kp 2 fk]) := by
  refine Ct.of (own := RX6) (l := [some (.ref h), some (.int x)]) (by decide) rfl (Nat.le_of_ble_eq_true rfl) rfl ?_
  refine g_aload_n dX6_goBack_0 rfl rfl ?_
  refine g_iload_n dX6_goBack_1 rfl rfl ?_
  refine g_callV (c_X6_isImage sk) m_X6_208 a_X6_isImage dX6_goBack_2 rfl [0, 1, 2] rfl rfl 0 rfl rfl rfl (by decide) (by decide) (by decide) (by decide) (Nat.le_of_ble_eq_true rfl) (fun r w hK => ?_)
  obtain ⟨rfl, rfl⟩ := hK
  refine ⟨rfl, ?_⟩
  dsimp only [puts, List.set, Option.toList, List.cons_append, List.nil_append, List.append_nil]
  refine g_if_neB (t := 11) dX6_goBack_5 (by decide) rfl (fun h5 => ?_) (fun h5 => ?_)
  · exact absurd hx (by rw [h5]; decide)
  · skip
    refine g_ldc dX6_goBack_8 rfl k_X6_143 ?_
    exact g_iret dX6_goBack_10 rfl (Nat.le_refl _) (Nat.le_refl _) (⟨rfl, rfl⟩)
set_option maxRecDepth 20000 in
theorem c_X6_keepT (sk : Nat → Nat) {h rd pl sp nw im kp tl ro rs ak : Nat} {st : Bool} {fp : Int32} {j nq qi qq : Nat} {fi : Nat → Option Nat} {fk : Nat → Int32} {g0 h0 sd g2 h2 sd2 : Int32} {f f2 : Nat → Int32} (hj : j < 2) (hi : fi j = some qi) : Ct sk yX6_keep cX6_keep 2 (some .int) 4 0 0 [oMain h rd pl sp nw im kp tl ro rs ak st fp, cP im 2 fi, cZ kp 2 fk, oPole nw nq g0 h0 sd, cI nq 30 f, oPole qi qq g2 h2 sd2, cI qq 30 f2] [.ref h, .int (nI j)] (zD (some (.int (nI 1))) [oMain h rd pl sp nw im kp tl ro rs ak st fp, cP im 2 fi, cZ kp 2 (upd fk j (zb true)), oPole nw nq g0 h0 sd, cI nq 30 f, oPole qi qq g0 h0 sd, cI qq 30 f]) := by
  refine Ct.of (own := RX6) (l := [some (.ref h), some (.int (nI j))]) (by decide) rfl (Nat.le_of_ble_eq_true rfl) rfl ?_
  refine g_aload_n dX6_keep_0 rfl rfl ?_
  refine g_iload_n dX6_keep_1 rfl rfl ?_
  refine g_callV (c_X6_isImage sk) m_X6_208 a_X6_isImage dX6_keep_2 rfl [0, 1, 2] rfl rfl 0 rfl rfl rfl (by decide) (by decide) (by decide) (by decide) (Nat.le_of_ble_eq_true rfl) (fun r w hK => ?_)
  obtain ⟨rfl, rfl⟩ := hK
  refine ⟨rfl, ?_⟩
  dsimp only [puts, List.set, Option.toList, List.cons_append, List.nil_append, List.append_nil]
  refine g_if_neB (t := 11) dX6_keep_5 (by decide) rfl (fun h5 => ?_) (fun h5 => ?_)
  · skip
    refine g_aload_n dX6_keep_11 rfl rfl ?_
    refine g_get f_X6_33 dX6_keep_12 rfl 0 rfl rfl ?_
    refine g_iload_n dX6_keep_15 rfl rfl ?_
    refine g_aldP dX6_keep_16 rfl 1 rfl (by omega) (by decide) (hi) ?_
    refine g_aload_n dX6_keep_17 rfl rfl ?_
    refine g_get f_X6_29 dX6_keep_18 rfl 0 rfl rfl ?_
    refine g_callV (c_X1_become sk) m_X6_190 a_X1_become dX6_keep_21 rfl [5, 6, 3, 4] rfl rfl 0 rfl rfl rfl (by decide) (by decide) (by decide) (by decide) (Nat.le_of_ble_eq_true rfl) (fun r w hK => ?_)
    obtain ⟨rfl, rfl⟩ := hK
    refine ⟨rfl, ?_⟩
    dsimp only [puts, List.set, Option.toList, List.cons_append, List.nil_append, List.append_nil]
    refine g_aload_n dX6_keep_24 rfl rfl ?_
    refine g_get f_X6_37 dX6_keep_25 rfl 0 rfl rfl ?_
    refine g_iload_n dX6_keep_28 rfl rfl ?_
    refine g_iconst (v := nI 1) dX6_keep_29 rfl (by decide) ?_
    refine g_zastN (b := true) dX6_keep_30 rfl 2 rfl (by omega) (by decide) (rfl) rfl ?_
    refine g_iconst (v := nI 1) dX6_keep_31 rfl (by decide) ?_
    exact g_iret dX6_keep_32 rfl (Nat.le_refl _) (Nat.le_refl _) (⟨rfl, rfl⟩)
  · exact absurd (inR_N hj (by decide)) (by rw [h5]; decide)
set_option maxRecDepth 20000 in
theorem c_X6_goBackN (sk : Nat → Nat) {h rd pl sp nw im kp tl ro rs ak : Nat} {st : Bool} {fp : Int32} {j nq qi qq : Nat} {fi : Nat → Option Nat} {fk : Nat → Int32} {g0 h0 sd g2 h2 sd2 : Int32} {f f2 : Nat → Int32} (hj : j < 2) (hk : fk j = zb false) : Ct sk yX6_goBack cX6_goBack 2 (some .int) 4 0 0 [oMain h rd pl sp nw im kp tl ro rs ak st fp, cP im 2 fi, cZ kp 2 fk, oPole nw nq g0 h0 sd, cI nq 30 f, oPole qi qq g2 h2 sd2, cI qq 30 f2] [.ref h, .int (nI j)] (zD (some (.int (-1000000003))) [oMain h rd pl sp nw im kp tl ro rs ak st fp, cP im 2 fi, cZ kp 2 fk, oPole nw nq g0 h0 sd, cI nq 30 f, oPole qi qq g2 h2 sd2, cI qq 30 f2]) := by
  refine Ct.of (own := RX6) (l := [some (.ref h), some (.int (nI j))]) (by decide) rfl (Nat.le_of_ble_eq_true rfl) rfl ?_
  refine g_aload_n dX6_goBack_0 rfl rfl ?_
  refine g_iload_n dX6_goBack_1 rfl rfl ?_
  refine g_callV (c_X6_isImage sk) m_X6_208 a_X6_isImage dX6_goBack_2 rfl [0, 1, 2] rfl rfl 0 rfl rfl rfl (by decide) (by decide) (by decide) (by decide) (Nat.le_of_ble_eq_true rfl) (fun r w hK => ?_)
  obtain ⟨rfl, rfl⟩ := hK
  refine ⟨rfl, ?_⟩
  dsimp only [puts, List.set, Option.toList, List.cons_append, List.nil_append, List.append_nil]
  refine g_if_neB (t := 11) dX6_goBack_5 (by decide) rfl (fun h5 => ?_) (fun h5 => ?_)
  · skip
    refine g_aload_n dX6_goBack_11 rfl rfl ?_
    refine g_get f_X6_37 dX6_goBack_12 rfl 0 rfl rfl ?_
    refine g_iload_n dX6_goBack_15 rfl rfl ?_
    refine g_zaldN (v := zb false) dX6_goBack_16 rfl 2 rfl (by omega) (by decide) (hk) ?_
    refine g_if_neB (t := 23) dX6_goBack_17 (by decide) rfl (fun h17 => ?_) (fun h17 => ?_)
    · exact absurd h17 (by decide)
    · skip
      refine g_ldc dX6_goBack_20 rfl k_X6_160 ?_
      exact g_iret dX6_goBack_22 rfl (Nat.le_refl _) (Nat.le_refl _) (⟨rfl, rfl⟩)
  · exact absurd (inR_N hj (by decide)) (by rw [h5]; decide)
set_option maxRecDepth 20000 in
theorem c_X6_goBackT (sk : Nat → Nat) {h rd pl sp nw im kp tl ro rs ak : Nat} {st : Bool} {fp : Int32} {j nq qi qq : Nat} {fi : Nat → Option Nat} {fk : Nat → Int32} {g0 h0 sd g2 h2 sd2 : Int32} {f f2 : Nat → Int32} (hj : j < 2) (hi : fi j = some qi) (hk : fk j = zb true) : Ct sk yX6_goBack cX6_goBack 2 (some .int) 4 0 0 [oMain h rd pl sp nw im kp tl ro rs ak st fp, cP im 2 fi, cZ kp 2 fk, oPole nw nq g0 h0 sd, cI nq 30 f, oPole qi qq g2 h2 sd2, cI qq 30 f2] [.ref h, .int (nI j)] (zD (some (.int (nI 1))) [oMain h rd pl sp nw im kp tl ro rs ak st fp, cP im 2 fi, cZ kp 2 fk, oPole nw nq g2 h2 sd2, cI nq 30 f2, oPole qi qq g2 h2 sd2, cI qq 30 f2]) := by
  refine Ct.of (own := RX6) (l := [some (.ref h), some (.int (nI j))]) (by decide) rfl (Nat.le_of_ble_eq_true rfl) rfl ?_
  refine g_aload_n dX6_goBack_0 rfl rfl ?_
  refine g_iload_n dX6_goBack_1 rfl rfl ?_
  refine g_callV (c_X6_isImage sk) m_X6_208 a_X6_isImage dX6_goBack_2 rfl [0, 1, 2] rfl rfl 0 rfl rfl rfl (by decide) (by decide) (by decide) (by decide) (Nat.le_of_ble_eq_true rfl) (fun r w hK => ?_)
  obtain ⟨rfl, rfl⟩ := hK
  refine ⟨rfl, ?_⟩
  dsimp only [puts, List.set, Option.toList, List.cons_append, List.nil_append, List.append_nil]
  refine g_if_neB (t := 11) dX6_goBack_5 (by decide) rfl (fun h5 => ?_) (fun h5 => ?_)
  · skip
    refine g_aload_n dX6_goBack_11 rfl rfl ?_
    refine g_get f_X6_37 dX6_goBack_12 rfl 0 rfl rfl ?_
    refine g_iload_n dX6_goBack_15 rfl rfl ?_
    refine g_zaldN (v := zb true) dX6_goBack_16 rfl 2 rfl (by omega) (by decide) (hk) ?_
    refine g_if_neB (t := 23) dX6_goBack_17 (by decide) rfl (fun h17 => ?_) (fun h17 => ?_)
    · skip
      refine g_aload_n dX6_goBack_23 rfl rfl ?_
      refine g_get f_X6_29 dX6_goBack_24 rfl 0 rfl rfl ?_
      refine g_aload_n dX6_goBack_27 rfl rfl ?_
      refine g_get f_X6_33 dX6_goBack_28 rfl 0 rfl rfl ?_
      refine g_iload_n dX6_goBack_31 rfl rfl ?_
      refine g_aldP dX6_goBack_32 rfl 1 rfl (by omega) (by decide) (hi) ?_
      refine g_callV (c_X1_become sk) m_X6_190 a_X1_become dX6_goBack_33 rfl [3, 4, 5, 6] rfl rfl 0 rfl rfl rfl (by decide) (by decide) (by decide) (by decide) (Nat.le_of_ble_eq_true rfl) (fun r w hK => ?_)
      obtain ⟨rfl, rfl⟩ := hK
      refine ⟨rfl, ?_⟩
      dsimp only [puts, List.set, Option.toList, List.cons_append, List.nil_append, List.append_nil]
      refine g_iconst (v := nI 1) dX6_goBack_36 rfl (by decide) ?_
      exact g_iret dX6_goBack_37 rfl (Nat.le_refl _) (Nat.le_refl _) (⟨rfl, rfl⟩)
    · exact absurd h17 (by decide)
  · exact absurd (inR_N hj (by decide)) (by rw [h5]; decide)
def listC (C : Nat) (x z : Int32) : Int32 := if inR x C = false then -1000000001 else if z < 0 ∨ nI 30 < z then -1000000002 else 0
set_option maxRecDepth 20000 in
theorem c_X6_listN (sk : Nat → Nat) {h rd pl sp nw im kp tl ro rs ak : Nat} {st : Bool} {fp : Int32} {tc tf tp n ps pw pa pr C : Nat} {F V E N S x z : Int32} {fc ff : Nat → Int32} (hC : C ≤ 6) (hz : ¬ listC C x z = 0) : Ct sk yX6_list cX6_list 3 (some .int) 1 0 0 [oMain h rd pl sp nw im kp tl ro rs ak st fp, oTale tl tc tf tp (nI n), cI tc 12 fc, cI tf 12 ff, oPlan pl ps pw pa pr F (nI C) V E N S] [.ref h, .int x, .int z] (zD (some (.int (listC C x z))) [oMain h rd pl sp nw im kp tl ro rs ak st fp, oTale tl tc tf tp (nI n), cI tc 12 fc, cI tf 12 ff, oPlan pl ps pw pa pr F (nI C) V E N S]) := by
  refine Ct.of (own := RX6) (l := [some (.ref h), some (.int x), some (.int z)]) (by decide) rfl (Nat.le_of_ble_eq_true rfl) rfl ?_
  refine g_aload_n dX6_list_0 rfl rfl ?_
  refine g_get f_X6_19 dX6_list_1 rfl 0 rfl rfl ?_
  refine g_iload_n dX6_list_4 rfl rfl ?_
  refine g_callV (c_X0_hasClimber sk) m_X6_144 a_X0_hasClimber dX6_list_5 rfl [4] rfl rfl 0 rfl rfl rfl (by decide) (by decide) (by decide) (by decide) (Nat.le_of_ble_eq_true rfl) (fun r w hK => ?_)
  obtain ⟨rfl, rfl⟩ := hK
  refine ⟨rfl, ?_⟩
  dsimp only [puts, List.set, Option.toList, List.cons_append, List.nil_append, List.append_nil]
  refine g_if_neB (t := 14) dX6_list_8 (by decide) rfl (fun h8 => ?_) (fun h8 => ?_)
  · skip
    refine g_iload_n dX6_list_14 rfl rfl ?_
    refine g_if_lt (t := 24) dX6_list_15 (by decide) rfl (fun h15 => ?_) (fun h15 => ?_)
    · rw [listC, if_neg (by rw [h8]; decide), if_pos (Or.inl h15)]
      refine g_ldc dX6_list_24 rfl k_X6_73 ?_
      exact g_iret dX6_list_26 rfl (Nat.le_refl _) (Nat.le_refl _) (⟨rfl, rfl⟩)
    · skip
      refine g_iload_n dX6_list_18 rfl rfl ?_
      refine g_bipush (v := nI 30) dX6_list_19 rfl (by decide) ?_
      refine g_icmp_le (t := 27) dX6_list_21 (by decide) rfl (fun h21 => ?_) (fun h21 => ?_)
      · exact absurd (by rw [listC, if_neg (by rw [h8]; decide), if_neg (by rw [not_or, Int32.not_lt, Int32.not_lt]; exact ⟨by rw [← Int32.not_lt]; exact h15, h21⟩)]) hz
      · rw [listC, if_neg (by rw [h8]; decide), if_pos (Or.inr (by rw [← Int32.not_le]; exact h21))]
        refine g_ldc dX6_list_24 rfl k_X6_73 ?_
        exact g_iret dX6_list_26 rfl (Nat.le_refl _) (Nat.le_refl _) (⟨rfl, rfl⟩)
  · rw [listC, if_pos h8]
    refine g_ldc dX6_list_11 rfl k_X6_143 ?_
    exact g_iret dX6_list_13 rfl (Nat.le_refl _) (Nat.le_refl _) (⟨rfl, rfl⟩)
set_option maxRecDepth 20000 in
theorem c_X6_list (sk : Nat → Nat) {h rd pl sp nw im kp tl ro rs ak : Nat} {st : Bool} {fp : Int32} {tc tf tp n ps pw pa pr C : Nat} {F V E N S x z : Int32} {fc ff : Nat → Int32} (hC : C ≤ 6) (hn : n < 12) (hz : listC C x z = 0) : Ct sk yX6_list cX6_list 3 (some .int) 1 0 0 [oMain h rd pl sp nw im kp tl ro rs ak st fp, oTale tl tc tf tp (nI n), cI tc 12 fc, cI tf 12 ff, oPlan pl ps pw pa pr F (nI C) V E N S] [.ref h, .int x, .int z] (zD (some (.int (nI (n + 1)))) [oMain h rd pl sp nw im kp tl ro rs ak st fp, oTale tl tc tf tp (nI (n + 1)), cI tc 12 (upd fc n x), cI tf 12 (upd ff n z), oPlan pl ps pw pa pr F (nI C) V E N S]) := by
  refine Ct.of (own := RX6) (l := [some (.ref h), some (.int x), some (.int z)]) (by decide) rfl (Nat.le_of_ble_eq_true rfl) rfl ?_
  refine g_aload_n dX6_list_0 rfl rfl ?_
  refine g_get f_X6_19 dX6_list_1 rfl 0 rfl rfl ?_
  refine g_iload_n dX6_list_4 rfl rfl ?_
  refine g_callV (c_X0_hasClimber sk) m_X6_144 a_X0_hasClimber dX6_list_5 rfl [4] rfl rfl 0 rfl rfl rfl (by decide) (by decide) (by decide) (by decide) (Nat.le_of_ble_eq_true rfl) (fun r w hK => ?_)
  obtain ⟨rfl, rfl⟩ := hK
  refine ⟨rfl, ?_⟩
  dsimp only [puts, List.set, Option.toList, List.cons_append, List.nil_append, List.append_nil]
  refine g_if_neB (t := 14) dX6_list_8 (by decide) rfl (fun h8 => ?_) (fun h8 => ?_)
  · obtain ⟨c, hc, rfl⟩ := inR_t (by omega) h8
    refine g_iload_n dX6_list_14 rfl rfl ?_
    refine g_if_lt (t := 24) dX6_list_15 (by decide) rfl (fun h15 => ?_) (fun h15 => ?_)
    · rw [listC, if_neg (by rw [h8]; decide), if_pos (Or.inl h15)] at hz; exact absurd hz (by decide)
    · obtain ⟨zn, hzn, rfl⟩ := nI_of h15
      refine g_iload_n dX6_list_18 rfl rfl ?_
      refine g_bipush (v := nI 30) dX6_list_19 rfl (by decide) ?_
      refine g_icmp_le (t := 27) dX6_list_21 (by decide) rfl (fun h21 => ?_) (fun h21 => ?_)
      · skip
        refine g_aload_n dX6_list_27 rfl rfl ?_
        refine g_get f_X6_44 dX6_list_28 rfl 0 rfl rfl ?_
        refine g_iload_n dX6_list_31 rfl rfl ?_
        refine g_iload_n dX6_list_32 rfl rfl ?_
        refine g_callV (c_X5_append sk hn) m_X6_197 a_X5_append dX6_list_33 rfl [1, 2, 3] rfl rfl 0 rfl rfl rfl (by decide) (by decide) (by decide) (by decide) (Nat.le_of_ble_eq_true rfl) (fun r w hK => ?_)
        obtain ⟨rfl, rfl⟩ := hK
        refine ⟨rfl, ?_⟩
        dsimp only [puts, List.set, Option.toList, List.cons_append, List.nil_append, List.append_nil]
        exact g_iret dX6_list_36 rfl (Nat.le_refl _) (Nat.le_refl _) (⟨rfl, rfl⟩)
      · rw [listC, if_neg (by rw [h8]; decide), if_pos (Or.inr (by rw [← Int32.not_le]; exact h21))] at hz; exact absurd hz (by decide)
  · rw [listC, if_pos h8] at hz; exact absurd hz (by decide)
set_option maxRecDepth 20000 in
theorem c_X6_listF (sk : Nat → Nat) {h rd pl sp nw im kp tl ro rs ak : Nat} {st : Bool} {fp : Int32} {tc tf tp n ps pw pa pr C : Nat} {F V E N S x z : Int32} {fc ff : Nat → Int32} (hC : C ≤ 6) (hn : n = 12) (hz : listC C x z = 0) : Ct sk yX6_list cX6_list 3 (some .int) 1 0 0 [oMain h rd pl sp nw im kp tl ro rs ak st fp, oTale tl tc tf tp (nI n), cI tc 12 fc, cI tf 12 ff, oPlan pl ps pw pa pr F (nI C) V E N S] [.ref h, .int x, .int z] (zD (some (.int (-1000000004))) [oMain h rd pl sp nw im kp tl ro rs ak st fp, oTale tl tc tf tp (nI n), cI tc 12 fc, cI tf 12 ff, oPlan pl ps pw pa pr F (nI C) V E N S]) := by
  subst hn
  refine Ct.of (own := RX6) (l := [some (.ref h), some (.int x), some (.int z)]) (by decide) rfl (Nat.le_of_ble_eq_true rfl) rfl ?_
  refine g_aload_n dX6_list_0 rfl rfl ?_
  refine g_get f_X6_19 dX6_list_1 rfl 0 rfl rfl ?_
  refine g_iload_n dX6_list_4 rfl rfl ?_
  refine g_callV (c_X0_hasClimber sk) m_X6_144 a_X0_hasClimber dX6_list_5 rfl [4] rfl rfl 0 rfl rfl rfl (by decide) (by decide) (by decide) (by decide) (Nat.le_of_ble_eq_true rfl) (fun r w hK => ?_)
  obtain ⟨rfl, rfl⟩ := hK
  refine ⟨rfl, ?_⟩
  dsimp only [puts, List.set, Option.toList, List.cons_append, List.nil_append, List.append_nil]
  refine g_if_neB (t := 14) dX6_list_8 (by decide) rfl (fun h8 => ?_) (fun h8 => ?_)
  · obtain ⟨c, hc, rfl⟩ := inR_t (by omega) h8
    refine g_iload_n dX6_list_14 rfl rfl ?_
    refine g_if_lt (t := 24) dX6_list_15 (by decide) rfl (fun h15 => ?_) (fun h15 => ?_)
    · rw [listC, if_neg (by rw [h8]; decide), if_pos (Or.inl h15)] at hz; exact absurd hz (by decide)
    · obtain ⟨zn, hzn, rfl⟩ := nI_of h15
      refine g_iload_n dX6_list_18 rfl rfl ?_
      refine g_bipush (v := nI 30) dX6_list_19 rfl (by decide) ?_
      refine g_icmp_le (t := 27) dX6_list_21 (by decide) rfl (fun h21 => ?_) (fun h21 => ?_)
      · skip
        refine g_aload_n dX6_list_27 rfl rfl ?_
        refine g_get f_X6_44 dX6_list_28 rfl 0 rfl rfl ?_
        refine g_iload_n dX6_list_31 rfl rfl ?_
        refine g_iload_n dX6_list_32 rfl rfl ?_
        refine g_callV (c_X5_appendF sk) m_X6_197 a_X5_append dX6_list_33 rfl [1, 2, 3] rfl rfl 0 rfl rfl rfl (by decide) (by decide) (by decide) (by decide) (Nat.le_of_ble_eq_true rfl) (fun r w hK => ?_)
        obtain ⟨rfl, rfl⟩ := hK
        refine ⟨rfl, ?_⟩
        dsimp only [puts, List.set, Option.toList, List.cons_append, List.nil_append, List.append_nil]
        exact g_iret dX6_list_36 rfl (Nat.le_refl _) (Nat.le_refl _) (⟨rfl, rfl⟩)
      · rw [listC, if_neg (by rw [h8]; decide), if_pos (Or.inr (by rw [← Int32.not_le]; exact h21))] at hz; exact absurd hz (by decide)
  · rw [listC, if_pos h8] at hz; exact absurd hz (by decide)
set_option maxRecDepth 20000 in
theorem c_X6_judge (sk : Nat → Nat) {h rd pl sp nw im kp tl ro rs ak : Nat} {st : Bool} {fp : Int32} {nq ps pw pa pr F C N S : Nat} {sd V E : Int32} {s : PSt} {w a r : Nat → Nat} {tc tf tp tq n : Nat} {g0 o0 d0 : Int32} {fc ff f0 : Nat → Int32} {who fr : Nat → Nat} (hB : PB F C N S w a r) (hs0 : SB s.1) (hn : n ≤ 12) (hwho : ∀ i, i < n → fc i = nI (who i) ∧ who i < C) (hfr : ∀ i, i < n → ff i = nI (fr i) ∧ fr i ≤ 30) : Ct sk yX6_judge cX6_judge 1 (some .int) 5 0 0 [oMain h rd pl sp nw im kp tl ro rs ak st fp, oTale tl tc tf tp (nI n), cI tc 12 fc, cI tf 12 ff, oPole tp tq g0 o0 d0, cI tq 30 f0, oPoleS nw nq s sd, cI nq 30 (fI s.1), oPlan pl ps pw pa pr (nI F) (nI C) V E (nI N) (nI S), cI pw 6 (fI w), cI pa 6 (fI a), cI pr 6 (fI r)] [.ref h] (fun q w1 => q = some (.int (wrongR F N S w a r who fr (-1) n 0 s)) ∧ ∃ (g0 o0 d0 : Int32) (f0 : Nat → Int32), w1 = [oMain h rd pl sp nw im kp tl ro rs ak st fp, oTale tl tc tf tp (nI n), cI tc 12 fc, cI tf 12 ff, oPole tp tq g0 o0 d0, cI tq 30 f0, oPoleS nw nq s sd, cI nq 30 (fI s.1), oPlan pl ps pw pa pr (nI F) (nI C) V E (nI N) (nI S), cI pw 6 (fI w), cI pa 6 (fI a), cI pr 6 (fI r)]) := by
  refine Ct.of (own := RX6) (l := [some (.ref h)]) (by decide) rfl (Nat.le_of_ble_eq_true rfl) rfl ?_
  refine g_aload_n dX6_judge_0 rfl rfl ?_
  refine g_get f_X6_44 dX6_judge_1 rfl 0 rfl rfl ?_
  refine g_aload_n dX6_judge_4 rfl rfl ?_
  refine g_get f_X6_19 dX6_judge_5 rfl 0 rfl rfl ?_
  refine g_aload_n dX6_judge_8 rfl rfl ?_
  refine g_get f_X6_29 dX6_judge_9 rfl 0 rfl rfl ?_
  refine g_iconst (v := -1) dX6_judge_12 rfl (by decide) ?_
  refine g_callV (c_X5_firstOtherwise sk hB hn hwho hfr hs0) m_X6_202 a_X5_firstOtherwise dX6_judge_13 rfl [1, 2, 3, 4, 5, 6, 7, 8, 9, 10, 11] rfl rfl 0 rfl rfl rfl (by decide) (by decide) (by decide) (by decide) (Nat.le_of_ble_eq_true rfl) (fun r w hK => ?_)
  obtain ⟨rfl, t, z, rfl⟩ := hK
  refine ⟨rfl, ?_⟩
  dsimp only [puts, List.set, Option.toList, List.cons_append, List.nil_append, List.append_nil]
  exact g_iret dX6_judge_16 rfl (Nat.le_refl _) (Nat.le_refl _) (⟨rfl, _, _, _, _, rfl⟩)
def enoA (F N S : Nat) (w a r who : Nat → Nat) (n : Nat) (s : PSt) (x : Int32) : Int32 := if inR x 12 = true then (if x.toNatClampNeg < n ∧ s.2.2 = -1 then leastR F N S w a r who x.toNatClampNeg s 100 0 else -1) else -1000000002
set_option maxRecDepth 20000 in
theorem c_X6_enough (sk : Nat → Nat) {h rd pl sp nw im kp tl ro rs ak : Nat} {st : Bool} {fp : Int32} {nq ps pw pa pr F C N S : Nat} {sd V E : Int32} {s : PSt} {w a r : Nat → Nat} {tc tf tp tq n : Nat} {g0 o0 d0 : Int32} {fc ff f0 : Nat → Int32} {who fr : Nat → Nat} {x : Int32} (hB : PB F C N S w a r) (hs0 : SB s.1) (hn : n ≤ 12) (hwho : ∀ i, i < n → fc i = nI (who i) ∧ who i < C) (hfr : ∀ i, i < n → ff i = nI (fr i) ∧ fr i ≤ 30) : Ct sk yX6_enough cX6_enough 2 (some .int) 5 0 0 [oMain h rd pl sp nw im kp tl ro rs ak st fp, oTale tl tc tf tp (nI n), cI tc 12 fc, cI tf 12 ff, oPole tp tq g0 o0 d0, cI tq 30 f0, oPoleS nw nq s sd, cI nq 30 (fI s.1), oPlan pl ps pw pa pr (nI F) (nI C) V E (nI N) (nI S), cI pw 6 (fI w), cI pa 6 (fI a), cI pr 6 (fI r)] [.ref h, .int x] (fun q w1 => q = some (.int (enoA F N S w a r who n s x)) ∧ ∃ (g0 o0 d0 : Int32) (f0 : Nat → Int32), w1 = [oMain h rd pl sp nw im kp tl ro rs ak st fp, oTale tl tc tf tp (nI n), cI tc 12 fc, cI tf 12 ff, oPole tp tq g0 o0 d0, cI tq 30 f0, oPoleS nw nq s sd, cI nq 30 (fI s.1), oPlan pl ps pw pa pr (nI F) (nI C) V E (nI N) (nI S), cI pw 6 (fI w), cI pa 6 (fI a), cI pr 6 (fI r)]) := by
  refine Ct.of (own := RX6) (l := [some (.ref h), some (.int x)]) (by decide) rfl (Nat.le_of_ble_eq_true rfl) rfl ?_
  refine g_iload_n dX6_enough_0 rfl rfl ?_
  refine g_if_lt (t := 10) dX6_enough_1 (by decide) rfl (fun h1 => ?_) (fun h1 => ?_)
  · rw [enoA, if_neg (by rw [inR_f1 h1]; decide)]
    refine g_ldc dX6_enough_10 rfl k_X6_73 ?_
    exact g_iret dX6_enough_12 rfl (Nat.le_refl _) (Nat.le_refl _) (⟨rfl, _, _, _, _, rfl⟩)
  · skip
    refine g_iload_n dX6_enough_4 rfl rfl ?_
    refine g_bipush (v := nI 12) dX6_enough_5 rfl (by decide) ?_
    refine g_icmp_lt (t := 13) dX6_enough_7 (by decide) rfl (fun h7 => ?_) (fun h7 => ?_)
    · have hx : inR x 12 = true := inR_t2 h1 (by rw [Int32.not_le]; exact h7)
      rw [enoA, if_pos hx]
      obtain ⟨c, hc, rfl⟩ := inR_t (by decide) hx
      rw [nI_clamp (by omega)]
      refine g_aload_n dX6_enough_13 rfl rfl ?_
      refine g_get f_X6_44 dX6_enough_14 rfl 0 rfl rfl ?_
      refine g_aload_n dX6_enough_17 rfl rfl ?_
      refine g_get f_X6_19 dX6_enough_18 rfl 0 rfl rfl ?_
      refine g_aload_n dX6_enough_21 rfl rfl ?_
      refine g_get f_X6_29 dX6_enough_22 rfl 0 rfl rfl ?_
      refine g_iload_n dX6_enough_25 rfl rfl ?_
      refine g_callV (c_X5_leastSlipFor sk hB hn hs0 hwho hc) m_X6_199 a_X5_leastSlipFor dX6_enough_26 rfl [1, 2, 4, 5, 6, 7, 8, 9, 10, 11] rfl rfl 0 rfl rfl rfl (by decide) (by decide) (by decide) (by decide) (Nat.le_of_ble_eq_true rfl) (fun r w hK => ?_)
      obtain ⟨rfl, g1, o1, d1, f1, rfl⟩ := hK
      refine ⟨rfl, ?_⟩
      dsimp only [puts, List.set, Option.toList, List.cons_append, List.nil_append, List.append_nil]
      exact g_iret dX6_enough_29 rfl (Nat.le_refl _) (Nat.le_refl _) (⟨rfl, _, _, _, _, rfl⟩)
    · rw [enoA, if_neg (by rw [inR_f2 (show nI 12 ≤ x by rw [← Int32.not_lt]; exact h7)]; decide)]
      refine g_ldc dX6_enough_10 rfl k_X6_73 ?_
      exact g_iret dX6_enough_12 rfl (Nat.le_refl _) (Nat.le_refl _) (⟨rfl, _, _, _, _, rfl⟩)
