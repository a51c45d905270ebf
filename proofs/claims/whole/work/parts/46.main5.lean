/-! SoapPole: draws and sand -/
theorem and31 (x : Int32) : ∃ n : Nat, n < 2 ^ 31 ∧ x &&& 2147483647 = nI n := by
  refine ⟨(x.toBitVec &&& 2147483647#32).toNat, ?_, ?_⟩
  · have h := Nat.and_le_right (n := x.toBitVec.toNat) (m := 2147483647)
    have e : (x.toBitVec &&& 2147483647#32).toNat = x.toBitVec.toNat &&& 2147483647 := by rw [BitVec.toNat_and]; rfl
    rw [e]
    omega
  · apply Int32.toBitVec_inj.mp
    rw [Int32.toBitVec_and]
    show x.toBitVec &&& 2147483647#32 = BitVec.ofNat 32 _
    rw [BitVec.ofNat_toNat]
    simp
def drawN (sd : Int32) (C : Nat) : Nat := (pkI (nxI sd) C).toNatClampNeg
theorem drawN_ok (sd : Int32) {C : Nat} (h1 : 1 ≤ C) (h6 : C ≤ 6) : pkI (nxI sd) C = nI (drawN sd C) ∧ drawN sd C < C := by
  obtain ⟨n, hn, e⟩ := and31 (sd * 1103515245 + nI 12345)
  have e1 : nxI sd = nI n := e
  have e2 : nI n / 65536 = nI (n / 65536) := pk_div (d := 65536) (by omega) (by omega) (by omega)
  have e3 : pkI (nxI sd) C = nI (n / 65536 % C) := by
    rw [e1]
    unfold pkI
    rw [e2]
    exact pk_rem (by omega) (by omega) (by omega)
  have hl := Nat.mod_lt (n / 65536) (show 0 < C by omega)
  unfold drawN
  rw [e3, nI_clamp (by omega)]
  exact ⟨rfl, hl⟩
/-- n draws at the most, until the ham is had -/
def driftR (F C N S : Nat) (w a r : Nat → Nat) : Nat → PSt → Int32 → PSt × Int32
  | 0, s, sd => (s, sd)
  | n + 1, s, sd => if s.2.2 = -1 then driftR F C N S w a r n (go1 F N S w a r false s (drawN sd C)) (nxI sd) else (s, sd)
set_option maxRecDepth 20000 in
theorem lp_drift (sk : Nat → Nat) {h rd pl sp nw im kp tl ro rs ak : Nat} {st : Bool} {fp : Int32} {nq ps pw pa pr F C N S x : Nat} {V E : Int32} {w a r : Nat → Nat} {Z : PSt × Int32} (hB : PB F C N S w a r) (hC1 : 1 ≤ C) (hx : x ≤ 99) : ∀ (n i : Nat) (s : PSt) (sd : Int32), i + n = x → SB s.1 → driftR F C N S w a r n s sd = Z → GG sk RX6 yX6_drift cX6_drift 3 (some .int) 4 0 0 (zD (some (.int Z.1.2.2)) [oMain h rd pl sp nw im kp tl ro rs ak st fp, oPoleS nw nq Z.1 Z.2, cI nq 30 (fI Z.1.1), oPlan pl ps pw pa pr (nI F) (nI C) V E (nI N) (nI S), cI pw 6 (fI w), cI pa 6 (fI a), cI pr 6 (fI r)]) 0 0 39 [some (.ref h), some (.int (nI x)), some (.int (nI i))] [] [oMain h rd pl sp nw im kp tl ro rs ak st fp, oPoleS nw nq s sd, cI nq 30 (fI s.1), oPlan pl ps pw pa pr (nI F) (nI C) V E (nI N) (nI S), cI pw 6 (fI w), cI pa 6 (fI a), cI pr 6 (fI r)] := by
  intro n
  induction n with
  | zero =>
    intro i s sd hi hs0 hZ
    rw [driftR] at hZ
    subst hZ
    refine g_iload_n dX6_drift_39 rfl rfl ?_
    refine g_iload_n dX6_drift_40 rfl rfl ?_
    refine g_icmp_geN (t := 88) dX6_drift_41 (by decide) rfl (by omega) (by omega) (fun h41 => ?_) (fun h41 => ?_)
    · skip
      refine g_aload_n dX6_drift_88 rfl rfl ?_
      refine g_get f_X6_29 dX6_drift_89 rfl 0 rfl rfl ?_
      refine g_get f_X6_125 dX6_drift_92 rfl 1 rfl rfl ?_
      exact g_iret dX6_drift_95 rfl (Nat.le_refl _) (Nat.le_refl _) (⟨rfl, rfl⟩)
    · exact absurd h41 (by omega)
  | succ n ih =>
    intro i s sd hi hs0 hZ
    rw [driftR] at hZ
    refine g_iload_n dX6_drift_39 rfl rfl ?_
    refine g_iload_n dX6_drift_40 rfl rfl ?_
    refine g_icmp_geN (t := 88) dX6_drift_41 (by decide) rfl (by omega) (by omega) (fun h41 => ?_) (fun h41 => ?_)
    · exact absurd h41 (by omega)
    · skip
      refine g_aload_n dX6_drift_44 rfl rfl ?_
      refine g_get f_X6_29 dX6_drift_45 rfl 0 rfl rfl ?_
      refine g_get f_X6_125 dX6_drift_48 rfl 1 rfl rfl ?_
      refine g_iconst (v := -1) dX6_drift_51 rfl (by decide) ?_
      refine g_icmp_ne (t := 88) dX6_drift_52 (by decide) rfl (fun h52 => ?_) (fun h52 => ?_)
      · rw [if_neg h52] at hZ
        subst hZ
        refine g_aload_n dX6_drift_88 rfl rfl ?_
        refine g_get f_X6_29 dX6_drift_89 rfl 0 rfl rfl ?_
        refine g_get f_X6_125 dX6_drift_92 rfl 1 rfl rfl ?_
        exact g_iret dX6_drift_95 rfl (Nat.le_refl _) (Nat.le_refl _) (⟨rfl, rfl⟩)
      · rw [if_pos h52] at hZ
        have hd := drawN_ok sd hC1 hB.2.1
        refine g_aload_n dX6_drift_55 rfl rfl ?_
        refine g_get f_X6_29 dX6_drift_56 rfl 0 rfl rfl ?_
        refine g_aload_n dX6_drift_59 rfl rfl ?_
        refine g_get f_X6_19 dX6_drift_60 rfl 0 rfl rfl ?_
        refine g_aload_n dX6_drift_63 rfl rfl ?_
        refine g_get f_X6_29 dX6_drift_64 rfl 0 rfl rfl ?_
        refine g_aload_n dX6_drift_67 rfl rfl ?_
        refine g_get f_X6_19 dX6_drift_68 rfl 0 rfl rfl ?_
        refine g_get f_X6_104 dX6_drift_71 rfl 3 rfl rfl ?_
        refine g_callV (c_X1_draw sk hB.2.1 hC1) m_X6_169 a_X1_draw dX6_drift_74 rfl [1] rfl rfl 0 rfl rfl rfl (by decide) (by decide) (by decide) (by decide) (Nat.le_of_ble_eq_true rfl) (fun r w hK => ?_)
        obtain ⟨rfl, rfl⟩ := hK
        refine ⟨rfl, ?_⟩
        rw [hd.1]
        dsimp only [puts, List.set, Option.toList, List.cons_append, List.nil_append, List.append_nil]
        refine g_iconst (v := nI 0) dX6_drift_77 rfl (by decide) ?_
        refine g_callV (c_climb sk (sand := false) hB hd.2 hs0) m_X6_161 a_X1_climb dX6_drift_78 rfl [1, 2, 3, 4, 5, 6] rfl rfl 0 rfl rfl rfl (by decide) (by decide) (by decide) (by decide) (Nat.le_of_ble_eq_true rfl) (fun r w hK => ?_)
        obtain ⟨rfl, rfl⟩ := hK
        refine ⟨rfl, ?_⟩
        dsimp only [puts, List.set, Option.toList, List.cons_append, List.nil_append, List.append_nil]
        refine g_pop dX6_drift_81 rfl rfl ?_
        refine g_iinc dX6_drift_82 rfl rfl (nI_1 _) (by decide) rfl rfl ?_
        refine g_goto (q := 39) dX6_drift_85 (by decide) ?_
        exact ih (i + 1) _ _ (by omega) (go1_SB hs0) hZ
def drfC (C : Nat) (x : Int32) : Int32 := if x < nI 1 ∨ nI 99 < x then -1000000002 else if C = 0 then -1000000003 else 0
set_option maxRecDepth 20000 in
theorem c_X6_driftN (sk : Nat → Nat) {h rd pl sp nw im kp tl ro rs ak : Nat} {st : Bool} {fp : Int32} {nq ps pw pa pr F C N S : Nat} {sd V E : Int32} {s : PSt} {w a r : Nat → Nat} {x : Int32} (hF : F ≤ 30) (hC6 : C ≤ 6) (hz : ¬ drfC C x = 0) : Ct sk yX6_drift cX6_drift 3 (some .int) 4 0 0 [oMain h rd pl sp nw im kp tl ro rs ak st fp, oPoleS nw nq s sd, cI nq 30 (fI s.1), oPlan pl ps pw pa pr (nI F) (nI C) V E (nI N) (nI S), cI pw 6 (fI w), cI pa 6 (fI a), cI pr 6 (fI r)] [.ref h, .int x] (zD (some (.int (drfC C x))) [oMain h rd pl sp nw im kp tl ro rs ak st fp, oPoleS nw nq s sd, cI nq 30 (fI s.1), oPlan pl ps pw pa pr (nI F) (nI C) V E (nI N) (nI S), cI pw 6 (fI w), cI pa 6 (fI a), cI pr 6 (fI r)]) := by
  refine Ct.of (own := RX6) (l := [some (.ref h), some (.int x), none]) (by decide) rfl (Nat.le_of_ble_eq_true rfl) rfl ?_
  refine g_iload_n dX6_drift_0 rfl rfl ?_
  refine g_iconst (v := nI 1) dX6_drift_1 rfl (by decide) ?_
  refine g_icmp_lt (t := 11) dX6_drift_2 (by decide) rfl (fun h2 => ?_) (fun h2 => ?_)
  · rw [drfC, if_pos (Or.inl h2)]
    refine g_ldc dX6_drift_11 rfl k_X6_73 ?_
    exact g_iret dX6_drift_13 rfl (Nat.le_refl _) (Nat.le_refl _) (⟨rfl, rfl⟩)
  · skip
    refine g_iload_n dX6_drift_5 rfl rfl ?_
    refine g_bipush (v := nI 99) dX6_drift_6 rfl (by decide) ?_
    refine g_icmp_le (t := 14) dX6_drift_8 (by decide) rfl (fun h8 => ?_) (fun h8 => ?_)
    · have hA : ¬ (x < nI 1 ∨ nI 99 < x) := by rw [not_or]; exact ⟨by rw [Int32.not_lt]; rw [← Int32.not_lt]; exact h2, by rw [Int32.not_lt]; exact h8⟩
      have hC0 : C = 0 := Decidable.byContradiction (fun q => hz (by rw [drfC, if_neg hA, if_neg q]))
      rw [drfC, if_neg hA, if_pos hC0]
      refine g_aload_n dX6_drift_14 rfl rfl ?_
      refine g_get f_X6_19 dX6_drift_15 rfl 0 rfl rfl ?_
      refine g_get f_X6_101 dX6_drift_18 rfl 3 rfl rfl ?_
      refine g_if_eq (t := 34) dX6_drift_21 (by decide) rfl (fun h21 => ?_) (fun h21 => ?_)
      · skip
        refine g_ldc dX6_drift_34 rfl k_X6_160 ?_
        exact g_iret dX6_drift_36 rfl (Nat.le_refl _) (Nat.le_refl _) (⟨rfl, rfl⟩)
      · skip
        refine g_aload_n dX6_drift_24 rfl rfl ?_
        refine g_get f_X6_19 dX6_drift_25 rfl 0 rfl rfl ?_
        refine g_get f_X6_104 dX6_drift_28 rfl 3 rfl rfl ?_
        refine g_if_ne (t := 37) dX6_drift_31 (by decide) rfl (fun h31 => ?_) (fun h31 => ?_)
        · exact absurd (by rw [hC0]; rfl) h31
        · skip
          refine g_ldc dX6_drift_34 rfl k_X6_160 ?_
          exact g_iret dX6_drift_36 rfl (Nat.le_refl _) (Nat.le_refl _) (⟨rfl, rfl⟩)
    · rw [drfC, if_pos (Or.inr (by rw [← Int32.not_le]; exact h8))]
      refine g_ldc dX6_drift_11 rfl k_X6_73 ?_
      exact g_iret dX6_drift_13 rfl (Nat.le_refl _) (Nat.le_refl _) (⟨rfl, rfl⟩)
set_option maxRecDepth 20000 in
theorem c_X6_drift (sk : Nat → Nat) {h rd pl sp nw im kp tl ro rs ak : Nat} {st : Bool} {fp : Int32} {nq ps pw pa pr F C N S x : Nat} {sd V E : Int32} {s : PSt} {w a r : Nat → Nat} {Z : PSt × Int32} (hB : PB F C N S w a r) (hs0 : SB s.1) (hC1 : 1 ≤ C) (hx : 1 ≤ x ∧ x ≤ 99) (hZ : driftR F C N S w a r x s sd = Z) : Ct sk yX6_drift cX6_drift 3 (some .int) 4 0 0 [oMain h rd pl sp nw im kp tl ro rs ak st fp, oPoleS nw nq s sd, cI nq 30 (fI s.1), oPlan pl ps pw pa pr (nI F) (nI C) V E (nI N) (nI S), cI pw 6 (fI w), cI pa 6 (fI a), cI pr 6 (fI r)] [.ref h, .int (nI x)] (zD (some (.int Z.1.2.2)) [oMain h rd pl sp nw im kp tl ro rs ak st fp, oPoleS nw nq Z.1 Z.2, cI nq 30 (fI Z.1.1), oPlan pl ps pw pa pr (nI F) (nI C) V E (nI N) (nI S), cI pw 6 (fI w), cI pa 6 (fI a), cI pr 6 (fI r)]) := by
  have hF30 := hB.1
  have hC6 := hB.2.1
  have hF1 := hB.2.2.1 hC1
  refine Ct.of (own := RX6) (l := [some (.ref h), some (.int (nI x)), none]) (by decide) rfl (Nat.le_of_ble_eq_true rfl) rfl ?_
  refine g_iload_n dX6_drift_0 rfl rfl ?_
  refine g_iconst (v := nI 1) dX6_drift_1 rfl (by decide) ?_
  refine g_icmp_ltN (t := 11) dX6_drift_2 (by decide) rfl (by omega) (by omega) (fun h2 => ?_) (fun h2 => ?_)
  · exact absurd h2 (by omega)
  · skip
    refine g_iload_n dX6_drift_5 rfl rfl ?_
    refine g_bipush (v := nI 99) dX6_drift_6 rfl (by decide) ?_
    refine g_icmp_leN (t := 14) dX6_drift_8 (by decide) rfl (by omega) (by omega) (fun h8 => ?_) (fun h8 => ?_)
    · skip
      refine g_aload_n dX6_drift_14 rfl rfl ?_
      refine g_get f_X6_19 dX6_drift_15 rfl 0 rfl rfl ?_
      refine g_get f_X6_101 dX6_drift_18 rfl 3 rfl rfl ?_
      refine g_if_eq (t := 34) dX6_drift_21 (by decide) rfl (fun h21 => ?_) (fun h21 => ?_)
      · exact absurd h21 (nI_ne0 (by omega) (by omega))
      · skip
        refine g_aload_n dX6_drift_24 rfl rfl ?_
        refine g_get f_X6_19 dX6_drift_25 rfl 0 rfl rfl ?_
        refine g_get f_X6_104 dX6_drift_28 rfl 3 rfl rfl ?_
        refine g_if_ne (t := 37) dX6_drift_31 (by decide) rfl (fun h31 => ?_) (fun h31 => ?_)
        · skip
          refine g_iconst (v := nI 0) dX6_drift_37 rfl (by decide) ?_
          refine g_istore_n dX6_drift_38 rfl (by decide) rfl rfl ?_
          exact lp_drift sk hB hC1 hx.2 x 0 s sd (by omega) hs0 hZ
        · exact absurd h31 (nI_ne0 (by omega) (by omega))
    · exact absurd h8 (by omega)
/-- who had sand: n climbers from c on -/
def sandR (F N S : Nat) (w a r who fr : Nat → Nat) (k : Nat) (s : PSt) : Nat → Nat → Int32 → Int32
  | 0, _, acc => acc
  | n + 1, c, acc => sandR F N S w a r who fr k s n (c + 1) (if wrongR F N S w a r who fr (nI c) k 0 s = -1 then acc ||| (nI 1 <<< (nI c &&& 31)) else acc)
set_option maxRecDepth 20000 in
theorem lp_sand (sk : Nat → Nat) {h rd pl sp nw im kp tl ro rs ak : Nat} {st : Bool} {fp : Int32} {nq ps pw pa pr F C N S : Nat} {sd V E : Int32} {s : PSt} {w a r : Nat → Nat} {tc tf tp tq n : Nat} {fc ff : Nat → Int32} {who fr : Nat → Nat} {Z : Int32} (hB : PB F C N S w a r) (hs0 : SB s.1) (hn : n ≤ 12) (hwho : ∀ i, i < n → fc i = nI (who i) ∧ who i < C) (hfr : ∀ i, i < n → ff i = nI (fr i) ∧ fr i ≤ 30) : ∀ (m c : Nat) (acc g0 o0 d0 : Int32) (f0 : Nat → Int32), c + m = C → sandR F N S w a r who fr n s m c acc = Z → GG sk RX6 yX6_sand cX6_sand 3 (some .int) 5 0 0 (fun q w1 => q = some (.int (Z)) ∧ ∃ (g0 o0 d0 : Int32) (f0 : Nat → Int32), w1 = [oMain h rd pl sp nw im kp tl ro rs ak st fp, oTale tl tc tf tp (nI n), cI tc 12 fc, cI tf 12 ff, oPole tp tq g0 o0 d0, cI tq 30 f0, oPoleS nw nq s sd, cI nq 30 (fI s.1), oPlan pl ps pw pa pr (nI F) (nI C) V E (nI N) (nI S), cI pw 6 (fI w), cI pa 6 (fI a), cI pr 6 (fI r)]) 0 0 4 [some (.ref h), some (.int acc), some (.int (nI c))] [] [oMain h rd pl sp nw im kp tl ro rs ak st fp, oTale tl tc tf tp (nI n), cI tc 12 fc, cI tf 12 ff, oPole tp tq g0 o0 d0, cI tq 30 f0, oPoleS nw nq s sd, cI nq 30 (fI s.1), oPlan pl ps pw pa pr (nI F) (nI C) V E (nI N) (nI S), cI pw 6 (fI w), cI pa 6 (fI a), cI pr 6 (fI r)] := by
  have hC6 := hB.2.1
  intro m
  induction m with
  | zero =>
    intro c acc g0 o0 d0 f0 hc hZ
    rw [sandR] at hZ
    subst hZ
    refine g_iload_n dX6_sand_4 rfl rfl ?_
    refine g_aload_n dX6_sand_5 rfl rfl ?_
    refine g_get f_X6_19 dX6_sand_6 rfl 0 rfl rfl ?_
    refine g_get f_X6_104 dX6_sand_9 rfl 8 rfl rfl ?_
    refine g_icmp_geN (t := 47) dX6_sand_12 (by decide) rfl (by omega) (by omega) (fun h12 => ?_) (fun h12 => ?_)
    · skip
      refine g_iload_n dX6_sand_47 rfl rfl ?_
      exact g_iret dX6_sand_48 rfl (Nat.le_refl _) (Nat.le_refl _) (⟨rfl, _, _, _, _, rfl⟩)
    · exact absurd h12 (by omega)
  | succ m ih =>
    intro c acc g0 o0 d0 f0 hc hZ
    rw [sandR] at hZ
    refine g_iload_n dX6_sand_4 rfl rfl ?_
    refine g_aload_n dX6_sand_5 rfl rfl ?_
    refine g_get f_X6_19 dX6_sand_6 rfl 0 rfl rfl ?_
    refine g_get f_X6_104 dX6_sand_9 rfl 8 rfl rfl ?_
    refine g_icmp_geN (t := 47) dX6_sand_12 (by decide) rfl (by omega) (by omega) (fun h12 => ?_) (fun h12 => ?_)
    · exact absurd h12 (by omega)
    · skip
      refine g_aload_n dX6_sand_15 rfl rfl ?_
      refine g_get f_X6_44 dX6_sand_16 rfl 0 rfl rfl ?_
      refine g_aload_n dX6_sand_19 rfl rfl ?_
      refine g_get f_X6_19 dX6_sand_20 rfl 0 rfl rfl ?_
      refine g_aload_n dX6_sand_23 rfl rfl ?_
      refine g_get f_X6_29 dX6_sand_24 rfl 0 rfl rfl ?_
      refine g_iload_n dX6_sand_27 rfl rfl ?_
      refine g_callV (c_X5_firstOtherwise sk hB hn hwho hfr hs0) m_X6_202 a_X5_firstOtherwise dX6_sand_28 rfl [1, 2, 3, 4, 5, 6, 7, 8, 9, 10, 11] rfl rfl 0 rfl rfl rfl (by decide) (by decide) (by decide) (by decide) (Nat.le_of_ble_eq_true rfl) (fun r w hK => ?_)
      obtain ⟨rfl, t, z, rfl⟩ := hK
      refine ⟨rfl, ?_⟩
      dsimp only [puts, List.set, Option.toList, List.cons_append, List.nil_append, List.append_nil]
      refine g_iconst (v := -1) dX6_sand_31 rfl (by decide) ?_
      refine g_icmp_ne (t := 41) dX6_sand_32 (by decide) rfl (fun h32 => ?_) (fun h32 => ?_)
      · rw [if_neg h32] at hZ
        refine g_iinc dX6_sand_41 rfl rfl (nI_1 _) (by decide) rfl rfl ?_
        refine g_goto (q := 4) dX6_sand_44 (by decide) ?_
        exact ih (c + 1) _ _ _ _ _ (by omega) hZ
      · rw [if_pos h32] at hZ
        refine g_iload_n dX6_sand_35 rfl rfl ?_
        refine g_iconst (v := nI 1) dX6_sand_36 rfl (by decide) ?_
        refine g_iload_n dX6_sand_37 rfl rfl ?_
        refine g_ishl dX6_sand_38 rfl rfl ?_
        refine g_ior dX6_sand_39 rfl rfl ?_
        refine g_istore_n dX6_sand_40 rfl (by decide) rfl rfl ?_
        refine g_iinc dX6_sand_41 rfl rfl (nI_1 _) (by decide) rfl rfl ?_
        refine g_goto (q := 4) dX6_sand_44 (by decide) ?_
        exact ih (c + 1) _ _ _ _ _ (by omega) hZ
set_option maxRecDepth 20000 in
theorem c_X6_sand (sk : Nat → Nat) {h rd pl sp nw im kp tl ro rs ak : Nat} {st : Bool} {fp : Int32} {nq ps pw pa pr F C N S : Nat} {sd V E : Int32} {s : PSt} {w a r : Nat → Nat} {tc tf tp tq n : Nat} {fc ff : Nat → Int32} {who fr : Nat → Nat} {g0 o0 d0 : Int32} {f0 : Nat → Int32} (hB : PB F C N S w a r) (hs0 : SB s.1) (hn : n ≤ 12) (hwho : ∀ i, i < n → fc i = nI (who i) ∧ who i < C) (hfr : ∀ i, i < n → ff i = nI (fr i) ∧ fr i ≤ 30) : Ct sk yX6_sand cX6_sand 3 (some .int) 5 0 0 [oMain h rd pl sp nw im kp tl ro rs ak st fp, oTale tl tc tf tp (nI n), cI tc 12 fc, cI tf 12 ff, oPole tp tq g0 o0 d0, cI tq 30 f0, oPoleS nw nq s sd, cI nq 30 (fI s.1), oPlan pl ps pw pa pr (nI F) (nI C) V E (nI N) (nI S), cI pw 6 (fI w), cI pa 6 (fI a), cI pr 6 (fI r)] [.ref h] ((fun q w1 => q = some (.int (sandR F N S w a r who fr n s C 0 (nI 0))) ∧ ∃ (g0 o0 d0 : Int32) (f0 : Nat → Int32), w1 = [oMain h rd pl sp nw im kp tl ro rs ak st fp, oTale tl tc tf tp (nI n), cI tc 12 fc, cI tf 12 ff, oPole tp tq g0 o0 d0, cI tq 30 f0, oPoleS nw nq s sd, cI nq 30 (fI s.1), oPlan pl ps pw pa pr (nI F) (nI C) V E (nI N) (nI S), cI pw 6 (fI w), cI pa 6 (fI a), cI pr 6 (fI r)])) := by
  refine Ct.of (own := RX6) (l := [some (.ref h), none, none]) (by decide) rfl (Nat.le_of_ble_eq_true rfl) rfl ?_
  refine g_iconst (v := nI 0) dX6_sand_0 rfl (by decide) ?_
  refine g_istore_n dX6_sand_1 rfl (by decide) rfl rfl ?_
  refine g_iconst (v := nI 0) dX6_sand_2 rfl (by decide) ?_
  refine g_istore_n dX6_sand_3 rfl (by decide) rfl rfl ?_
  exact lp_sand sk hB hs0 hn hwho hfr C 0 (nI 0) g0 o0 d0 f0 (by omega) rfl
