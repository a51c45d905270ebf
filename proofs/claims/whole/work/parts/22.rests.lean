/-! RESTS of the class -/
/-- the turn of climber k, where c tries turn tu -/
def hisI (ft : Nat → Int32) (c tu k : Nat) : Int32 := if k = c then nI tu else ft k
/-- the climbers from k on, n of them, at turn t: what c has of it, or how it is behind them -/
def gainK (F N S : Nat) (w a r : Nat → Nat) (V E : Int32) (ft : Nat → Int32) (c tu t : Nat) : Nat → Nat → PSt → Int32 ⊕ PSt
  | 0, _, s => .inr s
  | n + 1, k, s => if hisI ft c tu k = nI t then (if k = c then .inl ((if (go1 F N S w a r false s k).2.2 = nI c then V else nI 0) - E) else if (go1 F N S w a r false s k).2.2 = -1 then gainK F N S w a r V E ft c tu t n (k + 1) (go1 F N S w a r false s k) else .inl (nI 0)) else gainK F N S w a r V E ft c tu t n (k + 1) s
/-- the turns from t on, n of them -/
def gainT (F C N S : Nat) (w a r : Nat → Nat) (V E : Int32) (ft : Nat → Int32) (c tu : Nat) : Nat → Nat → PSt → Int32
  | 0, _, _ => nI 0
  | n + 1, t, s => match gainK F N S w a r V E ft c tu t C 0 s with
    | .inl v => v
    | .inr u => gainT F C N S w a r V E ft c tu n (t + 1) u
/-- the turn by which c has most, of turns below n, against b with gain g -/
def bestR (F C N S : Nat) (w a r : Nat → Nat) (V E : Int32) (ft : Nat → Int32) (c : Nat) (s : PSt) : Nat → Int32 → Int32 → Int32
  | 0, b, _ => b
  | n + 1, b, g => if g < gainT F C N S w a r V E ft c n (n + 1) 0 s then bestR F C N S w a r V E ft c s n (nI n) (gainT F C N S w a r V E ft c n (n + 1) 0 s) else bestR F C N S w a r V E ft c s n b g
/-- a round over n climbers from c on -/
def roundR (F C N S : Nat) (w a r : Nat → Nat) (V E : Int32) (s : PSt) : Nat → Nat → (Nat → Int32) → Bool → (Nat → Int32) × Bool
  | 0, _, ft, ch => (ft, ch)
  | n + 1, c, ft, ch => roundR F C N S w a r V E s n (c + 1) (upd ft c (bestR F C N S w a r V E ft c s 6 (-1) (nI 0))) (ch || decide (¬ bestR F C N S w a r V E ft c s 6 (-1) (nI 0) = ft c))
/-- so many rounds at the most -/
def findR (F C N S : Nat) (w a r : Nat → Nat) (V E : Int32) (s : PSt) : Nat → (Nat → Int32) → Nat → (Nat → Int32) × Nat
  | 0, ft, q => (ft, q)
  | m + 1, ft, q => match (roundR F C N S w a r V E s C 0 ft false).2 with
    | true => findR F C N S w a r V E s m (roundR F C N S w a r V E s C 0 ft false).1 (q + 1)
    | false => ((roundR F C N S w a r V E s C 0 ft false).1, q)
def restsR (F C N S : Nat) (w a r : Nat → Nat) (V E : Int32) (s : PSt) : (Nat → Int32) × Int32 := if s.2.2 = -1 then ((findR F C N S w a r V E s 20 (fun _ => -1) 0).1, if (findR F C N S w a r V E s 20 (fun _ => -1) 0).2 = 20 then -1 else nI (findR F C N S w a r V E s 20 (fun _ => -1) 0).2) else (fun _ => -1, nI 0)
theorem m1_up (i : Nat) (ft : Nat → Int32) : upd (fun j => if j < i then (-1 : Int32) else ft j) i (-1) = fun j => if j < i + 1 then -1 else ft j := by
  funext j
  unfold upd
  by_cases h : j = i
  · subst h; simp
  · by_cases h2 : j < i
    · simp [h, h2, show j < i + 1 by omega]
    · simp [h, h2, show ¬ j < i + 1 by omega]
set_option maxRecDepth 20000 in
theorem c_X3_forget (sk : Nat → Nat) {rh rt rp : Nat} {x : Int32} {b : Bool}  : Ct sk yX3_forget cX3_forget 1 none 0 0 0 [oRests rh rt rp x b] [.ref rh] (zD none [oRests rh rt rp x false]) := by
  refine Ct.of (own := RX3) (l := [some (.ref rh)]) (by decide) rfl (Nat.le_of_ble_eq_true rfl) rfl ?_
  refine g_aload_n dX3_forget_0 rfl rfl ?_
  refine g_iconst (v := nI 0) dX3_forget_1 rfl (by decide) ?_
  refine g_putZ (b := false) f_X3_22 dX3_forget_2 rfl 0 rfl (Nat.le_of_ble_eq_true rfl) rfl ?_
  dsimp only [List.set]
  exact g_vret dX3_forget_5 rfl (Nat.le_refl _) (Nat.le_refl _) (⟨rfl, rfl⟩)
set_option maxRecDepth 20000 in
theorem c_X3_turnOf (sk : Nat → Nat) {rh rt rp i : Nat} {x : Int32} {b : Bool} {ft : Nat → Int32} (hi : i < 6) : Ct sk yX3_turnOf cX3_turnOf 2 (some .int) 0 0 0 [oRests rh rt rp x b, cI rt 6 ft] [.ref rh, .int (nI i)] (zD (some (.int (ft i))) [oRests rh rt rp x b, cI rt 6 ft]) := by
  refine Ct.of (own := RX3) (l := [some (.ref rh), some (.int (nI i))]) (by decide) rfl (Nat.le_of_ble_eq_true rfl) rfl ?_
  refine g_iload_n dX3_turnOf_0 rfl rfl ?_
  refine g_if_lt (t := 22) dX3_turnOf_1 (by decide) rfl (fun h1 => ?_) (fun h1 => ?_)
  · exact absurd h1 (nI_nlt0 (by omega))
  · skip
    refine g_iload_n dX3_turnOf_4 rfl rfl ?_
    refine g_aload_n dX3_turnOf_5 rfl rfl ?_
    refine g_get f_X3_9 dX3_turnOf_6 rfl 0 rfl rfl ?_
    refine g_alen dX3_turnOf_9 rfl 1 rfl (Nat.le_of_ble_eq_true rfl) rfl ?_
    refine g_icmp_geN (t := 22) dX3_turnOf_10 (by decide) rfl (by omega) (by omega) (fun h10 => ?_) (fun h10 => ?_)
    · exact absurd h10 (by omega)
    · skip
      refine g_aload_n dX3_turnOf_13 rfl rfl ?_
      refine g_get f_X3_9 dX3_turnOf_14 rfl 0 rfl rfl ?_
      refine g_iload_n dX3_turnOf_17 rfl rfl ?_
      refine g_ialdN dX3_turnOf_18 rfl 1 rfl (by omega) (by decide) (rfl) ?_
      refine g_goto (q := 23) dX3_turnOf_19 (by decide) ?_
      exact g_iret dX3_turnOf_23 rfl (Nat.le_refl _) (Nat.le_refl _) (⟨rfl, rfl⟩)
set_option maxRecDepth 20000 in
theorem lp_X3_gainK (sk : Nat → Nat) {rh rt rp rq hp hs pl ps pw pa pr c tu F C N S : Nat} {sd V E ro : Int32} {fo : Bool} {ft : Nat → Int32} {s : PSt} {w a r : Nat → Nat} {t : Nat} {v : Int32} (hB : PB F C N S w a r) (hc : c < C) (htu : tu < 6) (ht : t ≤ 5) : ∀ (m k : Nat) (u : PSt), k + m = C → SB u.1 → (∀ z : PSt, gainK F N S w a r V E ft c tu t m k u = .inr z → SB z.1 → GG sk RX3 yX3_gainAt cX3_gainAt 8 (some .int) 4 0 0 (fun q w1 => q = some (.int v) ∧ ∃ (g0 o0 d0 : Int32) (f0 : Nat → Int32), w1 = [oRests rh rt rp ro fo, cI rt 6 ft, oPole rp rq g0 o0 d0, cI rq 30 f0, oPoleS hp hs s sd, cI hs 30 (fI s.1), oPlan pl ps pw pa pr (nI F) (nI C) V E (nI N) (nI S), cI pw 6 (fI w), cI pa 6 (fI a), cI pr 6 (fI r)]) 0 0 11 [some (.ref rh), some (.ref pl), some (.ref hp), some (.int (nI c)), some (.int (nI tu)), some (.int (nI (t + 1))), none, none] [] [oRests rh rt rp ro fo, cI rt 6 ft, oPoleS rp rq z sd, cI rq 30 (fI z.1), oPoleS hp hs s sd, cI hs 30 (fI s.1), oPlan pl ps pw pa pr (nI F) (nI C) V E (nI N) (nI S), cI pw 6 (fI w), cI pa 6 (fI a), cI pr 6 (fI r)]) → (∀ x : Int32, gainK F N S w a r V E ft c tu t m k u = .inl x → x = v) → GG sk RX3 yX3_gainAt cX3_gainAt 8 (some .int) 4 0 0 (fun q w1 => q = some (.int v) ∧ ∃ (g0 o0 d0 : Int32) (f0 : Nat → Int32), w1 = [oRests rh rt rp ro fo, cI rt 6 ft, oPole rp rq g0 o0 d0, cI rq 30 f0, oPoleS hp hs s sd, cI hs 30 (fI s.1), oPlan pl ps pw pa pr (nI F) (nI C) V E (nI N) (nI S), cI pw 6 (fI w), cI pa 6 (fI a), cI pr 6 (fI r)]) 0 0 21 [some (.ref rh), some (.ref pl), some (.ref hp), some (.int (nI c)), some (.int (nI tu)), some (.int (nI t)), some (.int (nI k)), none] [] [oRests rh rt rp ro fo, cI rt 6 ft, oPoleS rp rq u sd, cI rq 30 (fI u.1), oPoleS hp hs s sd, cI hs 30 (fI s.1), oPlan pl ps pw pa pr (nI F) (nI C) V E (nI N) (nI S), cI pw 6 (fI w), cI pa 6 (fI a), cI pr 6 (fI r)] := by
  have hC6 := hB.2.1
  intro m
  induction m with
  | zero =>
    intro k u hk hu hx hv
    refine g_iload dX3_gainAt_21 rfl rfl ?_
    refine g_aload_n dX3_gainAt_23 rfl rfl ?_
    refine g_get f_X3_41 dX3_gainAt_24 rfl 6 rfl rfl ?_
    refine g_icmp_geN (t := 121) dX3_gainAt_27 (by decide) rfl (by omega) (by omega) (fun h27 => ?_) (fun h27 => ?_)
    · skip
      refine g_iinc dX3_gainAt_121 rfl rfl (nI_1 _) (by decide) rfl rfl ?_
      refine g_goto (q := 11) dX3_gainAt_124 (by decide) ?_
      refine g_drop 6 rfl ?_
      exact hx u rfl hu
    · exact absurd h27 (by omega)
  | succ m ih =>
    intro k u hk hu hx hv
    rw [gainK] at hx hv
    refine g_iload dX3_gainAt_21 rfl rfl ?_
    refine g_aload_n dX3_gainAt_23 rfl rfl ?_
    refine g_get f_X3_41 dX3_gainAt_24 rfl 6 rfl rfl ?_
    refine g_icmp_geN (t := 121) dX3_gainAt_27 (by decide) rfl (by omega) (by omega) (fun h27 => ?_) (fun h27 => ?_)
    · exact absurd h27 (by omega)
    · skip
      refine g_iload dX3_gainAt_30 rfl rfl ?_
      refine g_iload_n dX3_gainAt_32 rfl rfl ?_
      refine g_icmp_neN (t := 41) dX3_gainAt_33 (by decide) rfl (by omega) (by omega) (fun h33 => ?_) (fun h33 => ?_)
      · skip
        refine g_aload_n dX3_gainAt_41 rfl rfl ?_
        refine g_iload dX3_gainAt_42 rfl rfl ?_
        refine g_callV (c_X3_turnOf sk (by omega)) m_X3_34 a_X3_turnOf dX3_gainAt_44 rfl [0, 1] rfl rfl 0 rfl rfl rfl (by decide) (by decide) (by decide) (by decide) (Nat.le_of_ble_eq_true rfl) (fun r w hK => ?_)
        obtain ⟨rfl, rfl⟩ := hK
        refine ⟨rfl, ?_⟩
        dsimp only [puts, List.set, Option.toList, List.cons_append, List.nil_append, List.append_nil]
        refine g_istore dX3_gainAt_47 rfl (by decide) rfl rfl ?_
        refine g_iload dX3_gainAt_49 rfl rfl ?_
        refine g_iload dX3_gainAt_51 rfl rfl ?_
        refine g_icmp_eq (t := 59) dX3_gainAt_53 (by decide) rfl (fun h53 => ?_) (fun h53 => ?_)
        · have hh : hisI ft c tu k = nI t := by unfold hisI; rw [if_neg h33]; exact h53
          rw [if_pos hh] at hx hv
          refine g_aload_n dX3_gainAt_59 rfl rfl ?_
          refine g_get f_X3_18 dX3_gainAt_60 rfl 0 rfl rfl ?_
          refine g_aload_n dX3_gainAt_63 rfl rfl ?_
          refine g_iload dX3_gainAt_64 rfl rfl ?_
          refine g_iconst (v := nI 0) dX3_gainAt_66 rfl (by decide) ?_
          refine g_callV (c_climb sk (sand := false) hB (show k < C by omega) hu) m_X3_58 a_X1_climb dX3_gainAt_67 rfl [2, 3, 6, 7, 8, 9] rfl rfl 0 rfl rfl rfl (by decide) (by decide) (by decide) (by decide) (Nat.le_of_ble_eq_true rfl) (fun r w hK => ?_)
          obtain ⟨rfl, rfl⟩ := hK
          refine ⟨rfl, ?_⟩
          dsimp only [puts, List.set, Option.toList, List.cons_append, List.nil_append, List.append_nil]
          refine g_pop dX3_gainAt_70 rfl rfl ?_
          refine g_iload dX3_gainAt_71 rfl rfl ?_
          refine g_iload_n dX3_gainAt_73 rfl rfl ?_
          refine g_icmp_neN (t := 102) dX3_gainAt_74 (by decide) rfl (by omega) (by omega) (fun h74 => ?_) (fun h74 => ?_)
          · rw [if_neg h74] at hx hv
            refine g_aload_n dX3_gainAt_102 rfl rfl ?_
            refine g_get f_X3_18 dX3_gainAt_103 rfl 0 rfl rfl ?_
            refine g_get f_X3_38 dX3_gainAt_106 rfl 2 rfl rfl ?_
            refine g_iconst (v := -1) dX3_gainAt_109 rfl (by decide) ?_
            refine g_icmp_eq (t := 115) dX3_gainAt_110 (by decide) rfl (fun h110 => ?_) (fun h110 => ?_)
            · rw [if_pos h110] at hx hv
              refine g_iinc dX3_gainAt_115 rfl rfl (nI_1 _) (by decide) rfl rfl ?_
              refine g_goto (q := 21) dX3_gainAt_118 (by decide) ?_
              refine g_drop 7 rfl ?_
              exact ih (k + 1) _ (by omega) (go1_SB hu) hx hv
            · rw [if_neg h110] at hv
              refine g_iconst (v := nI 0) dX3_gainAt_113 rfl (by decide) ?_
              exact g_iret dX3_gainAt_114 rfl (Nat.le_refl _) (Nat.le_refl _) (⟨by rw [hv _ rfl], _, _, _, _, rfl⟩)
          · rw [if_pos h74] at hv
            refine g_aload_n dX3_gainAt_77 rfl rfl ?_
            refine g_get f_X3_18 dX3_gainAt_78 rfl 0 rfl rfl ?_
            refine g_get f_X3_38 dX3_gainAt_81 rfl 2 rfl rfl ?_
            refine g_iload_n dX3_gainAt_84 rfl rfl ?_
            refine g_icmp_ne (t := 95) dX3_gainAt_85 (by decide) rfl (fun h85 => ?_) (fun h85 => ?_)
            · rw [if_neg h85] at hv
              refine g_iconst (v := nI 0) dX3_gainAt_95 rfl (by decide) ?_
              refine g_aload_n dX3_gainAt_96 rfl rfl ?_
              refine g_get f_X3_65 dX3_gainAt_97 rfl 6 rfl rfl ?_
              refine g_isub dX3_gainAt_100 rfl rfl ?_
              exact g_iret dX3_gainAt_101 rfl (Nat.le_refl _) (Nat.le_refl _) (⟨by rw [hv _ rfl], _, _, _, _, rfl⟩)
            · rw [if_pos h85] at hv
              refine g_aload_n dX3_gainAt_88 rfl rfl ?_
              refine g_get f_X3_62 dX3_gainAt_89 rfl 6 rfl rfl ?_
              refine g_goto (q := 96) dX3_gainAt_92 (by decide) ?_
              refine g_aload_n dX3_gainAt_96 rfl rfl ?_
              refine g_get f_X3_65 dX3_gainAt_97 rfl 6 rfl rfl ?_
              refine g_isub dX3_gainAt_100 rfl rfl ?_
              exact g_iret dX3_gainAt_101 rfl (Nat.le_refl _) (Nat.le_refl _) (⟨by rw [hv _ rfl], _, _, _, _, rfl⟩)
        · have hh : ¬ hisI ft c tu k = nI t := by unfold hisI; rw [if_neg h33]; exact h53
          rw [if_neg hh] at hx hv
          refine g_goto (q := 115) dX3_gainAt_56 (by decide) ?_
          refine g_iinc dX3_gainAt_115 rfl rfl (nI_1 _) (by decide) rfl rfl ?_
          refine g_goto (q := 21) dX3_gainAt_118 (by decide) ?_
          refine g_drop 7 rfl ?_
          exact ih (k + 1) _ (by omega) hu hx hv
      · skip
        refine g_iload dX3_gainAt_36 rfl rfl ?_
        refine g_goto (q := 47) dX3_gainAt_38 (by decide) ?_
        refine g_istore dX3_gainAt_47 rfl (by decide) rfl rfl ?_
        refine g_iload dX3_gainAt_49 rfl rfl ?_
        refine g_iload dX3_gainAt_51 rfl rfl ?_
        refine g_icmp_eq (t := 59) dX3_gainAt_53 (by decide) rfl (fun h53 => ?_) (fun h53 => ?_)
        · have hh : hisI ft c tu k = nI t := by unfold hisI; rw [if_pos h33]; exact h53
          rw [if_pos hh] at hx hv
          refine g_aload_n dX3_gainAt_59 rfl rfl ?_
          refine g_get f_X3_18 dX3_gainAt_60 rfl 0 rfl rfl ?_
          refine g_aload_n dX3_gainAt_63 rfl rfl ?_
          refine g_iload dX3_gainAt_64 rfl rfl ?_
          refine g_iconst (v := nI 0) dX3_gainAt_66 rfl (by decide) ?_
          refine g_callV (c_climb sk (sand := false) hB (show k < C by omega) hu) m_X3_58 a_X1_climb dX3_gainAt_67 rfl [2, 3, 6, 7, 8, 9] rfl rfl 0 rfl rfl rfl (by decide) (by decide) (by decide) (by decide) (Nat.le_of_ble_eq_true rfl) (fun r w hK => ?_)
          obtain ⟨rfl, rfl⟩ := hK
          refine ⟨rfl, ?_⟩
          dsimp only [puts, List.set, Option.toList, List.cons_append, List.nil_append, List.append_nil]
          refine g_pop dX3_gainAt_70 rfl rfl ?_
          refine g_iload dX3_gainAt_71 rfl rfl ?_
          refine g_iload_n dX3_gainAt_73 rfl rfl ?_
          refine g_icmp_neN (t := 102) dX3_gainAt_74 (by decide) rfl (by omega) (by omega) (fun h74 => ?_) (fun h74 => ?_)
          · rw [if_neg h74] at hx hv
            refine g_aload_n dX3_gainAt_102 rfl rfl ?_
            refine g_get f_X3_18 dX3_gainAt_103 rfl 0 rfl rfl ?_
            refine g_get f_X3_38 dX3_gainAt_106 rfl 2 rfl rfl ?_
            refine g_iconst (v := -1) dX3_gainAt_109 rfl (by decide) ?_
            refine g_icmp_eq (t := 115) dX3_gainAt_110 (by decide) rfl (fun h110 => ?_) (fun h110 => ?_)
            · rw [if_pos h110] at hx hv
              refine g_iinc dX3_gainAt_115 rfl rfl (nI_1 _) (by decide) rfl rfl ?_
              refine g_goto (q := 21) dX3_gainAt_118 (by decide) ?_
              refine g_drop 7 rfl ?_
              exact ih (k + 1) _ (by omega) (go1_SB hu) hx hv
            · rw [if_neg h110] at hv
              refine g_iconst (v := nI 0) dX3_gainAt_113 rfl (by decide) ?_
              exact g_iret dX3_gainAt_114 rfl (Nat.le_refl _) (Nat.le_refl _) (⟨by rw [hv _ rfl], _, _, _, _, rfl⟩)
          · rw [if_pos h74] at hv
            refine g_aload_n dX3_gainAt_77 rfl rfl ?_
            refine g_get f_X3_18 dX3_gainAt_78 rfl 0 rfl rfl ?_
            refine g_get f_X3_38 dX3_gainAt_81 rfl 2 rfl rfl ?_
            refine g_iload_n dX3_gainAt_84 rfl rfl ?_
            refine g_icmp_ne (t := 95) dX3_gainAt_85 (by decide) rfl (fun h85 => ?_) (fun h85 => ?_)
            · rw [if_neg h85] at hv
              refine g_iconst (v := nI 0) dX3_gainAt_95 rfl (by decide) ?_
              refine g_aload_n dX3_gainAt_96 rfl rfl ?_
              refine g_get f_X3_65 dX3_gainAt_97 rfl 6 rfl rfl ?_
              refine g_isub dX3_gainAt_100 rfl rfl ?_
              exact g_iret dX3_gainAt_101 rfl (Nat.le_refl _) (Nat.le_refl _) (⟨by rw [hv _ rfl], _, _, _, _, rfl⟩)
            · rw [if_pos h85] at hv
              refine g_aload_n dX3_gainAt_88 rfl rfl ?_
              refine g_get f_X3_62 dX3_gainAt_89 rfl 6 rfl rfl ?_
              refine g_goto (q := 96) dX3_gainAt_92 (by decide) ?_
              refine g_aload_n dX3_gainAt_96 rfl rfl ?_
              refine g_get f_X3_65 dX3_gainAt_97 rfl 6 rfl rfl ?_
              refine g_isub dX3_gainAt_100 rfl rfl ?_
              exact g_iret dX3_gainAt_101 rfl (Nat.le_refl _) (Nat.le_refl _) (⟨by rw [hv _ rfl], _, _, _, _, rfl⟩)
        · have hh : ¬ hisI ft c tu k = nI t := by unfold hisI; rw [if_pos h33]; exact h53
          rw [if_neg hh] at hx hv
          refine g_goto (q := 115) dX3_gainAt_56 (by decide) ?_
          refine g_iinc dX3_gainAt_115 rfl rfl (nI_1 _) (by decide) rfl rfl ?_
          refine g_goto (q := 21) dX3_gainAt_118 (by decide) ?_
          refine g_drop 7 rfl ?_
          exact ih (k + 1) _ (by omega) hu hx hv
set_option maxRecDepth 20000 in
theorem lp_X3_gainT (sk : Nat → Nat) {rh rt rp rq hp hs pl ps pw pa pr c tu F C N S : Nat} {sd V E ro : Int32} {fo : Bool} {ft : Nat → Int32} {s : PSt} {w a r : Nat → Nat} {v : Int32} (hB : PB F C N S w a r) (hc : c < C) (htu : tu < 6) : ∀ (m t : Nat) (u : PSt), t + m = tu + 1 → SB u.1 → gainT F C N S w a r V E ft c tu m t u = v → GG sk RX3 yX3_gainAt cX3_gainAt 8 (some .int) 4 0 0 (fun q w1 => q = some (.int v) ∧ ∃ (g0 o0 d0 : Int32) (f0 : Nat → Int32), w1 = [oRests rh rt rp ro fo, cI rt 6 ft, oPole rp rq g0 o0 d0, cI rq 30 f0, oPoleS hp hs s sd, cI hs 30 (fI s.1), oPlan pl ps pw pa pr (nI F) (nI C) V E (nI N) (nI S), cI pw 6 (fI w), cI pa 6 (fI a), cI pr 6 (fI r)]) 0 0 11 [some (.ref rh), some (.ref pl), some (.ref hp), some (.int (nI c)), some (.int (nI tu)), some (.int (nI t)), none, none] [] [oRests rh rt rp ro fo, cI rt 6 ft, oPoleS rp rq u sd, cI rq 30 (fI u.1), oPoleS hp hs s sd, cI hs 30 (fI s.1), oPlan pl ps pw pa pr (nI F) (nI C) V E (nI N) (nI S), cI pw 6 (fI w), cI pa 6 (fI a), cI pr 6 (fI r)] := by
  intro m
  induction m with
  | zero =>
    intro t u ht hu hv
    refine g_iload dX3_gainAt_11 rfl rfl ?_
    refine g_iload dX3_gainAt_13 rfl rfl ?_
    refine g_icmp_gtN (t := 127) dX3_gainAt_15 (by decide) rfl (by omega) (by omega) (fun h15 => ?_) (fun h15 => ?_)
    · skip
      refine g_iconst (v := nI 0) dX3_gainAt_127 rfl (by decide) ?_
      exact g_iret dX3_gainAt_128 rfl (Nat.le_refl _) (Nat.le_refl _) (⟨by rw [← hv]; rfl, _, _, _, _, rfl⟩)
    · exact absurd h15 (by omega)
  | succ m ih =>
    intro t u ht hu hv
    rw [gainT] at hv
    refine g_iload dX3_gainAt_11 rfl rfl ?_
    refine g_iload dX3_gainAt_13 rfl rfl ?_
    refine g_icmp_gtN (t := 127) dX3_gainAt_15 (by decide) rfl (by omega) (by omega) (fun h15 => ?_) (fun h15 => ?_)
    · exact absurd h15 (by omega)
    · skip
      refine g_iconst (v := nI 0) dX3_gainAt_18 rfl (by decide) ?_
      refine g_istore dX3_gainAt_19 rfl (by decide) rfl rfl ?_
      exact lp_X3_gainK sk hB hc htu (by omega) C 0 u (by omega) hu (fun z hz hzs => ih (t + 1) z (by omega) hzs (by rw [hz] at hv; exact hv)) (fun x hx => by rw [hx] at hv; exact hv)
set_option maxRecDepth 20000 in
theorem c_X3_gainAt (sk : Nat → Nat) {rh rt rp rq hp hs pl ps pw pa pr c tu F C N S : Nat} {sd V E ro : Int32} {fo : Bool} {ft : Nat → Int32} {s : PSt} {w a r : Nat → Nat} {g0 o0 d0 : Int32} {f0 : Nat → Int32} (hB : PB F C N S w a r) (hc : c < C) (htu : tu < 6) (hs0 : SB s.1) : Ct sk yX3_gainAt cX3_gainAt 8 (some .int) 4 0 0 [oRests rh rt rp ro fo, cI rt 6 ft, oPole rp rq g0 o0 d0, cI rq 30 f0, oPoleS hp hs s sd, cI hs 30 (fI s.1), oPlan pl ps pw pa pr (nI F) (nI C) V E (nI N) (nI S), cI pw 6 (fI w), cI pa 6 (fI a), cI pr 6 (fI r)] [.ref rh, .ref pl, .ref hp, .int (nI c), .int (nI tu)] (fun q w1 => q = some (.int (gainT F C N S w a r V E ft c tu (tu + 1) 0 s)) ∧ ∃ (g0 o0 d0 : Int32) (f0 : Nat → Int32), w1 = [oRests rh rt rp ro fo, cI rt 6 ft, oPole rp rq g0 o0 d0, cI rq 30 f0, oPoleS hp hs s sd, cI hs 30 (fI s.1), oPlan pl ps pw pa pr (nI F) (nI C) V E (nI N) (nI S), cI pw 6 (fI w), cI pa 6 (fI a), cI pr 6 (fI r)]) := by
  refine Ct.of (own := RX3) (l := [some (.ref rh), some (.ref pl), some (.ref hp), some (.int (nI c)), some (.int (nI tu)), none, none, none]) (by decide) rfl (Nat.le_of_ble_eq_true rfl) rfl ?_
  refine g_aload_n dX3_gainAt_0 rfl rfl ?_
  refine g_get f_X3_18 dX3_gainAt_1 rfl 0 rfl rfl ?_
  refine g_aload_n dX3_gainAt_4 rfl rfl ?_
  refine g_callV (c_X1_become sk) m_X3_54 a_X1_become dX3_gainAt_5 rfl [2, 3, 4, 5] rfl rfl 0 rfl rfl rfl (by decide) (by decide) (by decide) (by decide) (Nat.le_of_ble_eq_true rfl) (fun r w hK => ?_)
  obtain ⟨rfl, rfl⟩ := hK
  refine ⟨rfl, ?_⟩
  dsimp only [puts, List.set, Option.toList, List.cons_append, List.nil_append, List.append_nil]
  refine g_iconst (v := nI 0) dX3_gainAt_8 rfl (by decide) ?_
  refine g_istore dX3_gainAt_9 rfl (by decide) rfl rfl ?_
  exact lp_X3_gainT sk hB hc htu (tu + 1) 0 s (by omega) hs0 rfl
set_option maxRecDepth 20000 in
theorem lp_X3_bestTurn (sk : Nat → Nat) {rh rt rp rq hp hs pl ps pw pa pr c F C N S : Nat} {sd V E ro : Int32} {fo : Bool} {ft : Nat → Int32} {s : PSt} {w a r : Nat → Nat} {v : Int32} (hB : PB F C N S w a r) (hc : c < C) (hs0 : SB s.1) : ∀ (m : Nat) (b g g0 o0 d0 : Int32) (f0 : Nat → Int32), m ≤ 6 → bestR F C N S w a r V E ft c s m b g = v → GG sk RX3 yX3_bestTurn cX3_bestTurn 8 (some .int) 5 0 0 (fun q w1 => q = some (.int v) ∧ ∃ (g0 o0 d0 : Int32) (f0 : Nat → Int32), w1 = [oRests rh rt rp ro fo, cI rt 6 ft, oPole rp rq g0 o0 d0, cI rq 30 f0, oPoleS hp hs s sd, cI hs 30 (fI s.1), oPlan pl ps pw pa pr (nI F) (nI C) V E (nI N) (nI S), cI pw 6 (fI w), cI pa 6 (fI a), cI pr 6 (fI r)]) 0 0 9 [some (.ref rh), some (.ref pl), some (.ref hp), some (.int (nI c)), some (.int b), some (.int g), some (.int (nI m + (-1))), none] [] [oRests rh rt rp ro fo, cI rt 6 ft, oPole rp rq g0 o0 d0, cI rq 30 f0, oPoleS hp hs s sd, cI hs 30 (fI s.1), oPlan pl ps pw pa pr (nI F) (nI C) V E (nI N) (nI S), cI pw 6 (fI w), cI pa 6 (fI a), cI pr 6 (fI r)] := by
  intro m
  induction m with
  | zero =>
    intro b g g0 o0 d0 f0 hm hv
    refine g_iload dX3_bestTurn_9 rfl rfl ?_
    refine g_if_lt (t := 46) dX3_bestTurn_11 (by decide) rfl (fun h11 => ?_) (fun h11 => ?_)
    · skip
      refine g_iload dX3_bestTurn_46 rfl rfl ?_
      exact g_iret dX3_bestTurn_48 rfl (Nat.le_refl _) (Nat.le_refl _) (⟨by rw [← hv]; rfl, _, _, _, _, rfl⟩)
    · exact absurd (show nI 0 + (-1) < 0 by decide) h11
  | succ m ih =>
    intro b g g0 o0 d0 f0 hm hv
    rw [bestR] at hv
    rw [pk_m1]
    refine g_iload dX3_bestTurn_9 rfl rfl ?_
    refine g_if_lt (t := 46) dX3_bestTurn_11 (by decide) rfl (fun h11 => ?_) (fun h11 => ?_)
    · exact absurd h11 (nI_nlt0 (by omega))
    · skip
      refine g_aload_n dX3_bestTurn_14 rfl rfl ?_
      refine g_aload_n dX3_bestTurn_15 rfl rfl ?_
      refine g_aload_n dX3_bestTurn_16 rfl rfl ?_
      refine g_iload_n dX3_bestTurn_17 rfl rfl ?_
      refine g_iload dX3_bestTurn_18 rfl rfl ?_
      refine g_callV (c_X3_gainAt sk (c := c) (tu := m) hB hc (by omega) hs0) m_X3_50 a_X3_gainAt dX3_bestTurn_20 rfl [0, 1, 2, 3, 4, 5, 6, 7, 8, 9] rfl rfl 0 rfl rfl rfl (by decide) (by decide) (by decide) (by decide) (Nat.le_of_ble_eq_true rfl) (fun r w hK => ?_)
      obtain ⟨rfl, g0, o0, d0, f0, rfl⟩ := hK
      refine ⟨rfl, ?_⟩
      dsimp only [puts, List.set, Option.toList, List.cons_append, List.nil_append, List.append_nil]
      refine g_istore dX3_bestTurn_23 rfl (by decide) rfl rfl ?_
      refine g_iload dX3_bestTurn_25 rfl rfl ?_
      refine g_iload dX3_bestTurn_27 rfl rfl ?_
      refine g_icmp_le (t := 40) dX3_bestTurn_29 (by decide) rfl (fun h29 => ?_) (fun h29 => ?_)
      · rw [if_neg (Int32.not_lt.mpr h29)] at hv
        refine g_iinc dX3_bestTurn_40 rfl rfl (rfl) (by decide) rfl rfl ?_
        refine g_goto (q := 9) dX3_bestTurn_43 (by decide) ?_
        refine g_drop 7 rfl ?_
        exact ih _ _ _ _ _ _ (by omega) hv
      · rw [if_pos (Int32.not_le.mp h29)] at hv
        refine g_iload dX3_bestTurn_32 rfl rfl ?_
        refine g_istore dX3_bestTurn_34 rfl (by decide) rfl rfl ?_
        refine g_iload dX3_bestTurn_36 rfl rfl ?_
        refine g_istore dX3_bestTurn_38 rfl (by decide) rfl rfl ?_
        refine g_iinc dX3_bestTurn_40 rfl rfl (rfl) (by decide) rfl rfl ?_
        refine g_goto (q := 9) dX3_bestTurn_43 (by decide) ?_
        refine g_drop 7 rfl ?_
        exact ih _ _ _ _ _ _ (by omega) hv
set_option maxRecDepth 20000 in
theorem c_X3_bestTurn (sk : Nat → Nat) {rh rt rp rq hp hs pl ps pw pa pr c F C N S : Nat} {sd V E ro : Int32} {fo : Bool} {ft : Nat → Int32} {s : PSt} {w a r : Nat → Nat} {g0 o0 d0 : Int32} {f0 : Nat → Int32} (hB : PB F C N S w a r) (hc : c < C) (hs0 : SB s.1) : Ct sk yX3_bestTurn cX3_bestTurn 8 (some .int) 5 0 0 [oRests rh rt rp ro fo, cI rt 6 ft, oPole rp rq g0 o0 d0, cI rq 30 f0, oPoleS hp hs s sd, cI hs 30 (fI s.1), oPlan pl ps pw pa pr (nI F) (nI C) V E (nI N) (nI S), cI pw 6 (fI w), cI pa 6 (fI a), cI pr 6 (fI r)] [.ref rh, .ref pl, .ref hp, .int (nI c)] (fun q w1 => q = some (.int (bestR F C N S w a r V E ft c s 6 (-1) (nI 0))) ∧ ∃ (g0 o0 d0 : Int32) (f0 : Nat → Int32), w1 = [oRests rh rt rp ro fo, cI rt 6 ft, oPole rp rq g0 o0 d0, cI rq 30 f0, oPoleS hp hs s sd, cI hs 30 (fI s.1), oPlan pl ps pw pa pr (nI F) (nI C) V E (nI N) (nI S), cI pw 6 (fI w), cI pa 6 (fI a), cI pr 6 (fI r)]) := by
  refine Ct.of (own := RX3) (l := [some (.ref rh), some (.ref pl), some (.ref hp), some (.int (nI c)), none, none, none, none]) (by decide) rfl (Nat.le_of_ble_eq_true rfl) rfl ?_
  refine g_iconst (v := -1) dX3_bestTurn_0 rfl (by decide) ?_
  refine g_istore dX3_bestTurn_1 rfl (by decide) rfl rfl ?_
  refine g_iconst (v := nI 0) dX3_bestTurn_3 rfl (by decide) ?_
  refine g_istore dX3_bestTurn_4 rfl (by decide) rfl rfl ?_
  refine g_iconst (v := nI 5) dX3_bestTurn_6 rfl (by decide) ?_
  refine g_istore dX3_bestTurn_7 rfl (by decide) rfl rfl ?_
  exact lp_X3_bestTurn sk hB hc hs0 6 (-1) (nI 0) _ _ _ _ (by omega) rfl
set_option maxRecDepth 20000 in
theorem lp_X3_round (sk : Nat → Nat) {rh rt rp rq hp hs pl ps pw pa pr F C N S : Nat} {sd V E : Int32} {fo : Bool} {s : PSt} {w a r : Nat → Nat} {rd q : Nat} {Ψ : PS} (hB : PB F C N S w a r) (hs0 : SB s.1) : ∀ (m c : Nat) (ft : Nat → Int32) (ch : Bool) (g0 o0 d0 : Int32) (f0 : Nat → Int32), c + m = C → (∀ (g0 o0 d0 : Int32) (f0 : Nat → Int32), GG sk RX3 yX3_find cX3_find 7 none 6 0 0 Ψ 0 0 125 [some (.ref rh), some (.ref pl), some (.ref hp), some (.int (zb (roundR F C N S w a r V E s m c ft ch).2)), some (.int (nI rd)), none, none] [] [oRests rh rt rp (nI q) fo, cI rt 6 (roundR F C N S w a r V E s m c ft ch).1, oPole rp rq g0 o0 d0, cI rq 30 f0, oPoleS hp hs s sd, cI hs 30 (fI s.1), oPlan pl ps pw pa pr (nI F) (nI C) V E (nI N) (nI S), cI pw 6 (fI w), cI pa 6 (fI a), cI pr 6 (fI r)]) → GG sk RX3 yX3_find cX3_find 7 none 6 0 0 Ψ 0 0 59 [some (.ref rh), some (.ref pl), some (.ref hp), some (.int (zb ch)), some (.int (nI rd)), some (.int (nI c)), none] [] [oRests rh rt rp (nI q) fo, cI rt 6 ft, oPole rp rq g0 o0 d0, cI rq 30 f0, oPoleS hp hs s sd, cI hs 30 (fI s.1), oPlan pl ps pw pa pr (nI F) (nI C) V E (nI N) (nI S), cI pw 6 (fI w), cI pa 6 (fI a), cI pr 6 (fI r)] := by
  have hC6 := hB.2.1
  intro m
  induction m with
  | zero =>
    intro c ft ch g0 o0 d0 f0 hc hx
    refine g_iload dX3_find_59 rfl rfl ?_
    refine g_aload_n dX3_find_61 rfl rfl ?_
    refine g_get f_X3_41 dX3_find_62 rfl 6 rfl rfl ?_
    refine g_icmp_geN (t := 125) dX3_find_65 (by decide) rfl (by omega) (by omega) (fun h65 => ?_) (fun h65 => ?_)
    · skip
      refine g_drop 5 rfl ?_
      exact hx _ _ _ _
    · exact absurd h65 (by omega)
  | succ m ih =>
    intro c ft ch g0 o0 d0 f0 hc hx
    refine g_iload dX3_find_59 rfl rfl ?_
    refine g_aload_n dX3_find_61 rfl rfl ?_
    refine g_get f_X3_41 dX3_find_62 rfl 6 rfl rfl ?_
    refine g_icmp_geN (t := 125) dX3_find_65 (by decide) rfl (by omega) (by omega) (fun h65 => ?_) (fun h65 => ?_)
    · exact absurd h65 (by omega)
    · skip
      refine g_iload dX3_find_68 rfl rfl ?_
      refine g_aload_n dX3_find_70 rfl rfl ?_
      refine g_get f_X3_9 dX3_find_71 rfl 0 rfl rfl ?_
      refine g_alen dX3_find_74 rfl 1 rfl (Nat.le_of_ble_eq_true rfl) rfl ?_
      refine g_icmp_geN (t := 125) dX3_find_75 (by decide) rfl (by omega) (by omega) (fun h75 => ?_) (fun h75 => ?_)
      · exact absurd h75 (by omega)
      · skip
        refine g_aload_n dX3_find_78 rfl rfl ?_
        refine g_aload_n dX3_find_79 rfl rfl ?_
        refine g_aload_n dX3_find_80 rfl rfl ?_
        refine g_iload dX3_find_81 rfl rfl ?_
        refine g_callV (c_X3_bestTurn sk (c := c) hB (by omega) hs0) m_X3_46 a_X3_bestTurn dX3_find_83 rfl [0, 1, 2, 3, 4, 5, 6, 7, 8, 9] rfl rfl 0 rfl rfl rfl (by decide) (by decide) (by decide) (by decide) (Nat.le_of_ble_eq_true rfl) (fun r w hK => ?_)
        obtain ⟨rfl, g0, o0, d0, f0, rfl⟩ := hK
        refine ⟨rfl, ?_⟩
        dsimp only [puts, List.set, Option.toList, List.cons_append, List.nil_append, List.append_nil]
        refine g_istore dX3_find_86 rfl (by decide) rfl rfl ?_
        refine g_iload_n dX3_find_88 rfl rfl ?_
        refine g_if_neB (t := 104) dX3_find_89 (by decide) rfl (fun h89 => ?_) (fun h89 => ?_)
        · subst h89
          refine g_iconst (v := nI 1) dX3_find_104 rfl (by decide) ?_
          refine g_goto (q := 109) dX3_find_105 (by decide) ?_
          have hb : (true || decide (¬ bestR F C N S w a r V E ft c s 6 (-1) (nI 0) = ft c)) = true := rfl
          rw [roundR, hb] at hx
          refine g_istore_n dX3_find_109 rfl (by decide) rfl rfl ?_
          refine g_aload_n dX3_find_110 rfl rfl ?_
          refine g_get f_X3_9 dX3_find_111 rfl 0 rfl rfl ?_
          refine g_iload dX3_find_114 rfl rfl ?_
          refine g_iload dX3_find_116 rfl rfl ?_
          refine g_iastN dX3_find_118 rfl 1 rfl (by omega) (by decide) (rfl) rfl ?_
          refine g_iinc dX3_find_119 rfl rfl (nI_1 _) (by decide) rfl rfl ?_
          refine g_goto (q := 59) dX3_find_122 (by decide) ?_
          refine g_drop 6 rfl ?_
          exact ih (c + 1) _ true _ _ _ _ (by omega) hx
        · subst h89
          refine g_iload dX3_find_92 rfl rfl ?_
          refine g_aload_n dX3_find_94 rfl rfl ?_
          refine g_get f_X3_9 dX3_find_95 rfl 0 rfl rfl ?_
          refine g_iload dX3_find_98 rfl rfl ?_
          refine g_ialdN dX3_find_100 rfl 1 rfl (by omega) (by decide) (rfl) ?_
          refine g_icmp_eq (t := 108) dX3_find_101 (by decide) rfl (fun h101 => ?_) (fun h101 => ?_)
          · skip
            refine g_iconst (v := nI 0) dX3_find_108 rfl (by decide) ?_
            have hb : (false || decide (¬ bestR F C N S w a r V E ft c s 6 (-1) (nI 0) = ft c)) = false := by rw [decide_eq_false (fun z => z h101)]; rfl
            rw [roundR, hb] at hx
            refine g_istore_n dX3_find_109 rfl (by decide) rfl rfl ?_
            refine g_aload_n dX3_find_110 rfl rfl ?_
            refine g_get f_X3_9 dX3_find_111 rfl 0 rfl rfl ?_
            refine g_iload dX3_find_114 rfl rfl ?_
            refine g_iload dX3_find_116 rfl rfl ?_
            refine g_iastN dX3_find_118 rfl 1 rfl (by omega) (by decide) (rfl) rfl ?_
            refine g_iinc dX3_find_119 rfl rfl (nI_1 _) (by decide) rfl rfl ?_
            refine g_goto (q := 59) dX3_find_122 (by decide) ?_
            refine g_drop 6 rfl ?_
            exact ih (c + 1) _ false _ _ _ _ (by omega) hx
          · skip
            refine g_iconst (v := nI 1) dX3_find_104 rfl (by decide) ?_
            refine g_goto (q := 109) dX3_find_105 (by decide) ?_
            have hb : (false || decide (¬ bestR F C N S w a r V E ft c s 6 (-1) (nI 0) = ft c)) = true := by rw [decide_eq_true h101]; rfl
            rw [roundR, hb] at hx
            refine g_istore_n dX3_find_109 rfl (by decide) rfl rfl ?_
            refine g_aload_n dX3_find_110 rfl rfl ?_
            refine g_get f_X3_9 dX3_find_111 rfl 0 rfl rfl ?_
            refine g_iload dX3_find_114 rfl rfl ?_
            refine g_iload dX3_find_116 rfl rfl ?_
            refine g_iastN dX3_find_118 rfl 1 rfl (by omega) (by decide) (rfl) rfl ?_
            refine g_iinc dX3_find_119 rfl rfl (nI_1 _) (by decide) rfl rfl ?_
            refine g_goto (q := 59) dX3_find_122 (by decide) ?_
            refine g_drop 6 rfl ?_
            exact ih (c + 1) _ true _ _ _ _ (by omega) hx
set_option maxRecDepth 20000 in
theorem lp_X3_end (sk : Nat → Nat) {rh rt rp rq hp hs pl ps pw pa pr F C N S : Nat} {sd V E : Int32} {fo : Bool} {s : PSt} {w a r : Nat → Nat} {q : Nat} {ft : Nat → Int32} {x3 x4 g0 o0 d0 : Int32} {f0 : Nat → Int32} {Ψ : PS} (hq : q ≤ 20) (hΨ : Ψ none [oRests rh rt rp (if q = 20 then -1 else nI q) fo, cI rt 6 ft, oPole rp rq g0 o0 d0, cI rq 30 f0, oPoleS hp hs s sd, cI hs 30 (fI s.1), oPlan pl ps pw pa pr (nI F) (nI C) V E (nI N) (nI S), cI pw 6 (fI w), cI pa 6 (fI a), cI pr 6 (fI r)]) : GG sk RX3 yX3_find cX3_find 7 none 6 0 0 Ψ 0 0 149 [some (.ref rh), some (.ref pl), some (.ref hp), some (.int x3), some (.int x4), none, none] [] [oRests rh rt rp (nI q) fo, cI rt 6 ft, oPole rp rq g0 o0 d0, cI rq 30 f0, oPoleS hp hs s sd, cI hs 30 (fI s.1), oPlan pl ps pw pa pr (nI F) (nI C) V E (nI N) (nI S), cI pw 6 (fI w), cI pa 6 (fI a), cI pr 6 (fI r)] := by
  refine g_aload_n dX3_find_149 rfl rfl ?_
  refine g_get f_X3_30 dX3_find_150 rfl 0 rfl rfl ?_
  refine g_bipush (v := nI 20) dX3_find_153 rfl (by decide) ?_
  refine g_icmp_neN (t := 163) dX3_find_155 (by decide) rfl (by omega) (by omega) (fun h155 => ?_) (fun h155 => ?_)
  · skip
    exact g_vret dX3_find_163 rfl (Nat.le_refl _) (Nat.le_refl _) (by rw [if_neg h155] at hΨ; exact hΨ)
  · skip
    refine g_aload_n dX3_find_158 rfl rfl ?_
    refine g_iconst (v := -1) dX3_find_159 rfl (by decide) ?_
    refine g_putI f_X3_30 dX3_find_160 rfl 0 rfl (Nat.le_of_ble_eq_true rfl) rfl ?_
    dsimp only [List.set]
    exact g_vret dX3_find_163 rfl (Nat.le_refl _) (Nat.le_refl _) (by rw [if_pos h155] at hΨ; exact hΨ)
set_option maxRecDepth 20000 in
theorem lp_X3_rounds (sk : Nat → Nat) {rh rt rp rq hp hs pl ps pw pa pr F C N S : Nat} {sd V E : Int32} {fo : Bool} {s : PSt} {w a r : Nat → Nat} {Ψ : PS} (hB : PB F C N S w a r) (hs0 : SB s.1) : ∀ (m rd q : Nat) (ft : Nat → Int32) (g0 o0 d0 : Int32) (f0 : Nat → Int32), rd + m = 21 → q + m = 20 → (∀ (g0 o0 d0 : Int32) (f0 : Nat → Int32), Ψ none [oRests rh rt rp (if (findR F C N S w a r V E s m ft q).2 = 20 then -1 else nI (findR F C N S w a r V E s m ft q).2) fo, cI rt 6 (findR F C N S w a r V E s m ft q).1, oPole rp rq g0 o0 d0, cI rq 30 f0, oPoleS hp hs s sd, cI hs 30 (fI s.1), oPlan pl ps pw pa pr (nI F) (nI C) V E (nI N) (nI S), cI pw 6 (fI w), cI pa 6 (fI a), cI pr 6 (fI r)]) → GG sk RX3 yX3_find cX3_find 7 none 6 0 0 Ψ 0 0 43 [some (.ref rh), some (.ref pl), some (.ref hp), some (.int (zb true)), some (.int (nI rd)), none, none] [] [oRests rh rt rp (nI q) fo, cI rt 6 ft, oPole rp rq g0 o0 d0, cI rq 30 f0, oPoleS hp hs s sd, cI hs 30 (fI s.1), oPlan pl ps pw pa pr (nI F) (nI C) V E (nI N) (nI S), cI pw 6 (fI w), cI pa 6 (fI a), cI pr 6 (fI r)] := by
  intro m
  induction m with
  | zero =>
    intro rd q ft g0 o0 d0 f0 hrd hq hΨ
    refine g_iload dX3_find_43 rfl rfl ?_
    refine g_bipush (v := nI 20) dX3_find_45 rfl (by decide) ?_
    refine g_icmp_gtN (t := 149) dX3_find_47 (by decide) rfl (by omega) (by omega) (fun h47 => ?_) (fun h47 => ?_)
    · skip
      exact lp_X3_end sk (by omega) (hΨ _ _ _ _)
    · exact absurd h47 (by omega)
  | succ m ih =>
    intro rd q ft g0 o0 d0 f0 hrd hq hΨ
    rw [findR] at hΨ
    refine g_iload dX3_find_43 rfl rfl ?_
    refine g_bipush (v := nI 20) dX3_find_45 rfl (by decide) ?_
    refine g_icmp_gtN (t := 149) dX3_find_47 (by decide) rfl (by omega) (by omega) (fun h47 => ?_) (fun h47 => ?_)
    · exact absurd h47 (by omega)
    · skip
      refine g_iload_n dX3_find_50 rfl rfl ?_
      refine g_if_eqB (t := 149) dX3_find_51 (by decide) rfl (fun h51 => ?_) (fun h51 => ?_)
      · exact absurd h51 (by decide)
      · skip
        refine g_iconst (v := nI 0) dX3_find_54 rfl (by decide) ?_
        refine g_istore_n dX3_find_55 rfl (by decide) rfl rfl ?_
        refine g_iconst (v := nI 0) dX3_find_56 rfl (by decide) ?_
        refine g_istore dX3_find_57 rfl (by decide) rfl rfl ?_
        refine lp_X3_round sk (rd := rd) (q := q) hB hs0 C 0 ft false _ _ _ _ (by omega) (fun g0 o0 d0 f0 => ?_)
        generalize hch : (roundR F C N S w a r V E s C 0 ft false).2 = ch at hΨ ⊢
        cases ch with
        | true =>
          dsimp only at hΨ
          refine g_aload_n dX3_find_125 rfl rfl ?_
          refine g_dup dX3_find_126 rfl rfl ?_
          refine g_get f_X3_30 dX3_find_127 rfl 0 rfl rfl ?_
          refine g_iload_n dX3_find_130 rfl rfl ?_
          refine g_if_eqB (t := 138) dX3_find_131 (by decide) rfl (fun h131 => ?_) (fun h131 => ?_)
          · exact absurd h131 (by decide)
          · skip
            refine g_iconst (v := nI 1) dX3_find_134 rfl (by decide) ?_
            refine g_goto (q := 139) dX3_find_135 (by decide) ?_
            refine g_iadd (v := nI (q + 1)) dX3_find_139 rfl (nI_add _ _) ?_
            refine g_putI f_X3_30 dX3_find_140 rfl 0 rfl (Nat.le_of_ble_eq_true rfl) rfl ?_
            dsimp only [List.set]
            refine g_iinc dX3_find_143 rfl rfl (nI_1 _) (by decide) rfl rfl ?_
            refine g_goto (q := 43) dX3_find_146 (by decide) ?_
            exact ih (rd + 1) (q + 1) _ _ _ _ _ (by omega) (by omega) hΨ
        | false =>
          dsimp only at hΨ
          refine g_aload_n dX3_find_125 rfl rfl ?_
          refine g_dup dX3_find_126 rfl rfl ?_
          refine g_get f_X3_30 dX3_find_127 rfl 0 rfl rfl ?_
          refine g_iload_n dX3_find_130 rfl rfl ?_
          refine g_if_eqB (t := 138) dX3_find_131 (by decide) rfl (fun h131 => ?_) (fun h131 => ?_)
          · skip
            refine g_iconst (v := nI 0) dX3_find_138 rfl (by decide) ?_
            refine g_iadd (v := nI (q + 0)) dX3_find_139 rfl (nI_add _ _) ?_
            refine g_putI f_X3_30 dX3_find_140 rfl 0 rfl (Nat.le_of_ble_eq_true rfl) rfl ?_
            dsimp only [List.set]
            refine g_iinc dX3_find_143 rfl rfl (nI_1 _) (by decide) rfl rfl ?_
            refine g_goto (q := 43) dX3_find_146 (by decide) ?_
            refine g_iload dX3_find_43 rfl rfl ?_
            refine g_bipush (v := nI 20) dX3_find_45 rfl (by decide) ?_
            refine g_icmp_gtN (t := 149) dX3_find_47 (by decide) rfl (by omega) (by omega) (fun h47 => ?_) (fun h47 => ?_)
            · exact lp_X3_end sk (by omega) (hΨ _ _ _ _)
            · skip
              refine g_iload_n dX3_find_50 rfl rfl ?_
              refine g_if_eqB (t := 149) dX3_find_51 (by decide) rfl (fun h51 => ?_) (fun h51 => ?_)
              · exact lp_X3_end sk (by omega) (hΨ _ _ _ _)
              · exact absurd h51 (by decide)
          · exact absurd h131 (by decide)
set_option maxRecDepth 20000 in
theorem lp_X3_find0 (sk : Nat → Nat) {rh rt rp rq hp hs pl ps pw pa pr F C N S : Nat} {sd V E : Int32} {fo : Bool} {s : PSt} {w a r : Nat → Nat} {ft : Nat → Int32} {ro g0 o0 d0 : Int32} {f0 : Nat → Int32} {Ψ : PS} (hx : GG sk RX3 yX3_find cX3_find 7 none 6 0 0 Ψ 0 0 24 [some (.ref rh), some (.ref pl), some (.ref hp), none, none, none, none] [] [oRests rh rt rp ro fo, cI rt 6 (fun _ => -1), oPole rp rq g0 o0 d0, cI rq 30 f0, oPoleS hp hs s sd, cI hs 30 (fI s.1), oPlan pl ps pw pa pr (nI F) (nI C) V E (nI N) (nI S), cI pw 6 (fI w), cI pa 6 (fI a), cI pr 6 (fI r)]) : ∀ (m i : Nat), i + m = 6 → GG sk RX3 yX3_find cX3_find 7 none 6 0 0 Ψ 0 0 2 [some (.ref rh), some (.ref pl), some (.ref hp), some (.int (nI i)), none, none, none] [] [oRests rh rt rp ro fo, cI rt 6 (fun j => if j < i then -1 else ft j), oPole rp rq g0 o0 d0, cI rq 30 f0, oPoleS hp hs s sd, cI hs 30 (fI s.1), oPlan pl ps pw pa pr (nI F) (nI C) V E (nI N) (nI S), cI pw 6 (fI w), cI pa 6 (fI a), cI pr 6 (fI r)] := by
  intro m
  induction m with
  | zero =>
    intro i hi
    refine g_iload_n dX3_find_2 rfl rfl ?_
    refine g_aload_n dX3_find_3 rfl rfl ?_
    refine g_get f_X3_9 dX3_find_4 rfl 0 rfl rfl ?_
    refine g_alen dX3_find_7 rfl 1 rfl (Nat.le_of_ble_eq_true rfl) rfl ?_
    refine g_icmp_geN (t := 24) dX3_find_8 (by decide) rfl (by omega) (by omega) (fun h8 => ?_) (fun h8 => ?_)
    · skip
      refine g_cong (g := fun _ => -1) 1 rfl (fun j hj => if_pos (by omega)) rfl ?_
      refine g_drop 3 rfl ?_
      exact hx
    · exact absurd h8 (by omega)
  | succ m ih =>
    intro i hi
    refine g_iload_n dX3_find_2 rfl rfl ?_
    refine g_aload_n dX3_find_3 rfl rfl ?_
    refine g_get f_X3_9 dX3_find_4 rfl 0 rfl rfl ?_
    refine g_alen dX3_find_7 rfl 1 rfl (Nat.le_of_ble_eq_true rfl) rfl ?_
    refine g_icmp_geN (t := 24) dX3_find_8 (by decide) rfl (by omega) (by omega) (fun h8 => ?_) (fun h8 => ?_)
    · exact absurd h8 (by omega)
    · skip
      refine g_aload_n dX3_find_11 rfl rfl ?_
      refine g_get f_X3_9 dX3_find_12 rfl 0 rfl rfl ?_
      refine g_iload_n dX3_find_15 rfl rfl ?_
      refine g_iconst (v := -1) dX3_find_16 rfl (by decide) ?_
      refine g_iastN dX3_find_17 rfl 1 rfl (by omega) (by decide) (m1_up i ft) rfl ?_
      refine g_iinc dX3_find_18 rfl rfl (nI_1 _) (by decide) rfl rfl ?_
      refine g_goto (q := 2) dX3_find_21 (by decide) ?_
      exact ih (i + 1) (by omega)

set_option maxRecDepth 20000 in
theorem c_X3_find (sk : Nat → Nat) {rh rt rp rq hp hs pl ps pw pa pr F C N S : Nat} {sd V E : Int32} {fo : Bool} {s : PSt} {w a r : Nat → Nat} {ft : Nat → Int32} {ro g0 o0 d0 : Int32} {f0 : Nat → Int32} (hB : PB F C N S w a r) (hs0 : SB s.1) : Ct sk yX3_find cX3_find 7 none 6 0 0 [oRests rh rt rp ro fo, cI rt 6 ft, oPole rp rq g0 o0 d0, cI rq 30 f0, oPoleS hp hs s sd, cI hs 30 (fI s.1), oPlan pl ps pw pa pr (nI F) (nI C) V E (nI N) (nI S), cI pw 6 (fI w), cI pa 6 (fI a), cI pr 6 (fI r)] [.ref rh, .ref pl, .ref hp] (fun q w1 => q = none ∧ ∃ (g0 o0 d0 : Int32) (f0 : Nat → Int32), w1 = [oRests rh rt rp (restsR F C N S w a r V E s).2 fo, cI rt 6 (restsR F C N S w a r V E s).1, oPole rp rq g0 o0 d0, cI rq 30 f0, oPoleS hp hs s sd, cI hs 30 (fI s.1), oPlan pl ps pw pa pr (nI F) (nI C) V E (nI N) (nI S), cI pw 6 (fI w), cI pa 6 (fI a), cI pr 6 (fI r)]) := by
  refine Ct.of (own := RX3) (l := [some (.ref rh), some (.ref pl), some (.ref hp), none, none, none, none]) (by decide) rfl (Nat.le_of_ble_eq_true rfl) rfl ?_
  refine g_iconst (v := nI 0) dX3_find_0 rfl (by decide) ?_
  refine g_istore_n dX3_find_1 rfl (by decide) rfl rfl ?_
  have h0 := lp_X3_find0 sk (rh := rh) (rt := rt) (rp := rp) (rq := rq) (hp := hp) (hs := hs) (pl := pl) (ps := ps) (pw := pw) (pa := pa) (pr := pr) (F := F) (C := C) (N := N) (S := S) (sd := sd) (V := V) (E := E) (fo := fo) (s := s) (w := w) (a := a) (r := r) (ft := ft) (ro := ro) (g0 := g0) (o0 := o0) (d0 := d0) (f0 := f0) (Ψ := (fun q w1 => q = none ∧ ∃ (g0 o0 d0 : Int32) (f0 : Nat → Int32), w1 = [oRests rh rt rp (restsR F C N S w a r V E s).2 fo, cI rt 6 (restsR F C N S w a r V E s).1, oPole rp rq g0 o0 d0, cI rq 30 f0, oPoleS hp hs s sd, cI hs 30 (fI s.1), oPlan pl ps pw pa pr (nI F) (nI C) V E (nI N) (nI S), cI pw 6 (fI w), cI pa 6 (fI a), cI pr 6 (fI r)])) ?_ 6 0 (by omega)
  · rw [show (fun j => if j < 0 then -1 else ft j) = ft from funext (fun j => if_neg (Nat.not_lt_zero j))] at h0
    exact h0
  refine g_aload_n dX3_find_24 rfl rfl ?_
  refine g_iconst (v := nI 0) dX3_find_25 rfl (by decide) ?_
  refine g_putI f_X3_30 dX3_find_26 rfl 0 rfl (Nat.le_of_ble_eq_true rfl) rfl ?_
  dsimp only [List.set]
  refine g_aload_n dX3_find_29 rfl rfl ?_
  refine g_get f_X3_38 dX3_find_30 rfl 4 rfl rfl ?_
  refine g_iconst (v := -1) dX3_find_33 rfl (by decide) ?_
  refine g_icmp_eq (t := 38) dX3_find_34 (by decide) rfl (fun h34 => ?_) (fun h34 => ?_)
  · skip
    refine g_iconst (v := nI 1) dX3_find_38 rfl (by decide) ?_
    refine g_istore_n dX3_find_39 rfl (by decide) rfl rfl ?_
    refine g_iconst (v := nI 1) dX3_find_40 rfl (by decide) ?_
    refine g_istore dX3_find_41 rfl (by decide) rfl rfl ?_
    exact lp_X3_rounds sk hB hs0 20 1 0 (fun _ => -1) _ _ _ _ (by omega) (by omega) (fun g0 o0 d0 f0 => by unfold restsR; rw [if_pos h34]; exact ⟨rfl, _, _, _, _, rfl⟩)
  · skip
    exact g_vret dX3_find_37 rfl (Nat.le_refl _) (Nat.le_refl _) (by unfold restsR; rw [if_neg h34]; exact ⟨rfl, _, _, _, _, rfl⟩)
set_option maxRecDepth 20000 in
theorem lp_X3_answer (sk : Nat → Nat) {rh rt rp rq hp hs pl ps pw pa pr F C N S : Nat} {sd V E ro x g0 o0 d0 : Int32} {fo : Bool} {s : PSt} {w a r : Nat → Nat} {ft f0 : Nat → Int32} (hx : x = -1 ∨ ∃ j, j < 6 ∧ x = nI j) : GG sk RX3 yX3_answer cX3_answer 4 (some .int) 7 0 0 (fun q w1 => q = some (.int (if x = -1 ∨ (restsR F C N S w a r V E s).2 = -1 then (restsR F C N S w a r V E s).2 else (restsR F C N S w a r V E s).1 x.toNatClampNeg)) ∧ ∃ (g0 o0 d0 : Int32) (f0 : Nat → Int32), w1 = [oRests rh rt rp (restsR F C N S w a r V E s).2 true, cI rt 6 (restsR F C N S w a r V E s).1, oPole rp rq g0 o0 d0, cI rq 30 f0, oPoleS hp hs s sd, cI hs 30 (fI s.1), oPlan pl ps pw pa pr (nI F) (nI C) V E (nI N) (nI S), cI pw 6 (fI w), cI pa 6 (fI a), cI pr 6 (fI r)]) 0 0 18 [some (.ref rh), some (.ref pl), some (.ref hp), some (.int x)] [] [oRests rh rt rp (restsR F C N S w a r V E s).2 true, cI rt 6 (restsR F C N S w a r V E s).1, oPole rp rq g0 o0 d0, cI rq 30 f0, oPoleS hp hs s sd, cI hs 30 (fI s.1), oPlan pl ps pw pa pr (nI F) (nI C) V E (nI N) (nI S), cI pw 6 (fI w), cI pa 6 (fI a), cI pr 6 (fI r)] := by
  refine g_iload_n dX3_answer_18 rfl rfl ?_
  refine g_iconst (v := -1) dX3_answer_19 rfl (by decide) ?_
  refine g_icmp_eq (t := 31) dX3_answer_20 (by decide) rfl (fun h20 => ?_) (fun h20 => ?_)
  · skip
    refine g_aload_n dX3_answer_31 rfl rfl ?_
    refine g_get f_X3_30 dX3_answer_32 rfl 0 rfl rfl ?_
    exact g_iret dX3_answer_35 rfl (Nat.le_refl _) (Nat.le_refl _) (⟨by rw [if_pos (Or.inl h20)], _, _, _, _, rfl⟩)
  · skip
    refine g_aload_n dX3_answer_23 rfl rfl ?_
    refine g_get f_X3_30 dX3_answer_24 rfl 0 rfl rfl ?_
    refine g_iconst (v := -1) dX3_answer_27 rfl (by decide) ?_
    refine g_icmp_ne (t := 36) dX3_answer_28 (by decide) rfl (fun h28 => ?_) (fun h28 => ?_)
    · obtain ⟨j, hj, rfl⟩ := hx.resolve_left h20
      refine g_aload_n dX3_answer_36 rfl rfl ?_
      refine g_iload_n dX3_answer_37 rfl rfl ?_
      refine g_callV (c_X3_turnOf sk hj) m_X3_34 a_X3_turnOf dX3_answer_38 rfl [0, 1] rfl rfl 0 rfl rfl rfl (by decide) (by decide) (by decide) (by decide) (Nat.le_of_ble_eq_true rfl) (fun r w hK => ?_)
      obtain ⟨rfl, rfl⟩ := hK
      refine ⟨rfl, ?_⟩
      dsimp only [puts, List.set, Option.toList, List.cons_append, List.nil_append, List.append_nil]
      exact g_iret dX3_answer_41 rfl (Nat.le_refl _) (Nat.le_refl _) (⟨by rw [if_neg (fun z => z.elim h20 h28), nI_clamp (by omega)], _, _, _, _, rfl⟩)
    · skip
      refine g_aload_n dX3_answer_31 rfl rfl ?_
      refine g_get f_X3_30 dX3_answer_32 rfl 0 rfl rfl ?_
      exact g_iret dX3_answer_35 rfl (Nat.le_refl _) (Nat.le_refl _) (⟨by rw [if_pos (Or.inr h28)], _, _, _, _, rfl⟩)
set_option maxRecDepth 20000 in
theorem c_X3_answer (sk : Nat → Nat) {rh rt rp rq hp hs pl ps pw pa pr F C N S : Nat} {sd V E ro x g0 o0 d0 : Int32} {fo : Bool} {s : PSt} {w a r : Nat → Nat} {ft f0 : Nat → Int32} (hB : PB F C N S w a r) (hs0 : SB s.1) (hx : x = -1 ∨ ∃ j, j < 6 ∧ x = nI j) (hfo : fo = true → ft = (restsR F C N S w a r V E s).1 ∧ ro = (restsR F C N S w a r V E s).2) : Ct sk yX3_answer cX3_answer 4 (some .int) 7 0 0 [oRests rh rt rp ro fo, cI rt 6 ft, oPole rp rq g0 o0 d0, cI rq 30 f0, oPoleS hp hs s sd, cI hs 30 (fI s.1), oPlan pl ps pw pa pr (nI F) (nI C) V E (nI N) (nI S), cI pw 6 (fI w), cI pa 6 (fI a), cI pr 6 (fI r)] [.ref rh, .ref pl, .ref hp, .int x] (fun q w1 => q = some (.int (if x = -1 ∨ (restsR F C N S w a r V E s).2 = -1 then (restsR F C N S w a r V E s).2 else (restsR F C N S w a r V E s).1 x.toNatClampNeg)) ∧ ∃ (g0 o0 d0 : Int32) (f0 : Nat → Int32), w1 = [oRests rh rt rp (restsR F C N S w a r V E s).2 true, cI rt 6 (restsR F C N S w a r V E s).1, oPole rp rq g0 o0 d0, cI rq 30 f0, oPoleS hp hs s sd, cI hs 30 (fI s.1), oPlan pl ps pw pa pr (nI F) (nI C) V E (nI N) (nI S), cI pw 6 (fI w), cI pa 6 (fI a), cI pr 6 (fI r)]) := by
  refine Ct.of (own := RX3) (l := [some (.ref rh), some (.ref pl), some (.ref hp), some (.int x)]) (by decide) rfl (Nat.le_of_ble_eq_true rfl) rfl ?_
  refine g_aload_n dX3_answer_0 rfl rfl ?_
  refine g_get f_X3_22 dX3_answer_1 rfl 0 rfl rfl ?_
  refine g_if_neB (t := 18) dX3_answer_4 (by decide) rfl (fun h4 => ?_) (fun h4 => ?_)
  · subst h4
    obtain ⟨rfl, rfl⟩ := hfo rfl
    exact lp_X3_answer sk (ft := fun _ => 0) (fo := true) (ro := 0) hx
  · subst h4
    refine g_aload_n dX3_answer_7 rfl rfl ?_
    refine g_aload_n dX3_answer_8 rfl rfl ?_
    refine g_aload_n dX3_answer_9 rfl rfl ?_
    refine g_callV (c_X3_find sk hB hs0) m_X3_26 a_X3_find dX3_answer_10 rfl [0, 1, 2, 3, 4, 5, 6, 7, 8, 9] rfl rfl 0 rfl rfl rfl (by decide) (by decide) (by decide) (by decide) (Nat.le_of_ble_eq_true rfl) (fun r w hK => ?_)
    obtain ⟨rfl, g0, o0, d0, f0, rfl⟩ := hK
    refine ⟨rfl, ?_⟩
    dsimp only [puts, List.set, Option.toList, List.cons_append, List.nil_append, List.append_nil]
    refine g_aload_n dX3_answer_13 rfl rfl ?_
    refine g_iconst (v := nI 1) dX3_answer_14 rfl (by decide) ?_
    refine g_putZ (b := true) f_X3_22 dX3_answer_15 rfl 0 rfl (Nat.le_of_ble_eq_true rfl) rfl ?_
    dsimp only [List.set]
    exact lp_X3_answer sk (ft := fun _ => 0) (fo := true) (ro := 0) hx
