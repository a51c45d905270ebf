/-! the reference: rests -/
/-- what c has of it, go by go: n steps from step k on -/
def woR (F C N S : Nat) (w a r : Nat → Nat) (V E : Int32) (tu : Nat → Int32) (c : Nat) : Nat → Nat → PSt → Int32 → Int32
  | 0, _, _, x => x
  | n + 1, k, t, x => if k % 6 < C ∧ tu (k % 6) = nI (k / 6) ∧ t.2.2 = -1 then woR F C N S w a r V E tu c n (k + 1) (go1 F N S w a r false t (k % 6)) (x - (if k % 6 = c then E else nI 0) + (if k % 6 = c ∧ (go1 F N S w a r false t (k % 6)).2.2 = nI c then V else nI 0)) else woR F C N S w a r V E tu c n (k + 1) t x
/-- his best turn: n turns left, from n - 1 down -/
def btR (F C N S : Nat) (w a r : Nat → Nat) (V E : Int32) (tu : Nat → Int32) (c : Nat) (s : PSt) : Nat → Int32 → Int32 → Int32
  | 0, b, _ => b
  | n + 1, b, g => if n = 6 ∨ ¬ woR F C N S w a r V E (upd tu c (nI n)) c 36 0 s (nI 0) ≤ g then btR F C N S w a r V E tu c s n (nI n) (woR F C N S w a r V E (upd tu c (nI n)) c 36 0 s (nI 0)) else btR F C N S w a r V E tu c s n b g
def btA (F C N S : Nat) (w a r : Nat → Nat) (V E : Int32) (tu : Nat → Int32) (c : Nat) (s : PSt) : Int32 := btR F C N S w a r V E tu c s 7 (nI 6) (nI 0)
def mrdR (F C N S : Nat) (w a r : Nat → Nat) (V E : Int32) (s : PSt) : Nat → Nat → (Nat → Int32) → Bool → (Nat → Int32) × Bool
  | 0, _, tu, on => (tu, on)
  | n + 1, k, tu, on => mrdR F C N S w a r V E s n (k + 1) (upd tu k (btA F C N S w a r V E tu k s)) (on || decide (¬ btA F C N S w a r V E tu k s = tu k))
def mfiR (F C N S : Nat) (w a r : Nat → Nat) (V E : Int32) (s : PSt) : Nat → (Nat → Int32) → Nat → (Nat → Int32) × Nat × Bool
  | 0, tu, q => (tu, q, true)
  | m + 1, tu, q => match (mrdR F C N S w a r V E s C 0 tu false).2 with
    | true => mfiR F C N S w a r V E s m (mrdR F C N S w a r V E s C 0 tu false).1 (q + 1)
    | false => ((mrdR F C N S w a r V E s C 0 tu false).1, q, false)
def mrsA (R : (Nat → Int32) × Nat × Bool) (x : Int32) : Int32 := if R.2.2 = true then -1 else if x = -1 then nI R.2.1 else if R.1 x.toNatClampNeg = nI 6 then -1 else R.1 x.toNatClampNeg
def mrests (F C N S : Nat) (w a r : Nat → Nat) (V E : Int32) (s : PSt) : (Nat → Int32) × Nat × Bool := if s.2.2 = -1 then mfiR F C N S w a r V E s 20 (fun _ => nI 6) 0 else (fun _ => nI 6, 0, false)
theorem upd_upd (f : Nat → Int32) (k : Nat) (x y : Int32) : upd (upd f k x) k y = upd f k y := by
  funext j
  unfold upd
  by_cases h : j = k
  · rw [if_pos h, if_pos h]
  · rw [if_neg h, if_neg h, if_neg h]
theorem upd_self (f : Nat → Int32) (k : Nat) : upd f k (f k) = f := by
  funext j
  unfold upd
  by_cases h : j = k
  · rw [if_pos h, h]
  · rw [if_neg h]
theorem in_m1 {x : Int32} {C : Nat} (hC : C ≤ 6) : inI x (-1) (nI C - nI 1) = (decide (x = -1) || inR x C) := by
  unfold inI inR
  have h1 : (nI C - nI 1 < x) ↔ ¬ x < nI C := by
    rw [Int32.lt_iff_toInt_lt, Int32.lt_iff_toInt_lt, pk_sub_toInt (by omega) (by omega), nI_toInt (by omega)]
    omega
  have h2 : x < -1 ↔ x < 0 ∧ ¬ x = -1 := by
    rw [← Int32.toInt_inj, Int32.lt_iff_toInt_lt, Int32.lt_iff_toInt_lt, show (-1 : Int32).toInt = -1 from rfl, show (0 : Int32).toInt = 0 from rfl]
    omega
  have h3 : x = -1 → x < nI C := fun e => by
    subst e
    rw [Int32.lt_iff_toInt_lt, nI_toInt (by omega), show (-1 : Int32).toInt = -1 from rfl]
    omega
  by_cases e : x = -1
  · have h4 := h3 e
    subst e
    rw [decide_eq_true (show ¬ ((-1 : Int32) < -1) by decide), decide_eq_true (show ¬ (nI C - nI 1 < -1) by rw [h1]; exact not_not_intro h4), decide_eq_true (rfl : (-1 : Int32) = -1)]
    rfl
  · have a1 : (¬ x < -1) ↔ ¬ x < 0 := by rw [h2]; exact ⟨fun q z => q ⟨z, e⟩, fun q z => q z.1⟩
    have a2 : (¬ nI C - nI 1 < x) ↔ x < nI C := by rw [h1]; exact Decidable.not_not
    have b1 : decide (¬ x < -1) = decide (¬ x < 0) := decide_eq_decide.mpr a1
    have b2 : decide (¬ nI C - nI 1 < x) = decide (x < nI C) := decide_eq_decide.mpr a2
    rw [b1, b2, decide_eq_false e, Bool.false_or]
set_option maxRecDepth 20000 in
theorem lp_worthOf (sk : Nat → Nat) {h mt mo md ms mn mi mz mk mw mf mr mb mu : Nat} {ty li se fAt at_ so sta sz fl : Int32} {iha isn : Bool} {T : Nat → Nat} {w a r : Nat → Nat} {c : Nat} {tu : Nat → Int32} {s : PSt} {Z : Int32} (hB : PB (T 0) (T 1) (T 4) (T 5) w a r) (hW : TWR T w a r) (hc : c < 6) : ∀ (n k : Nat) (t : PSt) (x ru : Int32) (l4 l5 : Option Value), k + n = 36 → SB t.1 → woR (T 0) (T 1) (T 4) (T 5) w a r (nI (T 2)) (nI (T 3)) tu c n k t x = Z → GG sk RX7 yX7_worthOf cX7_worthOf 6 (some .int) 2 0 0 (fun q w1 => q = some (.int (Z)) ∧ ∃ (ru2 : Int32) (fn2 : Nat → Int32), w1 = [oMod h mt ty mo md ms mn mi mz mk mw mf li se fAt at_ so sta sz fl iha isn ru2 mr mb mu, cI mo 56 (fI T), cI ms 32 (fS s), cI mn 32 fn2, cI mu 6 tu]) 0 0 8 [some (.ref h), some (.int (nI c)), some (.int x), some (.int (nI k)), l4, l5] [] [oMod h mt ty mo md ms mn mi mz mk mw mf li se fAt at_ so sta sz fl iha isn ru mr mb mu, cI mo 56 (fI T), cI ms 32 (fS s), cI mn 32 (fS t), cI mu 6 tu] := by
  have hT1 := hB.2.1
  intro n
  induction n with
  | zero =>
    intro k t x ru l4 l5 hk ht hZ
    rw [woR] at hZ
    subst hZ
    refine g_iload_n dX7_worthOf_8 rfl rfl ?_
    refine g_bipush (v := nI 36) dX7_worthOf_9 rfl (by decide) ?_
    refine g_icmp_geN (t := 120) dX7_worthOf_11 (by decide) rfl (by omega) (by omega) (fun h11 => ?_) (fun h11 => ?_)
    · skip
      refine g_iload_n dX7_worthOf_120 rfl rfl ?_
      exact g_iret dX7_worthOf_121 rfl (Nat.le_refl _) (Nat.le_refl _) (⟨rfl, _, _, rfl⟩)
    · exact absurd h11 (by omega)
  | succ n ih =>
    intro k t x ru l4 l5 hk ht hZ
    rw [woR] at hZ
    refine g_iload_n dX7_worthOf_8 rfl rfl ?_
    refine g_bipush (v := nI 36) dX7_worthOf_9 rfl (by decide) ?_
    refine g_icmp_geN (t := 120) dX7_worthOf_11 (by decide) rfl (by omega) (by omega) (fun h11 => ?_) (fun h11 => ?_)
    · exact absurd h11 (by omega)
    · skip
      refine g_iload_n dX7_worthOf_14 rfl rfl ?_
      refine g_bipush (v := nI 6) dX7_worthOf_15 rfl (by decide) ?_
      refine g_irem dX7_worthOf_17 rfl (by decide) (pk_rem (by omega) (by omega) (by omega)) ?_
      refine g_istore dX7_worthOf_18 rfl (by decide) rfl rfl ?_
      refine g_iload dX7_worthOf_20 rfl rfl ?_
      refine g_aload_n dX7_worthOf_22 rfl rfl ?_
      refine g_get f_X7_13 dX7_worthOf_23 rfl 0 rfl rfl ?_
      refine g_iconst (v := nI 1) dX7_worthOf_26 rfl (by decide) ?_
      refine g_ialdN (v := nI _) dX7_worthOf_27 rfl 1 rfl (by omega) (by decide) (rfl) ?_
      refine g_icmp_geN (t := 114) dX7_worthOf_28 (by decide) rfl (by omega) (by omega) (fun h28 => ?_) (fun h28 => ?_)
      · rw [if_neg (fun q => absurd q.1 (by omega))] at hZ
        refine g_iinc dX7_worthOf_114 rfl rfl (nI_1 _) (by decide) rfl rfl ?_
        refine g_goto (q := 8) dX7_worthOf_117 (by decide) ?_
        first | exact ih (k + 1) _ _ _ _ _ (by omega) ht hZ | exact ih (k + 1) _ _ _ _ _ (by omega) (go1_SB ht) hZ
      · skip
        refine g_aload_n dX7_worthOf_31 rfl rfl ?_
        refine g_get f_X7_51 dX7_worthOf_32 rfl 0 rfl rfl ?_
        refine g_iload dX7_worthOf_35 rfl rfl ?_
        refine g_ialdN (v := tu (k % 6)) dX7_worthOf_37 rfl 4 rfl (Nat.mod_lt _ (by decide)) (by decide) (rfl) ?_
        refine g_iload_n dX7_worthOf_38 rfl rfl ?_
        refine g_bipush (v := nI 6) dX7_worthOf_39 rfl (by decide) ?_
        refine g_idiv dX7_worthOf_41 rfl (by decide) (pk_div (by omega) (by omega) (by omega)) ?_
        refine g_icmp_ne (t := 114) dX7_worthOf_42 (by decide) rfl (fun h42 => ?_) (fun h42 => ?_)
        · rw [if_neg (fun q => h42 q.2.1)] at hZ
          refine g_iinc dX7_worthOf_114 rfl rfl (nI_1 _) (by decide) rfl rfl ?_
          refine g_goto (q := 8) dX7_worthOf_117 (by decide) ?_
          first | exact ih (k + 1) _ _ _ _ _ (by omega) ht hZ | exact ih (k + 1) _ _ _ _ _ (by omega) (go1_SB ht) hZ
        · skip
          refine g_aload_n dX7_worthOf_45 rfl rfl ?_
          refine g_get f_X7_22 dX7_worthOf_46 rfl 0 rfl rfl ?_
          refine g_bipush (v := nI 31) dX7_worthOf_49 rfl (by decide) ?_
          refine g_ialdN (v := t.2.2) dX7_worthOf_51 rfl 3 rfl (by omega) (by decide) (rfl) ?_
          refine g_iconst (v := -1) dX7_worthOf_52 rfl (by decide) ?_
          refine g_icmp_ne (t := 114) dX7_worthOf_53 (by decide) rfl (fun h53 => ?_) (fun h53 => ?_)
          · rw [if_neg (fun q => h53 q.2.2)] at hZ
            refine g_iinc dX7_worthOf_114 rfl rfl (nI_1 _) (by decide) rfl rfl ?_
            refine g_goto (q := 8) dX7_worthOf_117 (by decide) ?_
            first | exact ih (k + 1) _ _ _ _ _ (by omega) ht hZ | exact ih (k + 1) _ _ _ _ _ (by omega) (go1_SB ht) hZ
          · rw [if_pos ⟨h28, h42, h53⟩] at hZ
            refine g_aload_n dX7_worthOf_56 rfl rfl ?_
            refine g_iload dX7_worthOf_57 rfl rfl ?_
            refine g_iconst (v := nI 0) dX7_worthOf_59 rfl (by decide) ?_
            refine g_callV (c_goes sk (sand := false) hB hW h28 ht) m_X7_176 a_X7_goes dX7_worthOf_60 rfl [0, 1, 3] rfl rfl 0 rfl rfl rfl (by decide) (by decide) (by decide) (by decide) (Nat.le_of_ble_eq_true rfl) (fun r w hK => ?_)
            obtain ⟨rfl, rfl⟩ := hK
            refine ⟨rfl, ?_⟩
            dsimp only [puts, List.set, Option.toList, List.cons_append, List.nil_append, List.append_nil]
            refine g_istore dX7_worthOf_63 rfl (by decide) rfl rfl ?_
            refine g_iload_n dX7_worthOf_65 rfl rfl ?_
            refine g_iload dX7_worthOf_66 rfl rfl ?_
            refine g_iload_n dX7_worthOf_68 rfl rfl ?_
            refine g_icmp_neN (t := 81) dX7_worthOf_69 (by decide) rfl (by omega) (by omega) (fun h69 => ?_) (fun h69 => ?_)
            · rw [if_neg h69, if_neg (fun q => h69 q.1)] at hZ
              refine g_iconst (v := nI 0) dX7_worthOf_81 rfl (by decide) ?_
              refine g_isub dX7_worthOf_82 rfl rfl ?_
              refine g_istore_n dX7_worthOf_83 rfl (by decide) rfl rfl ?_
              refine g_iload_n dX7_worthOf_84 rfl rfl ?_
              refine g_iload dX7_worthOf_85 rfl rfl ?_
              refine g_iload_n dX7_worthOf_87 rfl rfl ?_
              refine g_icmp_neN (t := 111) dX7_worthOf_88 (by decide) rfl (by omega) (by omega) (fun h88 => ?_) (fun h88 => ?_)
              · skip
                refine g_iconst (v := nI 0) dX7_worthOf_111 rfl (by decide) ?_
                refine g_iadd dX7_worthOf_112 rfl rfl ?_
                refine g_istore_n dX7_worthOf_113 rfl (by decide) rfl rfl ?_
                refine g_iinc dX7_worthOf_114 rfl rfl (nI_1 _) (by decide) rfl rfl ?_
                refine g_goto (q := 8) dX7_worthOf_117 (by decide) ?_
                first | exact ih (k + 1) _ _ _ _ _ (by omega) ht hZ | exact ih (k + 1) _ _ _ _ _ (by omega) (go1_SB ht) hZ
              · exact absurd h88 h69
            · rw [if_pos h69] at hZ
              refine g_aload_n dX7_worthOf_72 rfl rfl ?_
              refine g_get f_X7_13 dX7_worthOf_73 rfl 0 rfl rfl ?_
              refine g_iconst (v := nI 3) dX7_worthOf_76 rfl (by decide) ?_
              refine g_ialdN (v := nI _) dX7_worthOf_77 rfl 1 rfl (by omega) (by decide) (rfl) ?_
              refine g_goto (q := 82) dX7_worthOf_78 (by decide) ?_
              refine g_isub dX7_worthOf_82 rfl rfl ?_
              refine g_istore_n dX7_worthOf_83 rfl (by decide) rfl rfl ?_
              refine g_iload_n dX7_worthOf_84 rfl rfl ?_
              refine g_iload dX7_worthOf_85 rfl rfl ?_
              refine g_iload_n dX7_worthOf_87 rfl rfl ?_
              refine g_icmp_neN (t := 111) dX7_worthOf_88 (by decide) rfl (by omega) (by omega) (fun h88 => ?_) (fun h88 => ?_)
              · exact absurd h69 h88
              · skip
                refine g_aload_n dX7_worthOf_91 rfl rfl ?_
                refine g_get f_X7_22 dX7_worthOf_92 rfl 0 rfl rfl ?_
                refine g_bipush (v := nI 31) dX7_worthOf_95 rfl (by decide) ?_
                refine g_ialdN (v := (go1 (T 0) (T 4) (T 5) w a r false t (k % 6)).2.2) dX7_worthOf_97 rfl 3 rfl (by omega) (by decide) (rfl) ?_
                refine g_iload_n dX7_worthOf_98 rfl rfl ?_
                refine g_icmp_ne (t := 111) dX7_worthOf_99 (by decide) rfl (fun h99 => ?_) (fun h99 => ?_)
                · rw [if_neg (fun q => h99 q.2)] at hZ
                  refine g_iconst (v := nI 0) dX7_worthOf_111 rfl (by decide) ?_
                  refine g_iadd dX7_worthOf_112 rfl rfl ?_
                  refine g_istore_n dX7_worthOf_113 rfl (by decide) rfl rfl ?_
                  refine g_iinc dX7_worthOf_114 rfl rfl (nI_1 _) (by decide) rfl rfl ?_
                  refine g_goto (q := 8) dX7_worthOf_117 (by decide) ?_
                  first | exact ih (k + 1) _ _ _ _ _ (by omega) ht hZ | exact ih (k + 1) _ _ _ _ _ (by omega) (go1_SB ht) hZ
                · rw [if_pos ⟨h88, h99⟩] at hZ
                  refine g_aload_n dX7_worthOf_102 rfl rfl ?_
                  refine g_get f_X7_13 dX7_worthOf_103 rfl 0 rfl rfl ?_
                  refine g_iconst (v := nI 2) dX7_worthOf_106 rfl (by decide) ?_
                  refine g_ialdN (v := nI _) dX7_worthOf_107 rfl 1 rfl (by omega) (by decide) (rfl) ?_
                  refine g_goto (q := 112) dX7_worthOf_108 (by decide) ?_
                  refine g_iadd dX7_worthOf_112 rfl rfl ?_
                  refine g_istore_n dX7_worthOf_113 rfl (by decide) rfl rfl ?_
                  refine g_iinc dX7_worthOf_114 rfl rfl (nI_1 _) (by decide) rfl rfl ?_
                  refine g_goto (q := 8) dX7_worthOf_117 (by decide) ?_
                  first | exact ih (k + 1) _ _ _ _ _ (by omega) ht hZ | exact ih (k + 1) _ _ _ _ _ (by omega) (go1_SB ht) hZ
set_option maxRecDepth 20000 in
theorem c_X7_worthOf (sk : Nat → Nat) {h mt mo md ms mn mi mz mk mw mf mr mb mu : Nat} {ty li se fAt at_ so sta sz fl ru : Int32} {iha isn : Bool} {T : Nat → Nat} {w a r : Nat → Nat} {c : Nat} {tu fn : Nat → Int32} {s : PSt} (hB : PB (T 0) (T 1) (T 4) (T 5) w a r) (hW : TWR T w a r) (hc : c < 6) (hs0 : SB s.1) : Ct sk yX7_worthOf cX7_worthOf 6 (some .int) 2 0 0 [oMod h mt ty mo md ms mn mi mz mk mw mf li se fAt at_ so sta sz fl iha isn ru mr mb mu, cI mo 56 (fI T), cI ms 32 (fS s), cI mn 32 fn, cI mu 6 tu] [.ref h, .int (nI c)] ((fun q w1 => q = some (.int (woR (T 0) (T 1) (T 4) (T 5) w a r (nI (T 2)) (nI (T 3)) tu c 36 0 s (nI 0))) ∧ ∃ (ru2 : Int32) (fn2 : Nat → Int32), w1 = [oMod h mt ty mo md ms mn mi mz mk mw mf li se fAt at_ so sta sz fl iha isn ru2 mr mb mu, cI mo 56 (fI T), cI ms 32 (fS s), cI mn 32 fn2, cI mu 6 tu])) := by
  refine Ct.of (own := RX7) (l := [some (.ref h), some (.int (nI c)), none, none, none, none]) (by decide) rfl (Nat.le_of_ble_eq_true rfl) rfl ?_
  refine g_aload_n dX7_worthOf_0 rfl rfl ?_
  refine g_callV (c_X7_lays sk) m_X7_172 a_X7_lays dX7_worthOf_1 rfl [0, 2, 3] rfl rfl 0 rfl rfl rfl (by decide) (by decide) (by decide) (by decide) (Nat.le_of_ble_eq_true rfl) (fun r w hK => ?_)
  obtain ⟨rfl, rfl⟩ := hK
  refine ⟨rfl, ?_⟩
  dsimp only [puts, List.set, Option.toList, List.cons_append, List.nil_append, List.append_nil]
  refine g_iconst (v := nI 0) dX7_worthOf_4 rfl (by decide) ?_
  refine g_istore_n dX7_worthOf_5 rfl (by decide) rfl rfl ?_
  refine g_iconst (v := nI 0) dX7_worthOf_6 rfl (by decide) ?_
  refine g_istore_n dX7_worthOf_7 rfl (by decide) rfl rfl ?_
  exact lp_worthOf sk hB hW hc 36 0 s _ _ _ _ (by omega) hs0 rfl
set_option maxRecDepth 20000 in
theorem lp_bestTurn (sk : Nat → Nat) {h mt mo md ms mn mi mz mk mw mf mr mb mu : Nat} {ty li se fAt at_ so sta sz fl : Int32} {iha isn : Bool} {T : Nat → Nat} {w a r : Nat → Nat} {c : Nat} {tu : Nat → Int32} {s : PSt} {Z : Int32} (hB : PB (T 0) (T 1) (T 4) (T 5) w a r) (hW : TWR T w a r) (hc : c < 6) (hs0 : SB s.1) : ∀ (n : Nat) (b g ru y : Int32) (fn : Nat → Int32) (l5 : Option Value), n ≤ 7 → (n = 0 → y = nI 0) → btR (T 0) (T 1) (T 4) (T 5) w a r (nI (T 2)) (nI (T 3)) tu c s n b g = Z → GG sk RX7 yX7_bestTurn cX7_bestTurn 6 (some .int) 3 0 0 (fun q w1 => q = some (.int (Z)) ∧ ∃ (ru2 : Int32) (fn2 : Nat → Int32), w1 = [oMod h mt ty mo md ms mn mi mz mk mw mf li se fAt at_ so sta sz fl iha isn ru2 mr mb mu, cI mo 56 (fI T), cI ms 32 (fS s), cI mn 32 fn2, cI mu 6 (upd tu c (nI 0))]) 0 0 9 [some (.ref h), some (.int (nI c)), some (.int b), some (.int g), some (.int (nI n + (-1))), l5] [] [oMod h mt ty mo md ms mn mi mz mk mw mf li se fAt at_ so sta sz fl iha isn ru mr mb mu, cI mo 56 (fI T), cI ms 32 (fS s), cI mn 32 fn, cI mu 6 (upd tu c y)] := by
  intro n
  induction n with
  | zero =>
    intro b g ru y fn l5 hn hy hZ
    rw [btR] at hZ
    subst hZ
    rw [hy rfl]
    refine g_iload dX7_bestTurn_9 rfl rfl ?_
    refine g_if_lt (t := 75) dX7_bestTurn_11 (by decide) rfl (fun h11 => ?_) (fun h11 => ?_)
    · skip
      refine g_iload_n dX7_bestTurn_75 rfl rfl ?_
      exact g_iret dX7_bestTurn_76 rfl (Nat.le_refl _) (Nat.le_refl _) (⟨rfl, _, _, rfl⟩)
    · exact absurd (show nI 0 + (-1) < 0 by decide) h11
  | succ n ih =>
    intro b g ru y fn l5 hn hy hZ
    rw [pk_m1]
    rw [btR] at hZ
    refine g_iload dX7_bestTurn_9 rfl rfl ?_
    refine g_if_lt (t := 75) dX7_bestTurn_11 (by decide) rfl (fun h11 => ?_) (fun h11 => ?_)
    · exact absurd h11 (nI_pos (by omega))
    · skip
      refine g_aload_n dX7_bestTurn_14 rfl rfl ?_
      refine g_get f_X7_51 dX7_bestTurn_15 rfl 0 rfl rfl ?_
      refine g_iload_n dX7_bestTurn_18 rfl rfl ?_
      refine g_iload dX7_bestTurn_19 rfl rfl ?_
      refine g_iastN dX7_bestTurn_21 rfl 4 rfl (by omega) (by decide) (upd_upd _ _ _ _) rfl ?_
      refine g_aload_n dX7_bestTurn_22 rfl rfl ?_
      refine g_iload_n dX7_bestTurn_23 rfl rfl ?_
      refine g_callV (c_X7_worthOf sk hB hW hc hs0) m_X7_213 a_X7_worthOf dX7_bestTurn_24 rfl [0, 1, 2, 3, 4] rfl rfl 0 rfl rfl rfl (by decide) (by decide) (by decide) (by decide) (Nat.le_of_ble_eq_true rfl) (fun r w hK => ?_)
      obtain ⟨rfl, ru2, fn2, rfl⟩ := hK
      refine ⟨rfl, ?_⟩
      dsimp only [puts, List.set, Option.toList, List.cons_append, List.nil_append, List.append_nil]
      refine g_istore dX7_bestTurn_27 rfl (by decide) rfl rfl ?_
      refine g_iload dX7_bestTurn_29 rfl rfl ?_
      refine g_bipush (v := nI 6) dX7_bestTurn_31 rfl (by decide) ?_
      refine g_icmp_eqN (t := 42) dX7_bestTurn_33 (by decide) rfl (by omega) (by omega) (fun h33 => ?_) (fun h33 => ?_)
      · rw [if_pos (Or.inl h33)] at hZ
        refine g_iload dX7_bestTurn_42 rfl rfl ?_
        refine g_goto (q := 48) dX7_bestTurn_44 (by decide) ?_
        refine g_istore_n dX7_bestTurn_48 rfl (by decide) rfl rfl ?_
        refine g_iload dX7_bestTurn_49 rfl rfl ?_
        refine g_bipush (v := nI 6) dX7_bestTurn_51 rfl (by decide) ?_
        refine g_icmp_eqN (t := 62) dX7_bestTurn_53 (by decide) rfl (by omega) (by omega) (fun h53 => ?_) (fun h53 => ?_)
        · skip
          refine g_iload dX7_bestTurn_62 rfl rfl ?_
          refine g_goto (q := 68) dX7_bestTurn_64 (by decide) ?_
          refine g_istore_n dX7_bestTurn_68 rfl (by decide) rfl rfl ?_
          refine g_iinc dX7_bestTurn_69 rfl rfl rfl (by decide) rfl rfl ?_
          refine g_goto (q := 9) dX7_bestTurn_72 (by decide) ?_
          exact ih _ _ _ _ _ _ (by omega) (fun q => by rw [q]) hZ
        · exact absurd h33 h53
      · skip
        refine g_iload dX7_bestTurn_36 rfl rfl ?_
        refine g_iload_n dX7_bestTurn_38 rfl rfl ?_
        refine g_icmp_le (t := 47) dX7_bestTurn_39 (by decide) rfl (fun h39 => ?_) (fun h39 => ?_)
        · rw [if_neg (fun q => Or.elim q h33 (fun q2 => q2 h39))] at hZ
          refine g_iload_n dX7_bestTurn_47 rfl rfl ?_
          refine g_istore_n dX7_bestTurn_48 rfl (by decide) rfl rfl ?_
          refine g_iload dX7_bestTurn_49 rfl rfl ?_
          refine g_bipush (v := nI 6) dX7_bestTurn_51 rfl (by decide) ?_
          refine g_icmp_eqN (t := 62) dX7_bestTurn_53 (by decide) rfl (by omega) (by omega) (fun h53 => ?_) (fun h53 => ?_)
          · exact absurd h53 h33
          · skip
            refine g_iload dX7_bestTurn_56 rfl rfl ?_
            refine g_iload_n dX7_bestTurn_58 rfl rfl ?_
            refine g_icmp_le (t := 67) dX7_bestTurn_59 (by decide) rfl (fun h59 => ?_) (fun h59 => ?_)
            · skip
              refine g_iload_n dX7_bestTurn_67 rfl rfl ?_
              refine g_istore_n dX7_bestTurn_68 rfl (by decide) rfl rfl ?_
              refine g_iinc dX7_bestTurn_69 rfl rfl rfl (by decide) rfl rfl ?_
              refine g_goto (q := 9) dX7_bestTurn_72 (by decide) ?_
              exact ih _ _ _ _ _ _ (by omega) (fun q => by rw [q]) hZ
            · exact absurd h39 h59
        · rw [if_pos (Or.inr h39)] at hZ
          refine g_iload dX7_bestTurn_42 rfl rfl ?_
          refine g_goto (q := 48) dX7_bestTurn_44 (by decide) ?_
          refine g_istore_n dX7_bestTurn_48 rfl (by decide) rfl rfl ?_
          refine g_iload dX7_bestTurn_49 rfl rfl ?_
          refine g_bipush (v := nI 6) dX7_bestTurn_51 rfl (by decide) ?_
          refine g_icmp_eqN (t := 62) dX7_bestTurn_53 (by decide) rfl (by omega) (by omega) (fun h53 => ?_) (fun h53 => ?_)
          · exact absurd h53 h33
          · skip
            refine g_iload dX7_bestTurn_56 rfl rfl ?_
            refine g_iload_n dX7_bestTurn_58 rfl rfl ?_
            refine g_icmp_le (t := 67) dX7_bestTurn_59 (by decide) rfl (fun h59 => ?_) (fun h59 => ?_)
            · exact absurd h59 h39
            · skip
              refine g_iload dX7_bestTurn_62 rfl rfl ?_
              refine g_goto (q := 68) dX7_bestTurn_64 (by decide) ?_
              refine g_istore_n dX7_bestTurn_68 rfl (by decide) rfl rfl ?_
              refine g_iinc dX7_bestTurn_69 rfl rfl rfl (by decide) rfl rfl ?_
              refine g_goto (q := 9) dX7_bestTurn_72 (by decide) ?_
              exact ih _ _ _ _ _ _ (by omega) (fun q => by rw [q]) hZ
set_option maxRecDepth 20000 in
theorem c_X7_bestTurn (sk : Nat → Nat) {h mt mo md ms mn mi mz mk mw mf mr mb mu : Nat} {ty li se fAt at_ so sta sz fl ru : Int32} {iha isn : Bool} {T : Nat → Nat} {w a r : Nat → Nat} {c : Nat} {tu fn : Nat → Int32} {s : PSt} (hB : PB (T 0) (T 1) (T 4) (T 5) w a r) (hW : TWR T w a r) (hc : c < 6) (hs0 : SB s.1) : Ct sk yX7_bestTurn cX7_bestTurn 6 (some .int) 3 0 0 [oMod h mt ty mo md ms mn mi mz mk mw mf li se fAt at_ so sta sz fl iha isn ru mr mb mu, cI mo 56 (fI T), cI ms 32 (fS s), cI mn 32 fn, cI mu 6 tu] [.ref h, .int (nI c)] ((fun q w1 => q = some (.int (btA (T 0) (T 1) (T 4) (T 5) w a r (nI (T 2)) (nI (T 3)) tu c s)) ∧ ∃ (ru2 : Int32) (fn2 : Nat → Int32), w1 = [oMod h mt ty mo md ms mn mi mz mk mw mf li se fAt at_ so sta sz fl iha isn ru2 mr mb mu, cI mo 56 (fI T), cI ms 32 (fS s), cI mn 32 fn2, cI mu 6 (upd tu c (nI 0))])) := by
  refine Ct.of (own := RX7) (l := [some (.ref h), some (.int (nI c)), none, none, none, none]) (by decide) rfl (Nat.le_of_ble_eq_true rfl) rfl ?_
  refine g_bipush (v := nI 6) dX7_bestTurn_0 rfl (by decide) ?_
  refine g_istore_n dX7_bestTurn_2 rfl (by decide) rfl rfl ?_
  refine g_iconst (v := nI 0) dX7_bestTurn_3 rfl (by decide) ?_
  refine g_istore_n dX7_bestTurn_4 rfl (by decide) rfl rfl ?_
  refine g_bipush (v := nI 6) dX7_bestTurn_5 rfl (by decide) ?_
  refine g_istore dX7_bestTurn_7 rfl (by decide) rfl rfl ?_
  have h0 := lp_bestTurn sk (h := h) (mt := mt) (mo := mo) (md := md) (ms := ms) (mn := mn) (mi := mi) (mz := mz) (mk := mk) (mw := mw) (mf := mf) (mr := mr) (mb := mb) (mu := mu) (ty := ty) (li := li) (se := se) (fAt := fAt) (at_ := at_) (so := so) (sta := sta) (sz := sz) (fl := fl) (iha := iha) (isn := isn) (T := T) (w := w) (a := a) (r := r) (c := c) (tu := tu) (s := s) hB hW hc hs0 7 (nI 6) (nI 0) ru (tu c) fn none (by decide) (fun q => absurd q (by decide)) rfl
  rw [upd_self] at h0
  exact h0
set_option maxRecDepth 20000 in
theorem lp_rests151 (sk : Nat → Nat) {ru : Int32} {h mt mo md ms mn mi mz mk mw mf mr mb mu : Nat} {ty li se fAt at_ so sta sz fl : Int32} {iha isn : Bool} {T : Nat → Nat} {w a r : Nat → Nat} {s : PSt} {x Z : Int32} {q : Nat} {on : Bool} {tu fn : Nat → Int32} {l4 l5 : Option Value} (hB : PB (T 0) (T 1) (T 4) (T 5) w a r) (hW : TWR T w a r) (hs0 : SB s.1) (hx : x = -1 ∨ ∃ j, j < T 1 ∧ x = nI j) (hZ : mrsA (tu, q, on) x = Z) : GG sk RX7 yX7_rests cX7_rests 6 (some .int) 4 0 0 (fun q w1 => q = some (.int Z) ∧ ∃ (ru2 : Int32) (fn2 tu2 : Nat → Int32), w1 = [oMod h mt ty mo md ms mn mi mz mk mw mf li se fAt at_ so sta sz fl iha isn ru2 mr mb mu, cI mo 56 (fI T), cI ms 32 (fS s), cI mn 32 fn2, cI mu 6 tu2]) 0 0 151 [some (.ref h), some (.int x), some (.int (nI q)), some (.int (zb on)), l4, l5] [] [oMod h mt ty mo md ms mn mi mz mk mw mf li se fAt at_ so sta sz fl iha isn ru mr mb mu, cI mo 56 (fI T), cI ms 32 (fS s), cI mn 32 fn, cI mu 6 tu] := by
  have hT1 := hB.2.1
  refine g_iload_n dX7_rests_151 rfl rfl ?_
  refine g_if_eqB (t := 157) dX7_rests_152 (by decide) rfl (fun h152 => ?_) (fun h152 => ?_)
  · subst h152
    rw [mrsA, if_neg (show ¬ (false = true) by decide)] at hZ
    refine g_iload_n dX7_rests_157 rfl rfl ?_
    refine g_iconst (v := -1) dX7_rests_158 rfl (by decide) ?_
    refine g_icmp_ne (t := 166) dX7_rests_159 (by decide) rfl (fun h159 => ?_) (fun h159 => ?_)
    · rw [if_neg h159] at hZ
      obtain ⟨j, hj, rfl⟩ := hx.resolve_left h159
      rw [nI_clamp (by omega)] at hZ
      refine g_aload_n dX7_rests_166 rfl rfl ?_
      refine g_get f_X7_51 dX7_rests_167 rfl 0 rfl rfl ?_
      refine g_iload_n dX7_rests_170 rfl rfl ?_
      refine g_ialdN (v := tu j) dX7_rests_171 rfl 4 rfl (by omega) (by decide) (rfl) ?_
      refine g_bipush (v := nI 6) dX7_rests_172 rfl (by decide) ?_
      refine g_icmp_ne (t := 181) dX7_rests_174 (by decide) rfl (fun h174 => ?_) (fun h174 => ?_)
      · rw [if_neg h174] at hZ
        subst hZ
        refine g_aload_n dX7_rests_181 rfl rfl ?_
        refine g_get f_X7_51 dX7_rests_182 rfl 0 rfl rfl ?_
        refine g_iload_n dX7_rests_185 rfl rfl ?_
        refine g_ialdN (v := tu j) dX7_rests_186 rfl 4 rfl (by omega) (by decide) (rfl) ?_
        exact g_iret dX7_rests_187 rfl (Nat.le_refl _) (Nat.le_refl _) (⟨rfl, _, _, _, rfl⟩)
      · rw [if_pos h174] at hZ
        subst hZ
        refine g_iconst (v := -1) dX7_rests_177 rfl (by decide) ?_
        refine g_goto (q := 187) dX7_rests_178 (by decide) ?_
        exact g_iret dX7_rests_187 rfl (Nat.le_refl _) (Nat.le_refl _) (⟨rfl, _, _, _, rfl⟩)
    · rw [if_pos h159] at hZ
      subst hZ
      refine g_iload_n dX7_rests_162 rfl rfl ?_
      refine g_goto (q := 187) dX7_rests_163 (by decide) ?_
      exact g_iret dX7_rests_187 rfl (Nat.le_refl _) (Nat.le_refl _) (⟨rfl, _, _, _, rfl⟩)
  · subst h152
    rw [mrsA, if_pos rfl] at hZ
    subst hZ
    refine g_iconst (v := -1) dX7_rests_155 rfl (by decide) ?_
    exact g_iret dX7_rests_156 rfl (Nat.le_refl _) (Nat.le_refl _) (⟨rfl, _, _, _, rfl⟩)
set_option maxRecDepth 20000 in
theorem lp_rests75 (sk : Nat → Nat) {q : Nat} {R2 : (Nat → Int32) × Bool} {h mt mo md ms mn mi mz mk mw mf mr mb mu : Nat} {ty li se fAt at_ so sta sz fl : Int32} {iha isn : Bool} {T : Nat → Nat} {w a r : Nat → Nat} {s : PSt} {x Z : Int32} (hB : PB (T 0) (T 1) (T 4) (T 5) w a r) (hW : TWR T w a r) (hs0 : SB s.1) (hx : x = -1 ∨ ∃ j, j < T 1 ∧ x = nI j) (hK2 : (∀ (ru : Int32) (fn : Nat → Int32) (l4 l5 : Option Value), GG sk RX7 yX7_rests cX7_rests 6 (some .int) 4 0 0 (fun q w1 => q = some (.int Z) ∧ ∃ (ru2 : Int32) (fn2 tu2 : Nat → Int32), w1 = [oMod h mt ty mo md ms mn mi mz mk mw mf li se fAt at_ so sta sz fl iha isn ru2 mr mb mu, cI mo 56 (fI T), cI ms 32 (fS s), cI mn 32 fn2, cI mu 6 tu2]) 0 0 136 [some (.ref h), some (.int x), some (.int (nI q)), some (.int (zb R2.2)), l4, l5] [] [oMod h mt ty mo md ms mn mi mz mk mw mf li se fAt at_ so sta sz fl iha isn ru mr mb mu, cI mo 56 (fI T), cI ms 32 (fS s), cI mn 32 fn, cI mu 6 R2.1])) : ∀ (n k : Nat) (tu fn : Nat → Int32) (on : Bool) (ru : Int32) (l5 : Option Value), k + n = T 1 → mrdR (T 0) (T 1) (T 4) (T 5) w a r (nI (T 2)) (nI (T 3)) s n k tu on = R2 → GG sk RX7 yX7_rests cX7_rests 6 (some .int) 4 0 0 (fun q w1 => q = some (.int Z) ∧ ∃ (ru2 : Int32) (fn2 tu2 : Nat → Int32), w1 = [oMod h mt ty mo md ms mn mi mz mk mw mf li se fAt at_ so sta sz fl iha isn ru2 mr mb mu, cI mo 56 (fI T), cI ms 32 (fS s), cI mn 32 fn2, cI mu 6 tu2]) 0 0 75 [some (.ref h), some (.int x), some (.int (nI q)), some (.int (zb on)), some (.int (nI k)), l5] [] [oMod h mt ty mo md ms mn mi mz mk mw mf li se fAt at_ so sta sz fl iha isn ru mr mb mu, cI mo 56 (fI T), cI ms 32 (fS s), cI mn 32 fn, cI mu 6 tu] := by
  have hT1 := hB.2.1
  intro n
  induction n with
  | zero =>
    intro k tu fn on ru l5 hk hZ
    rw [mrdR] at hZ
    subst hZ
    refine g_iload dX7_rests_75 rfl rfl ?_
    refine g_aload_n dX7_rests_77 rfl rfl ?_
    refine g_get f_X7_13 dX7_rests_78 rfl 0 rfl rfl ?_
    refine g_iconst (v := nI 1) dX7_rests_81 rfl (by decide) ?_
    refine g_ialdN (v := nI _) dX7_rests_82 rfl 1 rfl (by omega) (by decide) (rfl) ?_
    refine g_icmp_geN (t := 136) dX7_rests_83 (by decide) rfl (by omega) (by omega) (fun h83 => ?_) (fun h83 => ?_)
    · skip
      exact hK2 _ _ _ _
    · exact absurd h83 (by omega)
  | succ n ih =>
    intro k tu fn on ru l5 hk hZ
    rw [mrdR] at hZ
    refine g_iload dX7_rests_75 rfl rfl ?_
    refine g_aload_n dX7_rests_77 rfl rfl ?_
    refine g_get f_X7_13 dX7_rests_78 rfl 0 rfl rfl ?_
    refine g_iconst (v := nI 1) dX7_rests_81 rfl (by decide) ?_
    refine g_ialdN (v := nI _) dX7_rests_82 rfl 1 rfl (by omega) (by decide) (rfl) ?_
    refine g_icmp_geN (t := 136) dX7_rests_83 (by decide) rfl (by omega) (by omega) (fun h83 => ?_) (fun h83 => ?_)
    · exact absurd h83 (by omega)
    · skip
      refine g_aload_n dX7_rests_86 rfl rfl ?_
      refine g_get f_X7_51 dX7_rests_87 rfl 0 rfl rfl ?_
      refine g_iload dX7_rests_90 rfl rfl ?_
      refine g_ialdN (v := tu k) dX7_rests_92 rfl 4 rfl (by omega) (by decide) (rfl) ?_
      refine g_istore dX7_rests_93 rfl (by decide) rfl rfl ?_
      refine g_aload_n dX7_rests_95 rfl rfl ?_
      refine g_get f_X7_51 dX7_rests_96 rfl 0 rfl rfl ?_
      refine g_iload dX7_rests_99 rfl rfl ?_
      refine g_aload_n dX7_rests_101 rfl rfl ?_
      refine g_iload dX7_rests_102 rfl rfl ?_
      refine g_callV (c_X7_bestTurn sk hB hW (show k < 6 by omega) hs0) m_X7_216 a_X7_bestTurn dX7_rests_104 rfl [0, 1, 2, 3, 4] rfl rfl 0 rfl rfl rfl (by decide) (by decide) (by decide) (by decide) (Nat.le_of_ble_eq_true rfl) (fun r w hK => ?_)
      obtain ⟨rfl, ru2, fn2, rfl⟩ := hK
      refine ⟨rfl, ?_⟩
      dsimp only [puts, List.set, Option.toList, List.cons_append, List.nil_append, List.append_nil]
      refine g_iastN dX7_rests_107 rfl 4 rfl (by omega) (by decide) (upd_upd _ _ _ _) rfl ?_
      refine g_iload_n dX7_rests_108 rfl rfl ?_
      refine g_if_neB (t := 124) dX7_rests_109 (by decide) rfl (fun h109 => ?_) (fun h109 => ?_)
      · subst h109
        rw [Bool.true_or] at hZ
        refine g_iconst (v := nI 1) dX7_rests_124 rfl (by decide) ?_
        refine g_goto (q := 129) dX7_rests_125 (by decide) ?_
        refine g_istore_n dX7_rests_129 rfl (by decide) rfl rfl ?_
        refine g_iinc dX7_rests_130 rfl rfl (nI_1 _) (by decide) rfl rfl ?_
        refine g_goto (q := 75) dX7_rests_133 (by decide) ?_
        exact ih (k + 1) _ _ _ _ _ (by omega) hZ
      · subst h109
        rw [Bool.false_or] at hZ
        refine g_aload_n dX7_rests_112 rfl rfl ?_
        refine g_get f_X7_51 dX7_rests_113 rfl 0 rfl rfl ?_
        refine g_iload dX7_rests_116 rfl rfl ?_
        refine g_ialdN (v := btA (T 0) (T 1) (T 4) (T 5) w a r (nI (T 2)) (nI (T 3)) tu k s) dX7_rests_118 rfl 4 rfl (by omega) (by decide) (pk_us) ?_
        refine g_iload dX7_rests_119 rfl rfl ?_
        refine g_icmp_eq (t := 128) dX7_rests_121 (by decide) rfl (fun h121 => ?_) (fun h121 => ?_)
        · rw [decide_eq_false (not_not_intro h121)] at hZ
          refine g_iconst (v := nI 0) dX7_rests_128 rfl (by decide) ?_
          refine g_istore_n dX7_rests_129 rfl (by decide) rfl rfl ?_
          refine g_iinc dX7_rests_130 rfl rfl (nI_1 _) (by decide) rfl rfl ?_
          refine g_goto (q := 75) dX7_rests_133 (by decide) ?_
          exact ih (k + 1) _ _ _ _ _ (by omega) hZ
        · rw [decide_eq_true h121] at hZ
          refine g_iconst (v := nI 1) dX7_rests_124 rfl (by decide) ?_
          refine g_goto (q := 129) dX7_rests_125 (by decide) ?_
          refine g_istore_n dX7_rests_129 rfl (by decide) rfl rfl ?_
          refine g_iinc dX7_rests_130 rfl rfl (nI_1 _) (by decide) rfl rfl ?_
          refine g_goto (q := 75) dX7_rests_133 (by decide) ?_
          exact ih (k + 1) _ _ _ _ _ (by omega) hZ
set_option maxRecDepth 20000 in
theorem lp_rests60 (sk : Nat → Nat) {h mt mo md ms mn mi mz mk mw mf mr mb mu : Nat} {ty li se fAt at_ so sta sz fl : Int32} {iha isn : Bool} {T : Nat → Nat} {w a r : Nat → Nat} {s : PSt} {x Z : Int32} (hB : PB (T 0) (T 1) (T 4) (T 5) w a r) (hW : TWR T w a r) (hs0 : SB s.1) (hx : x = -1 ∨ ∃ j, j < T 1 ∧ x = nI j) : ∀ (m q : Nat) (tu fn : Nat → Int32) (ru : Int32) (l4 l5 : Option Value), q + m = 20 → mrsA (mfiR (T 0) (T 1) (T 4) (T 5) w a r (nI (T 2)) (nI (T 3)) s m tu q) x = Z → GG sk RX7 yX7_rests cX7_rests 6 (some .int) 4 0 0 (fun q w1 => q = some (.int Z) ∧ ∃ (ru2 : Int32) (fn2 tu2 : Nat → Int32), w1 = [oMod h mt ty mo md ms mn mi mz mk mw mf li se fAt at_ so sta sz fl iha isn ru2 mr mb mu, cI mo 56 (fI T), cI ms 32 (fS s), cI mn 32 fn2, cI mu 6 tu2]) 0 0 60 [some (.ref h), some (.int x), some (.int (nI q)), some (.int (zb true)), l4, l5] [] [oMod h mt ty mo md ms mn mi mz mk mw mf li se fAt at_ so sta sz fl iha isn ru mr mb mu, cI mo 56 (fI T), cI ms 32 (fS s), cI mn 32 fn, cI mu 6 tu] := by
  intro m
  induction m with
  | zero =>
    intro q tu fn ru l4 l5 hq hZ
    rw [mfiR] at hZ
    refine g_iload_n dX7_rests_60 rfl rfl ?_
    refine g_if_eqB (t := 151) dX7_rests_61 (by decide) rfl (fun h61 => ?_) (fun h61 => ?_)
    · exact absurd h61 (by decide)
    · skip
      refine g_iload_n dX7_rests_64 rfl rfl ?_
      refine g_bipush (v := nI 20) dX7_rests_65 rfl (by decide) ?_
      refine g_icmp_geN (t := 151) dX7_rests_67 (by decide) rfl (by omega) (by omega) (fun h67 => ?_) (fun h67 => ?_)
      · skip
        exact lp_rests151 sk hB hW hs0 hx hZ
      · exact absurd h67 (by omega)
  | succ m ih =>
    intro q tu fn ru l4 l5 hq hZ
    rw [mfiR] at hZ
    refine g_iload_n dX7_rests_60 rfl rfl ?_
    refine g_if_eqB (t := 151) dX7_rests_61 (by decide) rfl (fun h61 => ?_) (fun h61 => ?_)
    · exact absurd h61 (by decide)
    · skip
      refine g_iload_n dX7_rests_64 rfl rfl ?_
      refine g_bipush (v := nI 20) dX7_rests_65 rfl (by decide) ?_
      refine g_icmp_geN (t := 151) dX7_rests_67 (by decide) rfl (by omega) (by omega) (fun h67 => ?_) (fun h67 => ?_)
      · exact absurd h67 (by omega)
      · skip
        refine g_iconst (v := nI 0) dX7_rests_70 rfl (by decide) ?_
        refine g_istore_n dX7_rests_71 rfl (by decide) rfl rfl ?_
        refine g_iconst (v := nI 0) dX7_rests_72 rfl (by decide) ?_
        refine g_istore dX7_rests_73 rfl (by decide) rfl rfl ?_
        refine lp_rests75 sk hB hW hs0 hx (R2 := mrdR (T 0) (T 1) (T 4) (T 5) w a r (nI (T 2)) (nI (T 3)) s (T 1) 0 tu false) (fun ru fn l4 l5 => ?_) (T 1) 0 _ _ false _ _ (by omega) rfl
        cases hR : (mrdR (T 0) (T 1) (T 4) (T 5) w a r (nI (T 2)) (nI (T 3)) s (T 1) 0 tu false).2 with
        | true =>
          rw [hR] at hZ
          dsimp only at hZ
          refine g_iload_n dX7_rests_136 rfl rfl ?_
          refine g_iload_n dX7_rests_137 rfl rfl ?_
          refine g_if_eqB (t := 145) dX7_rests_138 (by decide) rfl (fun h138 => ?_) (fun h138 => ?_)
          · exact absurd h138 (by decide)
          · skip
            refine g_iconst (v := nI 1) dX7_rests_141 rfl (by decide) ?_
            refine g_goto (q := 146) dX7_rests_142 (by decide) ?_
            refine g_iadd dX7_rests_146 rfl (nI_add _ _) ?_
            refine g_istore_n dX7_rests_147 rfl (by decide) rfl rfl ?_
            refine g_goto (q := 60) dX7_rests_148 (by decide) ?_
            exact ih _ _ _ _ _ _ (by omega) hZ
        | false =>
          rw [hR] at hZ
          dsimp only at hZ
          refine g_iload_n dX7_rests_136 rfl rfl ?_
          refine g_iload_n dX7_rests_137 rfl rfl ?_
          refine g_if_eqB (t := 145) dX7_rests_138 (by decide) rfl (fun h138 => ?_) (fun h138 => ?_)
          · skip
            refine g_iconst (v := nI 0) dX7_rests_145 rfl (by decide) ?_
            refine g_iadd dX7_rests_146 rfl (nI_add _ _) ?_
            refine g_istore_n dX7_rests_147 rfl (by decide) rfl rfl ?_
            refine g_goto (q := 60) dX7_rests_148 (by decide) ?_
            refine g_iload_n dX7_rests_60 rfl rfl ?_
            refine g_if_eqB (t := 151) dX7_rests_61 (by decide) rfl (fun h61 => ?_) (fun h61 => ?_)
            · skip
              exact lp_rests151 sk hB hW hs0 hx hZ
            · exact absurd h61 (by decide)
          · exact absurd h138 (by decide)
set_option maxRecDepth 20000 in
theorem c_X7_restsF (sk : Nat → Nat) {h mt mo md ms mn mi mz mk mw mf mr mb mu : Nat} {ty li se fAt at_ so sta sz fl ru : Int32} {iha isn : Bool} {T : Nat → Nat} {x : Int32} (hT1 : T 1 ≤ 6) (hx : ¬ x = -1) (hx2 : inR x (T 1) = false) : Ct sk yX7_rests cX7_rests 6 (some .int) 4 0 0 [oMod h mt ty mo md ms mn mi mz mk mw mf li se fAt at_ so sta sz fl iha isn ru mr mb mu, cI mo 56 (fI T)] [.ref h, .int x] (zD (some (.int (-1000000001))) [oMod h mt ty mo md ms mn mi mz mk mw mf li se fAt at_ so sta sz fl iha isn ru mr mb mu, cI mo 56 (fI T)]) := by
  refine Ct.of (own := RX7) (l := [some (.ref h), some (.int x), none, none, none, none]) (by decide) rfl (Nat.le_of_ble_eq_true rfl) rfl ?_
  refine g_iload_n dX7_rests_0 rfl rfl ?_
  refine g_iconst (v := -1) dX7_rests_1 rfl (by decide) ?_
  refine g_aload_n dX7_rests_2 rfl rfl ?_
  refine g_get f_X7_13 dX7_rests_3 rfl 0 rfl rfl ?_
  refine g_iconst (v := nI 1) dX7_rests_6 rfl (by decide) ?_
  refine g_ialdN (v := nI (T 1)) dX7_rests_7 rfl 1 rfl (by omega) (by decide) (rfl) ?_
  refine g_iconst (v := nI 1) dX7_rests_8 rfl (by decide) ?_
  refine g_isub dX7_rests_9 rfl rfl ?_
  refine g_callS (c_X7_in sk) m_X7_61 a_X7_in dX7_rests_10 rfl [] rfl rfl rfl rfl (by decide) (by decide) (by decide) (by decide) (Nat.le_of_ble_eq_true rfl) (fun r w hK => ?_)
  obtain ⟨rfl, rfl⟩ := hK
  refine ⟨rfl, ?_⟩
  rw [in_m1 hT1]
  dsimp only [puts, List.set, Option.toList, List.cons_append, List.nil_append, List.append_nil]
  refine g_if_neB (t := 19) dX7_rests_13 (by decide) rfl (fun h13 => ?_) (fun h13 => ?_)
  · exact absurd h13 (by rw [hx2, decide_eq_false hx]; decide)
  · skip
    refine g_ldc dX7_rests_16 rfl k_X7_161 ?_
    exact g_iret dX7_rests_18 rfl (Nat.le_refl _) (Nat.le_refl _) (⟨rfl, rfl⟩)
theorem t6_up (i : Nat) (tu : Nat → Int32) : upd (fun j => if j < i then nI 6 else tu j) i (nI 6) = fun j => if j < i + 1 then nI 6 else tu j := by
  funext j
  unfold upd
  show (if j = i then nI 6 else if j < i then nI 6 else tu j) = if j < i + 1 then nI 6 else tu j
  by_cases h : j = i
  · rw [if_pos h, if_pos (by omega)]
  · rw [if_neg h]
    by_cases h2 : j < i
    · rw [if_pos h2, if_pos (by omega)]
    · rw [if_neg h2, if_neg (by omega)]
set_option maxRecDepth 20000 in
theorem lp_rests60f (sk : Nat → Nat) {ru : Int32} {h mt mo md ms mn mi mz mk mw mf mr mb mu : Nat} {ty li se fAt at_ so sta sz fl : Int32} {iha isn : Bool} {T : Nat → Nat} {w a r : Nat → Nat} {s : PSt} {x Z : Int32} {q : Nat} {tu fn : Nat → Int32} {l4 l5 : Option Value} (hB : PB (T 0) (T 1) (T 4) (T 5) w a r) (hW : TWR T w a r) (hs0 : SB s.1) (hx : x = -1 ∨ ∃ j, j < T 1 ∧ x = nI j) (hZ : mrsA (tu, q, false) x = Z) : GG sk RX7 yX7_rests cX7_rests 6 (some .int) 4 0 0 (fun q w1 => q = some (.int Z) ∧ ∃ (ru2 : Int32) (fn2 tu2 : Nat → Int32), w1 = [oMod h mt ty mo md ms mn mi mz mk mw mf li se fAt at_ so sta sz fl iha isn ru2 mr mb mu, cI mo 56 (fI T), cI ms 32 (fS s), cI mn 32 fn2, cI mu 6 tu2]) 0 0 60 [some (.ref h), some (.int x), some (.int (nI q)), some (.int (zb false)), l4, l5] [] [oMod h mt ty mo md ms mn mi mz mk mw mf li se fAt at_ so sta sz fl iha isn ru mr mb mu, cI mo 56 (fI T), cI ms 32 (fS s), cI mn 32 fn, cI mu 6 tu] := by
  refine g_iload_n dX7_rests_60 rfl rfl ?_
  refine g_if_eqB (t := 151) dX7_rests_61 (by decide) rfl (fun h61 => ?_) (fun h61 => ?_)
  · skip
    exact lp_rests151 sk hB hW hs0 hx hZ
  · exact absurd h61 (by decide)
set_option maxRecDepth 20000 in
theorem lp_rests21 (sk : Nat → Nat) {ru : Int32} {h mt mo md ms mn mi mz mk mw mf mr mb mu : Nat} {ty li se fAt at_ so sta sz fl : Int32} {iha isn : Bool} {T : Nat → Nat} {w a r : Nat → Nat} {s : PSt} {x Z : Int32} {tu fn : Nat → Int32} (hB : PB (T 0) (T 1) (T 4) (T 5) w a r) (hW : TWR T w a r) (hs0 : SB s.1) (hx : x = -1 ∨ ∃ j, j < T 1 ∧ x = nI j) (hZ : mrsA (mrests (T 0) (T 1) (T 4) (T 5) w a r (nI (T 2)) (nI (T 3)) s) x = Z) : ∀ (n i : Nat), i + n = 6 → GG sk RX7 yX7_rests cX7_rests 6 (some .int) 4 0 0 (fun q w1 => q = some (.int Z) ∧ ∃ (ru2 : Int32) (fn2 tu2 : Nat → Int32), w1 = [oMod h mt ty mo md ms mn mi mz mk mw mf li se fAt at_ so sta sz fl iha isn ru2 mr mb mu, cI mo 56 (fI T), cI ms 32 (fS s), cI mn 32 fn2, cI mu 6 tu2]) 0 0 21 [some (.ref h), some (.int x), some (.int (nI i)), none, none, none] [] [oMod h mt ty mo md ms mn mi mz mk mw mf li se fAt at_ so sta sz fl iha isn ru mr mb mu, cI mo 56 (fI T), cI ms 32 (fS s), cI mn 32 fn, cI mu 6 (fun j => if j < i then nI 6 else tu j)] := by
  intro n
  induction n with
  | zero =>
    intro i hi
    have e : i = 6 := by omega
    subst e
    refine g_cong (g := fun _ => nI 6) 4 rfl (fun j hj => if_pos hj) rfl ?_
    dsimp only [List.set]
    refine g_iload_n dX7_rests_21 rfl rfl ?_
    refine g_bipush (v := nI 6) dX7_rests_22 rfl (by decide) ?_
    refine g_icmp_geN (t := 41) dX7_rests_24 (by decide) rfl (by omega) (by omega) (fun h24 => ?_) (fun h24 => ?_)
    · skip
      refine g_iconst (v := nI 0) dX7_rests_41 rfl (by decide) ?_
      refine g_istore_n dX7_rests_42 rfl (by decide) rfl rfl ?_
      refine g_aload_n dX7_rests_43 rfl rfl ?_
      refine g_get f_X7_19 dX7_rests_44 rfl 0 rfl rfl ?_
      refine g_bipush (v := nI 31) dX7_rests_47 rfl (by decide) ?_
      refine g_ialdN (v := s.2.2) dX7_rests_49 rfl 2 rfl (by omega) (by decide) (rfl) ?_
      refine g_iconst (v := -1) dX7_rests_50 rfl (by decide) ?_
      refine g_icmp_ne (t := 58) dX7_rests_51 (by decide) rfl (fun h51 => ?_) (fun h51 => ?_)
      · rw [mrests, if_neg h51] at hZ
        refine g_iconst (v := nI 0) dX7_rests_58 rfl (by decide) ?_
        refine g_istore_n dX7_rests_59 rfl (by decide) rfl rfl ?_
        first | exact lp_rests60 sk hB hW hs0 hx 20 0 _ _ _ _ _ (by omega) hZ | exact lp_rests60f sk hB hW hs0 hx hZ
      · rw [mrests, if_pos h51] at hZ
        refine g_iconst (v := nI 1) dX7_rests_54 rfl (by decide) ?_
        refine g_goto (q := 59) dX7_rests_55 (by decide) ?_
        refine g_istore_n dX7_rests_59 rfl (by decide) rfl rfl ?_
        first | exact lp_rests60 sk hB hW hs0 hx 20 0 _ _ _ _ _ (by omega) hZ | exact lp_rests60f sk hB hW hs0 hx hZ
    · exact absurd h24 (by decide)
  | succ n ih =>
    intro i hi
    refine g_iload_n dX7_rests_21 rfl rfl ?_
    refine g_bipush (v := nI 6) dX7_rests_22 rfl (by decide) ?_
    refine g_icmp_geN (t := 41) dX7_rests_24 (by decide) rfl (by omega) (by omega) (fun h24 => ?_) (fun h24 => ?_)
    · exact absurd h24 (by omega)
    · skip
      refine g_aload_n dX7_rests_27 rfl rfl ?_
      refine g_get f_X7_51 dX7_rests_28 rfl 0 rfl rfl ?_
      refine g_iload_n dX7_rests_31 rfl rfl ?_
      refine g_bipush (v := nI 6) dX7_rests_32 rfl (by decide) ?_
      refine g_iastN dX7_rests_34 rfl 4 rfl (by omega) (by decide) (t6_up i tu) rfl ?_
      refine g_iinc dX7_rests_35 rfl rfl (nI_1 _) (by decide) rfl rfl ?_
      refine g_goto (q := 21) dX7_rests_38 (by decide) ?_
      exact ih (i + 1) (by omega)
set_option maxRecDepth 20000 in
theorem c_X7_rests (sk : Nat → Nat) {h mt mo md ms mn mi mz mk mw mf mr mb mu : Nat} {ty li se fAt at_ so sta sz fl ru : Int32} {iha isn : Bool} {T : Nat → Nat} {w a r : Nat → Nat} {tu fn : Nat → Int32} {s : PSt} {x : Int32} (hB : PB (T 0) (T 1) (T 4) (T 5) w a r) (hW : TWR T w a r) (hs0 : SB s.1) (hx : x = -1 ∨ ∃ j, j < T 1 ∧ x = nI j) : Ct sk yX7_rests cX7_rests 6 (some .int) 4 0 0 [oMod h mt ty mo md ms mn mi mz mk mw mf li se fAt at_ so sta sz fl iha isn ru mr mb mu, cI mo 56 (fI T), cI ms 32 (fS s), cI mn 32 fn, cI mu 6 tu] [.ref h, .int x] ((fun q w1 => q = some (.int (mrsA (mrests (T 0) (T 1) (T 4) (T 5) w a r (nI (T 2)) (nI (T 3)) s) x)) ∧ ∃ (ru2 : Int32) (fn2 tu2 : Nat → Int32), w1 = [oMod h mt ty mo md ms mn mi mz mk mw mf li se fAt at_ so sta sz fl iha isn ru2 mr mb mu, cI mo 56 (fI T), cI ms 32 (fS s), cI mn 32 fn2, cI mu 6 tu2])) := by
  have hT1 := hB.2.1
  refine Ct.of (own := RX7) (l := [some (.ref h), some (.int x), none, none, none, none]) (by decide) rfl (Nat.le_of_ble_eq_true rfl) rfl ?_
  refine g_iload_n dX7_rests_0 rfl rfl ?_
  refine g_iconst (v := -1) dX7_rests_1 rfl (by decide) ?_
  refine g_aload_n dX7_rests_2 rfl rfl ?_
  refine g_get f_X7_13 dX7_rests_3 rfl 0 rfl rfl ?_
  refine g_iconst (v := nI 1) dX7_rests_6 rfl (by decide) ?_
  refine g_ialdN (v := nI (T 1)) dX7_rests_7 rfl 1 rfl (by omega) (by decide) (rfl) ?_
  refine g_iconst (v := nI 1) dX7_rests_8 rfl (by decide) ?_
  refine g_isub dX7_rests_9 rfl rfl ?_
  refine g_callS (c_X7_in sk) m_X7_61 a_X7_in dX7_rests_10 rfl [] rfl rfl rfl rfl (by decide) (by decide) (by decide) (by decide) (Nat.le_of_ble_eq_true rfl) (fun r w hK => ?_)
  obtain ⟨rfl, rfl⟩ := hK
  refine ⟨rfl, ?_⟩
  rw [in_m1 hT1]
  dsimp only [puts, List.set, Option.toList, List.cons_append, List.nil_append, List.append_nil]
  refine g_if_neB (t := 19) dX7_rests_13 (by decide) rfl (fun h13 => ?_) (fun h13 => ?_)
  · skip
    refine g_iconst (v := nI 0) dX7_rests_19 rfl (by decide) ?_
    refine g_istore_n dX7_rests_20 rfl (by decide) rfl rfl ?_
    have h0 := lp_rests21 sk (h := h) (mt := mt) (mo := mo) (md := md) (ms := ms) (mn := mn) (mi := mi) (mz := mz) (mk := mk) (mw := mw) (mf := mf) (mr := mr) (mb := mb) (mu := mu) (ty := ty) (li := li) (se := se) (fAt := fAt) (at_ := at_) (so := so) (sta := sta) (sz := sz) (fl := fl) (ru := ru) (iha := iha) (isn := isn) (T := T) (w := w) (a := a) (r := r) (s := s) (tu := tu) (fn := fn) (x := x) hB hW hs0 hx rfl 6 0 (by decide)
    rw [show (fun j => if j < 0 then nI 6 else tu j) = tu from funext (fun j => if_neg (Nat.not_lt_zero j))] at h0
    exact h0
  · exact absurd h13 (by rcases hx with q | ⟨j, hj, q⟩; all_goals subst q; all_goals first | (rw [inR_N hj (by omega), Bool.or_true]; decide) | (rw [decide_eq_true rfl, Bool.true_or]; decide))
