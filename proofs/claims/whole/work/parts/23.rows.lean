/-! ORDER and FOR ONE of the class: Rows -/
/-- the last one may be c -/
def lastB (last : Int32) (c : Nat) : Bool := decide (last = -1) || decide (nI c = last)
/-- somebody may have the ham within m goes more and one, of n from c on -/
def hopeR (F C N S : Nat) (w a r : Nat → Nat) (last : Int32) (m : Nat) (s : PSt) : Nat → Nat → Bool
  | 0, _ => false
  | n + 1, c => (lastB last c && decide (F + lessR (w c) (m * maxR r C) s.1 F 0 ≤ a c)) || hopeR F C N S w a r last m s n (c + 1)
/-- c may go: it isn't in the set u, or anyone may -/
def okc (once : Bool) (u : Int32) (c : Nat) : Bool := !once || decide ((u >>> (nI c &&& 31)) &&& nI 1 = 0)
/-- the first of n from c on -/
def fsome (f : Nat → Option (List Nat)) : Nat → Nat → Option (List Nat)
  | 0, _ => none
  | n + 1, c => match f c with
    | some l => some l
    | none => fsome f n (c + 1)
def fE (F : Nat) (w a : Nat → Nat) (once : Bool) (last u : Int32) (s : PSt) (c : Nat) : Option (List Nat) := if okc once u c = true ∧ lastB last c = true ∧ far1 F w a false s c = F then some [c] else none
def fN (F N S : Nat) (w a r : Nat → Nat) (once : Bool) (rec : Int32 → PSt → Option (List Nat)) (u : Int32) (s : PSt) (c : Nat) : Option (List Nat) := if okc once u c = true ∧ (go1 F N S w a r false s c).2.2 = -1 then (rec (u ||| (nI 1 <<< (nI c &&& 31))) (go1 F N S w a r false s c)).map (fun l => c :: l) else none
/-- the first row of m + 1 goes more from s on, of which the last one has the ham -/
def dfs (F C N S : Nat) (w a r : Nat → Nat) (once : Bool) (last : Int32) : Nat → Int32 → PSt → Option (List Nat)
  | 0, u, s => if hopeR F C N S w a r last 0 s C 0 = true then fsome (fE F w a once last u s) C 0 else none
  | m + 1, u, s => if hopeR F C N S w a r last (m + 1) s C 0 = true then fsome (fN F N S w a r once (dfs F C N S w a r once last m) u s) C 0 else none
theorem fsome_len {f : Nat → Option (List Nat)} {k : Nat} (h : ∀ c l, f c = some l → l.length = k) : ∀ (n c : Nat) (l : List Nat), fsome f n c = some l → l.length = k
  | 0, _, _, e => by cases e
  | n + 1, c, l, e => by
    rw [fsome] at e
    cases hf : f c with
    | some l2 => rw [hf] at e; cases e; exact h c l hf
    | none => rw [hf] at e; exact fsome_len h n (c + 1) l e
theorem row_one {f : Nat → Int32} {d c : Nat} (h : f d = nI c) : ∀ l : List Nat, some [c] = some l → ∀ j, j < l.length → f (d + j) = nI (l.getD j 0) := fun l hl j hj => by
  cases hl
  have hj0 : j = 0 := by simpa using hj
  subst hj0
  exact h
theorem row_cons {f : Nat → Int32} {d c : Nat} {l0 : List Nat} (h : f d = nI c) (h2 : ∀ j, j < l0.length → f (d + 1 + j) = nI (l0.getD j 0)) : ∀ l : List Nat, some (c :: l0) = some l → ∀ j, j < l.length → f (d + j) = nI (l.getD j 0) := fun l hl j hj => by
  cases hl
  cases j with
  | zero => exact h
  | succ j =>
    have h3 := h2 j (by simpa using hj)
    rw [show d + (j + 1) = d + 1 + j by omega]
    exact h3
theorem dfs_len (F C N S : Nat) (w a r : Nat → Nat) (once : Bool) (last : Int32) : ∀ (m : Nat) (u : Int32) (s : PSt) (l : List Nat), dfs F C N S w a r once last m u s = some l → l.length = m + 1
  | 0, u, s, l, e => by
    rw [dfs] at e
    split at e
    · refine fsome_len (fun c l h => ?_) _ _ _ e
      unfold fE at h
      split at h
      · cases h; rfl
      · cases h
    · cases e
  | m + 1, u, s, l, e => by
    rw [dfs] at e
    split at e
    · refine fsome_len (fun c l h => ?_) _ _ _ e
      unfold fN at h
      split at h
      · obtain ⟨l2, h2, rfl⟩ := Option.map_eq_some_iff.mp h
        rw [List.length_cons, dfs_len F C N S w a r once last m _ _ _ h2]
      · cases h
    · cases e
set_option maxRecDepth 20000 in
theorem lp_X4_isHopeless (sk : Nat → Nat) {rh rs rr gl pd qd m ar yr yg yf pl ps pw pa pr F C N S : Nat} {last ag V E : Int32} {once af : Bool} {w a r : Nat → Nat} {z : Int32} {s : PSt} {v : Bool} (hB : PB F C N S w a r) (hs0 : SB s.1) (hml : m * maxR r C ≤ 1000) : ∀ (n c : Nat), c + n = C → hopeR F C N S w a r last m s n c = v → GG sk RX4 yX4_isHopeless cX4_isHopeless 7 (some .boolean) 2 0 0 (zD (some (.int (zb !v))) [oRows rh rs rr (nI gl) last once ar ag af yr yg yf, oPlan pl ps pw pa pr (nI F) (nI C) V E (nI N) (nI S), cI pw 6 (fI w), cI pa 6 (fI a), cI pr 6 (fI r), oPoleS pd qd s z, cI qd 30 (fI s.1)]) 0 0 11 [some (.ref rh), some (.ref pl), some (.ref pd), some (.int (nI m)), some (.int (nI (m * maxR r C))), some (.int (nI c)), none] [] [oRows rh rs rr (nI gl) last once ar ag af yr yg yf, oPlan pl ps pw pa pr (nI F) (nI C) V E (nI N) (nI S), cI pw 6 (fI w), cI pa 6 (fI a), cI pr 6 (fI r), oPoleS pd qd s z, cI qd 30 (fI s.1)] := by
  have hC6 := hB.2.1
  intro n
  induction n with
  | zero =>
    intro c hc hΨ
    refine g_iload dX4_isHopeless_11 rfl rfl ?_
    refine g_aload_n dX4_isHopeless_13 rfl rfl ?_
    refine g_get f_X4_55 dX4_isHopeless_14 rfl 1 rfl rfl ?_
    refine g_icmp_geN (t := 69) dX4_isHopeless_17 (by decide) rfl (by omega) (by omega) (fun h17 => ?_) (fun h17 => ?_)
    · skip
      refine g_iconst (v := nI 1) dX4_isHopeless_69 rfl (by decide) ?_
      exact g_zret (b := true) dX4_isHopeless_70 rfl (Nat.le_refl _) (Nat.le_refl _) (⟨by rw [← hΨ]; rfl, rfl⟩)
    · exact absurd h17 (by omega)
  | succ n ih =>
    intro c hc hΨ
    rw [hopeR] at hΨ
    refine g_iload dX4_isHopeless_11 rfl rfl ?_
    refine g_aload_n dX4_isHopeless_13 rfl rfl ?_
    refine g_get f_X4_55 dX4_isHopeless_14 rfl 1 rfl rfl ?_
    refine g_icmp_geN (t := 69) dX4_isHopeless_17 (by decide) rfl (by omega) (by omega) (fun h17 => ?_) (fun h17 => ?_)
    · exact absurd h17 (by omega)
    · skip
      refine g_aload_n dX4_isHopeless_20 rfl rfl ?_
      refine g_get f_X4_63 dX4_isHopeless_21 rfl 0 rfl rfl ?_
      refine g_iconst (v := -1) dX4_isHopeless_24 rfl (by decide) ?_
      refine g_icmp_eq (t := 37) dX4_isHopeless_25 (by decide) rfl (fun h25 => ?_) (fun h25 => ?_)
      · skip
        refine g_iconst (v := nI 1) dX4_isHopeless_37 rfl (by decide) ?_
        refine g_goto (q := 42) dX4_isHopeless_38 (by decide) ?_
        refine g_istore dX4_isHopeless_42 rfl (by decide) rfl rfl ?_
        refine g_iload dX4_isHopeless_44 rfl rfl ?_
        refine g_if_eq (t := 63) dX4_isHopeless_46 (by decide) rfl (fun h46 => ?_) (fun h46 => ?_)
        · exact absurd h46 (by decide)
        · have hlb : lastB last c = true := by unfold lastB; rw [decide_eq_true h25]; rfl
          rw [hlb, Bool.true_and] at hΨ
          refine g_aload_n dX4_isHopeless_49 rfl rfl ?_
          refine g_aload_n dX4_isHopeless_50 rfl rfl ?_
          refine g_iload dX4_isHopeless_51 rfl rfl ?_
          refine g_iload dX4_isHopeless_53 rfl rfl ?_
          refine g_callV (c_X1_mayReach sk hB.1 (show c < 6 by omega) hs0 (hB.2.2.2.2.2.2 c (by omega)).1 (hB.2.2.2.2.2.2 c (by omega)).2.1 (show m * maxR r C ≤ 1000 from hml)) m_X4_107 a_X1_mayReach dX4_isHopeless_55 rfl [5, 6, 1, 2, 3] rfl rfl 0 rfl rfl rfl (by decide) (by decide) (by decide) (by decide) (Nat.le_of_ble_eq_true rfl) (fun r w hK => ?_)
          obtain ⟨rfl, rfl⟩ := hK
          refine ⟨rfl, ?_⟩
          dsimp only [puts, List.set, Option.toList, List.cons_append, List.nil_append, List.append_nil]
          refine g_if_eqB (t := 63) dX4_isHopeless_58 (by decide) rfl (fun h58 => ?_) (fun h58 => ?_)
          · rw [h58, Bool.false_or] at hΨ
            refine g_iinc dX4_isHopeless_63 rfl rfl (nI_1 _) (by decide) rfl rfl ?_
            refine g_goto (q := 11) dX4_isHopeless_66 (by decide) ?_
            refine g_drop 6 rfl ?_
            exact ih (c + 1) (by omega) hΨ
          · rw [h58, Bool.true_or] at hΨ
            refine g_iconst (v := nI 0) dX4_isHopeless_61 rfl (by decide) ?_
            exact g_zret (b := false) dX4_isHopeless_62 rfl (Nat.le_refl _) (Nat.le_refl _) (⟨by rw [← hΨ]; rfl, rfl⟩)
      · skip
        refine g_iload dX4_isHopeless_28 rfl rfl ?_
        refine g_aload_n dX4_isHopeless_30 rfl rfl ?_
        refine g_get f_X4_63 dX4_isHopeless_31 rfl 0 rfl rfl ?_
        refine g_icmp_ne (t := 41) dX4_isHopeless_34 (by decide) rfl (fun h34 => ?_) (fun h34 => ?_)
        · skip
          refine g_iconst (v := nI 0) dX4_isHopeless_41 rfl (by decide) ?_
          refine g_istore dX4_isHopeless_42 rfl (by decide) rfl rfl ?_
          refine g_iload dX4_isHopeless_44 rfl rfl ?_
          refine g_if_eq (t := 63) dX4_isHopeless_46 (by decide) rfl (fun h46 => ?_) (fun h46 => ?_)
          · have hlb : lastB last c = false := by unfold lastB; rw [decide_eq_false h25, decide_eq_false h34]; rfl
            rw [hlb, Bool.false_and, Bool.false_or] at hΨ
            refine g_iinc dX4_isHopeless_63 rfl rfl (nI_1 _) (by decide) rfl rfl ?_
            refine g_goto (q := 11) dX4_isHopeless_66 (by decide) ?_
            refine g_drop 6 rfl ?_
            exact ih (c + 1) (by omega) hΨ
          · exact absurd h46 (by decide)
        · skip
          refine g_iconst (v := nI 1) dX4_isHopeless_37 rfl (by decide) ?_
          refine g_goto (q := 42) dX4_isHopeless_38 (by decide) ?_
          refine g_istore dX4_isHopeless_42 rfl (by decide) rfl rfl ?_
          refine g_iload dX4_isHopeless_44 rfl rfl ?_
          refine g_if_eq (t := 63) dX4_isHopeless_46 (by decide) rfl (fun h46 => ?_) (fun h46 => ?_)
          · exact absurd h46 (by decide)
          · have hlb : lastB last c = true := by unfold lastB; rw [decide_eq_true h34, Bool.or_true]
            rw [hlb, Bool.true_and] at hΨ
            refine g_aload_n dX4_isHopeless_49 rfl rfl ?_
            refine g_aload_n dX4_isHopeless_50 rfl rfl ?_
            refine g_iload dX4_isHopeless_51 rfl rfl ?_
            refine g_iload dX4_isHopeless_53 rfl rfl ?_
            refine g_callV (c_X1_mayReach sk hB.1 (show c < 6 by omega) hs0 (hB.2.2.2.2.2.2 c (by omega)).1 (hB.2.2.2.2.2.2 c (by omega)).2.1 (show m * maxR r C ≤ 1000 from hml)) m_X4_107 a_X1_mayReach dX4_isHopeless_55 rfl [5, 6, 1, 2, 3] rfl rfl 0 rfl rfl rfl (by decide) (by decide) (by decide) (by decide) (Nat.le_of_ble_eq_true rfl) (fun r w hK => ?_)
            obtain ⟨rfl, rfl⟩ := hK
            refine ⟨rfl, ?_⟩
            dsimp only [puts, List.set, Option.toList, List.cons_append, List.nil_append, List.append_nil]
            refine g_if_eqB (t := 63) dX4_isHopeless_58 (by decide) rfl (fun h58 => ?_) (fun h58 => ?_)
            · rw [h58, Bool.false_or] at hΨ
              refine g_iinc dX4_isHopeless_63 rfl rfl (nI_1 _) (by decide) rfl rfl ?_
              refine g_goto (q := 11) dX4_isHopeless_66 (by decide) ?_
              refine g_drop 6 rfl ?_
              exact ih (c + 1) (by omega) hΨ
            · rw [h58, Bool.true_or] at hΨ
              refine g_iconst (v := nI 0) dX4_isHopeless_61 rfl (by decide) ?_
              exact g_zret (b := false) dX4_isHopeless_62 rfl (Nat.le_refl _) (Nat.le_refl _) (⟨by rw [← hΨ]; rfl, rfl⟩)
set_option maxRecDepth 20000 in
theorem c_X4_isHopeless (sk : Nat → Nat) {rh rs rr gl pd qd m ar yr yg yf pl ps pw pa pr F C N S : Nat} {last ag V E : Int32} {once af : Bool} {w a r : Nat → Nat} {z : Int32} {s : PSt} (hB : PB F C N S w a r) (hs0 : SB s.1) (hm : m ≤ 5) : Ct sk yX4_isHopeless cX4_isHopeless 7 (some .boolean) 2 0 0 [oRows rh rs rr (nI gl) last once ar ag af yr yg yf, oPlan pl ps pw pa pr (nI F) (nI C) V E (nI N) (nI S), cI pw 6 (fI w), cI pa 6 (fI a), cI pr 6 (fI r), oPoleS pd qd s z, cI qd 30 (fI s.1)] [.ref rh, .ref pl, .ref pd, .int (nI m)] (zD (some (.int (zb !(hopeR F C N S w a r last m s C 0)))) [oRows rh rs rr (nI gl) last once ar ag af yr yg yf, oPlan pl ps pw pa pr (nI F) (nI C) V E (nI N) (nI S), cI pw 6 (fI w), cI pa 6 (fI a), cI pr 6 (fI r), oPoleS pd qd s z, cI qd 30 (fI s.1)]) := by
  have hmr := maxR_le (fun c hc => (hB.2.2.2.2.2.2 c hc).2.2) C (Nat.le_refl C)
  have hml : m * maxR r C ≤ 100 := Nat.le_trans (Nat.mul_le_mul hm hmr) (by decide)
  refine Ct.of (own := RX4) (l := [some (.ref rh), some (.ref pl), some (.ref pd), some (.int (nI m)), none, none, none]) (by decide) rfl (Nat.le_of_ble_eq_true rfl) rfl ?_
  refine g_iload_n dX4_isHopeless_0 rfl rfl ?_
  refine g_aload_n dX4_isHopeless_1 rfl rfl ?_
  refine g_callV (c_X0_mostRub sk hB.2.1 (fun c hc => (hB.2.2.2.2.2.2 c hc).2.2)) m_X4_103 a_X0_mostRub dX4_isHopeless_2 rfl [1, 4] rfl rfl 0 rfl rfl rfl (by decide) (by decide) (by decide) (by decide) (Nat.le_of_ble_eq_true rfl) (fun r w hK => ?_)
  obtain ⟨rfl, rfl⟩ := hK
  refine ⟨rfl, ?_⟩
  dsimp only [puts, List.set, Option.toList, List.cons_append, List.nil_append, List.append_nil]
  refine g_imul dX4_isHopeless_5 rfl (pk_mul _ _) ?_
  refine g_istore dX4_isHopeless_6 rfl (by decide) rfl rfl ?_
  refine g_iconst (v := nI 0) dX4_isHopeless_8 rfl (by decide) ?_
  refine g_istore dX4_isHopeless_9 rfl (by decide) rfl rfl ?_
  exact lp_X4_isHopeless sk hB hs0 (by omega) C 0 (by omega) rfl
set_option maxRecDepth 20000 in
theorem lpE_findFrom5 (sk : Nat → Nat) {rh rs rr gl ar yr yg yf pl ps pw pa pr F C N S : Nat} {last ag V E : Int32} {once af : Bool} {st : Nat → Option Nat} {w a r : Nat → Nat} {pt qt p5 q5 : Nat} {zt : Int32} {u : Int32} {s : PSt} {v : Option (List Nat)} {fr : Nat → Int32} (hB : PB F C N S w a r) (hs0 : SB s.1) (hst5 : st 5 = some p5) : ∀ (n c : Nat) (fr1 : Nat → Int32) (g5 o5 z5 : Int32) (f5 : Nat → Int32), c + n = C → (∀ j, j < 5 → fr1 j = fr j) → fsome (fE F w a once last u s) n c = v → GG sk RX4 yX4_findFrom cX4_findFrom 10 (some .boolean) 4 0 0 (fun q w1 => q = some (.int (zb v.isSome)) ∧ ∃ (fr2 : Nat → Int32) (g5 o5 z5 : Int32) (f5 : Nat → Int32), w1 = [oRows rh rs rr (nI gl) last once ar ag af yr yg yf, cP rs 6 st, cI rr 6 fr2, oPlan pl ps pw pa pr (nI F) (nI C) V E (nI N) (nI S), cI pw 6 (fI w), cI pa 6 (fI a), cI pr 6 (fI r), oPoleS pt qt s zt, cI qt 30 (fI s.1), oPole p5 q5 g5 o5 z5, cI q5 30 f5] ∧ (∀ j, j < 5 → fr2 j = fr j) ∧ ∀ l : List Nat, v = some l → ∀ j, j < l.length → fr2 (5 + j) = nI (l.getD j 0)) 0 0 67 [some (.ref rh), some (.ref pl), some (.ref pt), some (.int (nI 5)), some (.int u), some (.int (nI 0)), some (.int (zb true)), some (.int (nI c)), none, none] [] [oRows rh rs rr (nI gl) last once ar ag af yr yg yf, cP rs 6 st, cI rr 6 fr1, oPlan pl ps pw pa pr (nI F) (nI C) V E (nI N) (nI S), cI pw 6 (fI w), cI pa 6 (fI a), cI pr 6 (fI r), oPoleS pt qt s zt, cI qt 30 (fI s.1), oPole p5 q5 g5 o5 z5, cI q5 30 f5] := by
  have hC6 := hB.2.1
  intro n
  induction n with
  | zero =>
    intro c fr1 g5 o5 z5 f5 hc hfr hv
    rw [fsome] at hv
    subst hv
    refine g_iload dX4_findFrom_67 rfl rfl ?_
    refine g_aload_n dX4_findFrom_69 rfl rfl ?_
    refine g_get f_X4_55 dX4_findFrom_70 rfl 3 rfl rfl ?_
    refine g_icmp_geN (t := 222) dX4_findFrom_73 (by decide) rfl (by omega) (by omega) (fun h73 => ?_) (fun h73 => ?_)
    · skip
      refine g_iconst (v := nI 0) dX4_findFrom_222 rfl (by decide) ?_
      exact g_zret (b := false) dX4_findFrom_223 rfl (Nat.le_refl _) (Nat.le_refl _) (⟨rfl, _, _, _, _, _, rfl, hfr, fun l hl => by cases hl⟩)
    · exact absurd h73 (by omega)
  | succ n ih =>
    intro c fr1 g5 o5 z5 f5 hc hfr hv
    refine g_iload dX4_findFrom_67 rfl rfl ?_
    refine g_aload_n dX4_findFrom_69 rfl rfl ?_
    refine g_get f_X4_55 dX4_findFrom_70 rfl 3 rfl rfl ?_
    refine g_icmp_geN (t := 222) dX4_findFrom_73 (by decide) rfl (by omega) (by omega) (fun h73 => ?_) (fun h73 => ?_)
    · exact absurd h73 (by omega)
    · skip
      refine g_aload_n dX4_findFrom_76 rfl rfl ?_
      refine g_get f_X4_60 dX4_findFrom_77 rfl 0 rfl rfl ?_
      refine g_if_eqB (t := 93) dX4_findFrom_80 (by decide) rfl (fun h80 => ?_) (fun h80 => ?_)
      · have hok : okc once u c = true := by unfold okc; rw [h80]; rfl
        refine g_iconst (v := nI 1) dX4_findFrom_93 rfl (by decide) ?_
        refine g_goto (q := 98) dX4_findFrom_94 (by decide) ?_
        refine g_istore dX4_findFrom_98 rfl (by decide) rfl rfl ?_
        refine g_iload dX4_findFrom_100 rfl rfl ?_
        refine g_if_eq (t := 216) dX4_findFrom_102 (by decide) rfl (fun h102 => ?_) (fun h102 => ?_)
        · exact absurd h102 (by decide)
        · skip
          refine g_iload dX4_findFrom_105 rfl rfl ?_
          refine g_if_eqB (t := 130) dX4_findFrom_107 (by decide) rfl (fun h107 => ?_) (fun h107 => ?_)
          · exact absurd h107 (by decide)
          · skip
            refine g_aload_n dX4_findFrom_110 rfl rfl ?_
            refine g_get f_X4_63 dX4_findFrom_111 rfl 0 rfl rfl ?_
            refine g_iconst (v := -1) dX4_findFrom_114 rfl (by decide) ?_
            refine g_icmp_eq (t := 130) dX4_findFrom_115 (by decide) rfl (fun h115 => ?_) (fun h115 => ?_)
            · have hlb : lastB last c = true := by unfold lastB; rw [decide_eq_true h115]; rfl
              refine g_aload_n dX4_findFrom_130 rfl rfl ?_
              refine g_get f_X4_24 dX4_findFrom_131 rfl 0 rfl rfl ?_
              refine g_iload_n dX4_findFrom_134 rfl rfl ?_
              refine g_iload dX4_findFrom_135 rfl rfl ?_
              have hup : ∀ j, j < 5 → upd fr1 5 (nI c) j = fr j := fun j hj => by unfold upd; rw [if_neg (by omega)]; exact hfr j hj
              refine g_iastN dX4_findFrom_137 rfl 2 rfl (by omega) (by decide) (rfl) rfl ?_
              refine g_iload dX4_findFrom_138 rfl rfl ?_
              refine g_if_eqB (t := 161) dX4_findFrom_140 (by decide) rfl (fun h140 => ?_) (fun h140 => ?_)
              · exact absurd h140 (by decide)
              · skip
                refine g_aload_n dX4_findFrom_143 rfl rfl ?_
                refine g_aload_n dX4_findFrom_144 rfl rfl ?_
                refine g_iload dX4_findFrom_145 rfl rfl ?_
                refine g_iconst (v := nI 0) dX4_findFrom_147 rfl (by decide) ?_
                refine g_iconst (v := nI 0) dX4_findFrom_148 rfl (by decide) ?_
                refine g_callV (c_X1_reach sk (sand := false) (fr := 0) hB.1 (show c < 6 by omega) hs0 (hB.2.2.2.2.2.2 c (by omega)).1 (hB.2.2.2.2.2.2 c (by omega)).2.1 (Nat.zero_le _)) m_X4_88 a_X1_reach dX4_findFrom_149 rfl [7, 8, 3, 4, 5] rfl rfl 0 rfl rfl rfl (by decide) (by decide) (by decide) (by decide) (Nat.le_of_ble_eq_true rfl) (fun r w hK => ?_)
                obtain ⟨rfl, rfl⟩ := hK
                refine ⟨rfl, ?_⟩
                dsimp only [puts, List.set, Option.toList, List.cons_append, List.nil_append, List.append_nil]
                have hfl := far1_le F w a false s c
                rw [show farR (w c) false s.1 (F - 0) 0 (a c) = far1 F w a false s c from rfl]
                refine g_aload_n dX4_findFrom_152 rfl rfl ?_
                refine g_get f_X4_92 dX4_findFrom_153 rfl 3 rfl rfl ?_
                have hF30 := hB.1
                refine g_icmp_neN (t := 216) dX4_findFrom_156 (by decide) rfl (by omega) (by omega) (fun h156 => ?_) (fun h156 => ?_)
                · have hf : fE F w a once last u s c = none := by unfold fE; rw [if_neg (fun z => h156 z.2.2)]
                  rw [fsome, hf] at hv
                  refine g_iinc dX4_findFrom_216 rfl rfl (nI_1 _) (by decide) rfl rfl ?_
                  refine g_goto (q := 67) dX4_findFrom_219 (by decide) ?_
                  refine g_drop 8 rfl ?_
                  exact ih (c + 1) _ _ _ _ _ (by omega) (by assumption) hv
                · have hf : fE F w a once last u s c = some [c] := by unfold fE; rw [if_pos ⟨hok, hlb, h156⟩]
                  rw [fsome, hf] at hv
                  subst hv
                  refine g_iconst (v := nI 1) dX4_findFrom_159 rfl (by decide) ?_
                  exact g_zret (b := true) dX4_findFrom_160 rfl (Nat.le_refl _) (Nat.le_refl _) (⟨rfl, _, _, _, _, _, rfl, hup, row_one (if_pos rfl)⟩)
            · skip
              refine g_iload dX4_findFrom_118 rfl rfl ?_
              refine g_aload_n dX4_findFrom_120 rfl rfl ?_
              refine g_get f_X4_63 dX4_findFrom_121 rfl 0 rfl rfl ?_
              refine g_icmp_eq (t := 130) dX4_findFrom_124 (by decide) rfl (fun h124 => ?_) (fun h124 => ?_)
              · have hlb : lastB last c = true := by unfold lastB; rw [decide_eq_true h124, Bool.or_true]
                refine g_aload_n dX4_findFrom_130 rfl rfl ?_
                refine g_get f_X4_24 dX4_findFrom_131 rfl 0 rfl rfl ?_
                refine g_iload_n dX4_findFrom_134 rfl rfl ?_
                refine g_iload dX4_findFrom_135 rfl rfl ?_
                have hup : ∀ j, j < 5 → upd fr1 5 (nI c) j = fr j := fun j hj => by unfold upd; rw [if_neg (by omega)]; exact hfr j hj
                refine g_iastN dX4_findFrom_137 rfl 2 rfl (by omega) (by decide) (rfl) rfl ?_
                refine g_iload dX4_findFrom_138 rfl rfl ?_
                refine g_if_eqB (t := 161) dX4_findFrom_140 (by decide) rfl (fun h140 => ?_) (fun h140 => ?_)
                · exact absurd h140 (by decide)
                · skip
                  refine g_aload_n dX4_findFrom_143 rfl rfl ?_
                  refine g_aload_n dX4_findFrom_144 rfl rfl ?_
                  refine g_iload dX4_findFrom_145 rfl rfl ?_
                  refine g_iconst (v := nI 0) dX4_findFrom_147 rfl (by decide) ?_
                  refine g_iconst (v := nI 0) dX4_findFrom_148 rfl (by decide) ?_
                  refine g_callV (c_X1_reach sk (sand := false) (fr := 0) hB.1 (show c < 6 by omega) hs0 (hB.2.2.2.2.2.2 c (by omega)).1 (hB.2.2.2.2.2.2 c (by omega)).2.1 (Nat.zero_le _)) m_X4_88 a_X1_reach dX4_findFrom_149 rfl [7, 8, 3, 4, 5] rfl rfl 0 rfl rfl rfl (by decide) (by decide) (by decide) (by decide) (Nat.le_of_ble_eq_true rfl) (fun r w hK => ?_)
                  obtain ⟨rfl, rfl⟩ := hK
                  refine ⟨rfl, ?_⟩
                  dsimp only [puts, List.set, Option.toList, List.cons_append, List.nil_append, List.append_nil]
                  have hfl := far1_le F w a false s c
                  rw [show farR (w c) false s.1 (F - 0) 0 (a c) = far1 F w a false s c from rfl]
                  refine g_aload_n dX4_findFrom_152 rfl rfl ?_
                  refine g_get f_X4_92 dX4_findFrom_153 rfl 3 rfl rfl ?_
                  have hF30 := hB.1
                  refine g_icmp_neN (t := 216) dX4_findFrom_156 (by decide) rfl (by omega) (by omega) (fun h156 => ?_) (fun h156 => ?_)
                  · have hf : fE F w a once last u s c = none := by unfold fE; rw [if_neg (fun z => h156 z.2.2)]
                    rw [fsome, hf] at hv
                    refine g_iinc dX4_findFrom_216 rfl rfl (nI_1 _) (by decide) rfl rfl ?_
                    refine g_goto (q := 67) dX4_findFrom_219 (by decide) ?_
                    refine g_drop 8 rfl ?_
                    exact ih (c + 1) _ _ _ _ _ (by omega) (by assumption) hv
                  · have hf : fE F w a once last u s c = some [c] := by unfold fE; rw [if_pos ⟨hok, hlb, h156⟩]
                    rw [fsome, hf] at hv
                    subst hv
                    refine g_iconst (v := nI 1) dX4_findFrom_159 rfl (by decide) ?_
                    exact g_zret (b := true) dX4_findFrom_160 rfl (Nat.le_refl _) (Nat.le_refl _) (⟨rfl, _, _, _, _, _, rfl, hup, row_one (if_pos rfl)⟩)
              · have hlb : lastB last c = false := by unfold lastB; rw [decide_eq_false h115, decide_eq_false h124]; rfl
                have hf : fE F w a once last u s c = none := by unfold fE; rw [if_neg (fun z => by rw [hlb] at z; exact absurd z.2.1 (by decide))]
                rw [fsome, hf] at hv
                refine g_goto (q := 216) dX4_findFrom_127 (by decide) ?_
                refine g_iinc dX4_findFrom_216 rfl rfl (nI_1 _) (by decide) rfl rfl ?_
                refine g_goto (q := 67) dX4_findFrom_219 (by decide) ?_
                refine g_drop 8 rfl ?_
                exact ih (c + 1) _ _ _ _ _ (by omega) (by assumption) hv
      · skip
        refine g_iload dX4_findFrom_83 rfl rfl ?_
        refine g_iload dX4_findFrom_85 rfl rfl ?_
        refine g_ishr dX4_findFrom_87 rfl rfl ?_
        refine g_iconst (v := nI 1) dX4_findFrom_88 rfl (by decide) ?_
        refine g_iand dX4_findFrom_89 rfl rfl ?_
        refine g_if_ne (t := 97) dX4_findFrom_90 (by decide) rfl (fun h90 => ?_) (fun h90 => ?_)
        · have hok : okc once u c = false := by unfold okc; rw [h80, decide_eq_false h90]; rfl
          have hf : fE F w a once last u s c = none := by unfold fE; rw [if_neg (fun z => by rw [hok] at z; exact absurd z.1 (by decide))]
          rw [fsome, hf] at hv
          refine g_iconst (v := nI 0) dX4_findFrom_97 rfl (by decide) ?_
          refine g_istore dX4_findFrom_98 rfl (by decide) rfl rfl ?_
          refine g_iload dX4_findFrom_100 rfl rfl ?_
          refine g_if_eq (t := 216) dX4_findFrom_102 (by decide) rfl (fun h102 => ?_) (fun h102 => ?_)
          · skip
            refine g_iinc dX4_findFrom_216 rfl rfl (nI_1 _) (by decide) rfl rfl ?_
            refine g_goto (q := 67) dX4_findFrom_219 (by decide) ?_
            refine g_drop 8 rfl ?_
            exact ih (c + 1) _ _ _ _ _ (by omega) (by assumption) hv
          · exact absurd h102 (by decide)
        · have hok : okc once u c = true := by unfold okc; rw [h80, decide_eq_true h90]; rfl
          refine g_iconst (v := nI 1) dX4_findFrom_93 rfl (by decide) ?_
          refine g_goto (q := 98) dX4_findFrom_94 (by decide) ?_
          refine g_istore dX4_findFrom_98 rfl (by decide) rfl rfl ?_
          refine g_iload dX4_findFrom_100 rfl rfl ?_
          refine g_if_eq (t := 216) dX4_findFrom_102 (by decide) rfl (fun h102 => ?_) (fun h102 => ?_)
          · exact absurd h102 (by decide)
          · skip
            refine g_iload dX4_findFrom_105 rfl rfl ?_
            refine g_if_eqB (t := 130) dX4_findFrom_107 (by decide) rfl (fun h107 => ?_) (fun h107 => ?_)
            · exact absurd h107 (by decide)
            · skip
              refine g_aload_n dX4_findFrom_110 rfl rfl ?_
              refine g_get f_X4_63 dX4_findFrom_111 rfl 0 rfl rfl ?_
              refine g_iconst (v := -1) dX4_findFrom_114 rfl (by decide) ?_
              refine g_icmp_eq (t := 130) dX4_findFrom_115 (by decide) rfl (fun h115 => ?_) (fun h115 => ?_)
              · have hlb : lastB last c = true := by unfold lastB; rw [decide_eq_true h115]; rfl
                refine g_aload_n dX4_findFrom_130 rfl rfl ?_
                refine g_get f_X4_24 dX4_findFrom_131 rfl 0 rfl rfl ?_
                refine g_iload_n dX4_findFrom_134 rfl rfl ?_
                refine g_iload dX4_findFrom_135 rfl rfl ?_
                have hup : ∀ j, j < 5 → upd fr1 5 (nI c) j = fr j := fun j hj => by unfold upd; rw [if_neg (by omega)]; exact hfr j hj
                refine g_iastN dX4_findFrom_137 rfl 2 rfl (by omega) (by decide) (rfl) rfl ?_
                refine g_iload dX4_findFrom_138 rfl rfl ?_
                refine g_if_eqB (t := 161) dX4_findFrom_140 (by decide) rfl (fun h140 => ?_) (fun h140 => ?_)
                · exact absurd h140 (by decide)
                · skip
                  refine g_aload_n dX4_findFrom_143 rfl rfl ?_
                  refine g_aload_n dX4_findFrom_144 rfl rfl ?_
                  refine g_iload dX4_findFrom_145 rfl rfl ?_
                  refine g_iconst (v := nI 0) dX4_findFrom_147 rfl (by decide) ?_
                  refine g_iconst (v := nI 0) dX4_findFrom_148 rfl (by decide) ?_
                  refine g_callV (c_X1_reach sk (sand := false) (fr := 0) hB.1 (show c < 6 by omega) hs0 (hB.2.2.2.2.2.2 c (by omega)).1 (hB.2.2.2.2.2.2 c (by omega)).2.1 (Nat.zero_le _)) m_X4_88 a_X1_reach dX4_findFrom_149 rfl [7, 8, 3, 4, 5] rfl rfl 0 rfl rfl rfl (by decide) (by decide) (by decide) (by decide) (Nat.le_of_ble_eq_true rfl) (fun r w hK => ?_)
                  obtain ⟨rfl, rfl⟩ := hK
                  refine ⟨rfl, ?_⟩
                  dsimp only [puts, List.set, Option.toList, List.cons_append, List.nil_append, List.append_nil]
                  have hfl := far1_le F w a false s c
                  rw [show farR (w c) false s.1 (F - 0) 0 (a c) = far1 F w a false s c from rfl]
                  refine g_aload_n dX4_findFrom_152 rfl rfl ?_
                  refine g_get f_X4_92 dX4_findFrom_153 rfl 3 rfl rfl ?_
                  have hF30 := hB.1
                  refine g_icmp_neN (t := 216) dX4_findFrom_156 (by decide) rfl (by omega) (by omega) (fun h156 => ?_) (fun h156 => ?_)
                  · have hf : fE F w a once last u s c = none := by unfold fE; rw [if_neg (fun z => h156 z.2.2)]
                    rw [fsome, hf] at hv
                    refine g_iinc dX4_findFrom_216 rfl rfl (nI_1 _) (by decide) rfl rfl ?_
                    refine g_goto (q := 67) dX4_findFrom_219 (by decide) ?_
                    refine g_drop 8 rfl ?_
                    exact ih (c + 1) _ _ _ _ _ (by omega) (by assumption) hv
                  · have hf : fE F w a once last u s c = some [c] := by unfold fE; rw [if_pos ⟨hok, hlb, h156⟩]
                    rw [fsome, hf] at hv
                    subst hv
                    refine g_iconst (v := nI 1) dX4_findFrom_159 rfl (by decide) ?_
                    exact g_zret (b := true) dX4_findFrom_160 rfl (Nat.le_refl _) (Nat.le_refl _) (⟨rfl, _, _, _, _, _, rfl, hup, row_one (if_pos rfl)⟩)
              · skip
                refine g_iload dX4_findFrom_118 rfl rfl ?_
                refine g_aload_n dX4_findFrom_120 rfl rfl ?_
                refine g_get f_X4_63 dX4_findFrom_121 rfl 0 rfl rfl ?_
                refine g_icmp_eq (t := 130) dX4_findFrom_124 (by decide) rfl (fun h124 => ?_) (fun h124 => ?_)
                · have hlb : lastB last c = true := by unfold lastB; rw [decide_eq_true h124, Bool.or_true]
                  refine g_aload_n dX4_findFrom_130 rfl rfl ?_
                  refine g_get f_X4_24 dX4_findFrom_131 rfl 0 rfl rfl ?_
                  refine g_iload_n dX4_findFrom_134 rfl rfl ?_
                  refine g_iload dX4_findFrom_135 rfl rfl ?_
                  have hup : ∀ j, j < 5 → upd fr1 5 (nI c) j = fr j := fun j hj => by unfold upd; rw [if_neg (by omega)]; exact hfr j hj
                  refine g_iastN dX4_findFrom_137 rfl 2 rfl (by omega) (by decide) (rfl) rfl ?_
                  refine g_iload dX4_findFrom_138 rfl rfl ?_
                  refine g_if_eqB (t := 161) dX4_findFrom_140 (by decide) rfl (fun h140 => ?_) (fun h140 => ?_)
                  · exact absurd h140 (by decide)
                  · skip
                    refine g_aload_n dX4_findFrom_143 rfl rfl ?_
                    refine g_aload_n dX4_findFrom_144 rfl rfl ?_
                    refine g_iload dX4_findFrom_145 rfl rfl ?_
                    refine g_iconst (v := nI 0) dX4_findFrom_147 rfl (by decide) ?_
                    refine g_iconst (v := nI 0) dX4_findFrom_148 rfl (by decide) ?_
                    refine g_callV (c_X1_reach sk (sand := false) (fr := 0) hB.1 (show c < 6 by omega) hs0 (hB.2.2.2.2.2.2 c (by omega)).1 (hB.2.2.2.2.2.2 c (by omega)).2.1 (Nat.zero_le _)) m_X4_88 a_X1_reach dX4_findFrom_149 rfl [7, 8, 3, 4, 5] rfl rfl 0 rfl rfl rfl (by decide) (by decide) (by decide) (by decide) (Nat.le_of_ble_eq_true rfl) (fun r w hK => ?_)
                    obtain ⟨rfl, rfl⟩ := hK
                    refine ⟨rfl, ?_⟩
                    dsimp only [puts, List.set, Option.toList, List.cons_append, List.nil_append, List.append_nil]
                    have hfl := far1_le F w a false s c
                    rw [show farR (w c) false s.1 (F - 0) 0 (a c) = far1 F w a false s c from rfl]
                    refine g_aload_n dX4_findFrom_152 rfl rfl ?_
                    refine g_get f_X4_92 dX4_findFrom_153 rfl 3 rfl rfl ?_
                    have hF30 := hB.1
                    refine g_icmp_neN (t := 216) dX4_findFrom_156 (by decide) rfl (by omega) (by omega) (fun h156 => ?_) (fun h156 => ?_)
                    · have hf : fE F w a once last u s c = none := by unfold fE; rw [if_neg (fun z => h156 z.2.2)]
                      rw [fsome, hf] at hv
                      refine g_iinc dX4_findFrom_216 rfl rfl (nI_1 _) (by decide) rfl rfl ?_
                      refine g_goto (q := 67) dX4_findFrom_219 (by decide) ?_
                      refine g_drop 8 rfl ?_
                      exact ih (c + 1) _ _ _ _ _ (by omega) (by assumption) hv
                    · have hf : fE F w a once last u s c = some [c] := by unfold fE; rw [if_pos ⟨hok, hlb, h156⟩]
                      rw [fsome, hf] at hv
                      subst hv
                      refine g_iconst (v := nI 1) dX4_findFrom_159 rfl (by decide) ?_
                      exact g_zret (b := true) dX4_findFrom_160 rfl (Nat.le_refl _) (Nat.le_refl _) (⟨rfl, _, _, _, _, _, rfl, hup, row_one (if_pos rfl)⟩)
                · have hlb : lastB last c = false := by unfold lastB; rw [decide_eq_false h115, decide_eq_false h124]; rfl
                  have hf : fE F w a once last u s c = none := by unfold fE; rw [if_neg (fun z => by rw [hlb] at z; exact absurd z.2.1 (by decide))]
                  rw [fsome, hf] at hv
                  refine g_goto (q := 216) dX4_findFrom_127 (by decide) ?_
                  refine g_iinc dX4_findFrom_216 rfl rfl (nI_1 _) (by decide) rfl rfl ?_
                  refine g_goto (q := 67) dX4_findFrom_219 (by decide) ?_
                  refine g_drop 8 rfl ?_
                  exact ih (c + 1) _ _ _ _ _ (by omega) (by assumption) hv
set_option maxRecDepth 20000 in
theorem c_findFrom5 (sk : Nat → Nat) {rh rs rr gl ar yr yg yf pl ps pw pa pr F C N S : Nat} {last ag V E : Int32} {once af : Bool} {st : Nat → Option Nat} {w a r : Nat → Nat} {pt qt p5 q5 : Nat} {zt : Int32} {u : Int32} {s : PSt} {m : Nat} {fr : Nat → Int32} {g5 o5 z5 : Int32} {f5 : Nat → Int32} (hB : PB F C N S w a r) (hm : m + 5 ≤ 5) (hgl : gl = 5 + m + 1) (hs0 : SB s.1) (hst5 : st 5 = some p5) : Ct sk yX4_findFrom cX4_findFrom 10 (some .boolean) 4 0 0 [oRows rh rs rr (nI gl) last once ar ag af yr yg yf, cP rs 6 st, cI rr 6 fr, oPlan pl ps pw pa pr (nI F) (nI C) V E (nI N) (nI S), cI pw 6 (fI w), cI pa 6 (fI a), cI pr 6 (fI r), oPoleS pt qt s zt, cI qt 30 (fI s.1), oPole p5 q5 g5 o5 z5, cI q5 30 f5] [.ref rh, .ref pl, .ref pt, .int (nI 5), .int u] (fun q w1 => q = some (.int (zb (dfs F C N S w a r once last m u s).isSome)) ∧ ∃ (fr2 : Nat → Int32) (g5 o5 z5 : Int32) (f5 : Nat → Int32), w1 = [oRows rh rs rr (nI gl) last once ar ag af yr yg yf, cP rs 6 st, cI rr 6 fr2, oPlan pl ps pw pa pr (nI F) (nI C) V E (nI N) (nI S), cI pw 6 (fI w), cI pa 6 (fI a), cI pr 6 (fI r), oPoleS pt qt s zt, cI qt 30 (fI s.1), oPole p5 q5 g5 o5 z5, cI q5 30 f5] ∧ (∀ j, j < 5 → fr2 j = fr j) ∧ ∀ l : List Nat, dfs F C N S w a r once last m u s = some l → ∀ j, j < l.length → fr2 (5 + j) = nI (l.getD j 0)) := by
  refine Ct.of (own := RX4) (l := [some (.ref rh), some (.ref pl), some (.ref pt), some (.int (nI 5)), some (.int u), none, none, none, none, none]) (by decide) rfl (Nat.le_of_ble_eq_true rfl) rfl ?_
  refine g_aload_n dX4_findFrom_0 rfl rfl ?_
  refine g_get f_X4_77 dX4_findFrom_1 rfl 0 rfl rfl ?_
  refine g_iconst (v := nI 1) dX4_findFrom_4 rfl (by decide) ?_
  refine g_isub dX4_findFrom_5 rfl (pk_sub (by omega)) ?_
  refine g_iload_n dX4_findFrom_6 rfl rfl ?_
  refine g_isub (v := nI m) dX4_findFrom_7 rfl (by rw [pk_sub (by omega), show gl - 1 - 5 = m by omega]) ?_
  refine g_istore dX4_findFrom_8 rfl (by decide) rfl rfl ?_
  refine g_iload dX4_findFrom_10 rfl rfl ?_
  refine g_if_lt (t := 37) dX4_findFrom_12 (by decide) rfl (fun h12 => ?_) (fun h12 => ?_)
  · exact absurd h12 (nI_nlt0 (by omega))
  · skip
    refine g_iload_n dX4_findFrom_15 rfl rfl ?_
    refine g_if_lt (t := 37) dX4_findFrom_16 (by decide) rfl (fun h16 => ?_) (fun h16 => ?_)
    · exact absurd h16 (nI_nlt0 (by omega))
    · skip
      refine g_iload_n dX4_findFrom_19 rfl rfl ?_
      refine g_aload_n dX4_findFrom_20 rfl rfl ?_
      refine g_get f_X4_24 dX4_findFrom_21 rfl 0 rfl rfl ?_
      refine g_alen dX4_findFrom_24 rfl 2 rfl (Nat.le_of_ble_eq_true rfl) rfl ?_
      refine g_icmp_geN (t := 37) dX4_findFrom_25 (by decide) rfl (by omega) (by omega) (fun h25 => ?_) (fun h25 => ?_)
      · exact absurd h25 (by omega)
      · skip
        refine g_iload_n dX4_findFrom_28 rfl rfl ?_
        refine g_aload_n dX4_findFrom_29 rfl rfl ?_
        refine g_get f_X4_17 dX4_findFrom_30 rfl 0 rfl rfl ?_
        refine g_alen dX4_findFrom_33 rfl 1 rfl (Nat.le_of_ble_eq_true rfl) rfl ?_
        refine g_icmp_ltN (t := 39) dX4_findFrom_34 (by decide) rfl (by omega) (by omega) (fun h34 => ?_) (fun h34 => ?_)
        · skip
          refine g_aload_n dX4_findFrom_39 rfl rfl ?_
          refine g_aload_n dX4_findFrom_40 rfl rfl ?_
          refine g_aload_n dX4_findFrom_41 rfl rfl ?_
          refine g_iload dX4_findFrom_42 rfl rfl ?_
          refine g_callV (c_X4_isHopeless sk (m := m) hB hs0 (by omega)) m_X4_84 a_X4_isHopeless dX4_findFrom_44 rfl [0, 3, 4, 5, 6, 7, 8] rfl rfl 0 rfl rfl rfl (by decide) (by decide) (by decide) (by decide) (Nat.le_of_ble_eq_true rfl) (fun r w hK => ?_)
          obtain ⟨rfl, rfl⟩ := hK
          refine ⟨rfl, ?_⟩
          dsimp only [puts, List.set, Option.toList, List.cons_append, List.nil_append, List.append_nil]
          refine g_if_eqB (t := 52) dX4_findFrom_47 (by decide) rfl (fun h47 => ?_) (fun h47 => ?_)
          · have hh : hopeR F C N S w a r last m s C 0 = true := by simpa using h47
            refine g_iload dX4_findFrom_52 rfl rfl ?_
            refine g_if_ne (t := 61) dX4_findFrom_54 (by decide) rfl (fun h54 => ?_) (fun h54 => ?_)
            · exact absurd (congrArg nI (show m = 0 by omega) : nI m = nI 0) h54
            · have hm0 : m = 0 := (nI_eq (by omega) (by omega)).mp (h54 : nI m = nI 0)
              refine g_iconst (v := nI 1) dX4_findFrom_57 rfl (by decide) ?_
              refine g_goto (q := 62) dX4_findFrom_58 (by decide) ?_
              refine g_istore dX4_findFrom_62 rfl (by decide) rfl rfl ?_
              refine g_iconst (v := nI 0) dX4_findFrom_64 rfl (by decide) ?_
              refine g_istore dX4_findFrom_65 rfl (by decide) rfl rfl ?_
              generalize hD : dfs F C N S w a r once last m u s = v
              subst hm0
              rw [dfs, if_pos hh] at hD
              exact lpE_findFrom5 sk hB hs0 hst5 C 0 fr _ _ _ _ (by omega) (fun _ _ => rfl) hD
          · have hh : ¬ hopeR F C N S w a r last m s C 0 = true := by simpa using h47
            have hD : dfs F C N S w a r once last m u s = none := by cases m <;> rw [dfs, if_neg hh]
            refine g_iconst (v := nI 0) dX4_findFrom_50 rfl (by decide) ?_
            exact g_zret (b := false) dX4_findFrom_51 rfl (Nat.le_refl _) (Nat.le_refl _) (⟨by rw [hD]; rfl, _, _, _, _, _, rfl, fun _ _ => rfl, fun l hl => by rw [hD] at hl; cases hl⟩)
        · exact absurd h34 (by omega)
set_option maxRecDepth 20000 in
theorem lpE_findFrom4 (sk : Nat → Nat) {rh rs rr gl ar yr yg yf pl ps pw pa pr F C N S : Nat} {last ag V E : Int32} {once af : Bool} {st : Nat → Option Nat} {w a r : Nat → Nat} {pt qt p4 q4 p5 q5 : Nat} {zt : Int32} {u : Int32} {s : PSt} {v : Option (List Nat)} {fr : Nat → Int32} (hB : PB F C N S w a r) (hs0 : SB s.1) (hst4 : st 4 = some p4) (hst5 : st 5 = some p5) : ∀ (n c : Nat) (fr1 : Nat → Int32) (g4 o4 z4 g5 o5 z5 : Int32) (f4 f5 : Nat → Int32), c + n = C → (∀ j, j < 4 → fr1 j = fr j) → fsome (fE F w a once last u s) n c = v → GG sk RX4 yX4_findFrom cX4_findFrom 10 (some .boolean) 5 0 0 (fun q w1 => q = some (.int (zb v.isSome)) ∧ ∃ (fr2 : Nat → Int32) (g4 o4 z4 g5 o5 z5 : Int32) (f4 f5 : Nat → Int32), w1 = [oRows rh rs rr (nI gl) last once ar ag af yr yg yf, cP rs 6 st, cI rr 6 fr2, oPlan pl ps pw pa pr (nI F) (nI C) V E (nI N) (nI S), cI pw 6 (fI w), cI pa 6 (fI a), cI pr 6 (fI r), oPoleS pt qt s zt, cI qt 30 (fI s.1), oPole p4 q4 g4 o4 z4, cI q4 30 f4, oPole p5 q5 g5 o5 z5, cI q5 30 f5] ∧ (∀ j, j < 4 → fr2 j = fr j) ∧ ∀ l : List Nat, v = some l → ∀ j, j < l.length → fr2 (4 + j) = nI (l.getD j 0)) 0 0 67 [some (.ref rh), some (.ref pl), some (.ref pt), some (.int (nI 4)), some (.int u), some (.int (nI 0)), some (.int (zb true)), some (.int (nI c)), none, none] [] [oRows rh rs rr (nI gl) last once ar ag af yr yg yf, cP rs 6 st, cI rr 6 fr1, oPlan pl ps pw pa pr (nI F) (nI C) V E (nI N) (nI S), cI pw 6 (fI w), cI pa 6 (fI a), cI pr 6 (fI r), oPoleS pt qt s zt, cI qt 30 (fI s.1), oPole p4 q4 g4 o4 z4, cI q4 30 f4, oPole p5 q5 g5 o5 z5, cI q5 30 f5] := by
  have hC6 := hB.2.1
  intro n
  induction n with
  | zero =>
    intro c fr1 g4 o4 z4 g5 o5 z5 f4 f5 hc hfr hv
    rw [fsome] at hv
    subst hv
    refine g_iload dX4_findFrom_67 rfl rfl ?_
    refine g_aload_n dX4_findFrom_69 rfl rfl ?_
    refine g_get f_X4_55 dX4_findFrom_70 rfl 3 rfl rfl ?_
    refine g_icmp_geN (t := 222) dX4_findFrom_73 (by decide) rfl (by omega) (by omega) (fun h73 => ?_) (fun h73 => ?_)
    · skip
      refine g_iconst (v := nI 0) dX4_findFrom_222 rfl (by decide) ?_
      exact g_zret (b := false) dX4_findFrom_223 rfl (Nat.le_refl _) (Nat.le_refl _) (⟨rfl, _, _, _, _, _, _, _, _, _, rfl, hfr, fun l hl => by cases hl⟩)
    · exact absurd h73 (by omega)
  | succ n ih =>
    intro c fr1 g4 o4 z4 g5 o5 z5 f4 f5 hc hfr hv
    refine g_iload dX4_findFrom_67 rfl rfl ?_
    refine g_aload_n dX4_findFrom_69 rfl rfl ?_
    refine g_get f_X4_55 dX4_findFrom_70 rfl 3 rfl rfl ?_
    refine g_icmp_geN (t := 222) dX4_findFrom_73 (by decide) rfl (by omega) (by omega) (fun h73 => ?_) (fun h73 => ?_)
    · exact absurd h73 (by omega)
    · skip
      refine g_aload_n dX4_findFrom_76 rfl rfl ?_
      refine g_get f_X4_60 dX4_findFrom_77 rfl 0 rfl rfl ?_
      refine g_if_eqB (t := 93) dX4_findFrom_80 (by decide) rfl (fun h80 => ?_) (fun h80 => ?_)
      · have hok : okc once u c = true := by unfold okc; rw [h80]; rfl
        refine g_iconst (v := nI 1) dX4_findFrom_93 rfl (by decide) ?_
        refine g_goto (q := 98) dX4_findFrom_94 (by decide) ?_
        refine g_istore dX4_findFrom_98 rfl (by decide) rfl rfl ?_
        refine g_iload dX4_findFrom_100 rfl rfl ?_
        refine g_if_eq (t := 216) dX4_findFrom_102 (by decide) rfl (fun h102 => ?_) (fun h102 => ?_)
        · exact absurd h102 (by decide)
        · skip
          refine g_iload dX4_findFrom_105 rfl rfl ?_
          refine g_if_eqB (t := 130) dX4_findFrom_107 (by decide) rfl (fun h107 => ?_) (fun h107 => ?_)
          · exact absurd h107 (by decide)
          · skip
            refine g_aload_n dX4_findFrom_110 rfl rfl ?_
            refine g_get f_X4_63 dX4_findFrom_111 rfl 0 rfl rfl ?_
            refine g_iconst (v := -1) dX4_findFrom_114 rfl (by decide) ?_
            refine g_icmp_eq (t := 130) dX4_findFrom_115 (by decide) rfl (fun h115 => ?_) (fun h115 => ?_)
            · have hlb : lastB last c = true := by unfold lastB; rw [decide_eq_true h115]; rfl
              refine g_aload_n dX4_findFrom_130 rfl rfl ?_
              refine g_get f_X4_24 dX4_findFrom_131 rfl 0 rfl rfl ?_
              refine g_iload_n dX4_findFrom_134 rfl rfl ?_
              refine g_iload dX4_findFrom_135 rfl rfl ?_
              have hup : ∀ j, j < 4 → upd fr1 4 (nI c) j = fr j := fun j hj => by unfold upd; rw [if_neg (by omega)]; exact hfr j hj
              refine g_iastN dX4_findFrom_137 rfl 2 rfl (by omega) (by decide) (rfl) rfl ?_
              refine g_iload dX4_findFrom_138 rfl rfl ?_
              refine g_if_eqB (t := 161) dX4_findFrom_140 (by decide) rfl (fun h140 => ?_) (fun h140 => ?_)
              · exact absurd h140 (by decide)
              · skip
                refine g_aload_n dX4_findFrom_143 rfl rfl ?_
                refine g_aload_n dX4_findFrom_144 rfl rfl ?_
                refine g_iload dX4_findFrom_145 rfl rfl ?_
                refine g_iconst (v := nI 0) dX4_findFrom_147 rfl (by decide) ?_
                refine g_iconst (v := nI 0) dX4_findFrom_148 rfl (by decide) ?_
                refine g_callV (c_X1_reach sk (sand := false) (fr := 0) hB.1 (show c < 6 by omega) hs0 (hB.2.2.2.2.2.2 c (by omega)).1 (hB.2.2.2.2.2.2 c (by omega)).2.1 (Nat.zero_le _)) m_X4_88 a_X1_reach dX4_findFrom_149 rfl [7, 8, 3, 4, 5] rfl rfl 0 rfl rfl rfl (by decide) (by decide) (by decide) (by decide) (Nat.le_of_ble_eq_true rfl) (fun r w hK => ?_)
                obtain ⟨rfl, rfl⟩ := hK
                refine ⟨rfl, ?_⟩
                dsimp only [puts, List.set, Option.toList, List.cons_append, List.nil_append, List.append_nil]
                have hfl := far1_le F w a false s c
                rw [show farR (w c) false s.1 (F - 0) 0 (a c) = far1 F w a false s c from rfl]
                refine g_aload_n dX4_findFrom_152 rfl rfl ?_
                refine g_get f_X4_92 dX4_findFrom_153 rfl 3 rfl rfl ?_
                have hF30 := hB.1
                refine g_icmp_neN (t := 216) dX4_findFrom_156 (by decide) rfl (by omega) (by omega) (fun h156 => ?_) (fun h156 => ?_)
                · have hf : fE F w a once last u s c = none := by unfold fE; rw [if_neg (fun z => h156 z.2.2)]
                  rw [fsome, hf] at hv
                  refine g_iinc dX4_findFrom_216 rfl rfl (nI_1 _) (by decide) rfl rfl ?_
                  refine g_goto (q := 67) dX4_findFrom_219 (by decide) ?_
                  refine g_drop 8 rfl ?_
                  exact ih (c + 1) _ _ _ _ _ _ _ _ _ (by omega) (by assumption) hv
                · have hf : fE F w a once last u s c = some [c] := by unfold fE; rw [if_pos ⟨hok, hlb, h156⟩]
                  rw [fsome, hf] at hv
                  subst hv
                  refine g_iconst (v := nI 1) dX4_findFrom_159 rfl (by decide) ?_
                  exact g_zret (b := true) dX4_findFrom_160 rfl (Nat.le_refl _) (Nat.le_refl _) (⟨rfl, _, _, _, _, _, _, _, _, _, rfl, hup, row_one (if_pos rfl)⟩)
            · skip
              refine g_iload dX4_findFrom_118 rfl rfl ?_
              refine g_aload_n dX4_findFrom_120 rfl rfl ?_
              refine g_get f_X4_63 dX4_findFrom_121 rfl 0 rfl rfl ?_
              refine g_icmp_eq (t := 130) dX4_findFrom_124 (by decide) rfl (fun h124 => ?_) (fun h124 => ?_)
              · have hlb : lastB last c = true := by unfold lastB; rw [decide_eq_true h124, Bool.or_true]
                refine g_aload_n dX4_findFrom_130 rfl rfl ?_
                refine g_get f_X4_24 dX4_findFrom_131 rfl 0 rfl rfl ?_
                refine g_iload_n dX4_findFrom_134 rfl rfl ?_
                refine g_iload dX4_findFrom_135 rfl rfl ?_
                have hup : ∀ j, j < 4 → upd fr1 4 (nI c) j = fr j := fun j hj => by unfold upd; rw [if_neg (by omega)]; exact hfr j hj
                refine g_iastN dX4_findFrom_137 rfl 2 rfl (by omega) (by decide) (rfl) rfl ?_
                refine g_iload dX4_findFrom_138 rfl rfl ?_
                refine g_if_eqB (t := 161) dX4_findFrom_140 (by decide) rfl (fun h140 => ?_) (fun h140 => ?_)
                · exact absurd h140 (by decide)
                · skip
                  refine g_aload_n dX4_findFrom_143 rfl rfl ?_
                  refine g_aload_n dX4_findFrom_144 rfl rfl ?_
                  refine g_iload dX4_findFrom_145 rfl rfl ?_
                  refine g_iconst (v := nI 0) dX4_findFrom_147 rfl (by decide) ?_
                  refine g_iconst (v := nI 0) dX4_findFrom_148 rfl (by decide) ?_
                  refine g_callV (c_X1_reach sk (sand := false) (fr := 0) hB.1 (show c < 6 by omega) hs0 (hB.2.2.2.2.2.2 c (by omega)).1 (hB.2.2.2.2.2.2 c (by omega)).2.1 (Nat.zero_le _)) m_X4_88 a_X1_reach dX4_findFrom_149 rfl [7, 8, 3, 4, 5] rfl rfl 0 rfl rfl rfl (by decide) (by decide) (by decide) (by decide) (Nat.le_of_ble_eq_true rfl) (fun r w hK => ?_)
                  obtain ⟨rfl, rfl⟩ := hK
                  refine ⟨rfl, ?_⟩
                  dsimp only [puts, List.set, Option.toList, List.cons_append, List.nil_append, List.append_nil]
                  have hfl := far1_le F w a false s c
                  rw [show farR (w c) false s.1 (F - 0) 0 (a c) = far1 F w a false s c from rfl]
                  refine g_aload_n dX4_findFrom_152 rfl rfl ?_
                  refine g_get f_X4_92 dX4_findFrom_153 rfl 3 rfl rfl ?_
                  have hF30 := hB.1
                  refine g_icmp_neN (t := 216) dX4_findFrom_156 (by decide) rfl (by omega) (by omega) (fun h156 => ?_) (fun h156 => ?_)
                  · have hf : fE F w a once last u s c = none := by unfold fE; rw [if_neg (fun z => h156 z.2.2)]
                    rw [fsome, hf] at hv
                    refine g_iinc dX4_findFrom_216 rfl rfl (nI_1 _) (by decide) rfl rfl ?_
                    refine g_goto (q := 67) dX4_findFrom_219 (by decide) ?_
                    refine g_drop 8 rfl ?_
                    exact ih (c + 1) _ _ _ _ _ _ _ _ _ (by omega) (by assumption) hv
                  · have hf : fE F w a once last u s c = some [c] := by unfold fE; rw [if_pos ⟨hok, hlb, h156⟩]
                    rw [fsome, hf] at hv
                    subst hv
                    refine g_iconst (v := nI 1) dX4_findFrom_159 rfl (by decide) ?_
                    exact g_zret (b := true) dX4_findFrom_160 rfl (Nat.le_refl _) (Nat.le_refl _) (⟨rfl, _, _, _, _, _, _, _, _, _, rfl, hup, row_one (if_pos rfl)⟩)
              · have hlb : lastB last c = false := by unfold lastB; rw [decide_eq_false h115, decide_eq_false h124]; rfl
                have hf : fE F w a once last u s c = none := by unfold fE; rw [if_neg (fun z => by rw [hlb] at z; exact absurd z.2.1 (by decide))]
                rw [fsome, hf] at hv
                refine g_goto (q := 216) dX4_findFrom_127 (by decide) ?_
                refine g_iinc dX4_findFrom_216 rfl rfl (nI_1 _) (by decide) rfl rfl ?_
                refine g_goto (q := 67) dX4_findFrom_219 (by decide) ?_
                refine g_drop 8 rfl ?_
                exact ih (c + 1) _ _ _ _ _ _ _ _ _ (by omega) (by assumption) hv
      · skip
        refine g_iload dX4_findFrom_83 rfl rfl ?_
        refine g_iload dX4_findFrom_85 rfl rfl ?_
        refine g_ishr dX4_findFrom_87 rfl rfl ?_
        refine g_iconst (v := nI 1) dX4_findFrom_88 rfl (by decide) ?_
        refine g_iand dX4_findFrom_89 rfl rfl ?_
        refine g_if_ne (t := 97) dX4_findFrom_90 (by decide) rfl (fun h90 => ?_) (fun h90 => ?_)
        · have hok : okc once u c = false := by unfold okc; rw [h80, decide_eq_false h90]; rfl
          have hf : fE F w a once last u s c = none := by unfold fE; rw [if_neg (fun z => by rw [hok] at z; exact absurd z.1 (by decide))]
          rw [fsome, hf] at hv
          refine g_iconst (v := nI 0) dX4_findFrom_97 rfl (by decide) ?_
          refine g_istore dX4_findFrom_98 rfl (by decide) rfl rfl ?_
          refine g_iload dX4_findFrom_100 rfl rfl ?_
          refine g_if_eq (t := 216) dX4_findFrom_102 (by decide) rfl (fun h102 => ?_) (fun h102 => ?_)
          · skip
            refine g_iinc dX4_findFrom_216 rfl rfl (nI_1 _) (by decide) rfl rfl ?_
            refine g_goto (q := 67) dX4_findFrom_219 (by decide) ?_
            refine g_drop 8 rfl ?_
            exact ih (c + 1) _ _ _ _ _ _ _ _ _ (by omega) (by assumption) hv
          · exact absurd h102 (by decide)
        · have hok : okc once u c = true := by unfold okc; rw [h80, decide_eq_true h90]; rfl
          refine g_iconst (v := nI 1) dX4_findFrom_93 rfl (by decide) ?_
          refine g_goto (q := 98) dX4_findFrom_94 (by decide) ?_
          refine g_istore dX4_findFrom_98 rfl (by decide) rfl rfl ?_
          refine g_iload dX4_findFrom_100 rfl rfl ?_
          refine g_if_eq (t := 216) dX4_findFrom_102 (by decide) rfl (fun h102 => ?_) (fun h102 => ?_)
          · exact absurd h102 (by decide)
          · skip
            refine g_iload dX4_findFrom_105 rfl rfl ?_
            refine g_if_eqB (t := 130) dX4_findFrom_107 (by decide) rfl (fun h107 => ?_) (fun h107 => ?_)
            · exact absurd h107 (by decide)
            · skip
              refine g_aload_n dX4_findFrom_110 rfl rfl ?_
              refine g_get f_X4_63 dX4_findFrom_111 rfl 0 rfl rfl ?_
              refine g_iconst (v := -1) dX4_findFrom_114 rfl (by decide) ?_
              refine g_icmp_eq (t := 130) dX4_findFrom_115 (by decide) rfl (fun h115 => ?_) (fun h115 => ?_)
              · have hlb : lastB last c = true := by unfold lastB; rw [decide_eq_true h115]; rfl
                refine g_aload_n dX4_findFrom_130 rfl rfl ?_
                refine g_get f_X4_24 dX4_findFrom_131 rfl 0 rfl rfl ?_
                refine g_iload_n dX4_findFrom_134 rfl rfl ?_
                refine g_iload dX4_findFrom_135 rfl rfl ?_
                have hup : ∀ j, j < 4 → upd fr1 4 (nI c) j = fr j := fun j hj => by unfold upd; rw [if_neg (by omega)]; exact hfr j hj
                refine g_iastN dX4_findFrom_137 rfl 2 rfl (by omega) (by decide) (rfl) rfl ?_
                refine g_iload dX4_findFrom_138 rfl rfl ?_
                refine g_if_eqB (t := 161) dX4_findFrom_140 (by decide) rfl (fun h140 => ?_) (fun h140 => ?_)
                · exact absurd h140 (by decide)
                · skip
                  refine g_aload_n dX4_findFrom_143 rfl rfl ?_
                  refine g_aload_n dX4_findFrom_144 rfl rfl ?_
                  refine g_iload dX4_findFrom_145 rfl rfl ?_
                  refine g_iconst (v := nI 0) dX4_findFrom_147 rfl (by decide) ?_
                  refine g_iconst (v := nI 0) dX4_findFrom_148 rfl (by decide) ?_
                  refine g_callV (c_X1_reach sk (sand := false) (fr := 0) hB.1 (show c < 6 by omega) hs0 (hB.2.2.2.2.2.2 c (by omega)).1 (hB.2.2.2.2.2.2 c (by omega)).2.1 (Nat.zero_le _)) m_X4_88 a_X1_reach dX4_findFrom_149 rfl [7, 8, 3, 4, 5] rfl rfl 0 rfl rfl rfl (by decide) (by decide) (by decide) (by decide) (Nat.le_of_ble_eq_true rfl) (fun r w hK => ?_)
                  obtain ⟨rfl, rfl⟩ := hK
                  refine ⟨rfl, ?_⟩
                  dsimp only [puts, List.set, Option.toList, List.cons_append, List.nil_append, List.append_nil]
                  have hfl := far1_le F w a false s c
                  rw [show farR (w c) false s.1 (F - 0) 0 (a c) = far1 F w a false s c from rfl]
                  refine g_aload_n dX4_findFrom_152 rfl rfl ?_
                  refine g_get f_X4_92 dX4_findFrom_153 rfl 3 rfl rfl ?_
                  have hF30 := hB.1
                  refine g_icmp_neN (t := 216) dX4_findFrom_156 (by decide) rfl (by omega) (by omega) (fun h156 => ?_) (fun h156 => ?_)
                  · have hf : fE F w a once last u s c = none := by unfold fE; rw [if_neg (fun z => h156 z.2.2)]
                    rw [fsome, hf] at hv
                    refine g_iinc dX4_findFrom_216 rfl rfl (nI_1 _) (by decide) rfl rfl ?_
                    refine g_goto (q := 67) dX4_findFrom_219 (by decide) ?_
                    refine g_drop 8 rfl ?_
                    exact ih (c + 1) _ _ _ _ _ _ _ _ _ (by omega) (by assumption) hv
                  · have hf : fE F w a once last u s c = some [c] := by unfold fE; rw [if_pos ⟨hok, hlb, h156⟩]
                    rw [fsome, hf] at hv
                    subst hv
                    refine g_iconst (v := nI 1) dX4_findFrom_159 rfl (by decide) ?_
                    exact g_zret (b := true) dX4_findFrom_160 rfl (Nat.le_refl _) (Nat.le_refl _) (⟨rfl, _, _, _, _, _, _, _, _, _, rfl, hup, row_one (if_pos rfl)⟩)
              · skip
                refine g_iload dX4_findFrom_118 rfl rfl ?_
                refine g_aload_n dX4_findFrom_120 rfl rfl ?_
                refine g_get f_X4_63 dX4_findFrom_121 rfl 0 rfl rfl ?_
                refine g_icmp_eq (t := 130) dX4_findFrom_124 (by decide) rfl (fun h124 => ?_) (fun h124 => ?_)
                · have hlb : lastB last c = true := by unfold lastB; rw [decide_eq_true h124, Bool.or_true]
                  refine g_aload_n dX4_findFrom_130 rfl rfl ?_
                  refine g_get f_X4_24 dX4_findFrom_131 rfl 0 rfl rfl ?_
                  refine g_iload_n dX4_findFrom_134 rfl rfl ?_
                  refine g_iload dX4_findFrom_135 rfl rfl ?_
                  have hup : ∀ j, j < 4 → upd fr1 4 (nI c) j = fr j := fun j hj => by unfold upd; rw [if_neg (by omega)]; exact hfr j hj
                  refine g_iastN dX4_findFrom_137 rfl 2 rfl (by omega) (by decide) (rfl) rfl ?_
                  refine g_iload dX4_findFrom_138 rfl rfl ?_
                  refine g_if_eqB (t := 161) dX4_findFrom_140 (by decide) rfl (fun h140 => ?_) (fun h140 => ?_)
                  · exact absurd h140 (by decide)
                  · skip
                    refine g_aload_n dX4_findFrom_143 rfl rfl ?_
                    refine g_aload_n dX4_findFrom_144 rfl rfl ?_
                    refine g_iload dX4_findFrom_145 rfl rfl ?_
                    refine g_iconst (v := nI 0) dX4_findFrom_147 rfl (by decide) ?_
                    refine g_iconst (v := nI 0) dX4_findFrom_148 rfl (by decide) ?_
                    refine g_callV (c_X1_reach sk (sand := false) (fr := 0) hB.1 (show c < 6 by omega) hs0 (hB.2.2.2.2.2.2 c (by omega)).1 (hB.2.2.2.2.2.2 c (by omega)).2.1 (Nat.zero_le _)) m_X4_88 a_X1_reach dX4_findFrom_149 rfl [7, 8, 3, 4, 5] rfl rfl 0 rfl rfl rfl (by decide) (by decide) (by decide) (by decide) (Nat.le_of_ble_eq_true rfl) (fun r w hK => ?_)
                    obtain ⟨rfl, rfl⟩ := hK
                    refine ⟨rfl, ?_⟩
                    dsimp only [puts, List.set, Option.toList, List.cons_append, List.nil_append, List.append_nil]
                    have hfl := far1_le F w a false s c
                    rw [show farR (w c) false s.1 (F - 0) 0 (a c) = far1 F w a false s c from rfl]
                    refine g_aload_n dX4_findFrom_152 rfl rfl ?_
                    refine g_get f_X4_92 dX4_findFrom_153 rfl 3 rfl rfl ?_
                    have hF30 := hB.1
                    refine g_icmp_neN (t := 216) dX4_findFrom_156 (by decide) rfl (by omega) (by omega) (fun h156 => ?_) (fun h156 => ?_)
                    · have hf : fE F w a once last u s c = none := by unfold fE; rw [if_neg (fun z => h156 z.2.2)]
                      rw [fsome, hf] at hv
                      refine g_iinc dX4_findFrom_216 rfl rfl (nI_1 _) (by decide) rfl rfl ?_
                      refine g_goto (q := 67) dX4_findFrom_219 (by decide) ?_
                      refine g_drop 8 rfl ?_
                      exact ih (c + 1) _ _ _ _ _ _ _ _ _ (by omega) (by assumption) hv
                    · have hf : fE F w a once last u s c = some [c] := by unfold fE; rw [if_pos ⟨hok, hlb, h156⟩]
                      rw [fsome, hf] at hv
                      subst hv
                      refine g_iconst (v := nI 1) dX4_findFrom_159 rfl (by decide) ?_
                      exact g_zret (b := true) dX4_findFrom_160 rfl (Nat.le_refl _) (Nat.le_refl _) (⟨rfl, _, _, _, _, _, _, _, _, _, rfl, hup, row_one (if_pos rfl)⟩)
                · have hlb : lastB last c = false := by unfold lastB; rw [decide_eq_false h115, decide_eq_false h124]; rfl
                  have hf : fE F w a once last u s c = none := by unfold fE; rw [if_neg (fun z => by rw [hlb] at z; exact absurd z.2.1 (by decide))]
                  rw [fsome, hf] at hv
                  refine g_goto (q := 216) dX4_findFrom_127 (by decide) ?_
                  refine g_iinc dX4_findFrom_216 rfl rfl (nI_1 _) (by decide) rfl rfl ?_
                  refine g_goto (q := 67) dX4_findFrom_219 (by decide) ?_
                  refine g_drop 8 rfl ?_
                  exact ih (c + 1) _ _ _ _ _ _ _ _ _ (by omega) (by assumption) hv
set_option maxRecDepth 20000 in
theorem lpN_findFrom4 (sk : Nat → Nat) {rh rs rr gl ar yr yg yf pl ps pw pa pr F C N S : Nat} {last ag V E : Int32} {once af : Bool} {st : Nat → Option Nat} {w a r : Nat → Nat} {pt qt p4 q4 p5 q5 : Nat} {zt : Int32} {u : Int32} {s : PSt} {m : Nat} {v : Option (List Nat)} {fr : Nat → Int32} (hB : PB F C N S w a r) (hs0 : SB s.1) (hm1 : m + 5 ≤ 5) (hgl2 : gl = 5 + m + 1) (hst4 : st 4 = some p4) (hst5 : st 5 = some p5) : ∀ (n c : Nat) (fr1 : Nat → Int32) (g4 o4 z4 g5 o5 z5 : Int32) (f4 f5 : Nat → Int32), c + n = C → (∀ j, j < 4 → fr1 j = fr j) → fsome (fN F N S w a r once (dfs F C N S w a r once last m) u s) n c = v → GG sk RX4 yX4_findFrom cX4_findFrom 10 (some .boolean) 5 0 0 (fun q w1 => q = some (.int (zb v.isSome)) ∧ ∃ (fr2 : Nat → Int32) (g4 o4 z4 g5 o5 z5 : Int32) (f4 f5 : Nat → Int32), w1 = [oRows rh rs rr (nI gl) last once ar ag af yr yg yf, cP rs 6 st, cI rr 6 fr2, oPlan pl ps pw pa pr (nI F) (nI C) V E (nI N) (nI S), cI pw 6 (fI w), cI pa 6 (fI a), cI pr 6 (fI r), oPoleS pt qt s zt, cI qt 30 (fI s.1), oPole p4 q4 g4 o4 z4, cI q4 30 f4, oPole p5 q5 g5 o5 z5, cI q5 30 f5] ∧ (∀ j, j < 4 → fr2 j = fr j) ∧ ∀ l : List Nat, v = some l → ∀ j, j < l.length → fr2 (4 + j) = nI (l.getD j 0)) 0 0 67 [some (.ref rh), some (.ref pl), some (.ref pt), some (.int (nI 4)), some (.int u), some (.int (nI (m + 1))), some (.int (zb false)), some (.int (nI c)), none, none] [] [oRows rh rs rr (nI gl) last once ar ag af yr yg yf, cP rs 6 st, cI rr 6 fr1, oPlan pl ps pw pa pr (nI F) (nI C) V E (nI N) (nI S), cI pw 6 (fI w), cI pa 6 (fI a), cI pr 6 (fI r), oPoleS pt qt s zt, cI qt 30 (fI s.1), oPole p4 q4 g4 o4 z4, cI q4 30 f4, oPole p5 q5 g5 o5 z5, cI q5 30 f5] := by
  have hC6 := hB.2.1
  intro n
  induction n with
  | zero =>
    intro c fr1 g4 o4 z4 g5 o5 z5 f4 f5 hc hfr hv
    rw [fsome] at hv
    subst hv
    refine g_iload dX4_findFrom_67 rfl rfl ?_
    refine g_aload_n dX4_findFrom_69 rfl rfl ?_
    refine g_get f_X4_55 dX4_findFrom_70 rfl 3 rfl rfl ?_
    refine g_icmp_geN (t := 222) dX4_findFrom_73 (by decide) rfl (by omega) (by omega) (fun h73 => ?_) (fun h73 => ?_)
    · skip
      refine g_iconst (v := nI 0) dX4_findFrom_222 rfl (by decide) ?_
      exact g_zret (b := false) dX4_findFrom_223 rfl (Nat.le_refl _) (Nat.le_refl _) (⟨rfl, _, _, _, _, _, _, _, _, _, rfl, hfr, fun l hl => by cases hl⟩)
    · exact absurd h73 (by omega)
  | succ n ih =>
    intro c fr1 g4 o4 z4 g5 o5 z5 f4 f5 hc hfr hv
    refine g_iload dX4_findFrom_67 rfl rfl ?_
    refine g_aload_n dX4_findFrom_69 rfl rfl ?_
    refine g_get f_X4_55 dX4_findFrom_70 rfl 3 rfl rfl ?_
    refine g_icmp_geN (t := 222) dX4_findFrom_73 (by decide) rfl (by omega) (by omega) (fun h73 => ?_) (fun h73 => ?_)
    · exact absurd h73 (by omega)
    · skip
      refine g_aload_n dX4_findFrom_76 rfl rfl ?_
      refine g_get f_X4_60 dX4_findFrom_77 rfl 0 rfl rfl ?_
      refine g_if_eqB (t := 93) dX4_findFrom_80 (by decide) rfl (fun h80 => ?_) (fun h80 => ?_)
      · have hok : okc once u c = true := by unfold okc; rw [h80]; rfl
        refine g_iconst (v := nI 1) dX4_findFrom_93 rfl (by decide) ?_
        refine g_goto (q := 98) dX4_findFrom_94 (by decide) ?_
        refine g_istore dX4_findFrom_98 rfl (by decide) rfl rfl ?_
        refine g_iload dX4_findFrom_100 rfl rfl ?_
        refine g_if_eq (t := 216) dX4_findFrom_102 (by decide) rfl (fun h102 => ?_) (fun h102 => ?_)
        · exact absurd h102 (by decide)
        · skip
          refine g_iload dX4_findFrom_105 rfl rfl ?_
          refine g_if_eqB (t := 130) dX4_findFrom_107 (by decide) rfl (fun h107 => ?_) (fun h107 => ?_)
          · skip
            refine g_aload_n dX4_findFrom_130 rfl rfl ?_
            refine g_get f_X4_24 dX4_findFrom_131 rfl 0 rfl rfl ?_
            refine g_iload_n dX4_findFrom_134 rfl rfl ?_
            refine g_iload dX4_findFrom_135 rfl rfl ?_
            have hup : ∀ j, j < 4 → upd fr1 4 (nI c) j = fr j := fun j hj => by unfold upd; rw [if_neg (by omega)]; exact hfr j hj
            refine g_iastN dX4_findFrom_137 rfl 2 rfl (by omega) (by decide) (rfl) rfl ?_
            refine g_iload dX4_findFrom_138 rfl rfl ?_
            refine g_if_eqB (t := 161) dX4_findFrom_140 (by decide) rfl (fun h140 => ?_) (fun h140 => ?_)
            · skip
              refine g_aload_n dX4_findFrom_161 rfl rfl ?_
              refine g_get f_X4_17 dX4_findFrom_162 rfl 0 rfl rfl ?_
              refine g_iload_n dX4_findFrom_165 rfl rfl ?_
              refine g_aldP dX4_findFrom_166 rfl 1 rfl (by omega) (by decide) (hst4) ?_
              refine g_astore dX4_findFrom_167 rfl (by decide) rfl rfl ?_
              refine g_aload dX4_findFrom_169 rfl rfl ?_
              refine g_aload_n dX4_findFrom_171 rfl rfl ?_
              refine g_callV (c_X1_become sk) m_X4_95 a_X1_become dX4_findFrom_172 rfl [9, 10, 7, 8] rfl rfl 0 rfl rfl rfl (by decide) (by decide) (by decide) (by decide) (Nat.le_of_ble_eq_true rfl) (fun r w hK => ?_)
              obtain ⟨rfl, rfl⟩ := hK
              refine ⟨rfl, ?_⟩
              dsimp only [puts, List.set, Option.toList, List.cons_append, List.nil_append, List.append_nil]
              refine g_aload dX4_findFrom_175 rfl rfl ?_
              refine g_aload_n dX4_findFrom_177 rfl rfl ?_
              refine g_iload dX4_findFrom_178 rfl rfl ?_
              refine g_iconst (v := nI 0) dX4_findFrom_180 rfl (by decide) ?_
              refine g_callV (c_climb sk (sand := false) hB (show c < C by omega) hs0) m_X4_99 a_X1_climb dX4_findFrom_181 rfl [9, 10, 3, 4, 5, 6] rfl rfl 0 rfl rfl rfl (by decide) (by decide) (by decide) (by decide) (Nat.le_of_ble_eq_true rfl) (fun r w hK => ?_)
              obtain ⟨rfl, rfl⟩ := hK
              refine ⟨rfl, ?_⟩
              dsimp only [puts, List.set, Option.toList, List.cons_append, List.nil_append, List.append_nil]
              refine g_pop dX4_findFrom_184 rfl rfl ?_
              refine g_aload dX4_findFrom_185 rfl rfl ?_
              refine g_get f_X4_74 dX4_findFrom_187 rfl 9 rfl rfl ?_
              refine g_iconst (v := -1) dX4_findFrom_190 rfl (by decide) ?_
              refine g_icmp_ne (t := 216) dX4_findFrom_191 (by decide) rfl (fun h191 => ?_) (fun h191 => ?_)
              · have hf : fN F N S w a r once (dfs F C N S w a r once last m) u s c = none := by unfold fN; rw [if_neg (fun z => h191 z.2)]
                rw [fsome, hf] at hv
                refine g_iinc dX4_findFrom_216 rfl rfl (nI_1 _) (by decide) rfl rfl ?_
                refine g_goto (q := 67) dX4_findFrom_219 (by decide) ?_
                refine g_drop 8 rfl ?_
                try refine g_drop 9 rfl ?_
                exact ih (c + 1) _ _ _ _ _ _ _ _ _ (by omega) (by assumption) hv
              · skip
                refine g_aload_n dX4_findFrom_194 rfl rfl ?_
                refine g_aload_n dX4_findFrom_195 rfl rfl ?_
                refine g_aload dX4_findFrom_196 rfl rfl ?_
                refine g_iload_n dX4_findFrom_198 rfl rfl ?_
                refine g_iconst (v := nI 1) dX4_findFrom_199 rfl (by decide) ?_
                refine g_iadd dX4_findFrom_200 rfl (nI_add _ _) ?_
                refine g_iload dX4_findFrom_201 rfl rfl ?_
                refine g_iconst (v := nI 1) dX4_findFrom_203 rfl (by decide) ?_
                refine g_iload dX4_findFrom_204 rfl rfl ?_
                refine g_ishl dX4_findFrom_206 rfl rfl ?_
                refine g_ior dX4_findFrom_207 rfl rfl ?_
                refine g_callV (c_findFrom5 sk hB (hm1) hgl2 (go1_SB hs0) hst5) m_X4_80 a_X4_findFrom dX4_findFrom_208 rfl [0, 1, 2, 3, 4, 5, 6, 9, 10, 11, 12] rfl rfl 0 rfl rfl rfl (by decide) (by decide) (by decide) (by decide) (Nat.le_of_ble_eq_true rfl) (fun r w hK => ?_)
                obtain ⟨rfl, fr2, g5, o5, z5, f5, rfl, hfr2, hl2⟩ := hK
                refine ⟨rfl, ?_⟩
                dsimp only [puts, List.set, Option.toList, List.cons_append, List.nil_append, List.append_nil]
                refine g_if_eqB (t := 216) dX4_findFrom_211 (by decide) rfl (fun h211 => ?_) (fun h211 => ?_)
                · have hn : dfs F C N S w a r once last m (u ||| (nI 1 <<< (nI c &&& 31))) (go1 F N S w a r false s c) = none := by simpa using h211
                  have hf : fN F N S w a r once (dfs F C N S w a r once last m) u s c = none := by unfold fN; rw [if_pos ⟨hok, h191⟩, hn]; rfl
                  rw [fsome, hf] at hv
                  have hfrc : ∀ j, j < 4 → fr2 j = fr j := fun j hj => (hfr2 j (by omega)).trans (hup j hj)
                  refine g_iinc dX4_findFrom_216 rfl rfl (nI_1 _) (by decide) rfl rfl ?_
                  refine g_goto (q := 67) dX4_findFrom_219 (by decide) ?_
                  refine g_drop 8 rfl ?_
                  try refine g_drop 9 rfl ?_
                  exact ih (c + 1) _ _ _ _ _ _ _ _ _ (by omega) (by assumption) hv
                · obtain ⟨l0, hl0⟩ := Option.isSome_iff_exists.mp h211
                  have hf : fN F N S w a r once (dfs F C N S w a r once last m) u s c = some (c :: l0) := by unfold fN; rw [if_pos ⟨hok, h191⟩, hl0]; rfl
                  rw [fsome, hf] at hv
                  subst hv
                  have hfrc : ∀ j, j < 4 → fr2 j = fr j := fun j hj => (hfr2 j (by omega)).trans (hup j hj)
                  refine g_iconst (v := nI 1) dX4_findFrom_214 rfl (by decide) ?_
                  exact g_zret (b := true) dX4_findFrom_215 rfl (Nat.le_refl _) (Nat.le_refl _) (⟨rfl, _, _, _, _, _, _, _, _, _, rfl, hfrc, row_cons ((hfr2 4 (by omega)).trans (if_pos rfl)) (fun j hj => hl2 l0 hl0 j hj)⟩)
            · exact absurd h140 (by decide)
          · exact absurd h107 (by decide)
      · skip
        refine g_iload dX4_findFrom_83 rfl rfl ?_
        refine g_iload dX4_findFrom_85 rfl rfl ?_
        refine g_ishr dX4_findFrom_87 rfl rfl ?_
        refine g_iconst (v := nI 1) dX4_findFrom_88 rfl (by decide) ?_
        refine g_iand dX4_findFrom_89 rfl rfl ?_
        refine g_if_ne (t := 97) dX4_findFrom_90 (by decide) rfl (fun h90 => ?_) (fun h90 => ?_)
        · have hok : okc once u c = false := by unfold okc; rw [h80, decide_eq_false h90]; rfl
          have hf : fN F N S w a r once (dfs F C N S w a r once last m) u s c = none := by unfold fN; rw [if_neg (fun z => by rw [hok] at z; exact absurd z.1 (by decide))]
          rw [fsome, hf] at hv
          refine g_iconst (v := nI 0) dX4_findFrom_97 rfl (by decide) ?_
          refine g_istore dX4_findFrom_98 rfl (by decide) rfl rfl ?_
          refine g_iload dX4_findFrom_100 rfl rfl ?_
          refine g_if_eq (t := 216) dX4_findFrom_102 (by decide) rfl (fun h102 => ?_) (fun h102 => ?_)
          · skip
            refine g_iinc dX4_findFrom_216 rfl rfl (nI_1 _) (by decide) rfl rfl ?_
            refine g_goto (q := 67) dX4_findFrom_219 (by decide) ?_
            refine g_drop 8 rfl ?_
            try refine g_drop 9 rfl ?_
            exact ih (c + 1) _ _ _ _ _ _ _ _ _ (by omega) (by assumption) hv
          · exact absurd h102 (by decide)
        · have hok : okc once u c = true := by unfold okc; rw [h80, decide_eq_true h90]; rfl
          refine g_iconst (v := nI 1) dX4_findFrom_93 rfl (by decide) ?_
          refine g_goto (q := 98) dX4_findFrom_94 (by decide) ?_
          refine g_istore dX4_findFrom_98 rfl (by decide) rfl rfl ?_
          refine g_iload dX4_findFrom_100 rfl rfl ?_
          refine g_if_eq (t := 216) dX4_findFrom_102 (by decide) rfl (fun h102 => ?_) (fun h102 => ?_)
          · exact absurd h102 (by decide)
          · skip
            refine g_iload dX4_findFrom_105 rfl rfl ?_
            refine g_if_eqB (t := 130) dX4_findFrom_107 (by decide) rfl (fun h107 => ?_) (fun h107 => ?_)
            · skip
              refine g_aload_n dX4_findFrom_130 rfl rfl ?_
              refine g_get f_X4_24 dX4_findFrom_131 rfl 0 rfl rfl ?_
              refine g_iload_n dX4_findFrom_134 rfl rfl ?_
              refine g_iload dX4_findFrom_135 rfl rfl ?_
              have hup : ∀ j, j < 4 → upd fr1 4 (nI c) j = fr j := fun j hj => by unfold upd; rw [if_neg (by omega)]; exact hfr j hj
              refine g_iastN dX4_findFrom_137 rfl 2 rfl (by omega) (by decide) (rfl) rfl ?_
              refine g_iload dX4_findFrom_138 rfl rfl ?_
              refine g_if_eqB (t := 161) dX4_findFrom_140 (by decide) rfl (fun h140 => ?_) (fun h140 => ?_)
              · skip
                refine g_aload_n dX4_findFrom_161 rfl rfl ?_
                refine g_get f_X4_17 dX4_findFrom_162 rfl 0 rfl rfl ?_
                refine g_iload_n dX4_findFrom_165 rfl rfl ?_
                refine g_aldP dX4_findFrom_166 rfl 1 rfl (by omega) (by decide) (hst4) ?_
                refine g_astore dX4_findFrom_167 rfl (by decide) rfl rfl ?_
                refine g_aload dX4_findFrom_169 rfl rfl ?_
                refine g_aload_n dX4_findFrom_171 rfl rfl ?_
                refine g_callV (c_X1_become sk) m_X4_95 a_X1_become dX4_findFrom_172 rfl [9, 10, 7, 8] rfl rfl 0 rfl rfl rfl (by decide) (by decide) (by decide) (by decide) (Nat.le_of_ble_eq_true rfl) (fun r w hK => ?_)
                obtain ⟨rfl, rfl⟩ := hK
                refine ⟨rfl, ?_⟩
                dsimp only [puts, List.set, Option.toList, List.cons_append, List.nil_append, List.append_nil]
                refine g_aload dX4_findFrom_175 rfl rfl ?_
                refine g_aload_n dX4_findFrom_177 rfl rfl ?_
                refine g_iload dX4_findFrom_178 rfl rfl ?_
                refine g_iconst (v := nI 0) dX4_findFrom_180 rfl (by decide) ?_
                refine g_callV (c_climb sk (sand := false) hB (show c < C by omega) hs0) m_X4_99 a_X1_climb dX4_findFrom_181 rfl [9, 10, 3, 4, 5, 6] rfl rfl 0 rfl rfl rfl (by decide) (by decide) (by decide) (by decide) (Nat.le_of_ble_eq_true rfl) (fun r w hK => ?_)
                obtain ⟨rfl, rfl⟩ := hK
                refine ⟨rfl, ?_⟩
                dsimp only [puts, List.set, Option.toList, List.cons_append, List.nil_append, List.append_nil]
                refine g_pop dX4_findFrom_184 rfl rfl ?_
                refine g_aload dX4_findFrom_185 rfl rfl ?_
                refine g_get f_X4_74 dX4_findFrom_187 rfl 9 rfl rfl ?_
                refine g_iconst (v := -1) dX4_findFrom_190 rfl (by decide) ?_
                refine g_icmp_ne (t := 216) dX4_findFrom_191 (by decide) rfl (fun h191 => ?_) (fun h191 => ?_)
                · have hf : fN F N S w a r once (dfs F C N S w a r once last m) u s c = none := by unfold fN; rw [if_neg (fun z => h191 z.2)]
                  rw [fsome, hf] at hv
                  refine g_iinc dX4_findFrom_216 rfl rfl (nI_1 _) (by decide) rfl rfl ?_
                  refine g_goto (q := 67) dX4_findFrom_219 (by decide) ?_
                  refine g_drop 8 rfl ?_
                  try refine g_drop 9 rfl ?_
                  exact ih (c + 1) _ _ _ _ _ _ _ _ _ (by omega) (by assumption) hv
                · skip
                  refine g_aload_n dX4_findFrom_194 rfl rfl ?_
                  refine g_aload_n dX4_findFrom_195 rfl rfl ?_
                  refine g_aload dX4_findFrom_196 rfl rfl ?_
                  refine g_iload_n dX4_findFrom_198 rfl rfl ?_
                  refine g_iconst (v := nI 1) dX4_findFrom_199 rfl (by decide) ?_
                  refine g_iadd dX4_findFrom_200 rfl (nI_add _ _) ?_
                  refine g_iload dX4_findFrom_201 rfl rfl ?_
                  refine g_iconst (v := nI 1) dX4_findFrom_203 rfl (by decide) ?_
                  refine g_iload dX4_findFrom_204 rfl rfl ?_
                  refine g_ishl dX4_findFrom_206 rfl rfl ?_
                  refine g_ior dX4_findFrom_207 rfl rfl ?_
                  refine g_callV (c_findFrom5 sk hB (hm1) hgl2 (go1_SB hs0) hst5) m_X4_80 a_X4_findFrom dX4_findFrom_208 rfl [0, 1, 2, 3, 4, 5, 6, 9, 10, 11, 12] rfl rfl 0 rfl rfl rfl (by decide) (by decide) (by decide) (by decide) (Nat.le_of_ble_eq_true rfl) (fun r w hK => ?_)
                  obtain ⟨rfl, fr2, g5, o5, z5, f5, rfl, hfr2, hl2⟩ := hK
                  refine ⟨rfl, ?_⟩
                  dsimp only [puts, List.set, Option.toList, List.cons_append, List.nil_append, List.append_nil]
                  refine g_if_eqB (t := 216) dX4_findFrom_211 (by decide) rfl (fun h211 => ?_) (fun h211 => ?_)
                  · have hn : dfs F C N S w a r once last m (u ||| (nI 1 <<< (nI c &&& 31))) (go1 F N S w a r false s c) = none := by simpa using h211
                    have hf : fN F N S w a r once (dfs F C N S w a r once last m) u s c = none := by unfold fN; rw [if_pos ⟨hok, h191⟩, hn]; rfl
                    rw [fsome, hf] at hv
                    have hfrc : ∀ j, j < 4 → fr2 j = fr j := fun j hj => (hfr2 j (by omega)).trans (hup j hj)
                    refine g_iinc dX4_findFrom_216 rfl rfl (nI_1 _) (by decide) rfl rfl ?_
                    refine g_goto (q := 67) dX4_findFrom_219 (by decide) ?_
                    refine g_drop 8 rfl ?_
                    try refine g_drop 9 rfl ?_
                    exact ih (c + 1) _ _ _ _ _ _ _ _ _ (by omega) (by assumption) hv
                  · obtain ⟨l0, hl0⟩ := Option.isSome_iff_exists.mp h211
                    have hf : fN F N S w a r once (dfs F C N S w a r once last m) u s c = some (c :: l0) := by unfold fN; rw [if_pos ⟨hok, h191⟩, hl0]; rfl
                    rw [fsome, hf] at hv
                    subst hv
                    have hfrc : ∀ j, j < 4 → fr2 j = fr j := fun j hj => (hfr2 j (by omega)).trans (hup j hj)
                    refine g_iconst (v := nI 1) dX4_findFrom_214 rfl (by decide) ?_
                    exact g_zret (b := true) dX4_findFrom_215 rfl (Nat.le_refl _) (Nat.le_refl _) (⟨rfl, _, _, _, _, _, _, _, _, _, rfl, hfrc, row_cons ((hfr2 4 (by omega)).trans (if_pos rfl)) (fun j hj => hl2 l0 hl0 j hj)⟩)
              · exact absurd h140 (by decide)
            · exact absurd h107 (by decide)
set_option maxRecDepth 20000 in
theorem c_findFrom4 (sk : Nat → Nat) {rh rs rr gl ar yr yg yf pl ps pw pa pr F C N S : Nat} {last ag V E : Int32} {once af : Bool} {st : Nat → Option Nat} {w a r : Nat → Nat} {pt qt p4 q4 p5 q5 : Nat} {zt : Int32} {u : Int32} {s : PSt} {m : Nat} {fr : Nat → Int32} {g4 o4 z4 g5 o5 z5 : Int32} {f4 f5 : Nat → Int32} (hB : PB F C N S w a r) (hm : m + 4 ≤ 5) (hgl : gl = 4 + m + 1) (hs0 : SB s.1) (hst4 : st 4 = some p4) (hst5 : st 5 = some p5) : Ct sk yX4_findFrom cX4_findFrom 10 (some .boolean) 5 0 0 [oRows rh rs rr (nI gl) last once ar ag af yr yg yf, cP rs 6 st, cI rr 6 fr, oPlan pl ps pw pa pr (nI F) (nI C) V E (nI N) (nI S), cI pw 6 (fI w), cI pa 6 (fI a), cI pr 6 (fI r), oPoleS pt qt s zt, cI qt 30 (fI s.1), oPole p4 q4 g4 o4 z4, cI q4 30 f4, oPole p5 q5 g5 o5 z5, cI q5 30 f5] [.ref rh, .ref pl, .ref pt, .int (nI 4), .int u] (fun q w1 => q = some (.int (zb (dfs F C N S w a r once last m u s).isSome)) ∧ ∃ (fr2 : Nat → Int32) (g4 o4 z4 g5 o5 z5 : Int32) (f4 f5 : Nat → Int32), w1 = [oRows rh rs rr (nI gl) last once ar ag af yr yg yf, cP rs 6 st, cI rr 6 fr2, oPlan pl ps pw pa pr (nI F) (nI C) V E (nI N) (nI S), cI pw 6 (fI w), cI pa 6 (fI a), cI pr 6 (fI r), oPoleS pt qt s zt, cI qt 30 (fI s.1), oPole p4 q4 g4 o4 z4, cI q4 30 f4, oPole p5 q5 g5 o5 z5, cI q5 30 f5] ∧ (∀ j, j < 4 → fr2 j = fr j) ∧ ∀ l : List Nat, dfs F C N S w a r once last m u s = some l → ∀ j, j < l.length → fr2 (4 + j) = nI (l.getD j 0)) := by
  refine Ct.of (own := RX4) (l := [some (.ref rh), some (.ref pl), some (.ref pt), some (.int (nI 4)), some (.int u), none, none, none, none, none]) (by decide) rfl (Nat.le_of_ble_eq_true rfl) rfl ?_
  refine g_aload_n dX4_findFrom_0 rfl rfl ?_
  refine g_get f_X4_77 dX4_findFrom_1 rfl 0 rfl rfl ?_
  refine g_iconst (v := nI 1) dX4_findFrom_4 rfl (by decide) ?_
  refine g_isub dX4_findFrom_5 rfl (pk_sub (by omega)) ?_
  refine g_iload_n dX4_findFrom_6 rfl rfl ?_
  refine g_isub (v := nI m) dX4_findFrom_7 rfl (by rw [pk_sub (by omega), show gl - 1 - 4 = m by omega]) ?_
  refine g_istore dX4_findFrom_8 rfl (by decide) rfl rfl ?_
  refine g_iload dX4_findFrom_10 rfl rfl ?_
  refine g_if_lt (t := 37) dX4_findFrom_12 (by decide) rfl (fun h12 => ?_) (fun h12 => ?_)
  · exact absurd h12 (nI_nlt0 (by omega))
  · skip
    refine g_iload_n dX4_findFrom_15 rfl rfl ?_
    refine g_if_lt (t := 37) dX4_findFrom_16 (by decide) rfl (fun h16 => ?_) (fun h16 => ?_)
    · exact absurd h16 (nI_nlt0 (by omega))
    · skip
      refine g_iload_n dX4_findFrom_19 rfl rfl ?_
      refine g_aload_n dX4_findFrom_20 rfl rfl ?_
      refine g_get f_X4_24 dX4_findFrom_21 rfl 0 rfl rfl ?_
      refine g_alen dX4_findFrom_24 rfl 2 rfl (Nat.le_of_ble_eq_true rfl) rfl ?_
      refine g_icmp_geN (t := 37) dX4_findFrom_25 (by decide) rfl (by omega) (by omega) (fun h25 => ?_) (fun h25 => ?_)
      · exact absurd h25 (by omega)
      · skip
        refine g_iload_n dX4_findFrom_28 rfl rfl ?_
        refine g_aload_n dX4_findFrom_29 rfl rfl ?_
        refine g_get f_X4_17 dX4_findFrom_30 rfl 0 rfl rfl ?_
        refine g_alen dX4_findFrom_33 rfl 1 rfl (Nat.le_of_ble_eq_true rfl) rfl ?_
        refine g_icmp_ltN (t := 39) dX4_findFrom_34 (by decide) rfl (by omega) (by omega) (fun h34 => ?_) (fun h34 => ?_)
        · skip
          refine g_aload_n dX4_findFrom_39 rfl rfl ?_
          refine g_aload_n dX4_findFrom_40 rfl rfl ?_
          refine g_aload_n dX4_findFrom_41 rfl rfl ?_
          refine g_iload dX4_findFrom_42 rfl rfl ?_
          refine g_callV (c_X4_isHopeless sk (m := m) hB hs0 (by omega)) m_X4_84 a_X4_isHopeless dX4_findFrom_44 rfl [0, 3, 4, 5, 6, 7, 8] rfl rfl 0 rfl rfl rfl (by decide) (by decide) (by decide) (by decide) (Nat.le_of_ble_eq_true rfl) (fun r w hK => ?_)
          obtain ⟨rfl, rfl⟩ := hK
          refine ⟨rfl, ?_⟩
          dsimp only [puts, List.set, Option.toList, List.cons_append, List.nil_append, List.append_nil]
          refine g_if_eqB (t := 52) dX4_findFrom_47 (by decide) rfl (fun h47 => ?_) (fun h47 => ?_)
          · have hh : hopeR F C N S w a r last m s C 0 = true := by simpa using h47
            refine g_iload dX4_findFrom_52 rfl rfl ?_
            refine g_if_ne (t := 61) dX4_findFrom_54 (by decide) rfl (fun h54 => ?_) (fun h54 => ?_)
            · have hm0 : ¬ m = 0 := fun e => h54 (congrArg nI e : nI m = nI 0)
              refine g_iconst (v := nI 0) dX4_findFrom_61 rfl (by decide) ?_
              refine g_istore dX4_findFrom_62 rfl (by decide) rfl rfl ?_
              refine g_iconst (v := nI 0) dX4_findFrom_64 rfl (by decide) ?_
              refine g_istore dX4_findFrom_65 rfl (by decide) rfl rfl ?_
              generalize hD : dfs F C N S w a r once last m u s = v
              obtain ⟨m, rfl⟩ : ∃ k, m = k + 1 := ⟨m - 1, by omega⟩
              rw [dfs, if_pos hh] at hD
              exact lpN_findFrom4 sk hB hs0 (by omega) (by omega) hst4 hst5 C 0 fr _ _ _ _ _ _ _ _ (by omega) (fun _ _ => rfl) hD
            · have hm0 : m = 0 := (nI_eq (by omega) (by omega)).mp (h54 : nI m = nI 0)
              refine g_iconst (v := nI 1) dX4_findFrom_57 rfl (by decide) ?_
              refine g_goto (q := 62) dX4_findFrom_58 (by decide) ?_
              refine g_istore dX4_findFrom_62 rfl (by decide) rfl rfl ?_
              refine g_iconst (v := nI 0) dX4_findFrom_64 rfl (by decide) ?_
              refine g_istore dX4_findFrom_65 rfl (by decide) rfl rfl ?_
              generalize hD : dfs F C N S w a r once last m u s = v
              subst hm0
              rw [dfs, if_pos hh] at hD
              exact lpE_findFrom4 sk hB hs0 hst4 hst5 C 0 fr _ _ _ _ _ _ _ _ (by omega) (fun _ _ => rfl) hD
          · have hh : ¬ hopeR F C N S w a r last m s C 0 = true := by simpa using h47
            have hD : dfs F C N S w a r once last m u s = none := by cases m <;> rw [dfs, if_neg hh]
            refine g_iconst (v := nI 0) dX4_findFrom_50 rfl (by decide) ?_
            exact g_zret (b := false) dX4_findFrom_51 rfl (Nat.le_refl _) (Nat.le_refl _) (⟨by rw [hD]; rfl, _, _, _, _, _, _, _, _, _, rfl, fun _ _ => rfl, fun l hl => by rw [hD] at hl; cases hl⟩)
        · exact absurd h34 (by omega)
set_option maxRecDepth 20000 in
theorem lpE_findFrom3 (sk : Nat → Nat) {rh rs rr gl ar yr yg yf pl ps pw pa pr F C N S : Nat} {last ag V E : Int32} {once af : Bool} {st : Nat → Option Nat} {w a r : Nat → Nat} {pt qt p3 q3 p4 q4 p5 q5 : Nat} {zt : Int32} {u : Int32} {s : PSt} {v : Option (List Nat)} {fr : Nat → Int32} (hB : PB F C N S w a r) (hs0 : SB s.1) (hst3 : st 3 = some p3) (hst4 : st 4 = some p4) (hst5 : st 5 = some p5) : ∀ (n c : Nat) (fr1 : Nat → Int32) (g3 o3 z3 g4 o4 z4 g5 o5 z5 : Int32) (f3 f4 f5 : Nat → Int32), c + n = C → (∀ j, j < 3 → fr1 j = fr j) → fsome (fE F w a once last u s) n c = v → GG sk RX4 yX4_findFrom cX4_findFrom 10 (some .boolean) 6 0 0 (fun q w1 => q = some (.int (zb v.isSome)) ∧ ∃ (fr2 : Nat → Int32) (g3 o3 z3 g4 o4 z4 g5 o5 z5 : Int32) (f3 f4 f5 : Nat → Int32), w1 = [oRows rh rs rr (nI gl) last once ar ag af yr yg yf, cP rs 6 st, cI rr 6 fr2, oPlan pl ps pw pa pr (nI F) (nI C) V E (nI N) (nI S), cI pw 6 (fI w), cI pa 6 (fI a), cI pr 6 (fI r), oPoleS pt qt s zt, cI qt 30 (fI s.1), oPole p3 q3 g3 o3 z3, cI q3 30 f3, oPole p4 q4 g4 o4 z4, cI q4 30 f4, oPole p5 q5 g5 o5 z5, cI q5 30 f5] ∧ (∀ j, j < 3 → fr2 j = fr j) ∧ ∀ l : List Nat, v = some l → ∀ j, j < l.length → fr2 (3 + j) = nI (l.getD j 0)) 0 0 67 [some (.ref rh), some (.ref pl), some (.ref pt), some (.int (nI 3)), some (.int u), some (.int (nI 0)), some (.int (zb true)), some (.int (nI c)), none, none] [] [oRows rh rs rr (nI gl) last once ar ag af yr yg yf, cP rs 6 st, cI rr 6 fr1, oPlan pl ps pw pa pr (nI F) (nI C) V E (nI N) (nI S), cI pw 6 (fI w), cI pa 6 (fI a), cI pr 6 (fI r), oPoleS pt qt s zt, cI qt 30 (fI s.1), oPole p3 q3 g3 o3 z3, cI q3 30 f3, oPole p4 q4 g4 o4 z4, cI q4 30 f4, oPole p5 q5 g5 o5 z5, cI q5 30 f5] := by
  have hC6 := hB.2.1
  intro n
  induction n with
  | zero =>
    intro c fr1 g3 o3 z3 g4 o4 z4 g5 o5 z5 f3 f4 f5 hc hfr hv
    rw [fsome] at hv
    subst hv
    refine g_iload dX4_findFrom_67 rfl rfl ?_
    refine g_aload_n dX4_findFrom_69 rfl rfl ?_
    refine g_get f_X4_55 dX4_findFrom_70 rfl 3 rfl rfl ?_
    refine g_icmp_geN (t := 222) dX4_findFrom_73 (by decide) rfl (by omega) (by omega) (fun h73 => ?_) (fun h73 => ?_)
    · skip
      refine g_iconst (v := nI 0) dX4_findFrom_222 rfl (by decide) ?_
      exact g_zret (b := false) dX4_findFrom_223 rfl (Nat.le_refl _) (Nat.le_refl _) (⟨rfl, _, _, _, _, _, _, _, _, _, _, _, _, _, rfl, hfr, fun l hl => by cases hl⟩)
    · exact absurd h73 (by omega)
  | succ n ih =>
    intro c fr1 g3 o3 z3 g4 o4 z4 g5 o5 z5 f3 f4 f5 hc hfr hv
    refine g_iload dX4_findFrom_67 rfl rfl ?_
    refine g_aload_n dX4_findFrom_69 rfl rfl ?_
    refine g_get f_X4_55 dX4_findFrom_70 rfl 3 rfl rfl ?_
    refine g_icmp_geN (t := 222) dX4_findFrom_73 (by decide) rfl (by omega) (by omega) (fun h73 => ?_) (fun h73 => ?_)
    · exact absurd h73 (by omega)
    · skip
      refine g_aload_n dX4_findFrom_76 rfl rfl ?_
      refine g_get f_X4_60 dX4_findFrom_77 rfl 0 rfl rfl ?_
      refine g_if_eqB (t := 93) dX4_findFrom_80 (by decide) rfl (fun h80 => ?_) (fun h80 => ?_)
      · have hok : okc once u c = true := by unfold okc; rw [h80]; rfl
        refine g_iconst (v := nI 1) dX4_findFrom_93 rfl (by decide) ?_
        refine g_goto (q := 98) dX4_findFrom_94 (by decide) ?_
        refine g_istore dX4_findFrom_98 rfl (by decide) rfl rfl ?_
        refine g_iload dX4_findFrom_100 rfl rfl ?_
        refine g_if_eq (t := 216) dX4_findFrom_102 (by decide) rfl (fun h102 => ?_) (fun h102 => ?_)
        · exact absurd h102 (by decide)
        · skip
          refine g_iload dX4_findFrom_105 rfl rfl ?_
          refine g_if_eqB (t := 130) dX4_findFrom_107 (by decide) rfl (fun h107 => ?_) (fun h107 => ?_)
          · exact absurd h107 (by decide)
          · skip
            refine g_aload_n dX4_findFrom_110 rfl rfl ?_
            refine g_get f_X4_63 dX4_findFrom_111 rfl 0 rfl rfl ?_
            refine g_iconst (v := -1) dX4_findFrom_114 rfl (by decide) ?_
            refine g_icmp_eq (t := 130) dX4_findFrom_115 (by decide) rfl (fun h115 => ?_) (fun h115 => ?_)
            · have hlb : lastB last c = true := by unfold lastB; rw [decide_eq_true h115]; rfl
              refine g_aload_n dX4_findFrom_130 rfl rfl ?_
              refine g_get f_X4_24 dX4_findFrom_131 rfl 0 rfl rfl ?_
              refine g_iload_n dX4_findFrom_134 rfl rfl ?_
              refine g_iload dX4_findFrom_135 rfl rfl ?_
              have hup : ∀ j, j < 3 → upd fr1 3 (nI c) j = fr j := fun j hj => by unfold upd; rw [if_neg (by omega)]; exact hfr j hj
              refine g_iastN dX4_findFrom_137 rfl 2 rfl (by omega) (by decide) (rfl) rfl ?_
              refine g_iload dX4_findFrom_138 rfl rfl ?_
              refine g_if_eqB (t := 161) dX4_findFrom_140 (by decide) rfl (fun h140 => ?_) (fun h140 => ?_)
              · exact absurd h140 (by decide)
              · skip
                refine g_aload_n dX4_findFrom_143 rfl rfl ?_
                refine g_aload_n dX4_findFrom_144 rfl rfl ?_
                refine g_iload dX4_findFrom_145 rfl rfl ?_
                refine g_iconst (v := nI 0) dX4_findFrom_147 rfl (by decide) ?_
                refine g_iconst (v := nI 0) dX4_findFrom_148 rfl (by decide) ?_
                refine g_callV (c_X1_reach sk (sand := false) (fr := 0) hB.1 (show c < 6 by omega) hs0 (hB.2.2.2.2.2.2 c (by omega)).1 (hB.2.2.2.2.2.2 c (by omega)).2.1 (Nat.zero_le _)) m_X4_88 a_X1_reach dX4_findFrom_149 rfl [7, 8, 3, 4, 5] rfl rfl 0 rfl rfl rfl (by decide) (by decide) (by decide) (by decide) (Nat.le_of_ble_eq_true rfl) (fun r w hK => ?_)
                obtain ⟨rfl, rfl⟩ := hK
                refine ⟨rfl, ?_⟩
                dsimp only [puts, List.set, Option.toList, List.cons_append, List.nil_append, List.append_nil]
                have hfl := far1_le F w a false s c
                rw [show farR (w c) false s.1 (F - 0) 0 (a c) = far1 F w a false s c from rfl]
                refine g_aload_n dX4_findFrom_152 rfl rfl ?_
                refine g_get f_X4_92 dX4_findFrom_153 rfl 3 rfl rfl ?_
                have hF30 := hB.1
                refine g_icmp_neN (t := 216) dX4_findFrom_156 (by decide) rfl (by omega) (by omega) (fun h156 => ?_) (fun h156 => ?_)
                · have hf : fE F w a once last u s c = none := by unfold fE; rw [if_neg (fun z => h156 z.2.2)]
                  rw [fsome, hf] at hv
                  refine g_iinc dX4_findFrom_216 rfl rfl (nI_1 _) (by decide) rfl rfl ?_
                  refine g_goto (q := 67) dX4_findFrom_219 (by decide) ?_
                  refine g_drop 8 rfl ?_
                  exact ih (c + 1) _ _ _ _ _ _ _ _ _ _ _ _ _ (by omega) (by assumption) hv
                · have hf : fE F w a once last u s c = some [c] := by unfold fE; rw [if_pos ⟨hok, hlb, h156⟩]
                  rw [fsome, hf] at hv
                  subst hv
                  refine g_iconst (v := nI 1) dX4_findFrom_159 rfl (by decide) ?_
                  exact g_zret (b := true) dX4_findFrom_160 rfl (Nat.le_refl _) (Nat.le_refl _) (⟨rfl, _, _, _, _, _, _, _, _, _, _, _, _, _, rfl, hup, row_one (if_pos rfl)⟩)
            · skip
              refine g_iload dX4_findFrom_118 rfl rfl ?_
              refine g_aload_n dX4_findFrom_120 rfl rfl ?_
              refine g_get f_X4_63 dX4_findFrom_121 rfl 0 rfl rfl ?_
              refine g_icmp_eq (t := 130) dX4_findFrom_124 (by decide) rfl (fun h124 => ?_) (fun h124 => ?_)
              · have hlb : lastB last c = true := by unfold lastB; rw [decide_eq_true h124, Bool.or_true]
                refine g_aload_n dX4_findFrom_130 rfl rfl ?_
                refine g_get f_X4_24 dX4_findFrom_131 rfl 0 rfl rfl ?_
                refine g_iload_n dX4_findFrom_134 rfl rfl ?_
                refine g_iload dX4_findFrom_135 rfl rfl ?_
                have hup : ∀ j, j < 3 → upd fr1 3 (nI c) j = fr j := fun j hj => by unfold upd; rw [if_neg (by omega)]; exact hfr j hj
                refine g_iastN dX4_findFrom_137 rfl 2 rfl (by omega) (by decide) (rfl) rfl ?_
                refine g_iload dX4_findFrom_138 rfl rfl ?_
                refine g_if_eqB (t := 161) dX4_findFrom_140 (by decide) rfl (fun h140 => ?_) (fun h140 => ?_)
                · exact absurd h140 (by decide)
                · skip
                  refine g_aload_n dX4_findFrom_143 rfl rfl ?_
                  refine g_aload_n dX4_findFrom_144 rfl rfl ?_
                  refine g_iload dX4_findFrom_145 rfl rfl ?_
                  refine g_iconst (v := nI 0) dX4_findFrom_147 rfl (by decide) ?_
                  refine g_iconst (v := nI 0) dX4_findFrom_148 rfl (by decide) ?_
                  refine g_callV (c_X1_reach sk (sand := false) (fr := 0) hB.1 (show c < 6 by omega) hs0 (hB.2.2.2.2.2.2 c (by omega)).1 (hB.2.2.2.2.2.2 c (by omega)).2.1 (Nat.zero_le _)) m_X4_88 a_X1_reach dX4_findFrom_149 rfl [7, 8, 3, 4, 5] rfl rfl 0 rfl rfl rfl (by decide) (by decide) (by decide) (by decide) (Nat.le_of_ble_eq_true rfl) (fun r w hK => ?_)
                  obtain ⟨rfl, rfl⟩ := hK
                  refine ⟨rfl, ?_⟩
                  dsimp only [puts, List.set, Option.toList, List.cons_append, List.nil_append, List.append_nil]
                  have hfl := far1_le F w a false s c
                  rw [show farR (w c) false s.1 (F - 0) 0 (a c) = far1 F w a false s c from rfl]
                  refine g_aload_n dX4_findFrom_152 rfl rfl ?_
                  refine g_get f_X4_92 dX4_findFrom_153 rfl 3 rfl rfl ?_
                  have hF30 := hB.1
                  refine g_icmp_neN (t := 216) dX4_findFrom_156 (by decide) rfl (by omega) (by omega) (fun h156 => ?_) (fun h156 => ?_)
                  · have hf : fE F w a once last u s c = none := by unfold fE; rw [if_neg (fun z => h156 z.2.2)]
                    rw [fsome, hf] at hv
                    refine g_iinc dX4_findFrom_216 rfl rfl (nI_1 _) (by decide) rfl rfl ?_
                    refine g_goto (q := 67) dX4_findFrom_219 (by decide) ?_
                    refine g_drop 8 rfl ?_
                    exact ih (c + 1) _ _ _ _ _ _ _ _ _ _ _ _ _ (by omega) (by assumption) hv
                  · have hf : fE F w a once last u s c = some [c] := by unfold fE; rw [if_pos ⟨hok, hlb, h156⟩]
                    rw [fsome, hf] at hv
                    subst hv
                    refine g_iconst (v := nI 1) dX4_findFrom_159 rfl (by decide) ?_
                    exact g_zret (b := true) dX4_findFrom_160 rfl (Nat.le_refl _) (Nat.le_refl _) (⟨rfl, _, _, _, _, _, _, _, _, _, _, _, _, _, rfl, hup, row_one (if_pos rfl)⟩)
              · have hlb : lastB last c = false := by unfold lastB; rw [decide_eq_false h115, decide_eq_false h124]; rfl
                have hf : fE F w a once last u s c = none := by unfold fE; rw [if_neg (fun z => by rw [hlb] at z; exact absurd z.2.1 (by decide))]
                rw [fsome, hf] at hv
                refine g_goto (q := 216) dX4_findFrom_127 (by decide) ?_
                refine g_iinc dX4_findFrom_216 rfl rfl (nI_1 _) (by decide) rfl rfl ?_
                refine g_goto (q := 67) dX4_findFrom_219 (by decide) ?_
                refine g_drop 8 rfl ?_
                exact ih (c + 1) _ _ _ _ _ _ _ _ _ _ _ _ _ (by omega) (by assumption) hv
      · skip
        refine g_iload dX4_findFrom_83 rfl rfl ?_
        refine g_iload dX4_findFrom_85 rfl rfl ?_
        refine g_ishr dX4_findFrom_87 rfl rfl ?_
        refine g_iconst (v := nI 1) dX4_findFrom_88 rfl (by decide) ?_
        refine g_iand dX4_findFrom_89 rfl rfl ?_
        refine g_if_ne (t := 97) dX4_findFrom_90 (by decide) rfl (fun h90 => ?_) (fun h90 => ?_)
        · have hok : okc once u c = false := by unfold okc; rw [h80, decide_eq_false h90]; rfl
          have hf : fE F w a once last u s c = none := by unfold fE; rw [if_neg (fun z => by rw [hok] at z; exact absurd z.1 (by decide))]
          rw [fsome, hf] at hv
          refine g_iconst (v := nI 0) dX4_findFrom_97 rfl (by decide) ?_
          refine g_istore dX4_findFrom_98 rfl (by decide) rfl rfl ?_
          refine g_iload dX4_findFrom_100 rfl rfl ?_
          refine g_if_eq (t := 216) dX4_findFrom_102 (by decide) rfl (fun h102 => ?_) (fun h102 => ?_)
          · skip
            refine g_iinc dX4_findFrom_216 rfl rfl (nI_1 _) (by decide) rfl rfl ?_
            refine g_goto (q := 67) dX4_findFrom_219 (by decide) ?_
            refine g_drop 8 rfl ?_
            exact ih (c + 1) _ _ _ _ _ _ _ _ _ _ _ _ _ (by omega) (by assumption) hv
          · exact absurd h102 (by decide)
        · have hok : okc once u c = true := by unfold okc; rw [h80, decide_eq_true h90]; rfl
          refine g_iconst (v := nI 1) dX4_findFrom_93 rfl (by decide) ?_
          refine g_goto (q := 98) dX4_findFrom_94 (by decide) ?_
          refine g_istore dX4_findFrom_98 rfl (by decide) rfl rfl ?_
          refine g_iload dX4_findFrom_100 rfl rfl ?_
          refine g_if_eq (t := 216) dX4_findFrom_102 (by decide) rfl (fun h102 => ?_) (fun h102 => ?_)
          · exact absurd h102 (by decide)
          · skip
            refine g_iload dX4_findFrom_105 rfl rfl ?_
            refine g_if_eqB (t := 130) dX4_findFrom_107 (by decide) rfl (fun h107 => ?_) (fun h107 => ?_)
            · exact absurd h107 (by decide)
            · skip
              refine g_aload_n dX4_findFrom_110 rfl rfl ?_
              refine g_get f_X4_63 dX4_findFrom_111 rfl 0 rfl rfl ?_
              refine g_iconst (v := -1) dX4_findFrom_114 rfl (by decide) ?_
              refine g_icmp_eq (t := 130) dX4_findFrom_115 (by decide) rfl (fun h115 => ?_) (fun h115 => ?_)
              · have hlb : lastB last c = true := by unfold lastB; rw [decide_eq_true h115]; rfl
                refine g_aload_n dX4_findFrom_130 rfl rfl ?_
                refine g_get f_X4_24 dX4_findFrom_131 rfl 0 rfl rfl ?_
                refine g_iload_n dX4_findFrom_134 rfl rfl ?_
                refine g_iload dX4_findFrom_135 rfl rfl ?_
                have hup : ∀ j, j < 3 → upd fr1 3 (nI c) j = fr j := fun j hj => by unfold upd; rw [if_neg (by omega)]; exact hfr j hj
                refine g_iastN dX4_findFrom_137 rfl 2 rfl (by omega) (by decide) (rfl) rfl ?_
                refine g_iload dX4_findFrom_138 rfl rfl ?_
                refine g_if_eqB (t := 161) dX4_findFrom_140 (by decide) rfl (fun h140 => ?_) (fun h140 => ?_)
                · exact absurd h140 (by decide)
                · skip
                  refine g_aload_n dX4_findFrom_143 rfl rfl ?_
                  refine g_aload_n dX4_findFrom_144 rfl rfl ?_
                  refine g_iload dX4_findFrom_145 rfl rfl ?_
                  refine g_iconst (v := nI 0) dX4_findFrom_147 rfl (by decide) ?_
                  refine g_iconst (v := nI 0) dX4_findFrom_148 rfl (by decide) ?_
                  refine g_callV (c_X1_reach sk (sand := false) (fr := 0) hB.1 (show c < 6 by omega) hs0 (hB.2.2.2.2.2.2 c (by omega)).1 (hB.2.2.2.2.2.2 c (by omega)).2.1 (Nat.zero_le _)) m_X4_88 a_X1_reach dX4_findFrom_149 rfl [7, 8, 3, 4, 5] rfl rfl 0 rfl rfl rfl (by decide) (by decide) (by decide) (by decide) (Nat.le_of_ble_eq_true rfl) (fun r w hK => ?_)
                  obtain ⟨rfl, rfl⟩ := hK
                  refine ⟨rfl, ?_⟩
                  dsimp only [puts, List.set, Option.toList, List.cons_append, List.nil_append, List.append_nil]
                  have hfl := far1_le F w a false s c
                  rw [show farR (w c) false s.1 (F - 0) 0 (a c) = far1 F w a false s c from rfl]
                  refine g_aload_n dX4_findFrom_152 rfl rfl ?_
                  refine g_get f_X4_92 dX4_findFrom_153 rfl 3 rfl rfl ?_
                  have hF30 := hB.1
                  refine g_icmp_neN (t := 216) dX4_findFrom_156 (by decide) rfl (by omega) (by omega) (fun h156 => ?_) (fun h156 => ?_)
                  · have hf : fE F w a once last u s c = none := by unfold fE; rw [if_neg (fun z => h156 z.2.2)]
                    rw [fsome, hf] at hv
                    refine g_iinc dX4_findFrom_216 rfl rfl (nI_1 _) (by decide) rfl rfl ?_
                    refine g_goto (q := 67) dX4_findFrom_219 (by decide) ?_
                    refine g_drop 8 rfl ?_
                    exact ih (c + 1) _ _ _ _ _ _ _ _ _ _ _ _ _ (by omega) (by assumption) hv
                  · have hf : fE F w a once last u s c = some [c] := by unfold fE; rw [if_pos ⟨hok, hlb, h156⟩]
                    rw [fsome, hf] at hv
                    subst hv
                    refine g_iconst (v := nI 1) dX4_findFrom_159 rfl (by decide) ?_
                    exact g_zret (b := true) dX4_findFrom_160 rfl (Nat.le_refl _) (Nat.le_refl _) (⟨rfl, _, _, _, _, _, _, _, _, _, _, _, _, _, rfl, hup, row_one (if_pos rfl)⟩)
              · skip
                refine g_iload dX4_findFrom_118 rfl rfl ?_
                refine g_aload_n dX4_findFrom_120 rfl rfl ?_
                refine g_get f_X4_63 dX4_findFrom_121 rfl 0 rfl rfl ?_
                refine g_icmp_eq (t := 130) dX4_findFrom_124 (by decide) rfl (fun h124 => ?_) (fun h124 => ?_)
                · have hlb : lastB last c = true := by unfold lastB; rw [decide_eq_true h124, Bool.or_true]
                  refine g_aload_n dX4_findFrom_130 rfl rfl ?_
                  refine g_get f_X4_24 dX4_findFrom_131 rfl 0 rfl rfl ?_
                  refine g_iload_n dX4_findFrom_134 rfl rfl ?_
                  refine g_iload dX4_findFrom_135 rfl rfl ?_
                  have hup : ∀ j, j < 3 → upd fr1 3 (nI c) j = fr j := fun j hj => by unfold upd; rw [if_neg (by omega)]; exact hfr j hj
                  refine g_iastN dX4_findFrom_137 rfl 2 rfl (by omega) (by decide) (rfl) rfl ?_
                  refine g_iload dX4_findFrom_138 rfl rfl ?_
                  refine g_if_eqB (t := 161) dX4_findFrom_140 (by decide) rfl (fun h140 => ?_) (fun h140 => ?_)
                  · exact absurd h140 (by decide)
                  · skip
                    refine g_aload_n dX4_findFrom_143 rfl rfl ?_
                    refine g_aload_n dX4_findFrom_144 rfl rfl ?_
                    refine g_iload dX4_findFrom_145 rfl rfl ?_
                    refine g_iconst (v := nI 0) dX4_findFrom_147 rfl (by decide) ?_
                    refine g_iconst (v := nI 0) dX4_findFrom_148 rfl (by decide) ?_
                    refine g_callV (c_X1_reach sk (sand := false) (fr := 0) hB.1 (show c < 6 by omega) hs0 (hB.2.2.2.2.2.2 c (by omega)).1 (hB.2.2.2.2.2.2 c (by omega)).2.1 (Nat.zero_le _)) m_X4_88 a_X1_reach dX4_findFrom_149 rfl [7, 8, 3, 4, 5] rfl rfl 0 rfl rfl rfl (by decide) (by decide) (by decide) (by decide) (Nat.le_of_ble_eq_true rfl) (fun r w hK => ?_)
                    obtain ⟨rfl, rfl⟩ := hK
                    refine ⟨rfl, ?_⟩
                    dsimp only [puts, List.set, Option.toList, List.cons_append, List.nil_append, List.append_nil]
                    have hfl := far1_le F w a false s c
                    rw [show farR (w c) false s.1 (F - 0) 0 (a c) = far1 F w a false s c from rfl]
                    refine g_aload_n dX4_findFrom_152 rfl rfl ?_
                    refine g_get f_X4_92 dX4_findFrom_153 rfl 3 rfl rfl ?_
                    have hF30 := hB.1
                    refine g_icmp_neN (t := 216) dX4_findFrom_156 (by decide) rfl (by omega) (by omega) (fun h156 => ?_) (fun h156 => ?_)
                    · have hf : fE F w a once last u s c = none := by unfold fE; rw [if_neg (fun z => h156 z.2.2)]
                      rw [fsome, hf] at hv
                      refine g_iinc dX4_findFrom_216 rfl rfl (nI_1 _) (by decide) rfl rfl ?_
                      refine g_goto (q := 67) dX4_findFrom_219 (by decide) ?_
                      refine g_drop 8 rfl ?_
                      exact ih (c + 1) _ _ _ _ _ _ _ _ _ _ _ _ _ (by omega) (by assumption) hv
                    · have hf : fE F w a once last u s c = some [c] := by unfold fE; rw [if_pos ⟨hok, hlb, h156⟩]
                      rw [fsome, hf] at hv
                      subst hv
                      refine g_iconst (v := nI 1) dX4_findFrom_159 rfl (by decide) ?_
                      exact g_zret (b := true) dX4_findFrom_160 rfl (Nat.le_refl _) (Nat.le_refl _) (⟨rfl, _, _, _, _, _, _, _, _, _, _, _, _, _, rfl, hup, row_one (if_pos rfl)⟩)
                · have hlb : lastB last c = false := by unfold lastB; rw [decide_eq_false h115, decide_eq_false h124]; rfl
                  have hf : fE F w a once last u s c = none := by unfold fE; rw [if_neg (fun z => by rw [hlb] at z; exact absurd z.2.1 (by decide))]
                  rw [fsome, hf] at hv
                  refine g_goto (q := 216) dX4_findFrom_127 (by decide) ?_
                  refine g_iinc dX4_findFrom_216 rfl rfl (nI_1 _) (by decide) rfl rfl ?_
                  refine g_goto (q := 67) dX4_findFrom_219 (by decide) ?_
                  refine g_drop 8 rfl ?_
                  exact ih (c + 1) _ _ _ _ _ _ _ _ _ _ _ _ _ (by omega) (by assumption) hv
set_option maxRecDepth 20000 in
theorem lpN_findFrom3 (sk : Nat → Nat) {rh rs rr gl ar yr yg yf pl ps pw pa pr F C N S : Nat} {last ag V E : Int32} {once af : Bool} {st : Nat → Option Nat} {w a r : Nat → Nat} {pt qt p3 q3 p4 q4 p5 q5 : Nat} {zt : Int32} {u : Int32} {s : PSt} {m : Nat} {v : Option (List Nat)} {fr : Nat → Int32} (hB : PB F C N S w a r) (hs0 : SB s.1) (hm1 : m + 4 ≤ 5) (hgl2 : gl = 4 + m + 1) (hst3 : st 3 = some p3) (hst4 : st 4 = some p4) (hst5 : st 5 = some p5) : ∀ (n c : Nat) (fr1 : Nat → Int32) (g3 o3 z3 g4 o4 z4 g5 o5 z5 : Int32) (f3 f4 f5 : Nat → Int32), c + n = C → (∀ j, j < 3 → fr1 j = fr j) → fsome (fN F N S w a r once (dfs F C N S w a r once last m) u s) n c = v → GG sk RX4 yX4_findFrom cX4_findFrom 10 (some .boolean) 6 0 0 (fun q w1 => q = some (.int (zb v.isSome)) ∧ ∃ (fr2 : Nat → Int32) (g3 o3 z3 g4 o4 z4 g5 o5 z5 : Int32) (f3 f4 f5 : Nat → Int32), w1 = [oRows rh rs rr (nI gl) last once ar ag af yr yg yf, cP rs 6 st, cI rr 6 fr2, oPlan pl ps pw pa pr (nI F) (nI C) V E (nI N) (nI S), cI pw 6 (fI w), cI pa 6 (fI a), cI pr 6 (fI r), oPoleS pt qt s zt, cI qt 30 (fI s.1), oPole p3 q3 g3 o3 z3, cI q3 30 f3, oPole p4 q4 g4 o4 z4, cI q4 30 f4, oPole p5 q5 g5 o5 z5, cI q5 30 f5] ∧ (∀ j, j < 3 → fr2 j = fr j) ∧ ∀ l : List Nat, v = some l → ∀ j, j < l.length → fr2 (3 + j) = nI (l.getD j 0)) 0 0 67 [some (.ref rh), some (.ref pl), some (.ref pt), some (.int (nI 3)), some (.int u), some (.int (nI (m + 1))), some (.int (zb false)), some (.int (nI c)), none, none] [] [oRows rh rs rr (nI gl) last once ar ag af yr yg yf, cP rs 6 st, cI rr 6 fr1, oPlan pl ps pw pa pr (nI F) (nI C) V E (nI N) (nI S), cI pw 6 (fI w), cI pa 6 (fI a), cI pr 6 (fI r), oPoleS pt qt s zt, cI qt 30 (fI s.1), oPole p3 q3 g3 o3 z3, cI q3 30 f3, oPole p4 q4 g4 o4 z4, cI q4 30 f4, oPole p5 q5 g5 o5 z5, cI q5 30 f5] := by
  have hC6 := hB.2.1
  intro n
  induction n with
  | zero =>
    intro c fr1 g3 o3 z3 g4 o4 z4 g5 o5 z5 f3 f4 f5 hc hfr hv
    rw [fsome] at hv
    subst hv
    refine g_iload dX4_findFrom_67 rfl rfl ?_
    refine g_aload_n dX4_findFrom_69 rfl rfl ?_
    refine g_get f_X4_55 dX4_findFrom_70 rfl 3 rfl rfl ?_
    refine g_icmp_geN (t := 222) dX4_findFrom_73 (by decide) rfl (by omega) (by omega) (fun h73 => ?_) (fun h73 => ?_)
    · skip
      refine g_iconst (v := nI 0) dX4_findFrom_222 rfl (by decide) ?_
      exact g_zret (b := false) dX4_findFrom_223 rfl (Nat.le_refl _) (Nat.le_refl _) (⟨rfl, _, _, _, _, _, _, _, _, _, _, _, _, _, rfl, hfr, fun l hl => by cases hl⟩)
    · exact absurd h73 (by omega)
  | succ n ih =>
    intro c fr1 g3 o3 z3 g4 o4 z4 g5 o5 z5 f3 f4 f5 hc hfr hv
    refine g_iload dX4_findFrom_67 rfl rfl ?_
    refine g_aload_n dX4_findFrom_69 rfl rfl ?_
    refine g_get f_X4_55 dX4_findFrom_70 rfl 3 rfl rfl ?_
    refine g_icmp_geN (t := 222) dX4_findFrom_73 (by decide) rfl (by omega) (by omega) (fun h73 => ?_) (fun h73 => ?_)
    · exact absurd h73 (by omega)
    · skip
      refine g_aload_n dX4_findFrom_76 rfl rfl ?_
      refine g_get f_X4_60 dX4_findFrom_77 rfl 0 rfl rfl ?_
      refine g_if_eqB (t := 93) dX4_findFrom_80 (by decide) rfl (fun h80 => ?_) (fun h80 => ?_)
      · have hok : okc once u c = true := by unfold okc; rw [h80]; rfl
        refine g_iconst (v := nI 1) dX4_findFrom_93 rfl (by decide) ?_
        refine g_goto (q := 98) dX4_findFrom_94 (by decide) ?_
        refine g_istore dX4_findFrom_98 rfl (by decide) rfl rfl ?_
        refine g_iload dX4_findFrom_100 rfl rfl ?_
        refine g_if_eq (t := 216) dX4_findFrom_102 (by decide) rfl (fun h102 => ?_) (fun h102 => ?_)
        · exact absurd h102 (by decide)
        · skip
          refine g_iload dX4_findFrom_105 rfl rfl ?_
          refine g_if_eqB (t := 130) dX4_findFrom_107 (by decide) rfl (fun h107 => ?_) (fun h107 => ?_)
          · skip
            refine g_aload_n dX4_findFrom_130 rfl rfl ?_
            refine g_get f_X4_24 dX4_findFrom_131 rfl 0 rfl rfl ?_
            refine g_iload_n dX4_findFrom_134 rfl rfl ?_
            refine g_iload dX4_findFrom_135 rfl rfl ?_
            have hup : ∀ j, j < 3 → upd fr1 3 (nI c) j = fr j := fun j hj => by unfold upd; rw [if_neg (by omega)]; exact hfr j hj
            refine g_iastN dX4_findFrom_137 rfl 2 rfl (by omega) (by decide) (rfl) rfl ?_
            refine g_iload dX4_findFrom_138 rfl rfl ?_
            refine g_if_eqB (t := 161) dX4_findFrom_140 (by decide) rfl (fun h140 => ?_) (fun h140 => ?_)
            · skip
              refine g_aload_n dX4_findFrom_161 rfl rfl ?_
              refine g_get f_X4_17 dX4_findFrom_162 rfl 0 rfl rfl ?_
              refine g_iload_n dX4_findFrom_165 rfl rfl ?_
              refine g_aldP dX4_findFrom_166 rfl 1 rfl (by omega) (by decide) (hst3) ?_
              refine g_astore dX4_findFrom_167 rfl (by decide) rfl rfl ?_
              refine g_aload dX4_findFrom_169 rfl rfl ?_
              refine g_aload_n dX4_findFrom_171 rfl rfl ?_
              refine g_callV (c_X1_become sk) m_X4_95 a_X1_become dX4_findFrom_172 rfl [9, 10, 7, 8] rfl rfl 0 rfl rfl rfl (by decide) (by decide) (by decide) (by decide) (Nat.le_of_ble_eq_true rfl) (fun r w hK => ?_)
              obtain ⟨rfl, rfl⟩ := hK
              refine ⟨rfl, ?_⟩
              dsimp only [puts, List.set, Option.toList, List.cons_append, List.nil_append, List.append_nil]
              refine g_aload dX4_findFrom_175 rfl rfl ?_
              refine g_aload_n dX4_findFrom_177 rfl rfl ?_
              refine g_iload dX4_findFrom_178 rfl rfl ?_
              refine g_iconst (v := nI 0) dX4_findFrom_180 rfl (by decide) ?_
              refine g_callV (c_climb sk (sand := false) hB (show c < C by omega) hs0) m_X4_99 a_X1_climb dX4_findFrom_181 rfl [9, 10, 3, 4, 5, 6] rfl rfl 0 rfl rfl rfl (by decide) (by decide) (by decide) (by decide) (Nat.le_of_ble_eq_true rfl) (fun r w hK => ?_)
              obtain ⟨rfl, rfl⟩ := hK
              refine ⟨rfl, ?_⟩
              dsimp only [puts, List.set, Option.toList, List.cons_append, List.nil_append, List.append_nil]
              refine g_pop dX4_findFrom_184 rfl rfl ?_
              refine g_aload dX4_findFrom_185 rfl rfl ?_
              refine g_get f_X4_74 dX4_findFrom_187 rfl 9 rfl rfl ?_
              refine g_iconst (v := -1) dX4_findFrom_190 rfl (by decide) ?_
              refine g_icmp_ne (t := 216) dX4_findFrom_191 (by decide) rfl (fun h191 => ?_) (fun h191 => ?_)
              · have hf : fN F N S w a r once (dfs F C N S w a r once last m) u s c = none := by unfold fN; rw [if_neg (fun z => h191 z.2)]
                rw [fsome, hf] at hv
                refine g_iinc dX4_findFrom_216 rfl rfl (nI_1 _) (by decide) rfl rfl ?_
                refine g_goto (q := 67) dX4_findFrom_219 (by decide) ?_
                refine g_drop 8 rfl ?_
                try refine g_drop 9 rfl ?_
                exact ih (c + 1) _ _ _ _ _ _ _ _ _ _ _ _ _ (by omega) (by assumption) hv
              · skip
                refine g_aload_n dX4_findFrom_194 rfl rfl ?_
                refine g_aload_n dX4_findFrom_195 rfl rfl ?_
                refine g_aload dX4_findFrom_196 rfl rfl ?_
                refine g_iload_n dX4_findFrom_198 rfl rfl ?_
                refine g_iconst (v := nI 1) dX4_findFrom_199 rfl (by decide) ?_
                refine g_iadd dX4_findFrom_200 rfl (nI_add _ _) ?_
                refine g_iload dX4_findFrom_201 rfl rfl ?_
                refine g_iconst (v := nI 1) dX4_findFrom_203 rfl (by decide) ?_
                refine g_iload dX4_findFrom_204 rfl rfl ?_
                refine g_ishl dX4_findFrom_206 rfl rfl ?_
                refine g_ior dX4_findFrom_207 rfl rfl ?_
                refine g_callV (c_findFrom4 sk hB (hm1) hgl2 (go1_SB hs0) hst4 hst5) m_X4_80 a_X4_findFrom dX4_findFrom_208 rfl [0, 1, 2, 3, 4, 5, 6, 9, 10, 11, 12, 13, 14] rfl rfl 0 rfl rfl rfl (by decide) (by decide) (by decide) (by decide) (Nat.le_of_ble_eq_true rfl) (fun r w hK => ?_)
                obtain ⟨rfl, fr2, g4, o4, z4, g5, o5, z5, f4, f5, rfl, hfr2, hl2⟩ := hK
                refine ⟨rfl, ?_⟩
                dsimp only [puts, List.set, Option.toList, List.cons_append, List.nil_append, List.append_nil]
                refine g_if_eqB (t := 216) dX4_findFrom_211 (by decide) rfl (fun h211 => ?_) (fun h211 => ?_)
                · have hn : dfs F C N S w a r once last m (u ||| (nI 1 <<< (nI c &&& 31))) (go1 F N S w a r false s c) = none := by simpa using h211
                  have hf : fN F N S w a r once (dfs F C N S w a r once last m) u s c = none := by unfold fN; rw [if_pos ⟨hok, h191⟩, hn]; rfl
                  rw [fsome, hf] at hv
                  have hfrc : ∀ j, j < 3 → fr2 j = fr j := fun j hj => (hfr2 j (by omega)).trans (hup j hj)
                  refine g_iinc dX4_findFrom_216 rfl rfl (nI_1 _) (by decide) rfl rfl ?_
                  refine g_goto (q := 67) dX4_findFrom_219 (by decide) ?_
                  refine g_drop 8 rfl ?_
                  try refine g_drop 9 rfl ?_
                  exact ih (c + 1) _ _ _ _ _ _ _ _ _ _ _ _ _ (by omega) (by assumption) hv
                · obtain ⟨l0, hl0⟩ := Option.isSome_iff_exists.mp h211
                  have hf : fN F N S w a r once (dfs F C N S w a r once last m) u s c = some (c :: l0) := by unfold fN; rw [if_pos ⟨hok, h191⟩, hl0]; rfl
                  rw [fsome, hf] at hv
                  subst hv
                  have hfrc : ∀ j, j < 3 → fr2 j = fr j := fun j hj => (hfr2 j (by omega)).trans (hup j hj)
                  refine g_iconst (v := nI 1) dX4_findFrom_214 rfl (by decide) ?_
                  exact g_zret (b := true) dX4_findFrom_215 rfl (Nat.le_refl _) (Nat.le_refl _) (⟨rfl, _, _, _, _, _, _, _, _, _, _, _, _, _, rfl, hfrc, row_cons ((hfr2 3 (by omega)).trans (if_pos rfl)) (fun j hj => hl2 l0 hl0 j hj)⟩)
            · exact absurd h140 (by decide)
          · exact absurd h107 (by decide)
      · skip
        refine g_iload dX4_findFrom_83 rfl rfl ?_
        refine g_iload dX4_findFrom_85 rfl rfl ?_
        refine g_ishr dX4_findFrom_87 rfl rfl ?_
        refine g_iconst (v := nI 1) dX4_findFrom_88 rfl (by decide) ?_
        refine g_iand dX4_findFrom_89 rfl rfl ?_
        refine g_if_ne (t := 97) dX4_findFrom_90 (by decide) rfl (fun h90 => ?_) (fun h90 => ?_)
        · have hok : okc once u c = false := by unfold okc; rw [h80, decide_eq_false h90]; rfl
          have hf : fN F N S w a r once (dfs F C N S w a r once last m) u s c = none := by unfold fN; rw [if_neg (fun z => by rw [hok] at z; exact absurd z.1 (by decide))]
          rw [fsome, hf] at hv
          refine g_iconst (v := nI 0) dX4_findFrom_97 rfl (by decide) ?_
          refine g_istore dX4_findFrom_98 rfl (by decide) rfl rfl ?_
          refine g_iload dX4_findFrom_100 rfl rfl ?_
          refine g_if_eq (t := 216) dX4_findFrom_102 (by decide) rfl (fun h102 => ?_) (fun h102 => ?_)
          · skip
            refine g_iinc dX4_findFrom_216 rfl rfl (nI_1 _) (by decide) rfl rfl ?_
            refine g_goto (q := 67) dX4_findFrom_219 (by decide) ?_
            refine g_drop 8 rfl ?_
            try refine g_drop 9 rfl ?_
            exact ih (c + 1) _ _ _ _ _ _ _ _ _ _ _ _ _ (by omega) (by assumption) hv
          · exact absurd h102 (by decide)
        · have hok : okc once u c = true := by unfold okc; rw [h80, decide_eq_true h90]; rfl
          refine g_iconst (v := nI 1) dX4_findFrom_93 rfl (by decide) ?_
          refine g_goto (q := 98) dX4_findFrom_94 (by decide) ?_
          refine g_istore dX4_findFrom_98 rfl (by decide) rfl rfl ?_
          refine g_iload dX4_findFrom_100 rfl rfl ?_
          refine g_if_eq (t := 216) dX4_findFrom_102 (by decide) rfl (fun h102 => ?_) (fun h102 => ?_)
          · exact absurd h102 (by decide)
          · skip
            refine g_iload dX4_findFrom_105 rfl rfl ?_
            refine g_if_eqB (t := 130) dX4_findFrom_107 (by decide) rfl (fun h107 => ?_) (fun h107 => ?_)
            · skip
              refine g_aload_n dX4_findFrom_130 rfl rfl ?_
              refine g_get f_X4_24 dX4_findFrom_131 rfl 0 rfl rfl ?_
              refine g_iload_n dX4_findFrom_134 rfl rfl ?_
              refine g_iload dX4_findFrom_135 rfl rfl ?_
              have hup : ∀ j, j < 3 → upd fr1 3 (nI c) j = fr j := fun j hj => by unfold upd; rw [if_neg (by omega)]; exact hfr j hj
              refine g_iastN dX4_findFrom_137 rfl 2 rfl (by omega) (by decide) (rfl) rfl ?_
              refine g_iload dX4_findFrom_138 rfl rfl ?_
              refine g_if_eqB (t := 161) dX4_findFrom_140 (by decide) rfl (fun h140 => ?_) (fun h140 => ?_)
              · skip
                refine g_aload_n dX4_findFrom_161 rfl rfl ?_
                refine g_get f_X4_17 dX4_findFrom_162 rfl 0 rfl rfl ?_
                refine g_iload_n dX4_findFrom_165 rfl rfl ?_
                refine g_aldP dX4_findFrom_166 rfl 1 rfl (by omega) (by decide) (hst3) ?_
                refine g_astore dX4_findFrom_167 rfl (by decide) rfl rfl ?_
                refine g_aload dX4_findFrom_169 rfl rfl ?_
                refine g_aload_n dX4_findFrom_171 rfl rfl ?_
                refine g_callV (c_X1_become sk) m_X4_95 a_X1_become dX4_findFrom_172 rfl [9, 10, 7, 8] rfl rfl 0 rfl rfl rfl (by decide) (by decide) (by decide) (by decide) (Nat.le_of_ble_eq_true rfl) (fun r w hK => ?_)
                obtain ⟨rfl, rfl⟩ := hK
                refine ⟨rfl, ?_⟩
                dsimp only [puts, List.set, Option.toList, List.cons_append, List.nil_append, List.append_nil]
                refine g_aload dX4_findFrom_175 rfl rfl ?_
                refine g_aload_n dX4_findFrom_177 rfl rfl ?_
                refine g_iload dX4_findFrom_178 rfl rfl ?_
                refine g_iconst (v := nI 0) dX4_findFrom_180 rfl (by decide) ?_
                refine g_callV (c_climb sk (sand := false) hB (show c < C by omega) hs0) m_X4_99 a_X1_climb dX4_findFrom_181 rfl [9, 10, 3, 4, 5, 6] rfl rfl 0 rfl rfl rfl (by decide) (by decide) (by decide) (by decide) (Nat.le_of_ble_eq_true rfl) (fun r w hK => ?_)
                obtain ⟨rfl, rfl⟩ := hK
                refine ⟨rfl, ?_⟩
                dsimp only [puts, List.set, Option.toList, List.cons_append, List.nil_append, List.append_nil]
                refine g_pop dX4_findFrom_184 rfl rfl ?_
                refine g_aload dX4_findFrom_185 rfl rfl ?_
                refine g_get f_X4_74 dX4_findFrom_187 rfl 9 rfl rfl ?_
                refine g_iconst (v := -1) dX4_findFrom_190 rfl (by decide) ?_
                refine g_icmp_ne (t := 216) dX4_findFrom_191 (by decide) rfl (fun h191 => ?_) (fun h191 => ?_)
                · have hf : fN F N S w a r once (dfs F C N S w a r once last m) u s c = none := by unfold fN; rw [if_neg (fun z => h191 z.2)]
                  rw [fsome, hf] at hv
                  refine g_iinc dX4_findFrom_216 rfl rfl (nI_1 _) (by decide) rfl rfl ?_
                  refine g_goto (q := 67) dX4_findFrom_219 (by decide) ?_
                  refine g_drop 8 rfl ?_
                  try refine g_drop 9 rfl ?_
                  exact ih (c + 1) _ _ _ _ _ _ _ _ _ _ _ _ _ (by omega) (by assumption) hv
                · skip
                  refine g_aload_n dX4_findFrom_194 rfl rfl ?_
                  refine g_aload_n dX4_findFrom_195 rfl rfl ?_
                  refine g_aload dX4_findFrom_196 rfl rfl ?_
                  refine g_iload_n dX4_findFrom_198 rfl rfl ?_
                  refine g_iconst (v := nI 1) dX4_findFrom_199 rfl (by decide) ?_
                  refine g_iadd dX4_findFrom_200 rfl (nI_add _ _) ?_
                  refine g_iload dX4_findFrom_201 rfl rfl ?_
                  refine g_iconst (v := nI 1) dX4_findFrom_203 rfl (by decide) ?_
                  refine g_iload dX4_findFrom_204 rfl rfl ?_
                  refine g_ishl dX4_findFrom_206 rfl rfl ?_
                  refine g_ior dX4_findFrom_207 rfl rfl ?_
                  refine g_callV (c_findFrom4 sk hB (hm1) hgl2 (go1_SB hs0) hst4 hst5) m_X4_80 a_X4_findFrom dX4_findFrom_208 rfl [0, 1, 2, 3, 4, 5, 6, 9, 10, 11, 12, 13, 14] rfl rfl 0 rfl rfl rfl (by decide) (by decide) (by decide) (by decide) (Nat.le_of_ble_eq_true rfl) (fun r w hK => ?_)
                  obtain ⟨rfl, fr2, g4, o4, z4, g5, o5, z5, f4, f5, rfl, hfr2, hl2⟩ := hK
                  refine ⟨rfl, ?_⟩
                  dsimp only [puts, List.set, Option.toList, List.cons_append, List.nil_append, List.append_nil]
                  refine g_if_eqB (t := 216) dX4_findFrom_211 (by decide) rfl (fun h211 => ?_) (fun h211 => ?_)
                  · have hn : dfs F C N S w a r once last m (u ||| (nI 1 <<< (nI c &&& 31))) (go1 F N S w a r false s c) = none := by simpa using h211
                    have hf : fN F N S w a r once (dfs F C N S w a r once last m) u s c = none := by unfold fN; rw [if_pos ⟨hok, h191⟩, hn]; rfl
                    rw [fsome, hf] at hv
                    have hfrc : ∀ j, j < 3 → fr2 j = fr j := fun j hj => (hfr2 j (by omega)).trans (hup j hj)
                    refine g_iinc dX4_findFrom_216 rfl rfl (nI_1 _) (by decide) rfl rfl ?_
                    refine g_goto (q := 67) dX4_findFrom_219 (by decide) ?_
                    refine g_drop 8 rfl ?_
                    try refine g_drop 9 rfl ?_
                    exact ih (c + 1) _ _ _ _ _ _ _ _ _ _ _ _ _ (by omega) (by assumption) hv
                  · obtain ⟨l0, hl0⟩ := Option.isSome_iff_exists.mp h211
                    have hf : fN F N S w a r once (dfs F C N S w a r once last m) u s c = some (c :: l0) := by unfold fN; rw [if_pos ⟨hok, h191⟩, hl0]; rfl
                    rw [fsome, hf] at hv
                    subst hv
                    have hfrc : ∀ j, j < 3 → fr2 j = fr j := fun j hj => (hfr2 j (by omega)).trans (hup j hj)
                    refine g_iconst (v := nI 1) dX4_findFrom_214 rfl (by decide) ?_
                    exact g_zret (b := true) dX4_findFrom_215 rfl (Nat.le_refl _) (Nat.le_refl _) (⟨rfl, _, _, _, _, _, _, _, _, _, _, _, _, _, rfl, hfrc, row_cons ((hfr2 3 (by omega)).trans (if_pos rfl)) (fun j hj => hl2 l0 hl0 j hj)⟩)
              · exact absurd h140 (by decide)
            · exact absurd h107 (by decide)
set_option maxRecDepth 20000 in
theorem c_findFrom3 (sk : Nat → Nat) {rh rs rr gl ar yr yg yf pl ps pw pa pr F C N S : Nat} {last ag V E : Int32} {once af : Bool} {st : Nat → Option Nat} {w a r : Nat → Nat} {pt qt p3 q3 p4 q4 p5 q5 : Nat} {zt : Int32} {u : Int32} {s : PSt} {m : Nat} {fr : Nat → Int32} {g3 o3 z3 g4 o4 z4 g5 o5 z5 : Int32} {f3 f4 f5 : Nat → Int32} (hB : PB F C N S w a r) (hm : m + 3 ≤ 5) (hgl : gl = 3 + m + 1) (hs0 : SB s.1) (hst3 : st 3 = some p3) (hst4 : st 4 = some p4) (hst5 : st 5 = some p5) : Ct sk yX4_findFrom cX4_findFrom 10 (some .boolean) 6 0 0 [oRows rh rs rr (nI gl) last once ar ag af yr yg yf, cP rs 6 st, cI rr 6 fr, oPlan pl ps pw pa pr (nI F) (nI C) V E (nI N) (nI S), cI pw 6 (fI w), cI pa 6 (fI a), cI pr 6 (fI r), oPoleS pt qt s zt, cI qt 30 (fI s.1), oPole p3 q3 g3 o3 z3, cI q3 30 f3, oPole p4 q4 g4 o4 z4, cI q4 30 f4, oPole p5 q5 g5 o5 z5, cI q5 30 f5] [.ref rh, .ref pl, .ref pt, .int (nI 3), .int u] (fun q w1 => q = some (.int (zb (dfs F C N S w a r once last m u s).isSome)) ∧ ∃ (fr2 : Nat → Int32) (g3 o3 z3 g4 o4 z4 g5 o5 z5 : Int32) (f3 f4 f5 : Nat → Int32), w1 = [oRows rh rs rr (nI gl) last once ar ag af yr yg yf, cP rs 6 st, cI rr 6 fr2, oPlan pl ps pw pa pr (nI F) (nI C) V E (nI N) (nI S), cI pw 6 (fI w), cI pa 6 (fI a), cI pr 6 (fI r), oPoleS pt qt s zt, cI qt 30 (fI s.1), oPole p3 q3 g3 o3 z3, cI q3 30 f3, oPole p4 q4 g4 o4 z4, cI q4 30 f4, oPole p5 q5 g5 o5 z5, cI q5 30 f5] ∧ (∀ j, j < 3 → fr2 j = fr j) ∧ ∀ l : List Nat, dfs F C N S w a r once last m u s = some l → ∀ j, j < l.length → fr2 (3 + j) = nI (l.getD j 0)) := by
  refine Ct.of (own := RX4) (l := [some (.ref rh), some (.ref pl), some (.ref pt), some (.int (nI 3)), some (.int u), none, none, none, none, none]) (by decide) rfl (Nat.le_of_ble_eq_true rfl) rfl ?_
  refine g_aload_n dX4_findFrom_0 rfl rfl ?_
  refine g_get f_X4_77 dX4_findFrom_1 rfl 0 rfl rfl ?_
  refine g_iconst (v := nI 1) dX4_findFrom_4 rfl (by decide) ?_
  refine g_isub dX4_findFrom_5 rfl (pk_sub (by omega)) ?_
  refine g_iload_n dX4_findFrom_6 rfl rfl ?_
  refine g_isub (v := nI m) dX4_findFrom_7 rfl (by rw [pk_sub (by omega), show gl - 1 - 3 = m by omega]) ?_
  refine g_istore dX4_findFrom_8 rfl (by decide) rfl rfl ?_
  refine g_iload dX4_findFrom_10 rfl rfl ?_
  refine g_if_lt (t := 37) dX4_findFrom_12 (by decide) rfl (fun h12 => ?_) (fun h12 => ?_)
  · exact absurd h12 (nI_nlt0 (by omega))
  · skip
    refine g_iload_n dX4_findFrom_15 rfl rfl ?_
    refine g_if_lt (t := 37) dX4_findFrom_16 (by decide) rfl (fun h16 => ?_) (fun h16 => ?_)
    · exact absurd h16 (nI_nlt0 (by omega))
    · skip
      refine g_iload_n dX4_findFrom_19 rfl rfl ?_
      refine g_aload_n dX4_findFrom_20 rfl rfl ?_
      refine g_get f_X4_24 dX4_findFrom_21 rfl 0 rfl rfl ?_
      refine g_alen dX4_findFrom_24 rfl 2 rfl (Nat.le_of_ble_eq_true rfl) rfl ?_
      refine g_icmp_geN (t := 37) dX4_findFrom_25 (by decide) rfl (by omega) (by omega) (fun h25 => ?_) (fun h25 => ?_)
      · exact absurd h25 (by omega)
      · skip
        refine g_iload_n dX4_findFrom_28 rfl rfl ?_
        refine g_aload_n dX4_findFrom_29 rfl rfl ?_
        refine g_get f_X4_17 dX4_findFrom_30 rfl 0 rfl rfl ?_
        refine g_alen dX4_findFrom_33 rfl 1 rfl (Nat.le_of_ble_eq_true rfl) rfl ?_
        refine g_icmp_ltN (t := 39) dX4_findFrom_34 (by decide) rfl (by omega) (by omega) (fun h34 => ?_) (fun h34 => ?_)
        · skip
          refine g_aload_n dX4_findFrom_39 rfl rfl ?_
          refine g_aload_n dX4_findFrom_40 rfl rfl ?_
          refine g_aload_n dX4_findFrom_41 rfl rfl ?_
          refine g_iload dX4_findFrom_42 rfl rfl ?_
          refine g_callV (c_X4_isHopeless sk (m := m) hB hs0 (by omega)) m_X4_84 a_X4_isHopeless dX4_findFrom_44 rfl [0, 3, 4, 5, 6, 7, 8] rfl rfl 0 rfl rfl rfl (by decide) (by decide) (by decide) (by decide) (Nat.le_of_ble_eq_true rfl) (fun r w hK => ?_)
          obtain ⟨rfl, rfl⟩ := hK
          refine ⟨rfl, ?_⟩
          dsimp only [puts, List.set, Option.toList, List.cons_append, List.nil_append, List.append_nil]
          refine g_if_eqB (t := 52) dX4_findFrom_47 (by decide) rfl (fun h47 => ?_) (fun h47 => ?_)
          · have hh : hopeR F C N S w a r last m s C 0 = true := by simpa using h47
            refine g_iload dX4_findFrom_52 rfl rfl ?_
            refine g_if_ne (t := 61) dX4_findFrom_54 (by decide) rfl (fun h54 => ?_) (fun h54 => ?_)
            · have hm0 : ¬ m = 0 := fun e => h54 (congrArg nI e : nI m = nI 0)
              refine g_iconst (v := nI 0) dX4_findFrom_61 rfl (by decide) ?_
              refine g_istore dX4_findFrom_62 rfl (by decide) rfl rfl ?_
              refine g_iconst (v := nI 0) dX4_findFrom_64 rfl (by decide) ?_
              refine g_istore dX4_findFrom_65 rfl (by decide) rfl rfl ?_
              generalize hD : dfs F C N S w a r once last m u s = v
              obtain ⟨m, rfl⟩ : ∃ k, m = k + 1 := ⟨m - 1, by omega⟩
              rw [dfs, if_pos hh] at hD
              exact lpN_findFrom3 sk hB hs0 (by omega) (by omega) hst3 hst4 hst5 C 0 fr _ _ _ _ _ _ _ _ _ _ _ _ (by omega) (fun _ _ => rfl) hD
            · have hm0 : m = 0 := (nI_eq (by omega) (by omega)).mp (h54 : nI m = nI 0)
              refine g_iconst (v := nI 1) dX4_findFrom_57 rfl (by decide) ?_
              refine g_goto (q := 62) dX4_findFrom_58 (by decide) ?_
              refine g_istore dX4_findFrom_62 rfl (by decide) rfl rfl ?_
              refine g_iconst (v := nI 0) dX4_findFrom_64 rfl (by decide) ?_
              refine g_istore dX4_findFrom_65 rfl (by decide) rfl rfl ?_
              generalize hD : dfs F C N S w a r once last m u s = v
              subst hm0
              rw [dfs, if_pos hh] at hD
              exact lpE_findFrom3 sk hB hs0 hst3 hst4 hst5 C 0 fr _ _ _ _ _ _ _ _ _ _ _ _ (by omega) (fun _ _ => rfl) hD
          · have hh : ¬ hopeR F C N S w a r last m s C 0 = true := by simpa using h47
            have hD : dfs F C N S w a r once last m u s = none := by cases m <;> rw [dfs, if_neg hh]
            refine g_iconst (v := nI 0) dX4_findFrom_50 rfl (by decide) ?_
            exact g_zret (b := false) dX4_findFrom_51 rfl (Nat.le_refl _) (Nat.le_refl _) (⟨by rw [hD]; rfl, _, _, _, _, _, _, _, _, _, _, _, _, _, rfl, fun _ _ => rfl, fun l hl => by rw [hD] at hl; cases hl⟩)
        · exact absurd h34 (by omega)
set_option maxRecDepth 20000 in
theorem lpE_findFrom2 (sk : Nat → Nat) {rh rs rr gl ar yr yg yf pl ps pw pa pr F C N S : Nat} {last ag V E : Int32} {once af : Bool} {st : Nat → Option Nat} {w a r : Nat → Nat} {pt qt p2 q2 p3 q3 p4 q4 p5 q5 : Nat} {zt : Int32} {u : Int32} {s : PSt} {v : Option (List Nat)} {fr : Nat → Int32} (hB : PB F C N S w a r) (hs0 : SB s.1) (hst2 : st 2 = some p2) (hst3 : st 3 = some p3) (hst4 : st 4 = some p4) (hst5 : st 5 = some p5) : ∀ (n c : Nat) (fr1 : Nat → Int32) (g2 o2 z2 g3 o3 z3 g4 o4 z4 g5 o5 z5 : Int32) (f2 f3 f4 f5 : Nat → Int32), c + n = C → (∀ j, j < 2 → fr1 j = fr j) → fsome (fE F w a once last u s) n c = v → GG sk RX4 yX4_findFrom cX4_findFrom 10 (some .boolean) 7 0 0 (fun q w1 => q = some (.int (zb v.isSome)) ∧ ∃ (fr2 : Nat → Int32) (g2 o2 z2 g3 o3 z3 g4 o4 z4 g5 o5 z5 : Int32) (f2 f3 f4 f5 : Nat → Int32), w1 = [oRows rh rs rr (nI gl) last once ar ag af yr yg yf, cP rs 6 st, cI rr 6 fr2, oPlan pl ps pw pa pr (nI F) (nI C) V E (nI N) (nI S), cI pw 6 (fI w), cI pa 6 (fI a), cI pr 6 (fI r), oPoleS pt qt s zt, cI qt 30 (fI s.1), oPole p2 q2 g2 o2 z2, cI q2 30 f2, oPole p3 q3 g3 o3 z3, cI q3 30 f3, oPole p4 q4 g4 o4 z4, cI q4 30 f4, oPole p5 q5 g5 o5 z5, cI q5 30 f5] ∧ (∀ j, j < 2 → fr2 j = fr j) ∧ ∀ l : List Nat, v = some l → ∀ j, j < l.length → fr2 (2 + j) = nI (l.getD j 0)) 0 0 67 [some (.ref rh), some (.ref pl), some (.ref pt), some (.int (nI 2)), some (.int u), some (.int (nI 0)), some (.int (zb true)), some (.int (nI c)), none, none] [] [oRows rh rs rr (nI gl) last once ar ag af yr yg yf, cP rs 6 st, cI rr 6 fr1, oPlan pl ps pw pa pr (nI F) (nI C) V E (nI N) (nI S), cI pw 6 (fI w), cI pa 6 (fI a), cI pr 6 (fI r), oPoleS pt qt s zt, cI qt 30 (fI s.1), oPole p2 q2 g2 o2 z2, cI q2 30 f2, oPole p3 q3 g3 o3 z3, cI q3 30 f3, oPole p4 q4 g4 o4 z4, cI q4 30 f4, oPole p5 q5 g5 o5 z5, cI q5 30 f5] := by
  have hC6 := hB.2.1
  intro n
  induction n with
  | zero =>
    intro c fr1 g2 o2 z2 g3 o3 z3 g4 o4 z4 g5 o5 z5 f2 f3 f4 f5 hc hfr hv
    rw [fsome] at hv
    subst hv
    refine g_iload dX4_findFrom_67 rfl rfl ?_
    refine g_aload_n dX4_findFrom_69 rfl rfl ?_
    refine g_get f_X4_55 dX4_findFrom_70 rfl 3 rfl rfl ?_
    refine g_icmp_geN (t := 222) dX4_findFrom_73 (by decide) rfl (by omega) (by omega) (fun h73 => ?_) (fun h73 => ?_)
    · skip
      refine g_iconst (v := nI 0) dX4_findFrom_222 rfl (by decide) ?_
      exact g_zret (b := false) dX4_findFrom_223 rfl (Nat.le_refl _) (Nat.le_refl _) (⟨rfl, _, _, _, _, _, _, _, _, _, _, _, _, _, _, _, _, _, rfl, hfr, fun l hl => by cases hl⟩)
    · exact absurd h73 (by omega)
  | succ n ih =>
    intro c fr1 g2 o2 z2 g3 o3 z3 g4 o4 z4 g5 o5 z5 f2 f3 f4 f5 hc hfr hv
    refine g_iload dX4_findFrom_67 rfl rfl ?_
    refine g_aload_n dX4_findFrom_69 rfl rfl ?_
    refine g_get f_X4_55 dX4_findFrom_70 rfl 3 rfl rfl ?_
    refine g_icmp_geN (t := 222) dX4_findFrom_73 (by decide) rfl (by omega) (by omega) (fun h73 => ?_) (fun h73 => ?_)
    · exact absurd h73 (by omega)
    · skip
      refine g_aload_n dX4_findFrom_76 rfl rfl ?_
      refine g_get f_X4_60 dX4_findFrom_77 rfl 0 rfl rfl ?_
      refine g_if_eqB (t := 93) dX4_findFrom_80 (by decide) rfl (fun h80 => ?_) (fun h80 => ?_)
      · have hok : okc once u c = true := by unfold okc; rw [h80]; rfl
        refine g_iconst (v := nI 1) dX4_findFrom_93 rfl (by decide) ?_
        refine g_goto (q := 98) dX4_findFrom_94 (by decide) ?_
        refine g_istore dX4_findFrom_98 rfl (by decide) rfl rfl ?_
        refine g_iload dX4_findFrom_100 rfl rfl ?_
        refine g_if_eq (t := 216) dX4_findFrom_102 (by decide) rfl (fun h102 => ?_) (fun h102 => ?_)
        · exact absurd h102 (by decide)
        · skip
          refine g_iload dX4_findFrom_105 rfl rfl ?_
          refine g_if_eqB (t := 130) dX4_findFrom_107 (by decide) rfl (fun h107 => ?_) (fun h107 => ?_)
          · exact absurd h107 (by decide)
          · skip
            refine g_aload_n dX4_findFrom_110 rfl rfl ?_
            refine g_get f_X4_63 dX4_findFrom_111 rfl 0 rfl rfl ?_
            refine g_iconst (v := -1) dX4_findFrom_114 rfl (by decide) ?_
            refine g_icmp_eq (t := 130) dX4_findFrom_115 (by decide) rfl (fun h115 => ?_) (fun h115 => ?_)
            · have hlb : lastB last c = true := by unfold lastB; rw [decide_eq_true h115]; rfl
              refine g_aload_n dX4_findFrom_130 rfl rfl ?_
              refine g_get f_X4_24 dX4_findFrom_131 rfl 0 rfl rfl ?_
              refine g_iload_n dX4_findFrom_134 rfl rfl ?_
              refine g_iload dX4_findFrom_135 rfl rfl ?_
              have hup : ∀ j, j < 2 → upd fr1 2 (nI c) j = fr j := fun j hj => by unfold upd; rw [if_neg (by omega)]; exact hfr j hj
              refine g_iastN dX4_findFrom_137 rfl 2 rfl (by omega) (by decide) (rfl) rfl ?_
              refine g_iload dX4_findFrom_138 rfl rfl ?_
              refine g_if_eqB (t := 161) dX4_findFrom_140 (by decide) rfl (fun h140 => ?_) (fun h140 => ?_)
              · exact absurd h140 (by decide)
              · skip
                refine g_aload_n dX4_findFrom_143 rfl rfl ?_
                refine g_aload_n dX4_findFrom_144 rfl rfl ?_
                refine g_iload dX4_findFrom_145 rfl rfl ?_
                refine g_iconst (v := nI 0) dX4_findFrom_147 rfl (by decide) ?_
                refine g_iconst (v := nI 0) dX4_findFrom_148 rfl (by decide) ?_
                refine g_callV (c_X1_reach sk (sand := false) (fr := 0) hB.1 (show c < 6 by omega) hs0 (hB.2.2.2.2.2.2 c (by omega)).1 (hB.2.2.2.2.2.2 c (by omega)).2.1 (Nat.zero_le _)) m_X4_88 a_X1_reach dX4_findFrom_149 rfl [7, 8, 3, 4, 5] rfl rfl 0 rfl rfl rfl (by decide) (by decide) (by decide) (by decide) (Nat.le_of_ble_eq_true rfl) (fun r w hK => ?_)
                obtain ⟨rfl, rfl⟩ := hK
                refine ⟨rfl, ?_⟩
                dsimp only [puts, List.set, Option.toList, List.cons_append, List.nil_append, List.append_nil]
                have hfl := far1_le F w a false s c
                rw [show farR (w c) false s.1 (F - 0) 0 (a c) = far1 F w a false s c from rfl]
                refine g_aload_n dX4_findFrom_152 rfl rfl ?_
                refine g_get f_X4_92 dX4_findFrom_153 rfl 3 rfl rfl ?_
                have hF30 := hB.1
                refine g_icmp_neN (t := 216) dX4_findFrom_156 (by decide) rfl (by omega) (by omega) (fun h156 => ?_) (fun h156 => ?_)
                · have hf : fE F w a once last u s c = none := by unfold fE; rw [if_neg (fun z => h156 z.2.2)]
                  rw [fsome, hf] at hv
                  refine g_iinc dX4_findFrom_216 rfl rfl (nI_1 _) (by decide) rfl rfl ?_
                  refine g_goto (q := 67) dX4_findFrom_219 (by decide) ?_
                  refine g_drop 8 rfl ?_
                  exact ih (c + 1) _ _ _ _ _ _ _ _ _ _ _ _ _ _ _ _ _ (by omega) (by assumption) hv
                · have hf : fE F w a once last u s c = some [c] := by unfold fE; rw [if_pos ⟨hok, hlb, h156⟩]
                  rw [fsome, hf] at hv
                  subst hv
                  refine g_iconst (v := nI 1) dX4_findFrom_159 rfl (by decide) ?_
                  exact g_zret (b := true) dX4_findFrom_160 rfl (Nat.le_refl _) (Nat.le_refl _) (⟨rfl, _, _, _, _, _, _, _, _, _, _, _, _, _, _, _, _, _, rfl, hup, row_one (if_pos rfl)⟩)
            · skip
              refine g_iload dX4_findFrom_118 rfl rfl ?_
              refine g_aload_n dX4_findFrom_120 rfl rfl ?_
              refine g_get f_X4_63 dX4_findFrom_121 rfl 0 rfl rfl ?_
              refine g_icmp_eq (t := 130) dX4_findFrom_124 (by decide) rfl (fun h124 => ?_) (fun h124 => ?_)
              · have hlb : lastB last c = true := by unfold lastB; rw [decide_eq_true h124, Bool.or_true]
                refine g_aload_n dX4_findFrom_130 rfl rfl ?_
                refine g_get f_X4_24 dX4_findFrom_131 rfl 0 rfl rfl ?_
                refine g_iload_n dX4_findFrom_134 rfl rfl ?_
                refine g_iload dX4_findFrom_135 rfl rfl ?_
                have hup : ∀ j, j < 2 → upd fr1 2 (nI c) j = fr j := fun j hj => by unfold upd; rw [if_neg (by omega)]; exact hfr j hj
                refine g_iastN dX4_findFrom_137 rfl 2 rfl (by omega) (by decide) (rfl) rfl ?_
                refine g_iload dX4_findFrom_138 rfl rfl ?_
                refine g_if_eqB (t := 161) dX4_findFrom_140 (by decide) rfl (fun h140 => ?_) (fun h140 => ?_)
                · exact absurd h140 (by decide)
                · skip
                  refine g_aload_n dX4_findFrom_143 rfl rfl ?_
                  refine g_aload_n dX4_findFrom_144 rfl rfl ?_
                  refine g_iload dX4_findFrom_145 rfl rfl ?_
                  refine g_iconst (v := nI 0) dX4_findFrom_147 rfl (by decide) ?_
                  refine g_iconst (v := nI 0) dX4_findFrom_148 rfl (by decide) ?_
                  refine g_callV (c_X1_reach sk (sand := false) (fr := 0) hB.1 (show c < 6 by omega) hs0 (hB.2.2.2.2.2.2 c (by omega)).1 (hB.2.2.2.2.2.2 c (by omega)).2.1 (Nat.zero_le _)) m_X4_88 a_X1_reach dX4_findFrom_149 rfl [7, 8, 3, 4, 5] rfl rfl 0 rfl rfl rfl (by decide) (by decide) (by decide) (by decide) (Nat.le_of_ble_eq_true rfl) (fun r w hK => ?_)
                  obtain ⟨rfl, rfl⟩ := hK
                  refine ⟨rfl, ?_⟩
                  dsimp only [puts, List.set, Option.toList, List.cons_append, List.nil_append, List.append_nil]
                  have hfl := far1_le F w a false s c
                  rw [show farR (w c) false s.1 (F - 0) 0 (a c) = far1 F w a false s c from rfl]
                  refine g_aload_n dX4_findFrom_152 rfl rfl ?_
                  refine g_get f_X4_92 dX4_findFrom_153 rfl 3 rfl rfl ?_
                  have hF30 := hB.1
                  refine g_icmp_neN (t := 216) dX4_findFrom_156 (by decide) rfl (by omega) (by omega) (fun h156 => ?_) (fun h156 => ?_)
                  · have hf : fE F w a once last u s c = none := by unfold fE; rw [if_neg (fun z => h156 z.2.2)]
                    rw [fsome, hf] at hv
                    refine g_iinc dX4_findFrom_216 rfl rfl (nI_1 _) (by decide) rfl rfl ?_
                    refine g_goto (q := 67) dX4_findFrom_219 (by decide) ?_
                    refine g_drop 8 rfl ?_
                    exact ih (c + 1) _ _ _ _ _ _ _ _ _ _ _ _ _ _ _ _ _ (by omega) (by assumption) hv
                  · have hf : fE F w a once last u s c = some [c] := by unfold fE; rw [if_pos ⟨hok, hlb, h156⟩]
                    rw [fsome, hf] at hv
                    subst hv
                    refine g_iconst (v := nI 1) dX4_findFrom_159 rfl (by decide) ?_
                    exact g_zret (b := true) dX4_findFrom_160 rfl (Nat.le_refl _) (Nat.le_refl _) (⟨rfl, _, _, _, _, _, _, _, _, _, _, _, _, _, _, _, _, _, rfl, hup, row_one (if_pos rfl)⟩)
              · have hlb : lastB last c = false := by unfold lastB; rw [decide_eq_false h115, decide_eq_false h124]; rfl
                have hf : fE F w a once last u s c = none := by unfold fE; rw [if_neg (fun z => by rw [hlb] at z; exact absurd z.2.1 (by decide))]
                rw [fsome, hf] at hv
                refine g_goto (q := 216) dX4_findFrom_127 (by decide) ?_
                refine g_iinc dX4_findFrom_216 rfl rfl (nI_1 _) (by decide) rfl rfl ?_
                refine g_goto (q := 67) dX4_findFrom_219 (by decide) ?_
                refine g_drop 8 rfl ?_
                exact ih (c + 1) _ _ _ _ _ _ _ _ _ _ _ _ _ _ _ _ _ (by omega) (by assumption) hv
      · skip
        refine g_iload dX4_findFrom_83 rfl rfl ?_
        refine g_iload dX4_findFrom_85 rfl rfl ?_
        refine g_ishr dX4_findFrom_87 rfl rfl ?_
        refine g_iconst (v := nI 1) dX4_findFrom_88 rfl (by decide) ?_
        refine g_iand dX4_findFrom_89 rfl rfl ?_
        refine g_if_ne (t := 97) dX4_findFrom_90 (by decide) rfl (fun h90 => ?_) (fun h90 => ?_)
        · have hok : okc once u c = false := by unfold okc; rw [h80, decide_eq_false h90]; rfl
          have hf : fE F w a once last u s c = none := by unfold fE; rw [if_neg (fun z => by rw [hok] at z; exact absurd z.1 (by decide))]
          rw [fsome, hf] at hv
          refine g_iconst (v := nI 0) dX4_findFrom_97 rfl (by decide) ?_
          refine g_istore dX4_findFrom_98 rfl (by decide) rfl rfl ?_
          refine g_iload dX4_findFrom_100 rfl rfl ?_
          refine g_if_eq (t := 216) dX4_findFrom_102 (by decide) rfl (fun h102 => ?_) (fun h102 => ?_)
          · skip
            refine g_iinc dX4_findFrom_216 rfl rfl (nI_1 _) (by decide) rfl rfl ?_
            refine g_goto (q := 67) dX4_findFrom_219 (by decide) ?_
            refine g_drop 8 rfl ?_
            exact ih (c + 1) _ _ _ _ _ _ _ _ _ _ _ _ _ _ _ _ _ (by omega) (by assumption) hv
          · exact absurd h102 (by decide)
        · have hok : okc once u c = true := by unfold okc; rw [h80, decide_eq_true h90]; rfl
          refine g_iconst (v := nI 1) dX4_findFrom_93 rfl (by decide) ?_
          refine g_goto (q := 98) dX4_findFrom_94 (by decide) ?_
          refine g_istore dX4_findFrom_98 rfl (by decide) rfl rfl ?_
          refine g_iload dX4_findFrom_100 rfl rfl ?_
          refine g_if_eq (t := 216) dX4_findFrom_102 (by decide) rfl (fun h102 => ?_) (fun h102 => ?_)
          · exact absurd h102 (by decide)
          · skip
            refine g_iload dX4_findFrom_105 rfl rfl ?_
            refine g_if_eqB (t := 130) dX4_findFrom_107 (by decide) rfl (fun h107 => ?_) (fun h107 => ?_)
            · exact absurd h107 (by decide)
            · skip
              refine g_aload_n dX4_findFrom_110 rfl rfl ?_
              refine g_get f_X4_63 dX4_findFrom_111 rfl 0 rfl rfl ?_
              refine g_iconst (v := -1) dX4_findFrom_114 rfl (by decide) ?_
              refine g_icmp_eq (t := 130) dX4_findFrom_115 (by decide) rfl (fun h115 => ?_) (fun h115 => ?_)
              · have hlb : lastB last c = true := by unfold lastB; rw [decide_eq_true h115]; rfl
                refine g_aload_n dX4_findFrom_130 rfl rfl ?_
                refine g_get f_X4_24 dX4_findFrom_131 rfl 0 rfl rfl ?_
                refine g_iload_n dX4_findFrom_134 rfl rfl ?_
                refine g_iload dX4_findFrom_135 rfl rfl ?_
                have hup : ∀ j, j < 2 → upd fr1 2 (nI c) j = fr j := fun j hj => by unfold upd; rw [if_neg (by omega)]; exact hfr j hj
                refine g_iastN dX4_findFrom_137 rfl 2 rfl (by omega) (by decide) (rfl) rfl ?_
                refine g_iload dX4_findFrom_138 rfl rfl ?_
                refine g_if_eqB (t := 161) dX4_findFrom_140 (by decide) rfl (fun h140 => ?_) (fun h140 => ?_)
                · exact absurd h140 (by decide)
                · skip
                  refine g_aload_n dX4_findFrom_143 rfl rfl ?_
                  refine g_aload_n dX4_findFrom_144 rfl rfl ?_
                  refine g_iload dX4_findFrom_145 rfl rfl ?_
                  refine g_iconst (v := nI 0) dX4_findFrom_147 rfl (by decide) ?_
                  refine g_iconst (v := nI 0) dX4_findFrom_148 rfl (by decide) ?_
                  refine g_callV (c_X1_reach sk (sand := false) (fr := 0) hB.1 (show c < 6 by omega) hs0 (hB.2.2.2.2.2.2 c (by omega)).1 (hB.2.2.2.2.2.2 c (by omega)).2.1 (Nat.zero_le _)) m_X4_88 a_X1_reach dX4_findFrom_149 rfl [7, 8, 3, 4, 5] rfl rfl 0 rfl rfl rfl (by decide) (by decide) (by decide) (by decide) (Nat.le_of_ble_eq_true rfl) (fun r w hK => ?_)
                  obtain ⟨rfl, rfl⟩ := hK
                  refine ⟨rfl, ?_⟩
                  dsimp only [puts, List.set, Option.toList, List.cons_append, List.nil_append, List.append_nil]
                  have hfl := far1_le F w a false s c
                  rw [show farR (w c) false s.1 (F - 0) 0 (a c) = far1 F w a false s c from rfl]
                  refine g_aload_n dX4_findFrom_152 rfl rfl ?_
                  refine g_get f_X4_92 dX4_findFrom_153 rfl 3 rfl rfl ?_
                  have hF30 := hB.1
                  refine g_icmp_neN (t := 216) dX4_findFrom_156 (by decide) rfl (by omega) (by omega) (fun h156 => ?_) (fun h156 => ?_)
                  · have hf : fE F w a once last u s c = none := by unfold fE; rw [if_neg (fun z => h156 z.2.2)]
                    rw [fsome, hf] at hv
                    refine g_iinc dX4_findFrom_216 rfl rfl (nI_1 _) (by decide) rfl rfl ?_
                    refine g_goto (q := 67) dX4_findFrom_219 (by decide) ?_
                    refine g_drop 8 rfl ?_
                    exact ih (c + 1) _ _ _ _ _ _ _ _ _ _ _ _ _ _ _ _ _ (by omega) (by assumption) hv
                  · have hf : fE F w a once last u s c = some [c] := by unfold fE; rw [if_pos ⟨hok, hlb, h156⟩]
                    rw [fsome, hf] at hv
                    subst hv
                    refine g_iconst (v := nI 1) dX4_findFrom_159 rfl (by decide) ?_
                    exact g_zret (b := true) dX4_findFrom_160 rfl (Nat.le_refl _) (Nat.le_refl _) (⟨rfl, _, _, _, _, _, _, _, _, _, _, _, _, _, _, _, _, _, rfl, hup, row_one (if_pos rfl)⟩)
              · skip
                refine g_iload dX4_findFrom_118 rfl rfl ?_
                refine g_aload_n dX4_findFrom_120 rfl rfl ?_
                refine g_get f_X4_63 dX4_findFrom_121 rfl 0 rfl rfl ?_
                refine g_icmp_eq (t := 130) dX4_findFrom_124 (by decide) rfl (fun h124 => ?_) (fun h124 => ?_)
                · have hlb : lastB last c = true := by unfold lastB; rw [decide_eq_true h124, Bool.or_true]
                  refine g_aload_n dX4_findFrom_130 rfl rfl ?_
                  refine g_get f_X4_24 dX4_findFrom_131 rfl 0 rfl rfl ?_
                  refine g_iload_n dX4_findFrom_134 rfl rfl ?_
                  refine g_iload dX4_findFrom_135 rfl rfl ?_
                  have hup : ∀ j, j < 2 → upd fr1 2 (nI c) j = fr j := fun j hj => by unfold upd; rw [if_neg (by omega)]; exact hfr j hj
                  refine g_iastN dX4_findFrom_137 rfl 2 rfl (by omega) (by decide) (rfl) rfl ?_
                  refine g_iload dX4_findFrom_138 rfl rfl ?_
                  refine g_if_eqB (t := 161) dX4_findFrom_140 (by decide) rfl (fun h140 => ?_) (fun h140 => ?_)
                  · exact absurd h140 (by decide)
                  · skip
                    refine g_aload_n dX4_findFrom_143 rfl rfl ?_
                    refine g_aload_n dX4_findFrom_144 rfl rfl ?_
                    refine g_iload dX4_findFrom_145 rfl rfl ?_
                    refine g_iconst (v := nI 0) dX4_findFrom_147 rfl (by decide) ?_
                    refine g_iconst (v := nI 0) dX4_findFrom_148 rfl (by decide) ?_
                    refine g_callV (c_X1_reach sk (sand := false) (fr := 0) hB.1 (show c < 6 by omega) hs0 (hB.2.2.2.2.2.2 c (by omega)).1 (hB.2.2.2.2.2.2 c (by omega)).2.1 (Nat.zero_le _)) m_X4_88 a_X1_reach dX4_findFrom_149 rfl [7, 8, 3, 4, 5] rfl rfl 0 rfl rfl rfl (by decide) (by decide) (by decide) (by decide) (Nat.le_of_ble_eq_true rfl) (fun r w hK => ?_)
                    obtain ⟨rfl, rfl⟩ := hK
                    refine ⟨rfl, ?_⟩
                    dsimp only [puts, List.set, Option.toList, List.cons_append, List.nil_append, List.append_nil]
                    have hfl := far1_le F w a false s c
                    rw [show farR (w c) false s.1 (F - 0) 0 (a c) = far1 F w a false s c from rfl]
                    refine g_aload_n dX4_findFrom_152 rfl rfl ?_
                    refine g_get f_X4_92 dX4_findFrom_153 rfl 3 rfl rfl ?_
                    have hF30 := hB.1
                    refine g_icmp_neN (t := 216) dX4_findFrom_156 (by decide) rfl (by omega) (by omega) (fun h156 => ?_) (fun h156 => ?_)
                    · have hf : fE F w a once last u s c = none := by unfold fE; rw [if_neg (fun z => h156 z.2.2)]
                      rw [fsome, hf] at hv
                      refine g_iinc dX4_findFrom_216 rfl rfl (nI_1 _) (by decide) rfl rfl ?_
                      refine g_goto (q := 67) dX4_findFrom_219 (by decide) ?_
                      refine g_drop 8 rfl ?_
                      exact ih (c + 1) _ _ _ _ _ _ _ _ _ _ _ _ _ _ _ _ _ (by omega) (by assumption) hv
                    · have hf : fE F w a once last u s c = some [c] := by unfold fE; rw [if_pos ⟨hok, hlb, h156⟩]
                      rw [fsome, hf] at hv
                      subst hv
                      refine g_iconst (v := nI 1) dX4_findFrom_159 rfl (by decide) ?_
                      exact g_zret (b := true) dX4_findFrom_160 rfl (Nat.le_refl _) (Nat.le_refl _) (⟨rfl, _, _, _, _, _, _, _, _, _, _, _, _, _, _, _, _, _, rfl, hup, row_one (if_pos rfl)⟩)
                · have hlb : lastB last c = false := by unfold lastB; rw [decide_eq_false h115, decide_eq_false h124]; rfl
                  have hf : fE F w a once last u s c = none := by unfold fE; rw [if_neg (fun z => by rw [hlb] at z; exact absurd z.2.1 (by decide))]
                  rw [fsome, hf] at hv
                  refine g_goto (q := 216) dX4_findFrom_127 (by decide) ?_
                  refine g_iinc dX4_findFrom_216 rfl rfl (nI_1 _) (by decide) rfl rfl ?_
                  refine g_goto (q := 67) dX4_findFrom_219 (by decide) ?_
                  refine g_drop 8 rfl ?_
                  exact ih (c + 1) _ _ _ _ _ _ _ _ _ _ _ _ _ _ _ _ _ (by omega) (by assumption) hv
set_option maxRecDepth 20000 in
theorem lpN_findFrom2 (sk : Nat → Nat) {rh rs rr gl ar yr yg yf pl ps pw pa pr F C N S : Nat} {last ag V E : Int32} {once af : Bool} {st : Nat → Option Nat} {w a r : Nat → Nat} {pt qt p2 q2 p3 q3 p4 q4 p5 q5 : Nat} {zt : Int32} {u : Int32} {s : PSt} {m : Nat} {v : Option (List Nat)} {fr : Nat → Int32} (hB : PB F C N S w a r) (hs0 : SB s.1) (hm1 : m + 3 ≤ 5) (hgl2 : gl = 3 + m + 1) (hst2 : st 2 = some p2) (hst3 : st 3 = some p3) (hst4 : st 4 = some p4) (hst5 : st 5 = some p5) : ∀ (n c : Nat) (fr1 : Nat → Int32) (g2 o2 z2 g3 o3 z3 g4 o4 z4 g5 o5 z5 : Int32) (f2 f3 f4 f5 : Nat → Int32), c + n = C → (∀ j, j < 2 → fr1 j = fr j) → fsome (fN F N S w a r once (dfs F C N S w a r once last m) u s) n c = v → GG sk RX4 yX4_findFrom cX4_findFrom 10 (some .boolean) 7 0 0 (fun q w1 => q = some (.int (zb v.isSome)) ∧ ∃ (fr2 : Nat → Int32) (g2 o2 z2 g3 o3 z3 g4 o4 z4 g5 o5 z5 : Int32) (f2 f3 f4 f5 : Nat → Int32), w1 = [oRows rh rs rr (nI gl) last once ar ag af yr yg yf, cP rs 6 st, cI rr 6 fr2, oPlan pl ps pw pa pr (nI F) (nI C) V E (nI N) (nI S), cI pw 6 (fI w), cI pa 6 (fI a), cI pr 6 (fI r), oPoleS pt qt s zt, cI qt 30 (fI s.1), oPole p2 q2 g2 o2 z2, cI q2 30 f2, oPole p3 q3 g3 o3 z3, cI q3 30 f3, oPole p4 q4 g4 o4 z4, cI q4 30 f4, oPole p5 q5 g5 o5 z5, cI q5 30 f5] ∧ (∀ j, j < 2 → fr2 j = fr j) ∧ ∀ l : List Nat, v = some l → ∀ j, j < l.length → fr2 (2 + j) = nI (l.getD j 0)) 0 0 67 [some (.ref rh), some (.ref pl), some (.ref pt), some (.int (nI 2)), some (.int u), some (.int (nI (m + 1))), some (.int (zb false)), some (.int (nI c)), none, none] [] [oRows rh rs rr (nI gl) last once ar ag af yr yg yf, cP rs 6 st, cI rr 6 fr1, oPlan pl ps pw pa pr (nI F) (nI C) V E (nI N) (nI S), cI pw 6 (fI w), cI pa 6 (fI a), cI pr 6 (fI r), oPoleS pt qt s zt, cI qt 30 (fI s.1), oPole p2 q2 g2 o2 z2, cI q2 30 f2, oPole p3 q3 g3 o3 z3, cI q3 30 f3, oPole p4 q4 g4 o4 z4, cI q4 30 f4, oPole p5 q5 g5 o5 z5, cI q5 30 f5] := by
  have hC6 := hB.2.1
  intro n
  induction n with
  | zero =>
    intro c fr1 g2 o2 z2 g3 o3 z3 g4 o4 z4 g5 o5 z5 f2 f3 f4 f5 hc hfr hv
    rw [fsome] at hv
    subst hv
    refine g_iload dX4_findFrom_67 rfl rfl ?_
    refine g_aload_n dX4_findFrom_69 rfl rfl ?_
    refine g_get f_X4_55 dX4_findFrom_70 rfl 3 rfl rfl ?_
    refine g_icmp_geN (t := 222) dX4_findFrom_73 (by decide) rfl (by omega) (by omega) (fun h73 => ?_) (fun h73 => ?_)
    · skip
      refine g_iconst (v := nI 0) dX4_findFrom_222 rfl (by decide) ?_
      exact g_zret (b := false) dX4_findFrom_223 rfl (Nat.le_refl _) (Nat.le_refl _) (⟨rfl, _, _, _, _, _, _, _, _, _, _, _, _, _, _, _, _, _, rfl, hfr, fun l hl => by cases hl⟩)
    · exact absurd h73 (by omega)
  | succ n ih =>
    intro c fr1 g2 o2 z2 g3 o3 z3 g4 o4 z4 g5 o5 z5 f2 f3 f4 f5 hc hfr hv
    refine g_iload dX4_findFrom_67 rfl rfl ?_
    refine g_aload_n dX4_findFrom_69 rfl rfl ?_
    refine g_get f_X4_55 dX4_findFrom_70 rfl 3 rfl rfl ?_
    refine g_icmp_geN (t := 222) dX4_findFrom_73 (by decide) rfl (by omega) (by omega) (fun h73 => ?_) (fun h73 => ?_)
    · exact absurd h73 (by omega)
    · skip
      refine g_aload_n dX4_findFrom_76 rfl rfl ?_
      refine g_get f_X4_60 dX4_findFrom_77 rfl 0 rfl rfl ?_
      refine g_if_eqB (t := 93) dX4_findFrom_80 (by decide) rfl (fun h80 => ?_) (fun h80 => ?_)
      · have hok : okc once u c = true := by unfold okc; rw [h80]; rfl
        refine g_iconst (v := nI 1) dX4_findFrom_93 rfl (by decide) ?_
        refine g_goto (q := 98) dX4_findFrom_94 (by decide) ?_
        refine g_istore dX4_findFrom_98 rfl (by decide) rfl rfl ?_
        refine g_iload dX4_findFrom_100 rfl rfl ?_
        refine g_if_eq (t := 216) dX4_findFrom_102 (by decide) rfl (fun h102 => ?_) (fun h102 => ?_)
        · exact absurd h102 (by decide)
        · skip
          refine g_iload dX4_findFrom_105 rfl rfl ?_
          refine g_if_eqB (t := 130) dX4_findFrom_107 (by decide) rfl (fun h107 => ?_) (fun h107 => ?_)
          · skip
            refine g_aload_n dX4_findFrom_130 rfl rfl ?_
            refine g_get f_X4_24 dX4_findFrom_131 rfl 0 rfl rfl ?_
            refine g_iload_n dX4_findFrom_134 rfl rfl ?_
            refine g_iload dX4_findFrom_135 rfl rfl ?_
            have hup : ∀ j, j < 2 → upd fr1 2 (nI c) j = fr j := fun j hj => by unfold upd; rw [if_neg (by omega)]; exact hfr j hj
            refine g_iastN dX4_findFrom_137 rfl 2 rfl (by omega) (by decide) (rfl) rfl ?_
            refine g_iload dX4_findFrom_138 rfl rfl ?_
            refine g_if_eqB (t := 161) dX4_findFrom_140 (by decide) rfl (fun h140 => ?_) (fun h140 => ?_)
            · skip
              refine g_aload_n dX4_findFrom_161 rfl rfl ?_
              refine g_get f_X4_17 dX4_findFrom_162 rfl 0 rfl rfl ?_
              refine g_iload_n dX4_findFrom_165 rfl rfl ?_
              refine g_aldP dX4_findFrom_166 rfl 1 rfl (by omega) (by decide) (hst2) ?_
              refine g_astore dX4_findFrom_167 rfl (by decide) rfl rfl ?_
              refine g_aload dX4_findFrom_169 rfl rfl ?_
              refine g_aload_n dX4_findFrom_171 rfl rfl ?_
              refine g_callV (c_X1_become sk) m_X4_95 a_X1_become dX4_findFrom_172 rfl [9, 10, 7, 8] rfl rfl 0 rfl rfl rfl (by decide) (by decide) (by decide) (by decide) (Nat.le_of_ble_eq_true rfl) (fun r w hK => ?_)
              obtain ⟨rfl, rfl⟩ := hK
              refine ⟨rfl, ?_⟩
              dsimp only [puts, List.set, Option.toList, List.cons_append, List.nil_append, List.append_nil]
              refine g_aload dX4_findFrom_175 rfl rfl ?_
              refine g_aload_n dX4_findFrom_177 rfl rfl ?_
              refine g_iload dX4_findFrom_178 rfl rfl ?_
              refine g_iconst (v := nI 0) dX4_findFrom_180 rfl (by decide) ?_
              refine g_callV (c_climb sk (sand := false) hB (show c < C by omega) hs0) m_X4_99 a_X1_climb dX4_findFrom_181 rfl [9, 10, 3, 4, 5, 6] rfl rfl 0 rfl rfl rfl (by decide) (by decide) (by decide) (by decide) (Nat.le_of_ble_eq_true rfl) (fun r w hK => ?_)
              obtain ⟨rfl, rfl⟩ := hK
              refine ⟨rfl, ?_⟩
              dsimp only [puts, List.set, Option.toList, List.cons_append, List.nil_append, List.append_nil]
              refine g_pop dX4_findFrom_184 rfl rfl ?_
              refine g_aload dX4_findFrom_185 rfl rfl ?_
              refine g_get f_X4_74 dX4_findFrom_187 rfl 9 rfl rfl ?_
              refine g_iconst (v := -1) dX4_findFrom_190 rfl (by decide) ?_
              refine g_icmp_ne (t := 216) dX4_findFrom_191 (by decide) rfl (fun h191 => ?_) (fun h191 => ?_)
              · have hf : fN F N S w a r once (dfs F C N S w a r once last m) u s c = none := by unfold fN; rw [if_neg (fun z => h191 z.2)]
                rw [fsome, hf] at hv
                refine g_iinc dX4_findFrom_216 rfl rfl (nI_1 _) (by decide) rfl rfl ?_
                refine g_goto (q := 67) dX4_findFrom_219 (by decide) ?_
                refine g_drop 8 rfl ?_
                try refine g_drop 9 rfl ?_
                exact ih (c + 1) _ _ _ _ _ _ _ _ _ _ _ _ _ _ _ _ _ (by omega) (by assumption) hv
              · skip
                refine g_aload_n dX4_findFrom_194 rfl rfl ?_
                refine g_aload_n dX4_findFrom_195 rfl rfl ?_
                refine g_aload dX4_findFrom_196 rfl rfl ?_
                refine g_iload_n dX4_findFrom_198 rfl rfl ?_
                refine g_iconst (v := nI 1) dX4_findFrom_199 rfl (by decide) ?_
                refine g_iadd dX4_findFrom_200 rfl (nI_add _ _) ?_
                refine g_iload dX4_findFrom_201 rfl rfl ?_
                refine g_iconst (v := nI 1) dX4_findFrom_203 rfl (by decide) ?_
                refine g_iload dX4_findFrom_204 rfl rfl ?_
                refine g_ishl dX4_findFrom_206 rfl rfl ?_
                refine g_ior dX4_findFrom_207 rfl rfl ?_
                refine g_callV (c_findFrom3 sk hB (hm1) hgl2 (go1_SB hs0) hst3 hst4 hst5) m_X4_80 a_X4_findFrom dX4_findFrom_208 rfl [0, 1, 2, 3, 4, 5, 6, 9, 10, 11, 12, 13, 14, 15, 16] rfl rfl 0 rfl rfl rfl (by decide) (by decide) (by decide) (by decide) (Nat.le_of_ble_eq_true rfl) (fun r w hK => ?_)
                obtain ⟨rfl, fr2, g3, o3, z3, g4, o4, z4, g5, o5, z5, f3, f4, f5, rfl, hfr2, hl2⟩ := hK
                refine ⟨rfl, ?_⟩
                dsimp only [puts, List.set, Option.toList, List.cons_append, List.nil_append, List.append_nil]
                refine g_if_eqB (t := 216) dX4_findFrom_211 (by decide) rfl (fun h211 => ?_) (fun h211 => ?_)
                · have hn : dfs F C N S w a r once last m (u ||| (nI 1 <<< (nI c &&& 31))) (go1 F N S w a r false s c) = none := by simpa using h211
                  have hf : fN F N S w a r once (dfs F C N S w a r once last m) u s c = none := by unfold fN; rw [if_pos ⟨hok, h191⟩, hn]; rfl
                  rw [fsome, hf] at hv
                  have hfrc : ∀ j, j < 2 → fr2 j = fr j := fun j hj => (hfr2 j (by omega)).trans (hup j hj)
                  refine g_iinc dX4_findFrom_216 rfl rfl (nI_1 _) (by decide) rfl rfl ?_
                  refine g_goto (q := 67) dX4_findFrom_219 (by decide) ?_
                  refine g_drop 8 rfl ?_
                  try refine g_drop 9 rfl ?_
                  exact ih (c + 1) _ _ _ _ _ _ _ _ _ _ _ _ _ _ _ _ _ (by omega) (by assumption) hv
                · obtain ⟨l0, hl0⟩ := Option.isSome_iff_exists.mp h211
                  have hf : fN F N S w a r once (dfs F C N S w a r once last m) u s c = some (c :: l0) := by unfold fN; rw [if_pos ⟨hok, h191⟩, hl0]; rfl
                  rw [fsome, hf] at hv
                  subst hv
                  have hfrc : ∀ j, j < 2 → fr2 j = fr j := fun j hj => (hfr2 j (by omega)).trans (hup j hj)
                  refine g_iconst (v := nI 1) dX4_findFrom_214 rfl (by decide) ?_
                  exact g_zret (b := true) dX4_findFrom_215 rfl (Nat.le_refl _) (Nat.le_refl _) (⟨rfl, _, _, _, _, _, _, _, _, _, _, _, _, _, _, _, _, _, rfl, hfrc, row_cons ((hfr2 2 (by omega)).trans (if_pos rfl)) (fun j hj => hl2 l0 hl0 j hj)⟩)
            · exact absurd h140 (by decide)
          · exact absurd h107 (by decide)
      · skip
        refine g_iload dX4_findFrom_83 rfl rfl ?_
        refine g_iload dX4_findFrom_85 rfl rfl ?_
        refine g_ishr dX4_findFrom_87 rfl rfl ?_
        refine g_iconst (v := nI 1) dX4_findFrom_88 rfl (by decide) ?_
        refine g_iand dX4_findFrom_89 rfl rfl ?_
        refine g_if_ne (t := 97) dX4_findFrom_90 (by decide) rfl (fun h90 => ?_) (fun h90 => ?_)
        · have hok : okc once u c = false := by unfold okc; rw [h80, decide_eq_false h90]; rfl
          have hf : fN F N S w a r once (dfs F C N S w a r once last m) u s c = none := by unfold fN; rw [if_neg (fun z => by rw [hok] at z; exact absurd z.1 (by decide))]
          rw [fsome, hf] at hv
          refine g_iconst (v := nI 0) dX4_findFrom_97 rfl (by decide) ?_
          refine g_istore dX4_findFrom_98 rfl (by decide) rfl rfl ?_
          refine g_iload dX4_findFrom_100 rfl rfl ?_
          refine g_if_eq (t := 216) dX4_findFrom_102 (by decide) rfl (fun h102 => ?_) (fun h102 => ?_)
          · skip
            refine g_iinc dX4_findFrom_216 rfl rfl (nI_1 _) (by decide) rfl rfl ?_
            refine g_goto (q := 67) dX4_findFrom_219 (by decide) ?_
            refine g_drop 8 rfl ?_
            try refine g_drop 9 rfl ?_
            exact ih (c + 1) _ _ _ _ _ _ _ _ _ _ _ _ _ _ _ _ _ (by omega) (by assumption) hv
          · exact absurd h102 (by decide)
        · have hok : okc once u c = true := by unfold okc; rw [h80, decide_eq_true h90]; rfl
          refine g_iconst (v := nI 1) dX4_findFrom_93 rfl (by decide) ?_
          refine g_goto (q := 98) dX4_findFrom_94 (by decide) ?_
          refine g_istore dX4_findFrom_98 rfl (by decide) rfl rfl ?_
          refine g_iload dX4_findFrom_100 rfl rfl ?_
          refine g_if_eq (t := 216) dX4_findFrom_102 (by decide) rfl (fun h102 => ?_) (fun h102 => ?_)
          · exact absurd h102 (by decide)
          · skip
            refine g_iload dX4_findFrom_105 rfl rfl ?_
            refine g_if_eqB (t := 130) dX4_findFrom_107 (by decide) rfl (fun h107 => ?_) (fun h107 => ?_)
            · skip
              refine g_aload_n dX4_findFrom_130 rfl rfl ?_
              refine g_get f_X4_24 dX4_findFrom_131 rfl 0 rfl rfl ?_
              refine g_iload_n dX4_findFrom_134 rfl rfl ?_
              refine g_iload dX4_findFrom_135 rfl rfl ?_
              have hup : ∀ j, j < 2 → upd fr1 2 (nI c) j = fr j := fun j hj => by unfold upd; rw [if_neg (by omega)]; exact hfr j hj
              refine g_iastN dX4_findFrom_137 rfl 2 rfl (by omega) (by decide) (rfl) rfl ?_
              refine g_iload dX4_findFrom_138 rfl rfl ?_
              refine g_if_eqB (t := 161) dX4_findFrom_140 (by decide) rfl (fun h140 => ?_) (fun h140 => ?_)
              · skip
                refine g_aload_n dX4_findFrom_161 rfl rfl ?_
                refine g_get f_X4_17 dX4_findFrom_162 rfl 0 rfl rfl ?_
                refine g_iload_n dX4_findFrom_165 rfl rfl ?_
                refine g_aldP dX4_findFrom_166 rfl 1 rfl (by omega) (by decide) (hst2) ?_
                refine g_astore dX4_findFrom_167 rfl (by decide) rfl rfl ?_
                refine g_aload dX4_findFrom_169 rfl rfl ?_
                refine g_aload_n dX4_findFrom_171 rfl rfl ?_
                refine g_callV (c_X1_become sk) m_X4_95 a_X1_become dX4_findFrom_172 rfl [9, 10, 7, 8] rfl rfl 0 rfl rfl rfl (by decide) (by decide) (by decide) (by decide) (Nat.le_of_ble_eq_true rfl) (fun r w hK => ?_)
                obtain ⟨rfl, rfl⟩ := hK
                refine ⟨rfl, ?_⟩
                dsimp only [puts, List.set, Option.toList, List.cons_append, List.nil_append, List.append_nil]
                refine g_aload dX4_findFrom_175 rfl rfl ?_
                refine g_aload_n dX4_findFrom_177 rfl rfl ?_
                refine g_iload dX4_findFrom_178 rfl rfl ?_
                refine g_iconst (v := nI 0) dX4_findFrom_180 rfl (by decide) ?_
                refine g_callV (c_climb sk (sand := false) hB (show c < C by omega) hs0) m_X4_99 a_X1_climb dX4_findFrom_181 rfl [9, 10, 3, 4, 5, 6] rfl rfl 0 rfl rfl rfl (by decide) (by decide) (by decide) (by decide) (Nat.le_of_ble_eq_true rfl) (fun r w hK => ?_)
                obtain ⟨rfl, rfl⟩ := hK
                refine ⟨rfl, ?_⟩
                dsimp only [puts, List.set, Option.toList, List.cons_append, List.nil_append, List.append_nil]
                refine g_pop dX4_findFrom_184 rfl rfl ?_
                refine g_aload dX4_findFrom_185 rfl rfl ?_
                refine g_get f_X4_74 dX4_findFrom_187 rfl 9 rfl rfl ?_
                refine g_iconst (v := -1) dX4_findFrom_190 rfl (by decide) ?_
                refine g_icmp_ne (t := 216) dX4_findFrom_191 (by decide) rfl (fun h191 => ?_) (fun h191 => ?_)
                · have hf : fN F N S w a r once (dfs F C N S w a r once last m) u s c = none := by unfold fN; rw [if_neg (fun z => h191 z.2)]
                  rw [fsome, hf] at hv
                  refine g_iinc dX4_findFrom_216 rfl rfl (nI_1 _) (by decide) rfl rfl ?_
                  refine g_goto (q := 67) dX4_findFrom_219 (by decide) ?_
                  refine g_drop 8 rfl ?_
                  try refine g_drop 9 rfl ?_
                  exact ih (c + 1) _ _ _ _ _ _ _ _ _ _ _ _ _ _ _ _ _ (by omega) (by assumption) hv
                · skip
                  refine g_aload_n dX4_findFrom_194 rfl rfl ?_
                  refine g_aload_n dX4_findFrom_195 rfl rfl ?_
                  refine g_aload dX4_findFrom_196 rfl rfl ?_
                  refine g_iload_n dX4_findFrom_198 rfl rfl ?_
                  refine g_iconst (v := nI 1) dX4_findFrom_199 rfl (by decide) ?_
                  refine g_iadd dX4_findFrom_200 rfl (nI_add _ _) ?_
                  refine g_iload dX4_findFrom_201 rfl rfl ?_
                  refine g_iconst (v := nI 1) dX4_findFrom_203 rfl (by decide) ?_
                  refine g_iload dX4_findFrom_204 rfl rfl ?_
                  refine g_ishl dX4_findFrom_206 rfl rfl ?_
                  refine g_ior dX4_findFrom_207 rfl rfl ?_
                  refine g_callV (c_findFrom3 sk hB (hm1) hgl2 (go1_SB hs0) hst3 hst4 hst5) m_X4_80 a_X4_findFrom dX4_findFrom_208 rfl [0, 1, 2, 3, 4, 5, 6, 9, 10, 11, 12, 13, 14, 15, 16] rfl rfl 0 rfl rfl rfl (by decide) (by decide) (by decide) (by decide) (Nat.le_of_ble_eq_true rfl) (fun r w hK => ?_)
                  obtain ⟨rfl, fr2, g3, o3, z3, g4, o4, z4, g5, o5, z5, f3, f4, f5, rfl, hfr2, hl2⟩ := hK
                  refine ⟨rfl, ?_⟩
                  dsimp only [puts, List.set, Option.toList, List.cons_append, List.nil_append, List.append_nil]
                  refine g_if_eqB (t := 216) dX4_findFrom_211 (by decide) rfl (fun h211 => ?_) (fun h211 => ?_)
                  · have hn : dfs F C N S w a r once last m (u ||| (nI 1 <<< (nI c &&& 31))) (go1 F N S w a r false s c) = none := by simpa using h211
                    have hf : fN F N S w a r once (dfs F C N S w a r once last m) u s c = none := by unfold fN; rw [if_pos ⟨hok, h191⟩, hn]; rfl
                    rw [fsome, hf] at hv
                    have hfrc : ∀ j, j < 2 → fr2 j = fr j := fun j hj => (hfr2 j (by omega)).trans (hup j hj)
                    refine g_iinc dX4_findFrom_216 rfl rfl (nI_1 _) (by decide) rfl rfl ?_
                    refine g_goto (q := 67) dX4_findFrom_219 (by decide) ?_
                    refine g_drop 8 rfl ?_
                    try refine g_drop 9 rfl ?_
                    exact ih (c + 1) _ _ _ _ _ _ _ _ _ _ _ _ _ _ _ _ _ (by omega) (by assumption) hv
                  · obtain ⟨l0, hl0⟩ := Option.isSome_iff_exists.mp h211
                    have hf : fN F N S w a r once (dfs F C N S w a r once last m) u s c = some (c :: l0) := by unfold fN; rw [if_pos ⟨hok, h191⟩, hl0]; rfl
                    rw [fsome, hf] at hv
                    subst hv
                    have hfrc : ∀ j, j < 2 → fr2 j = fr j := fun j hj => (hfr2 j (by omega)).trans (hup j hj)
                    refine g_iconst (v := nI 1) dX4_findFrom_214 rfl (by decide) ?_
                    exact g_zret (b := true) dX4_findFrom_215 rfl (Nat.le_refl _) (Nat.le_refl _) (⟨rfl, _, _, _, _, _, _, _, _, _, _, _, _, _, _, _, _, _, rfl, hfrc, row_cons ((hfr2 2 (by omega)).trans (if_pos rfl)) (fun j hj => hl2 l0 hl0 j hj)⟩)
              · exact absurd h140 (by decide)
            · exact absurd h107 (by decide)
set_option maxRecDepth 20000 in
theorem c_findFrom2 (sk : Nat → Nat) {rh rs rr gl ar yr yg yf pl ps pw pa pr F C N S : Nat} {last ag V E : Int32} {once af : Bool} {st : Nat → Option Nat} {w a r : Nat → Nat} {pt qt p2 q2 p3 q3 p4 q4 p5 q5 : Nat} {zt : Int32} {u : Int32} {s : PSt} {m : Nat} {fr : Nat → Int32} {g2 o2 z2 g3 o3 z3 g4 o4 z4 g5 o5 z5 : Int32} {f2 f3 f4 f5 : Nat → Int32} (hB : PB F C N S w a r) (hm : m + 2 ≤ 5) (hgl : gl = 2 + m + 1) (hs0 : SB s.1) (hst2 : st 2 = some p2) (hst3 : st 3 = some p3) (hst4 : st 4 = some p4) (hst5 : st 5 = some p5) : Ct sk yX4_findFrom cX4_findFrom 10 (some .boolean) 7 0 0 [oRows rh rs rr (nI gl) last once ar ag af yr yg yf, cP rs 6 st, cI rr 6 fr, oPlan pl ps pw pa pr (nI F) (nI C) V E (nI N) (nI S), cI pw 6 (fI w), cI pa 6 (fI a), cI pr 6 (fI r), oPoleS pt qt s zt, cI qt 30 (fI s.1), oPole p2 q2 g2 o2 z2, cI q2 30 f2, oPole p3 q3 g3 o3 z3, cI q3 30 f3, oPole p4 q4 g4 o4 z4, cI q4 30 f4, oPole p5 q5 g5 o5 z5, cI q5 30 f5] [.ref rh, .ref pl, .ref pt, .int (nI 2), .int u] (fun q w1 => q = some (.int (zb (dfs F C N S w a r once last m u s).isSome)) ∧ ∃ (fr2 : Nat → Int32) (g2 o2 z2 g3 o3 z3 g4 o4 z4 g5 o5 z5 : Int32) (f2 f3 f4 f5 : Nat → Int32), w1 = [oRows rh rs rr (nI gl) last once ar ag af yr yg yf, cP rs 6 st, cI rr 6 fr2, oPlan pl ps pw pa pr (nI F) (nI C) V E (nI N) (nI S), cI pw 6 (fI w), cI pa 6 (fI a), cI pr 6 (fI r), oPoleS pt qt s zt, cI qt 30 (fI s.1), oPole p2 q2 g2 o2 z2, cI q2 30 f2, oPole p3 q3 g3 o3 z3, cI q3 30 f3, oPole p4 q4 g4 o4 z4, cI q4 30 f4, oPole p5 q5 g5 o5 z5, cI q5 30 f5] ∧ (∀ j, j < 2 → fr2 j = fr j) ∧ ∀ l : List Nat, dfs F C N S w a r once last m u s = some l → ∀ j, j < l.length → fr2 (2 + j) = nI (l.getD j 0)) := by
  refine Ct.of (own := RX4) (l := [some (.ref rh), some (.ref pl), some (.ref pt), some (.int (nI 2)), some (.int u), none, none, none, none, none]) (by decide) rfl (Nat.le_of_ble_eq_true rfl) rfl ?_
  refine g_aload_n dX4_findFrom_0 rfl rfl ?_
  refine g_get f_X4_77 dX4_findFrom_1 rfl 0 rfl rfl ?_
  refine g_iconst (v := nI 1) dX4_findFrom_4 rfl (by decide) ?_
  refine g_isub dX4_findFrom_5 rfl (pk_sub (by omega)) ?_
  refine g_iload_n dX4_findFrom_6 rfl rfl ?_
  refine g_isub (v := nI m) dX4_findFrom_7 rfl (by rw [pk_sub (by omega), show gl - 1 - 2 = m by omega]) ?_
  refine g_istore dX4_findFrom_8 rfl (by decide) rfl rfl ?_
  refine g_iload dX4_findFrom_10 rfl rfl ?_
  refine g_if_lt (t := 37) dX4_findFrom_12 (by decide) rfl (fun h12 => ?_) (fun h12 => ?_)
  · exact absurd h12 (nI_nlt0 (by omega))
  · skip
    refine g_iload_n dX4_findFrom_15 rfl rfl ?_
    refine g_if_lt (t := 37) dX4_findFrom_16 (by decide) rfl (fun h16 => ?_) (fun h16 => ?_)
    · exact absurd h16 (nI_nlt0 (by omega))
    · skip
      refine g_iload_n dX4_findFrom_19 rfl rfl ?_
      refine g_aload_n dX4_findFrom_20 rfl rfl ?_
      refine g_get f_X4_24 dX4_findFrom_21 rfl 0 rfl rfl ?_
      refine g_alen dX4_findFrom_24 rfl 2 rfl (Nat.le_of_ble_eq_true rfl) rfl ?_
      refine g_icmp_geN (t := 37) dX4_findFrom_25 (by decide) rfl (by omega) (by omega) (fun h25 => ?_) (fun h25 => ?_)
      · exact absurd h25 (by omega)
      · skip
        refine g_iload_n dX4_findFrom_28 rfl rfl ?_
        refine g_aload_n dX4_findFrom_29 rfl rfl ?_
        refine g_get f_X4_17 dX4_findFrom_30 rfl 0 rfl rfl ?_
        refine g_alen dX4_findFrom_33 rfl 1 rfl (Nat.le_of_ble_eq_true rfl) rfl ?_
        refine g_icmp_ltN (t := 39) dX4_findFrom_34 (by decide) rfl (by omega) (by omega) (fun h34 => ?_) (fun h34 => ?_)
        · skip
          refine g_aload_n dX4_findFrom_39 rfl rfl ?_
          refine g_aload_n dX4_findFrom_40 rfl rfl ?_
          refine g_aload_n dX4_findFrom_41 rfl rfl ?_
          refine g_iload dX4_findFrom_42 rfl rfl ?_
          refine g_callV (c_X4_isHopeless sk (m := m) hB hs0 (by omega)) m_X4_84 a_X4_isHopeless dX4_findFrom_44 rfl [0, 3, 4, 5, 6, 7, 8] rfl rfl 0 rfl rfl rfl (by decide) (by decide) (by decide) (by decide) (Nat.le_of_ble_eq_true rfl) (fun r w hK => ?_)
          obtain ⟨rfl, rfl⟩ := hK
          refine ⟨rfl, ?_⟩
          dsimp only [puts, List.set, Option.toList, List.cons_append, List.nil_append, List.append_nil]
          refine g_if_eqB (t := 52) dX4_findFrom_47 (by decide) rfl (fun h47 => ?_) (fun h47 => ?_)
          · have hh : hopeR F C N S w a r last m s C 0 = true := by simpa using h47
            refine g_iload dX4_findFrom_52 rfl rfl ?_
            refine g_if_ne (t := 61) dX4_findFrom_54 (by decide) rfl (fun h54 => ?_) (fun h54 => ?_)
            · have hm0 : ¬ m = 0 := fun e => h54 (congrArg nI e : nI m = nI 0)
              refine g_iconst (v := nI 0) dX4_findFrom_61 rfl (by decide) ?_
              refine g_istore dX4_findFrom_62 rfl (by decide) rfl rfl ?_
              refine g_iconst (v := nI 0) dX4_findFrom_64 rfl (by decide) ?_
              refine g_istore dX4_findFrom_65 rfl (by decide) rfl rfl ?_
              generalize hD : dfs F C N S w a r once last m u s = v
              obtain ⟨m, rfl⟩ : ∃ k, m = k + 1 := ⟨m - 1, by omega⟩
              rw [dfs, if_pos hh] at hD
              exact lpN_findFrom2 sk hB hs0 (by omega) (by omega) hst2 hst3 hst4 hst5 C 0 fr _ _ _ _ _ _ _ _ _ _ _ _ _ _ _ _ (by omega) (fun _ _ => rfl) hD
            · have hm0 : m = 0 := (nI_eq (by omega) (by omega)).mp (h54 : nI m = nI 0)
              refine g_iconst (v := nI 1) dX4_findFrom_57 rfl (by decide) ?_
              refine g_goto (q := 62) dX4_findFrom_58 (by decide) ?_
              refine g_istore dX4_findFrom_62 rfl (by decide) rfl rfl ?_
              refine g_iconst (v := nI 0) dX4_findFrom_64 rfl (by decide) ?_
              refine g_istore dX4_findFrom_65 rfl (by decide) rfl rfl ?_
              generalize hD : dfs F C N S w a r once last m u s = v
              subst hm0
              rw [dfs, if_pos hh] at hD
              exact lpE_findFrom2 sk hB hs0 hst2 hst3 hst4 hst5 C 0 fr _ _ _ _ _ _ _ _ _ _ _ _ _ _ _ _ (by omega) (fun _ _ => rfl) hD
          · have hh : ¬ hopeR F C N S w a r last m s C 0 = true := by simpa using h47
            have hD : dfs F C N S w a r once last m u s = none := by cases m <;> rw [dfs, if_neg hh]
            refine g_iconst (v := nI 0) dX4_findFrom_50 rfl (by decide) ?_
            exact g_zret (b := false) dX4_findFrom_51 rfl (Nat.le_refl _) (Nat.le_refl _) (⟨by rw [hD]; rfl, _, _, _, _, _, _, _, _, _, _, _, _, _, _, _, _, _, rfl, fun _ _ => rfl, fun l hl => by rw [hD] at hl; cases hl⟩)
        · exact absurd h34 (by omega)
set_option maxRecDepth 20000 in
theorem lpE_findFrom1 (sk : Nat → Nat) {rh rs rr gl ar yr yg yf pl ps pw pa pr F C N S : Nat} {last ag V E : Int32} {once af : Bool} {st : Nat → Option Nat} {w a r : Nat → Nat} {pt qt p1 q1 p2 q2 p3 q3 p4 q4 p5 q5 : Nat} {zt : Int32} {u : Int32} {s : PSt} {v : Option (List Nat)} {fr : Nat → Int32} (hB : PB F C N S w a r) (hs0 : SB s.1) (hst1 : st 1 = some p1) (hst2 : st 2 = some p2) (hst3 : st 3 = some p3) (hst4 : st 4 = some p4) (hst5 : st 5 = some p5) : ∀ (n c : Nat) (fr1 : Nat → Int32) (g1 o1 z1 g2 o2 z2 g3 o3 z3 g4 o4 z4 g5 o5 z5 : Int32) (f1 f2 f3 f4 f5 : Nat → Int32), c + n = C → (∀ j, j < 1 → fr1 j = fr j) → fsome (fE F w a once last u s) n c = v → GG sk RX4 yX4_findFrom cX4_findFrom 10 (some .boolean) 8 0 0 (fun q w1 => q = some (.int (zb v.isSome)) ∧ ∃ (fr2 : Nat → Int32) (g1 o1 z1 g2 o2 z2 g3 o3 z3 g4 o4 z4 g5 o5 z5 : Int32) (f1 f2 f3 f4 f5 : Nat → Int32), w1 = [oRows rh rs rr (nI gl) last once ar ag af yr yg yf, cP rs 6 st, cI rr 6 fr2, oPlan pl ps pw pa pr (nI F) (nI C) V E (nI N) (nI S), cI pw 6 (fI w), cI pa 6 (fI a), cI pr 6 (fI r), oPoleS pt qt s zt, cI qt 30 (fI s.1), oPole p1 q1 g1 o1 z1, cI q1 30 f1, oPole p2 q2 g2 o2 z2, cI q2 30 f2, oPole p3 q3 g3 o3 z3, cI q3 30 f3, oPole p4 q4 g4 o4 z4, cI q4 30 f4, oPole p5 q5 g5 o5 z5, cI q5 30 f5] ∧ (∀ j, j < 1 → fr2 j = fr j) ∧ ∀ l : List Nat, v = some l → ∀ j, j < l.length → fr2 (1 + j) = nI (l.getD j 0)) 0 0 67 [some (.ref rh), some (.ref pl), some (.ref pt), some (.int (nI 1)), some (.int u), some (.int (nI 0)), some (.int (zb true)), some (.int (nI c)), none, none] [] [oRows rh rs rr (nI gl) last once ar ag af yr yg yf, cP rs 6 st, cI rr 6 fr1, oPlan pl ps pw pa pr (nI F) (nI C) V E (nI N) (nI S), cI pw 6 (fI w), cI pa 6 (fI a), cI pr 6 (fI r), oPoleS pt qt s zt, cI qt 30 (fI s.1), oPole p1 q1 g1 o1 z1, cI q1 30 f1, oPole p2 q2 g2 o2 z2, cI q2 30 f2, oPole p3 q3 g3 o3 z3, cI q3 30 f3, oPole p4 q4 g4 o4 z4, cI q4 30 f4, oPole p5 q5 g5 o5 z5, cI q5 30 f5] := by
  have hC6 := hB.2.1
  intro n
  induction n with
  | zero =>
    intro c fr1 g1 o1 z1 g2 o2 z2 g3 o3 z3 g4 o4 z4 g5 o5 z5 f1 f2 f3 f4 f5 hc hfr hv
    rw [fsome] at hv
    subst hv
    refine g_iload dX4_findFrom_67 rfl rfl ?_
    refine g_aload_n dX4_findFrom_69 rfl rfl ?_
    refine g_get f_X4_55 dX4_findFrom_70 rfl 3 rfl rfl ?_
    refine g_icmp_geN (t := 222) dX4_findFrom_73 (by decide) rfl (by omega) (by omega) (fun h73 => ?_) (fun h73 => ?_)
    · skip
      refine g_iconst (v := nI 0) dX4_findFrom_222 rfl (by decide) ?_
      exact g_zret (b := false) dX4_findFrom_223 rfl (Nat.le_refl _) (Nat.le_refl _) (⟨rfl, _, _, _, _, _, _, _, _, _, _, _, _, _, _, _, _, _, _, _, _, _, rfl, hfr, fun l hl => by cases hl⟩)
    · exact absurd h73 (by omega)
  | succ n ih =>
    intro c fr1 g1 o1 z1 g2 o2 z2 g3 o3 z3 g4 o4 z4 g5 o5 z5 f1 f2 f3 f4 f5 hc hfr hv
    refine g_iload dX4_findFrom_67 rfl rfl ?_
    refine g_aload_n dX4_findFrom_69 rfl rfl ?_
    refine g_get f_X4_55 dX4_findFrom_70 rfl 3 rfl rfl ?_
    refine g_icmp_geN (t := 222) dX4_findFrom_73 (by decide) rfl (by omega) (by omega) (fun h73 => ?_) (fun h73 => ?_)
    · exact absurd h73 (by omega)
    · skip
      refine g_aload_n dX4_findFrom_76 rfl rfl ?_
      refine g_get f_X4_60 dX4_findFrom_77 rfl 0 rfl rfl ?_
      refine g_if_eqB (t := 93) dX4_findFrom_80 (by decide) rfl (fun h80 => ?_) (fun h80 => ?_)
      · have hok : okc once u c = true := by unfold okc; rw [h80]; rfl
        refine g_iconst (v := nI 1) dX4_findFrom_93 rfl (by decide) ?_
        refine g_goto (q := 98) dX4_findFrom_94 (by decide) ?_
        refine g_istore dX4_findFrom_98 rfl (by decide) rfl rfl ?_
        refine g_iload dX4_findFrom_100 rfl rfl ?_
        refine g_if_eq (t := 216) dX4_findFrom_102 (by decide) rfl (fun h102 => ?_) (fun h102 => ?_)
        · exact absurd h102 (by decide)
        · skip
          refine g_iload dX4_findFrom_105 rfl rfl ?_
          refine g_if_eqB (t := 130) dX4_findFrom_107 (by decide) rfl (fun h107 => ?_) (fun h107 => ?_)
          · exact absurd h107 (by decide)
          · skip
            refine g_aload_n dX4_findFrom_110 rfl rfl ?_
            refine g_get f_X4_63 dX4_findFrom_111 rfl 0 rfl rfl ?_
            refine g_iconst (v := -1) dX4_findFrom_114 rfl (by decide) ?_
            refine g_icmp_eq (t := 130) dX4_findFrom_115 (by decide) rfl (fun h115 => ?_) (fun h115 => ?_)
            · have hlb : lastB last c = true := by unfold lastB; rw [decide_eq_true h115]; rfl
              refine g_aload_n dX4_findFrom_130 rfl rfl ?_
              refine g_get f_X4_24 dX4_findFrom_131 rfl 0 rfl rfl ?_
              refine g_iload_n dX4_findFrom_134 rfl rfl ?_
              refine g_iload dX4_findFrom_135 rfl rfl ?_
              have hup : ∀ j, j < 1 → upd fr1 1 (nI c) j = fr j := fun j hj => by unfold upd; rw [if_neg (by omega)]; exact hfr j hj
              refine g_iastN dX4_findFrom_137 rfl 2 rfl (by omega) (by decide) (rfl) rfl ?_
              refine g_iload dX4_findFrom_138 rfl rfl ?_
              refine g_if_eqB (t := 161) dX4_findFrom_140 (by decide) rfl (fun h140 => ?_) (fun h140 => ?_)
              · exact absurd h140 (by decide)
              · skip
                refine g_aload_n dX4_findFrom_143 rfl rfl ?_
                refine g_aload_n dX4_findFrom_144 rfl rfl ?_
                refine g_iload dX4_findFrom_145 rfl rfl ?_
                refine g_iconst (v := nI 0) dX4_findFrom_147 rfl (by decide) ?_
                refine g_iconst (v := nI 0) dX4_findFrom_148 rfl (by decide) ?_
                refine g_callV (c_X1_reach sk (sand := false) (fr := 0) hB.1 (show c < 6 by omega) hs0 (hB.2.2.2.2.2.2 c (by omega)).1 (hB.2.2.2.2.2.2 c (by omega)).2.1 (Nat.zero_le _)) m_X4_88 a_X1_reach dX4_findFrom_149 rfl [7, 8, 3, 4, 5] rfl rfl 0 rfl rfl rfl (by decide) (by decide) (by decide) (by decide) (Nat.le_of_ble_eq_true rfl) (fun r w hK => ?_)
                obtain ⟨rfl, rfl⟩ := hK
                refine ⟨rfl, ?_⟩
                dsimp only [puts, List.set, Option.toList, List.cons_append, List.nil_append, List.append_nil]
                have hfl := far1_le F w a false s c
                rw [show farR (w c) false s.1 (F - 0) 0 (a c) = far1 F w a false s c from rfl]
                refine g_aload_n dX4_findFrom_152 rfl rfl ?_
                refine g_get f_X4_92 dX4_findFrom_153 rfl 3 rfl rfl ?_
                have hF30 := hB.1
                refine g_icmp_neN (t := 216) dX4_findFrom_156 (by decide) rfl (by omega) (by omega) (fun h156 => ?_) (fun h156 => ?_)
                · have hf : fE F w a once last u s c = none := by unfold fE; rw [if_neg (fun z => h156 z.2.2)]
                  rw [fsome, hf] at hv
                  refine g_iinc dX4_findFrom_216 rfl rfl (nI_1 _) (by decide) rfl rfl ?_
                  refine g_goto (q := 67) dX4_findFrom_219 (by decide) ?_
                  refine g_drop 8 rfl ?_
                  exact ih (c + 1) _ _ _ _ _ _ _ _ _ _ _ _ _ _ _ _ _ _ _ _ _ (by omega) (by assumption) hv
                · have hf : fE F w a once last u s c = some [c] := by unfold fE; rw [if_pos ⟨hok, hlb, h156⟩]
                  rw [fsome, hf] at hv
                  subst hv
                  refine g_iconst (v := nI 1) dX4_findFrom_159 rfl (by decide) ?_
                  exact g_zret (b := true) dX4_findFrom_160 rfl (Nat.le_refl _) (Nat.le_refl _) (⟨rfl, _, _, _, _, _, _, _, _, _, _, _, _, _, _, _, _, _, _, _, _, _, rfl, hup, row_one (if_pos rfl)⟩)
            · skip
              refine g_iload dX4_findFrom_118 rfl rfl ?_
              refine g_aload_n dX4_findFrom_120 rfl rfl ?_
              refine g_get f_X4_63 dX4_findFrom_121 rfl 0 rfl rfl ?_
              refine g_icmp_eq (t := 130) dX4_findFrom_124 (by decide) rfl (fun h124 => ?_) (fun h124 => ?_)
              · have hlb : lastB last c = true := by unfold lastB; rw [decide_eq_true h124, Bool.or_true]
                refine g_aload_n dX4_findFrom_130 rfl rfl ?_
                refine g_get f_X4_24 dX4_findFrom_131 rfl 0 rfl rfl ?_
                refine g_iload_n dX4_findFrom_134 rfl rfl ?_
                refine g_iload dX4_findFrom_135 rfl rfl ?_
                have hup : ∀ j, j < 1 → upd fr1 1 (nI c) j = fr j := fun j hj => by unfold upd; rw [if_neg (by omega)]; exact hfr j hj
                refine g_iastN dX4_findFrom_137 rfl 2 rfl (by omega) (by decide) (rfl) rfl ?_
                refine g_iload dX4_findFrom_138 rfl rfl ?_
                refine g_if_eqB (t := 161) dX4_findFrom_140 (by decide) rfl (fun h140 => ?_) (fun h140 => ?_)
                · exact absurd h140 (by decide)
                · skip
                  refine g_aload_n dX4_findFrom_143 rfl rfl ?_
                  refine g_aload_n dX4_findFrom_144 rfl rfl ?_
                  refine g_iload dX4_findFrom_145 rfl rfl ?_
                  refine g_iconst (v := nI 0) dX4_findFrom_147 rfl (by decide) ?_
                  refine g_iconst (v := nI 0) dX4_findFrom_148 rfl (by decide) ?_
                  refine g_callV (c_X1_reach sk (sand := false) (fr := 0) hB.1 (show c < 6 by omega) hs0 (hB.2.2.2.2.2.2 c (by omega)).1 (hB.2.2.2.2.2.2 c (by omega)).2.1 (Nat.zero_le _)) m_X4_88 a_X1_reach dX4_findFrom_149 rfl [7, 8, 3, 4, 5] rfl rfl 0 rfl rfl rfl (by decide) (by decide) (by decide) (by decide) (Nat.le_of_ble_eq_true rfl) (fun r w hK => ?_)
                  obtain ⟨rfl, rfl⟩ := hK
                  refine ⟨rfl, ?_⟩
                  dsimp only [puts, List.set, Option.toList, List.cons_append, List.nil_append, List.append_nil]
                  have hfl := far1_le F w a false s c
                  rw [show farR (w c) false s.1 (F - 0) 0 (a c) = far1 F w a false s c from rfl]
                  refine g_aload_n dX4_findFrom_152 rfl rfl ?_
                  refine g_get f_X4_92 dX4_findFrom_153 rfl 3 rfl rfl ?_
                  have hF30 := hB.1
                  refine g_icmp_neN (t := 216) dX4_findFrom_156 (by decide) rfl (by omega) (by omega) (fun h156 => ?_) (fun h156 => ?_)
                  · have hf : fE F w a once last u s c = none := by unfold fE; rw [if_neg (fun z => h156 z.2.2)]
                    rw [fsome, hf] at hv
                    refine g_iinc dX4_findFrom_216 rfl rfl (nI_1 _) (by decide) rfl rfl ?_
                    refine g_goto (q := 67) dX4_findFrom_219 (by decide) ?_
                    refine g_drop 8 rfl ?_
                    exact ih (c + 1) _ _ _ _ _ _ _ _ _ _ _ _ _ _ _ _ _ _ _ _ _ (by omega) (by assumption) hv
                  · have hf : fE F w a once last u s c = some [c] := by unfold fE; rw [if_pos ⟨hok, hlb, h156⟩]
                    rw [fsome, hf] at hv
                    subst hv
                    refine g_iconst (v := nI 1) dX4_findFrom_159 rfl (by decide) ?_
                    exact g_zret (b := true) dX4_findFrom_160 rfl (Nat.le_refl _) (Nat.le_refl _) (⟨rfl, _, _, _, _, _, _, _, _, _, _, _, _, _, _, _, _, _, _, _, _, _, rfl, hup, row_one (if_pos rfl)⟩)
              · have hlb : lastB last c = false := by unfold lastB; rw [decide_eq_false h115, decide_eq_false h124]; rfl
                have hf : fE F w a once last u s c = none := by unfold fE; rw [if_neg (fun z => by rw [hlb] at z; exact absurd z.2.1 (by decide))]
                rw [fsome, hf] at hv
                refine g_goto (q := 216) dX4_findFrom_127 (by decide) ?_
                refine g_iinc dX4_findFrom_216 rfl rfl (nI_1 _) (by decide) rfl rfl ?_
                refine g_goto (q := 67) dX4_findFrom_219 (by decide) ?_
                refine g_drop 8 rfl ?_
                exact ih (c + 1) _ _ _ _ _ _ _ _ _ _ _ _ _ _ _ _ _ _ _ _ _ (by omega) (by assumption) hv
      · skip
        refine g_iload dX4_findFrom_83 rfl rfl ?_
        refine g_iload dX4_findFrom_85 rfl rfl ?_
        refine g_ishr dX4_findFrom_87 rfl rfl ?_
        refine g_iconst (v := nI 1) dX4_findFrom_88 rfl (by decide) ?_
        refine g_iand dX4_findFrom_89 rfl rfl ?_
        refine g_if_ne (t := 97) dX4_findFrom_90 (by decide) rfl (fun h90 => ?_) (fun h90 => ?_)
        · have hok : okc once u c = false := by unfold okc; rw [h80, decide_eq_false h90]; rfl
          have hf : fE F w a once last u s c = none := by unfold fE; rw [if_neg (fun z => by rw [hok] at z; exact absurd z.1 (by decide))]
          rw [fsome, hf] at hv
          refine g_iconst (v := nI 0) dX4_findFrom_97 rfl (by decide) ?_
          refine g_istore dX4_findFrom_98 rfl (by decide) rfl rfl ?_
          refine g_iload dX4_findFrom_100 rfl rfl ?_
          refine g_if_eq (t := 216) dX4_findFrom_102 (by decide) rfl (fun h102 => ?_) (fun h102 => ?_)
          · skip
            refine g_iinc dX4_findFrom_216 rfl rfl (nI_1 _) (by decide) rfl rfl ?_
            refine g_goto (q := 67) dX4_findFrom_219 (by decide) ?_
            refine g_drop 8 rfl ?_
            exact ih (c + 1) _ _ _ _ _ _ _ _ _ _ _ _ _ _ _ _ _ _ _ _ _ (by omega) (by assumption) hv
          · exact absurd h102 (by decide)
        · have hok : okc once u c = true := by unfold okc; rw [h80, decide_eq_true h90]; rfl
          refine g_iconst (v := nI 1) dX4_findFrom_93 rfl (by decide) ?_
          refine g_goto (q := 98) dX4_findFrom_94 (by decide) ?_
          refine g_istore dX4_findFrom_98 rfl (by decide) rfl rfl ?_
          refine g_iload dX4_findFrom_100 rfl rfl ?_
          refine g_if_eq (t := 216) dX4_findFrom_102 (by decide) rfl (fun h102 => ?_) (fun h102 => ?_)
          · exact absurd h102 (by decide)
          · skip
            refine g_iload dX4_findFrom_105 rfl rfl ?_
            refine g_if_eqB (t := 130) dX4_findFrom_107 (by decide) rfl (fun h107 => ?_) (fun h107 => ?_)
            · exact absurd h107 (by decide)
            · skip
              refine g_aload_n dX4_findFrom_110 rfl rfl ?_
              refine g_get f_X4_63 dX4_findFrom_111 rfl 0 rfl rfl ?_
              refine g_iconst (v := -1) dX4_findFrom_114 rfl (by decide) ?_
              refine g_icmp_eq (t := 130) dX4_findFrom_115 (by decide) rfl (fun h115 => ?_) (fun h115 => ?_)
              · have hlb : lastB last c = true := by unfold lastB; rw [decide_eq_true h115]; rfl
                refine g_aload_n dX4_findFrom_130 rfl rfl ?_
                refine g_get f_X4_24 dX4_findFrom_131 rfl 0 rfl rfl ?_
                refine g_iload_n dX4_findFrom_134 rfl rfl ?_
                refine g_iload dX4_findFrom_135 rfl rfl ?_
                have hup : ∀ j, j < 1 → upd fr1 1 (nI c) j = fr j := fun j hj => by unfold upd; rw [if_neg (by omega)]; exact hfr j hj
                refine g_iastN dX4_findFrom_137 rfl 2 rfl (by omega) (by decide) (rfl) rfl ?_
                refine g_iload dX4_findFrom_138 rfl rfl ?_
                refine g_if_eqB (t := 161) dX4_findFrom_140 (by decide) rfl (fun h140 => ?_) (fun h140 => ?_)
                · exact absurd h140 (by decide)
                · skip
                  refine g_aload_n dX4_findFrom_143 rfl rfl ?_
                  refine g_aload_n dX4_findFrom_144 rfl rfl ?_
                  refine g_iload dX4_findFrom_145 rfl rfl ?_
                  refine g_iconst (v := nI 0) dX4_findFrom_147 rfl (by decide) ?_
                  refine g_iconst (v := nI 0) dX4_findFrom_148 rfl (by decide) ?_
                  refine g_callV (c_X1_reach sk (sand := false) (fr := 0) hB.1 (show c < 6 by omega) hs0 (hB.2.2.2.2.2.2 c (by omega)).1 (hB.2.2.2.2.2.2 c (by omega)).2.1 (Nat.zero_le _)) m_X4_88 a_X1_reach dX4_findFrom_149 rfl [7, 8, 3, 4, 5] rfl rfl 0 rfl rfl rfl (by decide) (by decide) (by decide) (by decide) (Nat.le_of_ble_eq_true rfl) (fun r w hK => ?_)
                  obtain ⟨rfl, rfl⟩ := hK
                  refine ⟨rfl, ?_⟩
                  dsimp only [puts, List.set, Option.toList, List.cons_append, List.nil_append, List.append_nil]
                  have hfl := far1_le F w a false s c
                  rw [show farR (w c) false s.1 (F - 0) 0 (a c) = far1 F w a false s c from rfl]
                  refine g_aload_n dX4_findFrom_152 rfl rfl ?_
                  refine g_get f_X4_92 dX4_findFrom_153 rfl 3 rfl rfl ?_
                  have hF30 := hB.1
                  refine g_icmp_neN (t := 216) dX4_findFrom_156 (by decide) rfl (by omega) (by omega) (fun h156 => ?_) (fun h156 => ?_)
                  · have hf : fE F w a once last u s c = none := by unfold fE; rw [if_neg (fun z => h156 z.2.2)]
                    rw [fsome, hf] at hv
                    refine g_iinc dX4_findFrom_216 rfl rfl (nI_1 _) (by decide) rfl rfl ?_
                    refine g_goto (q := 67) dX4_findFrom_219 (by decide) ?_
                    refine g_drop 8 rfl ?_
                    exact ih (c + 1) _ _ _ _ _ _ _ _ _ _ _ _ _ _ _ _ _ _ _ _ _ (by omega) (by assumption) hv
                  · have hf : fE F w a once last u s c = some [c] := by unfold fE; rw [if_pos ⟨hok, hlb, h156⟩]
                    rw [fsome, hf] at hv
                    subst hv
                    refine g_iconst (v := nI 1) dX4_findFrom_159 rfl (by decide) ?_
                    exact g_zret (b := true) dX4_findFrom_160 rfl (Nat.le_refl _) (Nat.le_refl _) (⟨rfl, _, _, _, _, _, _, _, _, _, _, _, _, _, _, _, _, _, _, _, _, _, rfl, hup, row_one (if_pos rfl)⟩)
              · skip
                refine g_iload dX4_findFrom_118 rfl rfl ?_
                refine g_aload_n dX4_findFrom_120 rfl rfl ?_
                refine g_get f_X4_63 dX4_findFrom_121 rfl 0 rfl rfl ?_
                refine g_icmp_eq (t := 130) dX4_findFrom_124 (by decide) rfl (fun h124 => ?_) (fun h124 => ?_)
                · have hlb : lastB last c = true := by unfold lastB; rw [decide_eq_true h124, Bool.or_true]
                  refine g_aload_n dX4_findFrom_130 rfl rfl ?_
                  refine g_get f_X4_24 dX4_findFrom_131 rfl 0 rfl rfl ?_
                  refine g_iload_n dX4_findFrom_134 rfl rfl ?_
                  refine g_iload dX4_findFrom_135 rfl rfl ?_
                  have hup : ∀ j, j < 1 → upd fr1 1 (nI c) j = fr j := fun j hj => by unfold upd; rw [if_neg (by omega)]; exact hfr j hj
                  refine g_iastN dX4_findFrom_137 rfl 2 rfl (by omega) (by decide) (rfl) rfl ?_
                  refine g_iload dX4_findFrom_138 rfl rfl ?_
                  refine g_if_eqB (t := 161) dX4_findFrom_140 (by decide) rfl (fun h140 => ?_) (fun h140 => ?_)
                  · exact absurd h140 (by decide)
                  · skip
                    refine g_aload_n dX4_findFrom_143 rfl rfl ?_
                    refine g_aload_n dX4_findFrom_144 rfl rfl ?_
                    refine g_iload dX4_findFrom_145 rfl rfl ?_
                    refine g_iconst (v := nI 0) dX4_findFrom_147 rfl (by decide) ?_
                    refine g_iconst (v := nI 0) dX4_findFrom_148 rfl (by decide) ?_
                    refine g_callV (c_X1_reach sk (sand := false) (fr := 0) hB.1 (show c < 6 by omega) hs0 (hB.2.2.2.2.2.2 c (by omega)).1 (hB.2.2.2.2.2.2 c (by omega)).2.1 (Nat.zero_le _)) m_X4_88 a_X1_reach dX4_findFrom_149 rfl [7, 8, 3, 4, 5] rfl rfl 0 rfl rfl rfl (by decide) (by decide) (by decide) (by decide) (Nat.le_of_ble_eq_true rfl) (fun r w hK => ?_)
                    obtain ⟨rfl, rfl⟩ := hK
                    refine ⟨rfl, ?_⟩
                    dsimp only [puts, List.set, Option.toList, List.cons_append, List.nil_append, List.append_nil]
                    have hfl := far1_le F w a false s c
                    rw [show farR (w c) false s.1 (F - 0) 0 (a c) = far1 F w a false s c from rfl]
                    refine g_aload_n dX4_findFrom_152 rfl rfl ?_
                    refine g_get f_X4_92 dX4_findFrom_153 rfl 3 rfl rfl ?_
                    have hF30 := hB.1
                    refine g_icmp_neN (t := 216) dX4_findFrom_156 (by decide) rfl (by omega) (by omega) (fun h156 => ?_) (fun h156 => ?_)
                    · have hf : fE F w a once last u s c = none := by unfold fE; rw [if_neg (fun z => h156 z.2.2)]
                      rw [fsome, hf] at hv
                      refine g_iinc dX4_findFrom_216 rfl rfl (nI_1 _) (by decide) rfl rfl ?_
                      refine g_goto (q := 67) dX4_findFrom_219 (by decide) ?_
                      refine g_drop 8 rfl ?_
                      exact ih (c + 1) _ _ _ _ _ _ _ _ _ _ _ _ _ _ _ _ _ _ _ _ _ (by omega) (by assumption) hv
                    · have hf : fE F w a once last u s c = some [c] := by unfold fE; rw [if_pos ⟨hok, hlb, h156⟩]
                      rw [fsome, hf] at hv
                      subst hv
                      refine g_iconst (v := nI 1) dX4_findFrom_159 rfl (by decide) ?_
                      exact g_zret (b := true) dX4_findFrom_160 rfl (Nat.le_refl _) (Nat.le_refl _) (⟨rfl, _, _, _, _, _, _, _, _, _, _, _, _, _, _, _, _, _, _, _, _, _, rfl, hup, row_one (if_pos rfl)⟩)
                · have hlb : lastB last c = false := by unfold lastB; rw [decide_eq_false h115, decide_eq_false h124]; rfl
                  have hf : fE F w a once last u s c = none := by unfold fE; rw [if_neg (fun z => by rw [hlb] at z; exact absurd z.2.1 (by decide))]
                  rw [fsome, hf] at hv
                  refine g_goto (q := 216) dX4_findFrom_127 (by decide) ?_
                  refine g_iinc dX4_findFrom_216 rfl rfl (nI_1 _) (by decide) rfl rfl ?_
                  refine g_goto (q := 67) dX4_findFrom_219 (by decide) ?_
                  refine g_drop 8 rfl ?_
                  exact ih (c + 1) _ _ _ _ _ _ _ _ _ _ _ _ _ _ _ _ _ _ _ _ _ (by omega) (by assumption) hv
set_option maxRecDepth 20000 in
theorem lpN_findFrom1 (sk : Nat → Nat) {rh rs rr gl ar yr yg yf pl ps pw pa pr F C N S : Nat} {last ag V E : Int32} {once af : Bool} {st : Nat → Option Nat} {w a r : Nat → Nat} {pt qt p1 q1 p2 q2 p3 q3 p4 q4 p5 q5 : Nat} {zt : Int32} {u : Int32} {s : PSt} {m : Nat} {v : Option (List Nat)} {fr : Nat → Int32} (hB : PB F C N S w a r) (hs0 : SB s.1) (hm1 : m + 2 ≤ 5) (hgl2 : gl = 2 + m + 1) (hst1 : st 1 = some p1) (hst2 : st 2 = some p2) (hst3 : st 3 = some p3) (hst4 : st 4 = some p4) (hst5 : st 5 = some p5) : ∀ (n c : Nat) (fr1 : Nat → Int32) (g1 o1 z1 g2 o2 z2 g3 o3 z3 g4 o4 z4 g5 o5 z5 : Int32) (f1 f2 f3 f4 f5 : Nat → Int32), c + n = C → (∀ j, j < 1 → fr1 j = fr j) → fsome (fN F N S w a r once (dfs F C N S w a r once last m) u s) n c = v → GG sk RX4 yX4_findFrom cX4_findFrom 10 (some .boolean) 8 0 0 (fun q w1 => q = some (.int (zb v.isSome)) ∧ ∃ (fr2 : Nat → Int32) (g1 o1 z1 g2 o2 z2 g3 o3 z3 g4 o4 z4 g5 o5 z5 : Int32) (f1 f2 f3 f4 f5 : Nat → Int32), w1 = [oRows rh rs rr (nI gl) last once ar ag af yr yg yf, cP rs 6 st, cI rr 6 fr2, oPlan pl ps pw pa pr (nI F) (nI C) V E (nI N) (nI S), cI pw 6 (fI w), cI pa 6 (fI a), cI pr 6 (fI r), oPoleS pt qt s zt, cI qt 30 (fI s.1), oPole p1 q1 g1 o1 z1, cI q1 30 f1, oPole p2 q2 g2 o2 z2, cI q2 30 f2, oPole p3 q3 g3 o3 z3, cI q3 30 f3, oPole p4 q4 g4 o4 z4, cI q4 30 f4, oPole p5 q5 g5 o5 z5, cI q5 30 f5] ∧ (∀ j, j < 1 → fr2 j = fr j) ∧ ∀ l : List Nat, v = some l → ∀ j, j < l.length → fr2 (1 + j) = nI (l.getD j 0)) 0 0 67 [some (.ref rh), some (.ref pl), some (.ref pt), some (.int (nI 1)), some (.int u), some (.int (nI (m + 1))), some (.int (zb false)), some (.int (nI c)), none, none] [] [oRows rh rs rr (nI gl) last once ar ag af yr yg yf, cP rs 6 st, cI rr 6 fr1, oPlan pl ps pw pa pr (nI F) (nI C) V E (nI N) (nI S), cI pw 6 (fI w), cI pa 6 (fI a), cI pr 6 (fI r), oPoleS pt qt s zt, cI qt 30 (fI s.1), oPole p1 q1 g1 o1 z1, cI q1 30 f1, oPole p2 q2 g2 o2 z2, cI q2 30 f2, oPole p3 q3 g3 o3 z3, cI q3 30 f3, oPole p4 q4 g4 o4 z4, cI q4 30 f4, oPole p5 q5 g5 o5 z5, cI q5 30 f5] := by
  have hC6 := hB.2.1
  intro n
  induction n with
  | zero =>
    intro c fr1 g1 o1 z1 g2 o2 z2 g3 o3 z3 g4 o4 z4 g5 o5 z5 f1 f2 f3 f4 f5 hc hfr hv
    rw [fsome] at hv
    subst hv
    refine g_iload dX4_findFrom_67 rfl rfl ?_
    refine g_aload_n dX4_findFrom_69 rfl rfl ?_
    refine g_get f_X4_55 dX4_findFrom_70 rfl 3 rfl rfl ?_
    refine g_icmp_geN (t := 222) dX4_findFrom_73 (by decide) rfl (by omega) (by omega) (fun h73 => ?_) (fun h73 => ?_)
    · skip
      refine g_iconst (v := nI 0) dX4_findFrom_222 rfl (by decide) ?_
      exact g_zret (b := false) dX4_findFrom_223 rfl (Nat.le_refl _) (Nat.le_refl _) (⟨rfl, _, _, _, _, _, _, _, _, _, _, _, _, _, _, _, _, _, _, _, _, _, rfl, hfr, fun l hl => by cases hl⟩)
    · exact absurd h73 (by omega)
  | succ n ih =>
    intro c fr1 g1 o1 z1 g2 o2 z2 g3 o3 z3 g4 o4 z4 g5 o5 z5 f1 f2 f3 f4 f5 hc hfr hv
    refine g_iload dX4_findFrom_67 rfl rfl ?_
    refine g_aload_n dX4_findFrom_69 rfl rfl ?_
    refine g_get f_X4_55 dX4_findFrom_70 rfl 3 rfl rfl ?_
    refine g_icmp_geN (t := 222) dX4_findFrom_73 (by decide) rfl (by omega) (by omega) (fun h73 => ?_) (fun h73 => ?_)
    · exact absurd h73 (by omega)
    · skip
      refine g_aload_n dX4_findFrom_76 rfl rfl ?_
      refine g_get f_X4_60 dX4_findFrom_77 rfl 0 rfl rfl ?_
      refine g_if_eqB (t := 93) dX4_findFrom_80 (by decide) rfl (fun h80 => ?_) (fun h80 => ?_)
      · have hok : okc once u c = true := by unfold okc; rw [h80]; rfl
        refine g_iconst (v := nI 1) dX4_findFrom_93 rfl (by decide) ?_
        refine g_goto (q := 98) dX4_findFrom_94 (by decide) ?_
        refine g_istore dX4_findFrom_98 rfl (by decide) rfl rfl ?_
        refine g_iload dX4_findFrom_100 rfl rfl ?_
        refine g_if_eq (t := 216) dX4_findFrom_102 (by decide) rfl (fun h102 => ?_) (fun h102 => ?_)
        · exact absurd h102 (by decide)
        · skip
          refine g_iload dX4_findFrom_105 rfl rfl ?_
          refine g_if_eqB (t := 130) dX4_findFrom_107 (by decide) rfl (fun h107 => ?_) (fun h107 => ?_)
          · skip
            refine g_aload_n dX4_findFrom_130 rfl rfl ?_
            refine g_get f_X4_24 dX4_findFrom_131 rfl 0 rfl rfl ?_
            refine g_iload_n dX4_findFrom_134 rfl rfl ?_
            refine g_iload dX4_findFrom_135 rfl rfl ?_
            have hup : ∀ j, j < 1 → upd fr1 1 (nI c) j = fr j := fun j hj => by unfold upd; rw [if_neg (by omega)]; exact hfr j hj
            refine g_iastN dX4_findFrom_137 rfl 2 rfl (by omega) (by decide) (rfl) rfl ?_
            refine g_iload dX4_findFrom_138 rfl rfl ?_
            refine g_if_eqB (t := 161) dX4_findFrom_140 (by decide) rfl (fun h140 => ?_) (fun h140 => ?_)
            · skip
              refine g_aload_n dX4_findFrom_161 rfl rfl ?_
              refine g_get f_X4_17 dX4_findFrom_162 rfl 0 rfl rfl ?_
              refine g_iload_n dX4_findFrom_165 rfl rfl ?_
              refine g_aldP dX4_findFrom_166 rfl 1 rfl (by omega) (by decide) (hst1) ?_
              refine g_astore dX4_findFrom_167 rfl (by decide) rfl rfl ?_
              refine g_aload dX4_findFrom_169 rfl rfl ?_
              refine g_aload_n dX4_findFrom_171 rfl rfl ?_
              refine g_callV (c_X1_become sk) m_X4_95 a_X1_become dX4_findFrom_172 rfl [9, 10, 7, 8] rfl rfl 0 rfl rfl rfl (by decide) (by decide) (by decide) (by decide) (Nat.le_of_ble_eq_true rfl) (fun r w hK => ?_)
              obtain ⟨rfl, rfl⟩ := hK
              refine ⟨rfl, ?_⟩
              dsimp only [puts, List.set, Option.toList, List.cons_append, List.nil_append, List.append_nil]
              refine g_aload dX4_findFrom_175 rfl rfl ?_
              refine g_aload_n dX4_findFrom_177 rfl rfl ?_
              refine g_iload dX4_findFrom_178 rfl rfl ?_
              refine g_iconst (v := nI 0) dX4_findFrom_180 rfl (by decide) ?_
              refine g_callV (c_climb sk (sand := false) hB (show c < C by omega) hs0) m_X4_99 a_X1_climb dX4_findFrom_181 rfl [9, 10, 3, 4, 5, 6] rfl rfl 0 rfl rfl rfl (by decide) (by decide) (by decide) (by decide) (Nat.le_of_ble_eq_true rfl) (fun r w hK => ?_)
              obtain ⟨rfl, rfl⟩ := hK
              refine ⟨rfl, ?_⟩
              dsimp only [puts, List.set, Option.toList, List.cons_append, List.nil_append, List.append_nil]
              refine g_pop dX4_findFrom_184 rfl rfl ?_
              refine g_aload dX4_findFrom_185 rfl rfl ?_
              refine g_get f_X4_74 dX4_findFrom_187 rfl 9 rfl rfl ?_
              refine g_iconst (v := -1) dX4_findFrom_190 rfl (by decide) ?_
              refine g_icmp_ne (t := 216) dX4_findFrom_191 (by decide) rfl (fun h191 => ?_) (fun h191 => ?_)
              · have hf : fN F N S w a r once (dfs F C N S w a r once last m) u s c = none := by unfold fN; rw [if_neg (fun z => h191 z.2)]
                rw [fsome, hf] at hv
                refine g_iinc dX4_findFrom_216 rfl rfl (nI_1 _) (by decide) rfl rfl ?_
                refine g_goto (q := 67) dX4_findFrom_219 (by decide) ?_
                refine g_drop 8 rfl ?_
                try refine g_drop 9 rfl ?_
                exact ih (c + 1) _ _ _ _ _ _ _ _ _ _ _ _ _ _ _ _ _ _ _ _ _ (by omega) (by assumption) hv
              · skip
                refine g_aload_n dX4_findFrom_194 rfl rfl ?_
                refine g_aload_n dX4_findFrom_195 rfl rfl ?_
                refine g_aload dX4_findFrom_196 rfl rfl ?_
                refine g_iload_n dX4_findFrom_198 rfl rfl ?_
                refine g_iconst (v := nI 1) dX4_findFrom_199 rfl (by decide) ?_
                refine g_iadd dX4_findFrom_200 rfl (nI_add _ _) ?_
                refine g_iload dX4_findFrom_201 rfl rfl ?_
                refine g_iconst (v := nI 1) dX4_findFrom_203 rfl (by decide) ?_
                refine g_iload dX4_findFrom_204 rfl rfl ?_
                refine g_ishl dX4_findFrom_206 rfl rfl ?_
                refine g_ior dX4_findFrom_207 rfl rfl ?_
                refine g_callV (c_findFrom2 sk hB (hm1) hgl2 (go1_SB hs0) hst2 hst3 hst4 hst5) m_X4_80 a_X4_findFrom dX4_findFrom_208 rfl [0, 1, 2, 3, 4, 5, 6, 9, 10, 11, 12, 13, 14, 15, 16, 17, 18] rfl rfl 0 rfl rfl rfl (by decide) (by decide) (by decide) (by decide) (Nat.le_of_ble_eq_true rfl) (fun r w hK => ?_)
                obtain ⟨rfl, fr2, g2, o2, z2, g3, o3, z3, g4, o4, z4, g5, o5, z5, f2, f3, f4, f5, rfl, hfr2, hl2⟩ := hK
                refine ⟨rfl, ?_⟩
                dsimp only [puts, List.set, Option.toList, List.cons_append, List.nil_append, List.append_nil]
                refine g_if_eqB (t := 216) dX4_findFrom_211 (by decide) rfl (fun h211 => ?_) (fun h211 => ?_)
                · have hn : dfs F C N S w a r once last m (u ||| (nI 1 <<< (nI c &&& 31))) (go1 F N S w a r false s c) = none := by simpa using h211
                  have hf : fN F N S w a r once (dfs F C N S w a r once last m) u s c = none := by unfold fN; rw [if_pos ⟨hok, h191⟩, hn]; rfl
                  rw [fsome, hf] at hv
                  have hfrc : ∀ j, j < 1 → fr2 j = fr j := fun j hj => (hfr2 j (by omega)).trans (hup j hj)
                  refine g_iinc dX4_findFrom_216 rfl rfl (nI_1 _) (by decide) rfl rfl ?_
                  refine g_goto (q := 67) dX4_findFrom_219 (by decide) ?_
                  refine g_drop 8 rfl ?_
                  try refine g_drop 9 rfl ?_
                  exact ih (c + 1) _ _ _ _ _ _ _ _ _ _ _ _ _ _ _ _ _ _ _ _ _ (by omega) (by assumption) hv
                · obtain ⟨l0, hl0⟩ := Option.isSome_iff_exists.mp h211
                  have hf : fN F N S w a r once (dfs F C N S w a r once last m) u s c = some (c :: l0) := by unfold fN; rw [if_pos ⟨hok, h191⟩, hl0]; rfl
                  rw [fsome, hf] at hv
                  subst hv
                  have hfrc : ∀ j, j < 1 → fr2 j = fr j := fun j hj => (hfr2 j (by omega)).trans (hup j hj)
                  refine g_iconst (v := nI 1) dX4_findFrom_214 rfl (by decide) ?_
                  exact g_zret (b := true) dX4_findFrom_215 rfl (Nat.le_refl _) (Nat.le_refl _) (⟨rfl, _, _, _, _, _, _, _, _, _, _, _, _, _, _, _, _, _, _, _, _, _, rfl, hfrc, row_cons ((hfr2 1 (by omega)).trans (if_pos rfl)) (fun j hj => hl2 l0 hl0 j hj)⟩)
            · exact absurd h140 (by decide)
          · exact absurd h107 (by decide)
      · skip
        refine g_iload dX4_findFrom_83 rfl rfl ?_
        refine g_iload dX4_findFrom_85 rfl rfl ?_
        refine g_ishr dX4_findFrom_87 rfl rfl ?_
        refine g_iconst (v := nI 1) dX4_findFrom_88 rfl (by decide) ?_
        refine g_iand dX4_findFrom_89 rfl rfl ?_
        refine g_if_ne (t := 97) dX4_findFrom_90 (by decide) rfl (fun h90 => ?_) (fun h90 => ?_)
        · have hok : okc once u c = false := by unfold okc; rw [h80, decide_eq_false h90]; rfl
          have hf : fN F N S w a r once (dfs F C N S w a r once last m) u s c = none := by unfold fN; rw [if_neg (fun z => by rw [hok] at z; exact absurd z.1 (by decide))]
          rw [fsome, hf] at hv
          refine g_iconst (v := nI 0) dX4_findFrom_97 rfl (by decide) ?_
          refine g_istore dX4_findFrom_98 rfl (by decide) rfl rfl ?_
          refine g_iload dX4_findFrom_100 rfl rfl ?_
          refine g_if_eq (t := 216) dX4_findFrom_102 (by decide) rfl (fun h102 => ?_) (fun h102 => ?_)
          · skip
            refine g_iinc dX4_findFrom_216 rfl rfl (nI_1 _) (by decide) rfl rfl ?_
            refine g_goto (q := 67) dX4_findFrom_219 (by decide) ?_
            refine g_drop 8 rfl ?_
            try refine g_drop 9 rfl ?_
            exact ih (c + 1) _ _ _ _ _ _ _ _ _ _ _ _ _ _ _ _ _ _ _ _ _ (by omega) (by assumption) hv
          · exact absurd h102 (by decide)
        · have hok : okc once u c = true := by unfold okc; rw [h80, decide_eq_true h90]; rfl
          refine g_iconst (v := nI 1) dX4_findFrom_93 rfl (by decide) ?_
          refine g_goto (q := 98) dX4_findFrom_94 (by decide) ?_
          refine g_istore dX4_findFrom_98 rfl (by decide) rfl rfl ?_
          refine g_iload dX4_findFrom_100 rfl rfl ?_
          refine g_if_eq (t := 216) dX4_findFrom_102 (by decide) rfl (fun h102 => ?_) (fun h102 => ?_)
          · exact absurd h102 (by decide)
          · skip
            refine g_iload dX4_findFrom_105 rfl rfl ?_
            refine g_if_eqB (t := 130) dX4_findFrom_107 (by decide) rfl (fun h107 => ?_) (fun h107 => ?_)
            · skip
              refine g_aload_n dX4_findFrom_130 rfl rfl ?_
              refine g_get f_X4_24 dX4_findFrom_131 rfl 0 rfl rfl ?_
              refine g_iload_n dX4_findFrom_134 rfl rfl ?_
              refine g_iload dX4_findFrom_135 rfl rfl ?_
              have hup : ∀ j, j < 1 → upd fr1 1 (nI c) j = fr j := fun j hj => by unfold upd; rw [if_neg (by omega)]; exact hfr j hj
              refine g_iastN dX4_findFrom_137 rfl 2 rfl (by omega) (by decide) (rfl) rfl ?_
              refine g_iload dX4_findFrom_138 rfl rfl ?_
              refine g_if_eqB (t := 161) dX4_findFrom_140 (by decide) rfl (fun h140 => ?_) (fun h140 => ?_)
              · skip
                refine g_aload_n dX4_findFrom_161 rfl rfl ?_
                refine g_get f_X4_17 dX4_findFrom_162 rfl 0 rfl rfl ?_
                refine g_iload_n dX4_findFrom_165 rfl rfl ?_
                refine g_aldP dX4_findFrom_166 rfl 1 rfl (by omega) (by decide) (hst1) ?_
                refine g_astore dX4_findFrom_167 rfl (by decide) rfl rfl ?_
                refine g_aload dX4_findFrom_169 rfl rfl ?_
                refine g_aload_n dX4_findFrom_171 rfl rfl ?_
                refine g_callV (c_X1_become sk) m_X4_95 a_X1_become dX4_findFrom_172 rfl [9, 10, 7, 8] rfl rfl 0 rfl rfl rfl (by decide) (by decide) (by decide) (by decide) (Nat.le_of_ble_eq_true rfl) (fun r w hK => ?_)
                obtain ⟨rfl, rfl⟩ := hK
                refine ⟨rfl, ?_⟩
                dsimp only [puts, List.set, Option.toList, List.cons_append, List.nil_append, List.append_nil]
                refine g_aload dX4_findFrom_175 rfl rfl ?_
                refine g_aload_n dX4_findFrom_177 rfl rfl ?_
                refine g_iload dX4_findFrom_178 rfl rfl ?_
                refine g_iconst (v := nI 0) dX4_findFrom_180 rfl (by decide) ?_
                refine g_callV (c_climb sk (sand := false) hB (show c < C by omega) hs0) m_X4_99 a_X1_climb dX4_findFrom_181 rfl [9, 10, 3, 4, 5, 6] rfl rfl 0 rfl rfl rfl (by decide) (by decide) (by decide) (by decide) (Nat.le_of_ble_eq_true rfl) (fun r w hK => ?_)
                obtain ⟨rfl, rfl⟩ := hK
                refine ⟨rfl, ?_⟩
                dsimp only [puts, List.set, Option.toList, List.cons_append, List.nil_append, List.append_nil]
                refine g_pop dX4_findFrom_184 rfl rfl ?_
                refine g_aload dX4_findFrom_185 rfl rfl ?_
                refine g_get f_X4_74 dX4_findFrom_187 rfl 9 rfl rfl ?_
                refine g_iconst (v := -1) dX4_findFrom_190 rfl (by decide) ?_
                refine g_icmp_ne (t := 216) dX4_findFrom_191 (by decide) rfl (fun h191 => ?_) (fun h191 => ?_)
                · have hf : fN F N S w a r once (dfs F C N S w a r once last m) u s c = none := by unfold fN; rw [if_neg (fun z => h191 z.2)]
                  rw [fsome, hf] at hv
                  refine g_iinc dX4_findFrom_216 rfl rfl (nI_1 _) (by decide) rfl rfl ?_
                  refine g_goto (q := 67) dX4_findFrom_219 (by decide) ?_
                  refine g_drop 8 rfl ?_
                  try refine g_drop 9 rfl ?_
                  exact ih (c + 1) _ _ _ _ _ _ _ _ _ _ _ _ _ _ _ _ _ _ _ _ _ (by omega) (by assumption) hv
                · skip
                  refine g_aload_n dX4_findFrom_194 rfl rfl ?_
                  refine g_aload_n dX4_findFrom_195 rfl rfl ?_
                  refine g_aload dX4_findFrom_196 rfl rfl ?_
                  refine g_iload_n dX4_findFrom_198 rfl rfl ?_
                  refine g_iconst (v := nI 1) dX4_findFrom_199 rfl (by decide) ?_
                  refine g_iadd dX4_findFrom_200 rfl (nI_add _ _) ?_
                  refine g_iload dX4_findFrom_201 rfl rfl ?_
                  refine g_iconst (v := nI 1) dX4_findFrom_203 rfl (by decide) ?_
                  refine g_iload dX4_findFrom_204 rfl rfl ?_
                  refine g_ishl dX4_findFrom_206 rfl rfl ?_
                  refine g_ior dX4_findFrom_207 rfl rfl ?_
                  refine g_callV (c_findFrom2 sk hB (hm1) hgl2 (go1_SB hs0) hst2 hst3 hst4 hst5) m_X4_80 a_X4_findFrom dX4_findFrom_208 rfl [0, 1, 2, 3, 4, 5, 6, 9, 10, 11, 12, 13, 14, 15, 16, 17, 18] rfl rfl 0 rfl rfl rfl (by decide) (by decide) (by decide) (by decide) (Nat.le_of_ble_eq_true rfl) (fun r w hK => ?_)
                  obtain ⟨rfl, fr2, g2, o2, z2, g3, o3, z3, g4, o4, z4, g5, o5, z5, f2, f3, f4, f5, rfl, hfr2, hl2⟩ := hK
                  refine ⟨rfl, ?_⟩
                  dsimp only [puts, List.set, Option.toList, List.cons_append, List.nil_append, List.append_nil]
                  refine g_if_eqB (t := 216) dX4_findFrom_211 (by decide) rfl (fun h211 => ?_) (fun h211 => ?_)
                  · have hn : dfs F C N S w a r once last m (u ||| (nI 1 <<< (nI c &&& 31))) (go1 F N S w a r false s c) = none := by simpa using h211
                    have hf : fN F N S w a r once (dfs F C N S w a r once last m) u s c = none := by unfold fN; rw [if_pos ⟨hok, h191⟩, hn]; rfl
                    rw [fsome, hf] at hv
                    have hfrc : ∀ j, j < 1 → fr2 j = fr j := fun j hj => (hfr2 j (by omega)).trans (hup j hj)
                    refine g_iinc dX4_findFrom_216 rfl rfl (nI_1 _) (by decide) rfl rfl ?_
                    refine g_goto (q := 67) dX4_findFrom_219 (by decide) ?_
                    refine g_drop 8 rfl ?_
                    try refine g_drop 9 rfl ?_
                    exact ih (c + 1) _ _ _ _ _ _ _ _ _ _ _ _ _ _ _ _ _ _ _ _ _ (by omega) (by assumption) hv
                  · obtain ⟨l0, hl0⟩ := Option.isSome_iff_exists.mp h211
                    have hf : fN F N S w a r once (dfs F C N S w a r once last m) u s c = some (c :: l0) := by unfold fN; rw [if_pos ⟨hok, h191⟩, hl0]; rfl
                    rw [fsome, hf] at hv
                    subst hv
                    have hfrc : ∀ j, j < 1 → fr2 j = fr j := fun j hj => (hfr2 j (by omega)).trans (hup j hj)
                    refine g_iconst (v := nI 1) dX4_findFrom_214 rfl (by decide) ?_
                    exact g_zret (b := true) dX4_findFrom_215 rfl (Nat.le_refl _) (Nat.le_refl _) (⟨rfl, _, _, _, _, _, _, _, _, _, _, _, _, _, _, _, _, _, _, _, _, _, rfl, hfrc, row_cons ((hfr2 1 (by omega)).trans (if_pos rfl)) (fun j hj => hl2 l0 hl0 j hj)⟩)
              · exact absurd h140 (by decide)
            · exact absurd h107 (by decide)
set_option maxRecDepth 20000 in
theorem c_findFrom1 (sk : Nat → Nat) {rh rs rr gl ar yr yg yf pl ps pw pa pr F C N S : Nat} {last ag V E : Int32} {once af : Bool} {st : Nat → Option Nat} {w a r : Nat → Nat} {pt qt p1 q1 p2 q2 p3 q3 p4 q4 p5 q5 : Nat} {zt : Int32} {u : Int32} {s : PSt} {m : Nat} {fr : Nat → Int32} {g1 o1 z1 g2 o2 z2 g3 o3 z3 g4 o4 z4 g5 o5 z5 : Int32} {f1 f2 f3 f4 f5 : Nat → Int32} (hB : PB F C N S w a r) (hm : m + 1 ≤ 5) (hgl : gl = 1 + m + 1) (hs0 : SB s.1) (hst1 : st 1 = some p1) (hst2 : st 2 = some p2) (hst3 : st 3 = some p3) (hst4 : st 4 = some p4) (hst5 : st 5 = some p5) : Ct sk yX4_findFrom cX4_findFrom 10 (some .boolean) 8 0 0 [oRows rh rs rr (nI gl) last once ar ag af yr yg yf, cP rs 6 st, cI rr 6 fr, oPlan pl ps pw pa pr (nI F) (nI C) V E (nI N) (nI S), cI pw 6 (fI w), cI pa 6 (fI a), cI pr 6 (fI r), oPoleS pt qt s zt, cI qt 30 (fI s.1), oPole p1 q1 g1 o1 z1, cI q1 30 f1, oPole p2 q2 g2 o2 z2, cI q2 30 f2, oPole p3 q3 g3 o3 z3, cI q3 30 f3, oPole p4 q4 g4 o4 z4, cI q4 30 f4, oPole p5 q5 g5 o5 z5, cI q5 30 f5] [.ref rh, .ref pl, .ref pt, .int (nI 1), .int u] (fun q w1 => q = some (.int (zb (dfs F C N S w a r once last m u s).isSome)) ∧ ∃ (fr2 : Nat → Int32) (g1 o1 z1 g2 o2 z2 g3 o3 z3 g4 o4 z4 g5 o5 z5 : Int32) (f1 f2 f3 f4 f5 : Nat → Int32), w1 = [oRows rh rs rr (nI gl) last once ar ag af yr yg yf, cP rs 6 st, cI rr 6 fr2, oPlan pl ps pw pa pr (nI F) (nI C) V E (nI N) (nI S), cI pw 6 (fI w), cI pa 6 (fI a), cI pr 6 (fI r), oPoleS pt qt s zt, cI qt 30 (fI s.1), oPole p1 q1 g1 o1 z1, cI q1 30 f1, oPole p2 q2 g2 o2 z2, cI q2 30 f2, oPole p3 q3 g3 o3 z3, cI q3 30 f3, oPole p4 q4 g4 o4 z4, cI q4 30 f4, oPole p5 q5 g5 o5 z5, cI q5 30 f5] ∧ (∀ j, j < 1 → fr2 j = fr j) ∧ ∀ l : List Nat, dfs F C N S w a r once last m u s = some l → ∀ j, j < l.length → fr2 (1 + j) = nI (l.getD j 0)) := by
  refine Ct.of (own := RX4) (l := [some (.ref rh), some (.ref pl), some (.ref pt), some (.int (nI 1)), some (.int u), none, none, none, none, none]) (by decide) rfl (Nat.le_of_ble_eq_true rfl) rfl ?_
  refine g_aload_n dX4_findFrom_0 rfl rfl ?_
  refine g_get f_X4_77 dX4_findFrom_1 rfl 0 rfl rfl ?_
  refine g_iconst (v := nI 1) dX4_findFrom_4 rfl (by decide) ?_
  refine g_isub dX4_findFrom_5 rfl (pk_sub (by omega)) ?_
  refine g_iload_n dX4_findFrom_6 rfl rfl ?_
  refine g_isub (v := nI m) dX4_findFrom_7 rfl (by rw [pk_sub (by omega), show gl - 1 - 1 = m by omega]) ?_
  refine g_istore dX4_findFrom_8 rfl (by decide) rfl rfl ?_
  refine g_iload dX4_findFrom_10 rfl rfl ?_
  refine g_if_lt (t := 37) dX4_findFrom_12 (by decide) rfl (fun h12 => ?_) (fun h12 => ?_)
  · exact absurd h12 (nI_nlt0 (by omega))
  · skip
    refine g_iload_n dX4_findFrom_15 rfl rfl ?_
    refine g_if_lt (t := 37) dX4_findFrom_16 (by decide) rfl (fun h16 => ?_) (fun h16 => ?_)
    · exact absurd h16 (nI_nlt0 (by omega))
    · skip
      refine g_iload_n dX4_findFrom_19 rfl rfl ?_
      refine g_aload_n dX4_findFrom_20 rfl rfl ?_
      refine g_get f_X4_24 dX4_findFrom_21 rfl 0 rfl rfl ?_
      refine g_alen dX4_findFrom_24 rfl 2 rfl (Nat.le_of_ble_eq_true rfl) rfl ?_
      refine g_icmp_geN (t := 37) dX4_findFrom_25 (by decide) rfl (by omega) (by omega) (fun h25 => ?_) (fun h25 => ?_)
      · exact absurd h25 (by omega)
      · skip
        refine g_iload_n dX4_findFrom_28 rfl rfl ?_
        refine g_aload_n dX4_findFrom_29 rfl rfl ?_
        refine g_get f_X4_17 dX4_findFrom_30 rfl 0 rfl rfl ?_
        refine g_alen dX4_findFrom_33 rfl 1 rfl (Nat.le_of_ble_eq_true rfl) rfl ?_
        refine g_icmp_ltN (t := 39) dX4_findFrom_34 (by decide) rfl (by omega) (by omega) (fun h34 => ?_) (fun h34 => ?_)
        · skip
          refine g_aload_n dX4_findFrom_39 rfl rfl ?_
          refine g_aload_n dX4_findFrom_40 rfl rfl ?_
          refine g_aload_n dX4_findFrom_41 rfl rfl ?_
          refine g_iload dX4_findFrom_42 rfl rfl ?_
          refine g_callV (c_X4_isHopeless sk (m := m) hB hs0 (by omega)) m_X4_84 a_X4_isHopeless dX4_findFrom_44 rfl [0, 3, 4, 5, 6, 7, 8] rfl rfl 0 rfl rfl rfl (by decide) (by decide) (by decide) (by decide) (Nat.le_of_ble_eq_true rfl) (fun r w hK => ?_)
          obtain ⟨rfl, rfl⟩ := hK
          refine ⟨rfl, ?_⟩
          dsimp only [puts, List.set, Option.toList, List.cons_append, List.nil_append, List.append_nil]
          refine g_if_eqB (t := 52) dX4_findFrom_47 (by decide) rfl (fun h47 => ?_) (fun h47 => ?_)
          · have hh : hopeR F C N S w a r last m s C 0 = true := by simpa using h47
            refine g_iload dX4_findFrom_52 rfl rfl ?_
            refine g_if_ne (t := 61) dX4_findFrom_54 (by decide) rfl (fun h54 => ?_) (fun h54 => ?_)
            · have hm0 : ¬ m = 0 := fun e => h54 (congrArg nI e : nI m = nI 0)
              refine g_iconst (v := nI 0) dX4_findFrom_61 rfl (by decide) ?_
              refine g_istore dX4_findFrom_62 rfl (by decide) rfl rfl ?_
              refine g_iconst (v := nI 0) dX4_findFrom_64 rfl (by decide) ?_
              refine g_istore dX4_findFrom_65 rfl (by decide) rfl rfl ?_
              generalize hD : dfs F C N S w a r once last m u s = v
              obtain ⟨m, rfl⟩ : ∃ k, m = k + 1 := ⟨m - 1, by omega⟩
              rw [dfs, if_pos hh] at hD
              exact lpN_findFrom1 sk hB hs0 (by omega) (by omega) hst1 hst2 hst3 hst4 hst5 C 0 fr _ _ _ _ _ _ _ _ _ _ _ _ _ _ _ _ _ _ _ _ (by omega) (fun _ _ => rfl) hD
            · have hm0 : m = 0 := (nI_eq (by omega) (by omega)).mp (h54 : nI m = nI 0)
              refine g_iconst (v := nI 1) dX4_findFrom_57 rfl (by decide) ?_
              refine g_goto (q := 62) dX4_findFrom_58 (by decide) ?_
              refine g_istore dX4_findFrom_62 rfl (by decide) rfl rfl ?_
              refine g_iconst (v := nI 0) dX4_findFrom_64 rfl (by decide) ?_
              refine g_istore dX4_findFrom_65 rfl (by decide) rfl rfl ?_
              generalize hD : dfs F C N S w a r once last m u s = v
              subst hm0
              rw [dfs, if_pos hh] at hD
              exact lpE_findFrom1 sk hB hs0 hst1 hst2 hst3 hst4 hst5 C 0 fr _ _ _ _ _ _ _ _ _ _ _ _ _ _ _ _ _ _ _ _ (by omega) (fun _ _ => rfl) hD
          · have hh : ¬ hopeR F C N S w a r last m s C 0 = true := by simpa using h47
            have hD : dfs F C N S w a r once last m u s = none := by cases m <;> rw [dfs, if_neg hh]
            refine g_iconst (v := nI 0) dX4_findFrom_50 rfl (by decide) ?_
            exact g_zret (b := false) dX4_findFrom_51 rfl (Nat.le_refl _) (Nat.le_refl _) (⟨by rw [hD]; rfl, _, _, _, _, _, _, _, _, _, _, _, _, _, _, _, _, _, _, _, _, _, rfl, fun _ _ => rfl, fun l hl => by rw [hD] at hl; cases hl⟩)
        · exact absurd h34 (by omega)
set_option maxRecDepth 20000 in
theorem lpE_findFrom0 (sk : Nat → Nat) {rh rs rr gl ar yr yg yf pl ps pw pa pr F C N S : Nat} {last ag V E : Int32} {once af : Bool} {st : Nat → Option Nat} {w a r : Nat → Nat} {pt qt p0 q0 p1 q1 p2 q2 p3 q3 p4 q4 p5 q5 : Nat} {zt : Int32} {u : Int32} {s : PSt} {v : Option (List Nat)} {fr : Nat → Int32} (hB : PB F C N S w a r) (hs0 : SB s.1) (hst0 : st 0 = some p0) (hst1 : st 1 = some p1) (hst2 : st 2 = some p2) (hst3 : st 3 = some p3) (hst4 : st 4 = some p4) (hst5 : st 5 = some p5) : ∀ (n c : Nat) (fr1 : Nat → Int32) (g0 o0 z0 g1 o1 z1 g2 o2 z2 g3 o3 z3 g4 o4 z4 g5 o5 z5 : Int32) (f0 f1 f2 f3 f4 f5 : Nat → Int32), c + n = C → (∀ j, j < 0 → fr1 j = fr j) → fsome (fE F w a once last u s) n c = v → GG sk RX4 yX4_findFrom cX4_findFrom 10 (some .boolean) 9 0 0 (fun q w1 => q = some (.int (zb v.isSome)) ∧ ∃ (fr2 : Nat → Int32) (g0 o0 z0 g1 o1 z1 g2 o2 z2 g3 o3 z3 g4 o4 z4 g5 o5 z5 : Int32) (f0 f1 f2 f3 f4 f5 : Nat → Int32), w1 = [oRows rh rs rr (nI gl) last once ar ag af yr yg yf, cP rs 6 st, cI rr 6 fr2, oPlan pl ps pw pa pr (nI F) (nI C) V E (nI N) (nI S), cI pw 6 (fI w), cI pa 6 (fI a), cI pr 6 (fI r), oPoleS pt qt s zt, cI qt 30 (fI s.1), oPole p0 q0 g0 o0 z0, cI q0 30 f0, oPole p1 q1 g1 o1 z1, cI q1 30 f1, oPole p2 q2 g2 o2 z2, cI q2 30 f2, oPole p3 q3 g3 o3 z3, cI q3 30 f3, oPole p4 q4 g4 o4 z4, cI q4 30 f4, oPole p5 q5 g5 o5 z5, cI q5 30 f5] ∧ (∀ j, j < 0 → fr2 j = fr j) ∧ ∀ l : List Nat, v = some l → ∀ j, j < l.length → fr2 (0 + j) = nI (l.getD j 0)) 0 0 67 [some (.ref rh), some (.ref pl), some (.ref pt), some (.int (nI 0)), some (.int u), some (.int (nI 0)), some (.int (zb true)), some (.int (nI c)), none, none] [] [oRows rh rs rr (nI gl) last once ar ag af yr yg yf, cP rs 6 st, cI rr 6 fr1, oPlan pl ps pw pa pr (nI F) (nI C) V E (nI N) (nI S), cI pw 6 (fI w), cI pa 6 (fI a), cI pr 6 (fI r), oPoleS pt qt s zt, cI qt 30 (fI s.1), oPole p0 q0 g0 o0 z0, cI q0 30 f0, oPole p1 q1 g1 o1 z1, cI q1 30 f1, oPole p2 q2 g2 o2 z2, cI q2 30 f2, oPole p3 q3 g3 o3 z3, cI q3 30 f3, oPole p4 q4 g4 o4 z4, cI q4 30 f4, oPole p5 q5 g5 o5 z5, cI q5 30 f5] := by
  have hC6 := hB.2.1
  intro n
  induction n with
  | zero =>
    intro c fr1 g0 o0 z0 g1 o1 z1 g2 o2 z2 g3 o3 z3 g4 o4 z4 g5 o5 z5 f0 f1 f2 f3 f4 f5 hc hfr hv
    rw [fsome] at hv
    subst hv
    refine g_iload dX4_findFrom_67 rfl rfl ?_
    refine g_aload_n dX4_findFrom_69 rfl rfl ?_
    refine g_get f_X4_55 dX4_findFrom_70 rfl 3 rfl rfl ?_
    refine g_icmp_geN (t := 222) dX4_findFrom_73 (by decide) rfl (by omega) (by omega) (fun h73 => ?_) (fun h73 => ?_)
    · skip
      refine g_iconst (v := nI 0) dX4_findFrom_222 rfl (by decide) ?_
      exact g_zret (b := false) dX4_findFrom_223 rfl (Nat.le_refl _) (Nat.le_refl _) (⟨rfl, _, _, _, _, _, _, _, _, _, _, _, _, _, _, _, _, _, _, _, _, _, _, _, _, _, rfl, hfr, fun l hl => by cases hl⟩)
    · exact absurd h73 (by omega)
  | succ n ih =>
    intro c fr1 g0 o0 z0 g1 o1 z1 g2 o2 z2 g3 o3 z3 g4 o4 z4 g5 o5 z5 f0 f1 f2 f3 f4 f5 hc hfr hv
    refine g_iload dX4_findFrom_67 rfl rfl ?_
    refine g_aload_n dX4_findFrom_69 rfl rfl ?_
    refine g_get f_X4_55 dX4_findFrom_70 rfl 3 rfl rfl ?_
    refine g_icmp_geN (t := 222) dX4_findFrom_73 (by decide) rfl (by omega) (by omega) (fun h73 => ?_) (fun h73 => ?_)
    · exact absurd h73 (by omega)
    · skip
      refine g_aload_n dX4_findFrom_76 rfl rfl ?_
      refine g_get f_X4_60 dX4_findFrom_77 rfl 0 rfl rfl ?_
      refine g_if_eqB (t := 93) dX4_findFrom_80 (by decide) rfl (fun h80 => ?_) (fun h80 => ?_)
      · have hok : okc once u c = true := by unfold okc; rw [h80]; rfl
        refine g_iconst (v := nI 1) dX4_findFrom_93 rfl (by decide) ?_
        refine g_goto (q := 98) dX4_findFrom_94 (by decide) ?_
        refine g_istore dX4_findFrom_98 rfl (by decide) rfl rfl ?_
        refine g_iload dX4_findFrom_100 rfl rfl ?_
        refine g_if_eq (t := 216) dX4_findFrom_102 (by decide) rfl (fun h102 => ?_) (fun h102 => ?_)
        · exact absurd h102 (by decide)
        · skip
          refine g_iload dX4_findFrom_105 rfl rfl ?_
          refine g_if_eqB (t := 130) dX4_findFrom_107 (by decide) rfl (fun h107 => ?_) (fun h107 => ?_)
          · exact absurd h107 (by decide)
          · skip
            refine g_aload_n dX4_findFrom_110 rfl rfl ?_
            refine g_get f_X4_63 dX4_findFrom_111 rfl 0 rfl rfl ?_
            refine g_iconst (v := -1) dX4_findFrom_114 rfl (by decide) ?_
            refine g_icmp_eq (t := 130) dX4_findFrom_115 (by decide) rfl (fun h115 => ?_) (fun h115 => ?_)
            · have hlb : lastB last c = true := by unfold lastB; rw [decide_eq_true h115]; rfl
              refine g_aload_n dX4_findFrom_130 rfl rfl ?_
              refine g_get f_X4_24 dX4_findFrom_131 rfl 0 rfl rfl ?_
              refine g_iload_n dX4_findFrom_134 rfl rfl ?_
              refine g_iload dX4_findFrom_135 rfl rfl ?_
              have hup : ∀ j, j < 0 → upd fr1 0 (nI c) j = fr j := fun j hj => by unfold upd; rw [if_neg (by omega)]; exact hfr j hj
              refine g_iastN dX4_findFrom_137 rfl 2 rfl (by omega) (by decide) (rfl) rfl ?_
              refine g_iload dX4_findFrom_138 rfl rfl ?_
              refine g_if_eqB (t := 161) dX4_findFrom_140 (by decide) rfl (fun h140 => ?_) (fun h140 => ?_)
              · exact absurd h140 (by decide)
              · skip
                refine g_aload_n dX4_findFrom_143 rfl rfl ?_
                refine g_aload_n dX4_findFrom_144 rfl rfl ?_
                refine g_iload dX4_findFrom_145 rfl rfl ?_
                refine g_iconst (v := nI 0) dX4_findFrom_147 rfl (by decide) ?_
                refine g_iconst (v := nI 0) dX4_findFrom_148 rfl (by decide) ?_
                refine g_callV (c_X1_reach sk (sand := false) (fr := 0) hB.1 (show c < 6 by omega) hs0 (hB.2.2.2.2.2.2 c (by omega)).1 (hB.2.2.2.2.2.2 c (by omega)).2.1 (Nat.zero_le _)) m_X4_88 a_X1_reach dX4_findFrom_149 rfl [7, 8, 3, 4, 5] rfl rfl 0 rfl rfl rfl (by decide) (by decide) (by decide) (by decide) (Nat.le_of_ble_eq_true rfl) (fun r w hK => ?_)
                obtain ⟨rfl, rfl⟩ := hK
                refine ⟨rfl, ?_⟩
                dsimp only [puts, List.set, Option.toList, List.cons_append, List.nil_append, List.append_nil]
                have hfl := far1_le F w a false s c
                rw [show farR (w c) false s.1 (F - 0) 0 (a c) = far1 F w a false s c from rfl]
                refine g_aload_n dX4_findFrom_152 rfl rfl ?_
                refine g_get f_X4_92 dX4_findFrom_153 rfl 3 rfl rfl ?_
                have hF30 := hB.1
                refine g_icmp_neN (t := 216) dX4_findFrom_156 (by decide) rfl (by omega) (by omega) (fun h156 => ?_) (fun h156 => ?_)
                · have hf : fE F w a once last u s c = none := by unfold fE; rw [if_neg (fun z => h156 z.2.2)]
                  rw [fsome, hf] at hv
                  refine g_iinc dX4_findFrom_216 rfl rfl (nI_1 _) (by decide) rfl rfl ?_
                  refine g_goto (q := 67) dX4_findFrom_219 (by decide) ?_
                  refine g_drop 8 rfl ?_
                  exact ih (c + 1) _ _ _ _ _ _ _ _ _ _ _ _ _ _ _ _ _ _ _ _ _ _ _ _ _ (by omega) (by assumption) hv
                · have hf : fE F w a once last u s c = some [c] := by unfold fE; rw [if_pos ⟨hok, hlb, h156⟩]
                  rw [fsome, hf] at hv
                  subst hv
                  refine g_iconst (v := nI 1) dX4_findFrom_159 rfl (by decide) ?_
                  exact g_zret (b := true) dX4_findFrom_160 rfl (Nat.le_refl _) (Nat.le_refl _) (⟨rfl, _, _, _, _, _, _, _, _, _, _, _, _, _, _, _, _, _, _, _, _, _, _, _, _, _, rfl, hup, row_one (if_pos rfl)⟩)
            · skip
              refine g_iload dX4_findFrom_118 rfl rfl ?_
              refine g_aload_n dX4_findFrom_120 rfl rfl ?_
              refine g_get f_X4_63 dX4_findFrom_121 rfl 0 rfl rfl ?_
              refine g_icmp_eq (t := 130) dX4_findFrom_124 (by decide) rfl (fun h124 => ?_) (fun h124 => ?_)
              · have hlb : lastB last c = true := by unfold lastB; rw [decide_eq_true h124, Bool.or_true]
                refine g_aload_n dX4_findFrom_130 rfl rfl ?_
                refine g_get f_X4_24 dX4_findFrom_131 rfl 0 rfl rfl ?_
                refine g_iload_n dX4_findFrom_134 rfl rfl ?_
                refine g_iload dX4_findFrom_135 rfl rfl ?_
                have hup : ∀ j, j < 0 → upd fr1 0 (nI c) j = fr j := fun j hj => by unfold upd; rw [if_neg (by omega)]; exact hfr j hj
                refine g_iastN dX4_findFrom_137 rfl 2 rfl (by omega) (by decide) (rfl) rfl ?_
                refine g_iload dX4_findFrom_138 rfl rfl ?_
                refine g_if_eqB (t := 161) dX4_findFrom_140 (by decide) rfl (fun h140 => ?_) (fun h140 => ?_)
                · exact absurd h140 (by decide)
                · skip
                  refine g_aload_n dX4_findFrom_143 rfl rfl ?_
                  refine g_aload_n dX4_findFrom_144 rfl rfl ?_
                  refine g_iload dX4_findFrom_145 rfl rfl ?_
                  refine g_iconst (v := nI 0) dX4_findFrom_147 rfl (by decide) ?_
                  refine g_iconst (v := nI 0) dX4_findFrom_148 rfl (by decide) ?_
                  refine g_callV (c_X1_reach sk (sand := false) (fr := 0) hB.1 (show c < 6 by omega) hs0 (hB.2.2.2.2.2.2 c (by omega)).1 (hB.2.2.2.2.2.2 c (by omega)).2.1 (Nat.zero_le _)) m_X4_88 a_X1_reach dX4_findFrom_149 rfl [7, 8, 3, 4, 5] rfl rfl 0 rfl rfl rfl (by decide) (by decide) (by decide) (by decide) (Nat.le_of_ble_eq_true rfl) (fun r w hK => ?_)
                  obtain ⟨rfl, rfl⟩ := hK
                  refine ⟨rfl, ?_⟩
                  dsimp only [puts, List.set, Option.toList, List.cons_append, List.nil_append, List.append_nil]
                  have hfl := far1_le F w a false s c
                  rw [show farR (w c) false s.1 (F - 0) 0 (a c) = far1 F w a false s c from rfl]
                  refine g_aload_n dX4_findFrom_152 rfl rfl ?_
                  refine g_get f_X4_92 dX4_findFrom_153 rfl 3 rfl rfl ?_
                  have hF30 := hB.1
                  refine g_icmp_neN (t := 216) dX4_findFrom_156 (by decide) rfl (by omega) (by omega) (fun h156 => ?_) (fun h156 => ?_)
                  · have hf : fE F w a once last u s c = none := by unfold fE; rw [if_neg (fun z => h156 z.2.2)]
                    rw [fsome, hf] at hv
                    refine g_iinc dX4_findFrom_216 rfl rfl (nI_1 _) (by decide) rfl rfl ?_
                    refine g_goto (q := 67) dX4_findFrom_219 (by decide) ?_
                    refine g_drop 8 rfl ?_
                    exact ih (c + 1) _ _ _ _ _ _ _ _ _ _ _ _ _ _ _ _ _ _ _ _ _ _ _ _ _ (by omega) (by assumption) hv
                  · have hf : fE F w a once last u s c = some [c] := by unfold fE; rw [if_pos ⟨hok, hlb, h156⟩]
                    rw [fsome, hf] at hv
                    subst hv
                    refine g_iconst (v := nI 1) dX4_findFrom_159 rfl (by decide) ?_
                    exact g_zret (b := true) dX4_findFrom_160 rfl (Nat.le_refl _) (Nat.le_refl _) (⟨rfl, _, _, _, _, _, _, _, _, _, _, _, _, _, _, _, _, _, _, _, _, _, _, _, _, _, rfl, hup, row_one (if_pos rfl)⟩)
              · have hlb : lastB last c = false := by unfold lastB; rw [decide_eq_false h115, decide_eq_false h124]; rfl
                have hf : fE F w a once last u s c = none := by unfold fE; rw [if_neg (fun z => by rw [hlb] at z; exact absurd z.2.1 (by decide))]
                rw [fsome, hf] at hv
                refine g_goto (q := 216) dX4_findFrom_127 (by decide) ?_
                refine g_iinc dX4_findFrom_216 rfl rfl (nI_1 _) (by decide) rfl rfl ?_
                refine g_goto (q := 67) dX4_findFrom_219 (by decide) ?_
                refine g_drop 8 rfl ?_
                exact ih (c + 1) _ _ _ _ _ _ _ _ _ _ _ _ _ _ _ _ _ _ _ _ _ _ _ _ _ (by omega) (by assumption) hv
      · skip
        refine g_iload dX4_findFrom_83 rfl rfl ?_
        refine g_iload dX4_findFrom_85 rfl rfl ?_
        refine g_ishr dX4_findFrom_87 rfl rfl ?_
        refine g_iconst (v := nI 1) dX4_findFrom_88 rfl (by decide) ?_
        refine g_iand dX4_findFrom_89 rfl rfl ?_
        refine g_if_ne (t := 97) dX4_findFrom_90 (by decide) rfl (fun h90 => ?_) (fun h90 => ?_)
        · have hok : okc once u c = false := by unfold okc; rw [h80, decide_eq_false h90]; rfl
          have hf : fE F w a once last u s c = none := by unfold fE; rw [if_neg (fun z => by rw [hok] at z; exact absurd z.1 (by decide))]
          rw [fsome, hf] at hv
          refine g_iconst (v := nI 0) dX4_findFrom_97 rfl (by decide) ?_
          refine g_istore dX4_findFrom_98 rfl (by decide) rfl rfl ?_
          refine g_iload dX4_findFrom_100 rfl rfl ?_
          refine g_if_eq (t := 216) dX4_findFrom_102 (by decide) rfl (fun h102 => ?_) (fun h102 => ?_)
          · skip
            refine g_iinc dX4_findFrom_216 rfl rfl (nI_1 _) (by decide) rfl rfl ?_
            refine g_goto (q := 67) dX4_findFrom_219 (by decide) ?_
            refine g_drop 8 rfl ?_
            exact ih (c + 1) _ _ _ _ _ _ _ _ _ _ _ _ _ _ _ _ _ _ _ _ _ _ _ _ _ (by omega) (by assumption) hv
          · exact absurd h102 (by decide)
        · have hok : okc once u c = true := by unfold okc; rw [h80, decide_eq_true h90]; rfl
          refine g_iconst (v := nI 1) dX4_findFrom_93 rfl (by decide) ?_
          refine g_goto (q := 98) dX4_findFrom_94 (by decide) ?_
          refine g_istore dX4_findFrom_98 rfl (by decide) rfl rfl ?_
          refine g_iload dX4_findFrom_100 rfl rfl ?_
          refine g_if_eq (t := 216) dX4_findFrom_102 (by decide) rfl (fun h102 => ?_) (fun h102 => ?_)
          · exact absurd h102 (by decide)
          · skip
            refine g_iload dX4_findFrom_105 rfl rfl ?_
            refine g_if_eqB (t := 130) dX4_findFrom_107 (by decide) rfl (fun h107 => ?_) (fun h107 => ?_)
            · exact absurd h107 (by decide)
            · skip
              refine g_aload_n dX4_findFrom_110 rfl rfl ?_
              refine g_get f_X4_63 dX4_findFrom_111 rfl 0 rfl rfl ?_
              refine g_iconst (v := -1) dX4_findFrom_114 rfl (by decide) ?_
              refine g_icmp_eq (t := 130) dX4_findFrom_115 (by decide) rfl (fun h115 => ?_) (fun h115 => ?_)
              · have hlb : lastB last c = true := by unfold lastB; rw [decide_eq_true h115]; rfl
                refine g_aload_n dX4_findFrom_130 rfl rfl ?_
                refine g_get f_X4_24 dX4_findFrom_131 rfl 0 rfl rfl ?_
                refine g_iload_n dX4_findFrom_134 rfl rfl ?_
                refine g_iload dX4_findFrom_135 rfl rfl ?_
                have hup : ∀ j, j < 0 → upd fr1 0 (nI c) j = fr j := fun j hj => by unfold upd; rw [if_neg (by omega)]; exact hfr j hj
                refine g_iastN dX4_findFrom_137 rfl 2 rfl (by omega) (by decide) (rfl) rfl ?_
                refine g_iload dX4_findFrom_138 rfl rfl ?_
                refine g_if_eqB (t := 161) dX4_findFrom_140 (by decide) rfl (fun h140 => ?_) (fun h140 => ?_)
                · exact absurd h140 (by decide)
                · skip
                  refine g_aload_n dX4_findFrom_143 rfl rfl ?_
                  refine g_aload_n dX4_findFrom_144 rfl rfl ?_
                  refine g_iload dX4_findFrom_145 rfl rfl ?_
                  refine g_iconst (v := nI 0) dX4_findFrom_147 rfl (by decide) ?_
                  refine g_iconst (v := nI 0) dX4_findFrom_148 rfl (by decide) ?_
                  refine g_callV (c_X1_reach sk (sand := false) (fr := 0) hB.1 (show c < 6 by omega) hs0 (hB.2.2.2.2.2.2 c (by omega)).1 (hB.2.2.2.2.2.2 c (by omega)).2.1 (Nat.zero_le _)) m_X4_88 a_X1_reach dX4_findFrom_149 rfl [7, 8, 3, 4, 5] rfl rfl 0 rfl rfl rfl (by decide) (by decide) (by decide) (by decide) (Nat.le_of_ble_eq_true rfl) (fun r w hK => ?_)
                  obtain ⟨rfl, rfl⟩ := hK
                  refine ⟨rfl, ?_⟩
                  dsimp only [puts, List.set, Option.toList, List.cons_append, List.nil_append, List.append_nil]
                  have hfl := far1_le F w a false s c
                  rw [show farR (w c) false s.1 (F - 0) 0 (a c) = far1 F w a false s c from rfl]
                  refine g_aload_n dX4_findFrom_152 rfl rfl ?_
                  refine g_get f_X4_92 dX4_findFrom_153 rfl 3 rfl rfl ?_
                  have hF30 := hB.1
                  refine g_icmp_neN (t := 216) dX4_findFrom_156 (by decide) rfl (by omega) (by omega) (fun h156 => ?_) (fun h156 => ?_)
                  · have hf : fE F w a once last u s c = none := by unfold fE; rw [if_neg (fun z => h156 z.2.2)]
                    rw [fsome, hf] at hv
                    refine g_iinc dX4_findFrom_216 rfl rfl (nI_1 _) (by decide) rfl rfl ?_
                    refine g_goto (q := 67) dX4_findFrom_219 (by decide) ?_
                    refine g_drop 8 rfl ?_
                    exact ih (c + 1) _ _ _ _ _ _ _ _ _ _ _ _ _ _ _ _ _ _ _ _ _ _ _ _ _ (by omega) (by assumption) hv
                  · have hf : fE F w a once last u s c = some [c] := by unfold fE; rw [if_pos ⟨hok, hlb, h156⟩]
                    rw [fsome, hf] at hv
                    subst hv
                    refine g_iconst (v := nI 1) dX4_findFrom_159 rfl (by decide) ?_
                    exact g_zret (b := true) dX4_findFrom_160 rfl (Nat.le_refl _) (Nat.le_refl _) (⟨rfl, _, _, _, _, _, _, _, _, _, _, _, _, _, _, _, _, _, _, _, _, _, _, _, _, _, rfl, hup, row_one (if_pos rfl)⟩)
              · skip
                refine g_iload dX4_findFrom_118 rfl rfl ?_
                refine g_aload_n dX4_findFrom_120 rfl rfl ?_
                refine g_get f_X4_63 dX4_findFrom_121 rfl 0 rfl rfl ?_
                refine g_icmp_eq (t := 130) dX4_findFrom_124 (by decide) rfl (fun h124 => ?_) (fun h124 => ?_)
                · have hlb : lastB last c = true := by unfold lastB; rw [decide_eq_true h124, Bool.or_true]
                  refine g_aload_n dX4_findFrom_130 rfl rfl ?_
                  refine g_get f_X4_24 dX4_findFrom_131 rfl 0 rfl rfl ?_
                  refine g_iload_n dX4_findFrom_134 rfl rfl ?_
                  refine g_iload dX4_findFrom_135 rfl rfl ?_
                  have hup : ∀ j, j < 0 → upd fr1 0 (nI c) j = fr j := fun j hj => by unfold upd; rw [if_neg (by omega)]; exact hfr j hj
                  refine g_iastN dX4_findFrom_137 rfl 2 rfl (by omega) (by decide) (rfl) rfl ?_
                  refine g_iload dX4_findFrom_138 rfl rfl ?_
                  refine g_if_eqB (t := 161) dX4_findFrom_140 (by decide) rfl (fun h140 => ?_) (fun h140 => ?_)
                  · exact absurd h140 (by decide)
                  · skip
                    refine g_aload_n dX4_findFrom_143 rfl rfl ?_
                    refine g_aload_n dX4_findFrom_144 rfl rfl ?_
                    refine g_iload dX4_findFrom_145 rfl rfl ?_
                    refine g_iconst (v := nI 0) dX4_findFrom_147 rfl (by decide) ?_
                    refine g_iconst (v := nI 0) dX4_findFrom_148 rfl (by decide) ?_
                    refine g_callV (c_X1_reach sk (sand := false) (fr := 0) hB.1 (show c < 6 by omega) hs0 (hB.2.2.2.2.2.2 c (by omega)).1 (hB.2.2.2.2.2.2 c (by omega)).2.1 (Nat.zero_le _)) m_X4_88 a_X1_reach dX4_findFrom_149 rfl [7, 8, 3, 4, 5] rfl rfl 0 rfl rfl rfl (by decide) (by decide) (by decide) (by decide) (Nat.le_of_ble_eq_true rfl) (fun r w hK => ?_)
                    obtain ⟨rfl, rfl⟩ := hK
                    refine ⟨rfl, ?_⟩
                    dsimp only [puts, List.set, Option.toList, List.cons_append, List.nil_append, List.append_nil]
                    have hfl := far1_le F w a false s c
                    rw [show farR (w c) false s.1 (F - 0) 0 (a c) = far1 F w a false s c from rfl]
                    refine g_aload_n dX4_findFrom_152 rfl rfl ?_
                    refine g_get f_X4_92 dX4_findFrom_153 rfl 3 rfl rfl ?_
                    have hF30 := hB.1
                    refine g_icmp_neN (t := 216) dX4_findFrom_156 (by decide) rfl (by omega) (by omega) (fun h156 => ?_) (fun h156 => ?_)
                    · have hf : fE F w a once last u s c = none := by unfold fE; rw [if_neg (fun z => h156 z.2.2)]
                      rw [fsome, hf] at hv
                      refine g_iinc dX4_findFrom_216 rfl rfl (nI_1 _) (by decide) rfl rfl ?_
                      refine g_goto (q := 67) dX4_findFrom_219 (by decide) ?_
                      refine g_drop 8 rfl ?_
                      exact ih (c + 1) _ _ _ _ _ _ _ _ _ _ _ _ _ _ _ _ _ _ _ _ _ _ _ _ _ (by omega) (by assumption) hv
                    · have hf : fE F w a once last u s c = some [c] := by unfold fE; rw [if_pos ⟨hok, hlb, h156⟩]
                      rw [fsome, hf] at hv
                      subst hv
                      refine g_iconst (v := nI 1) dX4_findFrom_159 rfl (by decide) ?_
                      exact g_zret (b := true) dX4_findFrom_160 rfl (Nat.le_refl _) (Nat.le_refl _) (⟨rfl, _, _, _, _, _, _, _, _, _, _, _, _, _, _, _, _, _, _, _, _, _, _, _, _, _, rfl, hup, row_one (if_pos rfl)⟩)
                · have hlb : lastB last c = false := by unfold lastB; rw [decide_eq_false h115, decide_eq_false h124]; rfl
                  have hf : fE F w a once last u s c = none := by unfold fE; rw [if_neg (fun z => by rw [hlb] at z; exact absurd z.2.1 (by decide))]
                  rw [fsome, hf] at hv
                  refine g_goto (q := 216) dX4_findFrom_127 (by decide) ?_
                  refine g_iinc dX4_findFrom_216 rfl rfl (nI_1 _) (by decide) rfl rfl ?_
                  refine g_goto (q := 67) dX4_findFrom_219 (by decide) ?_
                  refine g_drop 8 rfl ?_
                  exact ih (c + 1) _ _ _ _ _ _ _ _ _ _ _ _ _ _ _ _ _ _ _ _ _ _ _ _ _ (by omega) (by assumption) hv
set_option maxRecDepth 20000 in
theorem lpN_findFrom0 (sk : Nat → Nat) {rh rs rr gl ar yr yg yf pl ps pw pa pr F C N S : Nat} {last ag V E : Int32} {once af : Bool} {st : Nat → Option Nat} {w a r : Nat → Nat} {pt qt p0 q0 p1 q1 p2 q2 p3 q3 p4 q4 p5 q5 : Nat} {zt : Int32} {u : Int32} {s : PSt} {m : Nat} {v : Option (List Nat)} {fr : Nat → Int32} (hB : PB F C N S w a r) (hs0 : SB s.1) (hm1 : m + 1 ≤ 5) (hgl2 : gl = 1 + m + 1) (hst0 : st 0 = some p0) (hst1 : st 1 = some p1) (hst2 : st 2 = some p2) (hst3 : st 3 = some p3) (hst4 : st 4 = some p4) (hst5 : st 5 = some p5) : ∀ (n c : Nat) (fr1 : Nat → Int32) (g0 o0 z0 g1 o1 z1 g2 o2 z2 g3 o3 z3 g4 o4 z4 g5 o5 z5 : Int32) (f0 f1 f2 f3 f4 f5 : Nat → Int32), c + n = C → (∀ j, j < 0 → fr1 j = fr j) → fsome (fN F N S w a r once (dfs F C N S w a r once last m) u s) n c = v → GG sk RX4 yX4_findFrom cX4_findFrom 10 (some .boolean) 9 0 0 (fun q w1 => q = some (.int (zb v.isSome)) ∧ ∃ (fr2 : Nat → Int32) (g0 o0 z0 g1 o1 z1 g2 o2 z2 g3 o3 z3 g4 o4 z4 g5 o5 z5 : Int32) (f0 f1 f2 f3 f4 f5 : Nat → Int32), w1 = [oRows rh rs rr (nI gl) last once ar ag af yr yg yf, cP rs 6 st, cI rr 6 fr2, oPlan pl ps pw pa pr (nI F) (nI C) V E (nI N) (nI S), cI pw 6 (fI w), cI pa 6 (fI a), cI pr 6 (fI r), oPoleS pt qt s zt, cI qt 30 (fI s.1), oPole p0 q0 g0 o0 z0, cI q0 30 f0, oPole p1 q1 g1 o1 z1, cI q1 30 f1, oPole p2 q2 g2 o2 z2, cI q2 30 f2, oPole p3 q3 g3 o3 z3, cI q3 30 f3, oPole p4 q4 g4 o4 z4, cI q4 30 f4, oPole p5 q5 g5 o5 z5, cI q5 30 f5] ∧ (∀ j, j < 0 → fr2 j = fr j) ∧ ∀ l : List Nat, v = some l → ∀ j, j < l.length → fr2 (0 + j) = nI (l.getD j 0)) 0 0 67 [some (.ref rh), some (.ref pl), some (.ref pt), some (.int (nI 0)), some (.int u), some (.int (nI (m + 1))), some (.int (zb false)), some (.int (nI c)), none, none] [] [oRows rh rs rr (nI gl) last once ar ag af yr yg yf, cP rs 6 st, cI rr 6 fr1, oPlan pl ps pw pa pr (nI F) (nI C) V E (nI N) (nI S), cI pw 6 (fI w), cI pa 6 (fI a), cI pr 6 (fI r), oPoleS pt qt s zt, cI qt 30 (fI s.1), oPole p0 q0 g0 o0 z0, cI q0 30 f0, oPole p1 q1 g1 o1 z1, cI q1 30 f1, oPole p2 q2 g2 o2 z2, cI q2 30 f2, oPole p3 q3 g3 o3 z3, cI q3 30 f3, oPole p4 q4 g4 o4 z4, cI q4 30 f4, oPole p5 q5 g5 o5 z5, cI q5 30 f5] := by
  have hC6 := hB.2.1
  intro n
  induction n with
  | zero =>
    intro c fr1 g0 o0 z0 g1 o1 z1 g2 o2 z2 g3 o3 z3 g4 o4 z4 g5 o5 z5 f0 f1 f2 f3 f4 f5 hc hfr hv
    rw [fsome] at hv
    subst hv
    refine g_iload dX4_findFrom_67 rfl rfl ?_
    refine g_aload_n dX4_findFrom_69 rfl rfl ?_
    refine g_get f_X4_55 dX4_findFrom_70 rfl 3 rfl rfl ?_
    refine g_icmp_geN (t := 222) dX4_findFrom_73 (by decide) rfl (by omega) (by omega) (fun h73 => ?_) (fun h73 => ?_)
    · skip
      refine g_iconst (v := nI 0) dX4_findFrom_222 rfl (by decide) ?_
      exact g_zret (b := false) dX4_findFrom_223 rfl (Nat.le_refl _) (Nat.le_refl _) (⟨rfl, _, _, _, _, _, _, _, _, _, _, _, _, _, _, _, _, _, _, _, _, _, _, _, _, _, rfl, hfr, fun l hl => by cases hl⟩)
    · exact absurd h73 (by omega)
  | succ n ih =>
    intro c fr1 g0 o0 z0 g1 o1 z1 g2 o2 z2 g3 o3 z3 g4 o4 z4 g5 o5 z5 f0 f1 f2 f3 f4 f5 hc hfr hv
    refine g_iload dX4_findFrom_67 rfl rfl ?_
    refine g_aload_n dX4_findFrom_69 rfl rfl ?_
    refine g_get f_X4_55 dX4_findFrom_70 rfl 3 rfl rfl ?_
    refine g_icmp_geN (t := 222) dX4_findFrom_73 (by decide) rfl (by omega) (by omega) (fun h73 => ?_) (fun h73 => ?_)
    · exact absurd h73 (by omega)
    · skip
      refine g_aload_n dX4_findFrom_76 rfl rfl ?_
      refine g_get f_X4_60 dX4_findFrom_77 rfl 0 rfl rfl ?_
      refine g_if_eqB (t := 93) dX4_findFrom_80 (by decide) rfl (fun h80 => ?_) (fun h80 => ?_)
      · have hok : okc once u c = true := by unfold okc; rw [h80]; rfl
        refine g_iconst (v := nI 1) dX4_findFrom_93 rfl (by decide) ?_
        refine g_goto (q := 98) dX4_findFrom_94 (by decide) ?_
        refine g_istore dX4_findFrom_98 rfl (by decide) rfl rfl ?_
        refine g_iload dX4_findFrom_100 rfl rfl ?_
        refine g_if_eq (t := 216) dX4_findFrom_102 (by decide) rfl (fun h102 => ?_) (fun h102 => ?_)
        · exact absurd h102 (by decide)
        · skip
          refine g_iload dX4_findFrom_105 rfl rfl ?_
          refine g_if_eqB (t := 130) dX4_findFrom_107 (by decide) rfl (fun h107 => ?_) (fun h107 => ?_)
          · skip
            refine g_aload_n dX4_findFrom_130 rfl rfl ?_
            refine g_get f_X4_24 dX4_findFrom_131 rfl 0 rfl rfl ?_
            refine g_iload_n dX4_findFrom_134 rfl rfl ?_
            refine g_iload dX4_findFrom_135 rfl rfl ?_
            have hup : ∀ j, j < 0 → upd fr1 0 (nI c) j = fr j := fun j hj => by unfold upd; rw [if_neg (by omega)]; exact hfr j hj
            refine g_iastN dX4_findFrom_137 rfl 2 rfl (by omega) (by decide) (rfl) rfl ?_
            refine g_iload dX4_findFrom_138 rfl rfl ?_
            refine g_if_eqB (t := 161) dX4_findFrom_140 (by decide) rfl (fun h140 => ?_) (fun h140 => ?_)
            · skip
              refine g_aload_n dX4_findFrom_161 rfl rfl ?_
              refine g_get f_X4_17 dX4_findFrom_162 rfl 0 rfl rfl ?_
              refine g_iload_n dX4_findFrom_165 rfl rfl ?_
              refine g_aldP dX4_findFrom_166 rfl 1 rfl (by omega) (by decide) (hst0) ?_
              refine g_astore dX4_findFrom_167 rfl (by decide) rfl rfl ?_
              refine g_aload dX4_findFrom_169 rfl rfl ?_
              refine g_aload_n dX4_findFrom_171 rfl rfl ?_
              refine g_callV (c_X1_become sk) m_X4_95 a_X1_become dX4_findFrom_172 rfl [9, 10, 7, 8] rfl rfl 0 rfl rfl rfl (by decide) (by decide) (by decide) (by decide) (Nat.le_of_ble_eq_true rfl) (fun r w hK => ?_)
              obtain ⟨rfl, rfl⟩ := hK
              refine ⟨rfl, ?_⟩
              dsimp only [puts, List.set, Option.toList, List.cons_append, List.nil_append, List.append_nil]
              refine g_aload dX4_findFrom_175 rfl rfl ?_
              refine g_aload_n dX4_findFrom_177 rfl rfl ?_
              refine g_iload dX4_findFrom_178 rfl rfl ?_
              refine g_iconst (v := nI 0) dX4_findFrom_180 rfl (by decide) ?_
              refine g_callV (c_climb sk (sand := false) hB (show c < C by omega) hs0) m_X4_99 a_X1_climb dX4_findFrom_181 rfl [9, 10, 3, 4, 5, 6] rfl rfl 0 rfl rfl rfl (by decide) (by decide) (by decide) (by decide) (Nat.le_of_ble_eq_true rfl) (fun r w hK => ?_)
              obtain ⟨rfl, rfl⟩ := hK
              refine ⟨rfl, ?_⟩
              dsimp only [puts, List.set, Option.toList, List.cons_append, List.nil_append, List.append_nil]
              refine g_pop dX4_findFrom_184 rfl rfl ?_
              refine g_aload dX4_findFrom_185 rfl rfl ?_
              refine g_get f_X4_74 dX4_findFrom_187 rfl 9 rfl rfl ?_
              refine g_iconst (v := -1) dX4_findFrom_190 rfl (by decide) ?_
              refine g_icmp_ne (t := 216) dX4_findFrom_191 (by decide) rfl (fun h191 => ?_) (fun h191 => ?_)
              · have hf : fN F N S w a r once (dfs F C N S w a r once last m) u s c = none := by unfold fN; rw [if_neg (fun z => h191 z.2)]
                rw [fsome, hf] at hv
                refine g_iinc dX4_findFrom_216 rfl rfl (nI_1 _) (by decide) rfl rfl ?_
                refine g_goto (q := 67) dX4_findFrom_219 (by decide) ?_
                refine g_drop 8 rfl ?_
                try refine g_drop 9 rfl ?_
                exact ih (c + 1) _ _ _ _ _ _ _ _ _ _ _ _ _ _ _ _ _ _ _ _ _ _ _ _ _ (by omega) (by assumption) hv
              · skip
                refine g_aload_n dX4_findFrom_194 rfl rfl ?_
                refine g_aload_n dX4_findFrom_195 rfl rfl ?_
                refine g_aload dX4_findFrom_196 rfl rfl ?_
                refine g_iload_n dX4_findFrom_198 rfl rfl ?_
                refine g_iconst (v := nI 1) dX4_findFrom_199 rfl (by decide) ?_
                refine g_iadd dX4_findFrom_200 rfl (nI_add _ _) ?_
                refine g_iload dX4_findFrom_201 rfl rfl ?_
                refine g_iconst (v := nI 1) dX4_findFrom_203 rfl (by decide) ?_
                refine g_iload dX4_findFrom_204 rfl rfl ?_
                refine g_ishl dX4_findFrom_206 rfl rfl ?_
                refine g_ior dX4_findFrom_207 rfl rfl ?_
                refine g_callV (c_findFrom1 sk hB (hm1) hgl2 (go1_SB hs0) hst1 hst2 hst3 hst4 hst5) m_X4_80 a_X4_findFrom dX4_findFrom_208 rfl [0, 1, 2, 3, 4, 5, 6, 9, 10, 11, 12, 13, 14, 15, 16, 17, 18, 19, 20] rfl rfl 0 rfl rfl rfl (by decide) (by decide) (by decide) (by decide) (Nat.le_of_ble_eq_true rfl) (fun r w hK => ?_)
                obtain ⟨rfl, fr2, g1, o1, z1, g2, o2, z2, g3, o3, z3, g4, o4, z4, g5, o5, z5, f1, f2, f3, f4, f5, rfl, hfr2, hl2⟩ := hK
                refine ⟨rfl, ?_⟩
                dsimp only [puts, List.set, Option.toList, List.cons_append, List.nil_append, List.append_nil]
                refine g_if_eqB (t := 216) dX4_findFrom_211 (by decide) rfl (fun h211 => ?_) (fun h211 => ?_)
                · have hn : dfs F C N S w a r once last m (u ||| (nI 1 <<< (nI c &&& 31))) (go1 F N S w a r false s c) = none := by simpa using h211
                  have hf : fN F N S w a r once (dfs F C N S w a r once last m) u s c = none := by unfold fN; rw [if_pos ⟨hok, h191⟩, hn]; rfl
                  rw [fsome, hf] at hv
                  have hfrc : ∀ j, j < 0 → fr2 j = fr j := fun j hj => (hfr2 j (by omega)).trans (hup j hj)
                  refine g_iinc dX4_findFrom_216 rfl rfl (nI_1 _) (by decide) rfl rfl ?_
                  refine g_goto (q := 67) dX4_findFrom_219 (by decide) ?_
                  refine g_drop 8 rfl ?_
                  try refine g_drop 9 rfl ?_
                  exact ih (c + 1) _ _ _ _ _ _ _ _ _ _ _ _ _ _ _ _ _ _ _ _ _ _ _ _ _ (by omega) (by assumption) hv
                · obtain ⟨l0, hl0⟩ := Option.isSome_iff_exists.mp h211
                  have hf : fN F N S w a r once (dfs F C N S w a r once last m) u s c = some (c :: l0) := by unfold fN; rw [if_pos ⟨hok, h191⟩, hl0]; rfl
                  rw [fsome, hf] at hv
                  subst hv
                  have hfrc : ∀ j, j < 0 → fr2 j = fr j := fun j hj => (hfr2 j (by omega)).trans (hup j hj)
                  refine g_iconst (v := nI 1) dX4_findFrom_214 rfl (by decide) ?_
                  exact g_zret (b := true) dX4_findFrom_215 rfl (Nat.le_refl _) (Nat.le_refl _) (⟨rfl, _, _, _, _, _, _, _, _, _, _, _, _, _, _, _, _, _, _, _, _, _, _, _, _, _, rfl, hfrc, row_cons ((hfr2 0 (by omega)).trans (if_pos rfl)) (fun j hj => hl2 l0 hl0 j hj)⟩)
            · exact absurd h140 (by decide)
          · exact absurd h107 (by decide)
      · skip
        refine g_iload dX4_findFrom_83 rfl rfl ?_
        refine g_iload dX4_findFrom_85 rfl rfl ?_
        refine g_ishr dX4_findFrom_87 rfl rfl ?_
        refine g_iconst (v := nI 1) dX4_findFrom_88 rfl (by decide) ?_
        refine g_iand dX4_findFrom_89 rfl rfl ?_
        refine g_if_ne (t := 97) dX4_findFrom_90 (by decide) rfl (fun h90 => ?_) (fun h90 => ?_)
        · have hok : okc once u c = false := by unfold okc; rw [h80, decide_eq_false h90]; rfl
          have hf : fN F N S w a r once (dfs F C N S w a r once last m) u s c = none := by unfold fN; rw [if_neg (fun z => by rw [hok] at z; exact absurd z.1 (by decide))]
          rw [fsome, hf] at hv
          refine g_iconst (v := nI 0) dX4_findFrom_97 rfl (by decide) ?_
          refine g_istore dX4_findFrom_98 rfl (by decide) rfl rfl ?_
          refine g_iload dX4_findFrom_100 rfl rfl ?_
          refine g_if_eq (t := 216) dX4_findFrom_102 (by decide) rfl (fun h102 => ?_) (fun h102 => ?_)
          · skip
            refine g_iinc dX4_findFrom_216 rfl rfl (nI_1 _) (by decide) rfl rfl ?_
            refine g_goto (q := 67) dX4_findFrom_219 (by decide) ?_
            refine g_drop 8 rfl ?_
            try refine g_drop 9 rfl ?_
            exact ih (c + 1) _ _ _ _ _ _ _ _ _ _ _ _ _ _ _ _ _ _ _ _ _ _ _ _ _ (by omega) (by assumption) hv
          · exact absurd h102 (by decide)
        · have hok : okc once u c = true := by unfold okc; rw [h80, decide_eq_true h90]; rfl
          refine g_iconst (v := nI 1) dX4_findFrom_93 rfl (by decide) ?_
          refine g_goto (q := 98) dX4_findFrom_94 (by decide) ?_
          refine g_istore dX4_findFrom_98 rfl (by decide) rfl rfl ?_
          refine g_iload dX4_findFrom_100 rfl rfl ?_
          refine g_if_eq (t := 216) dX4_findFrom_102 (by decide) rfl (fun h102 => ?_) (fun h102 => ?_)
          · exact absurd h102 (by decide)
          · skip
            refine g_iload dX4_findFrom_105 rfl rfl ?_
            refine g_if_eqB (t := 130) dX4_findFrom_107 (by decide) rfl (fun h107 => ?_) (fun h107 => ?_)
            · skip
              refine g_aload_n dX4_findFrom_130 rfl rfl ?_
              refine g_get f_X4_24 dX4_findFrom_131 rfl 0 rfl rfl ?_
              refine g_iload_n dX4_findFrom_134 rfl rfl ?_
              refine g_iload dX4_findFrom_135 rfl rfl ?_
              have hup : ∀ j, j < 0 → upd fr1 0 (nI c) j = fr j := fun j hj => by unfold upd; rw [if_neg (by omega)]; exact hfr j hj
              refine g_iastN dX4_findFrom_137 rfl 2 rfl (by omega) (by decide) (rfl) rfl ?_
              refine g_iload dX4_findFrom_138 rfl rfl ?_
              refine g_if_eqB (t := 161) dX4_findFrom_140 (by decide) rfl (fun h140 => ?_) (fun h140 => ?_)
              · skip
                refine g_aload_n dX4_findFrom_161 rfl rfl ?_
                refine g_get f_X4_17 dX4_findFrom_162 rfl 0 rfl rfl ?_
                refine g_iload_n dX4_findFrom_165 rfl rfl ?_
                refine g_aldP dX4_findFrom_166 rfl 1 rfl (by omega) (by decide) (hst0) ?_
                refine g_astore dX4_findFrom_167 rfl (by decide) rfl rfl ?_
                refine g_aload dX4_findFrom_169 rfl rfl ?_
                refine g_aload_n dX4_findFrom_171 rfl rfl ?_
                refine g_callV (c_X1_become sk) m_X4_95 a_X1_become dX4_findFrom_172 rfl [9, 10, 7, 8] rfl rfl 0 rfl rfl rfl (by decide) (by decide) (by decide) (by decide) (Nat.le_of_ble_eq_true rfl) (fun r w hK => ?_)
                obtain ⟨rfl, rfl⟩ := hK
                refine ⟨rfl, ?_⟩
                dsimp only [puts, List.set, Option.toList, List.cons_append, List.nil_append, List.append_nil]
                refine g_aload dX4_findFrom_175 rfl rfl ?_
                refine g_aload_n dX4_findFrom_177 rfl rfl ?_
                refine g_iload dX4_findFrom_178 rfl rfl ?_
                refine g_iconst (v := nI 0) dX4_findFrom_180 rfl (by decide) ?_
                refine g_callV (c_climb sk (sand := false) hB (show c < C by omega) hs0) m_X4_99 a_X1_climb dX4_findFrom_181 rfl [9, 10, 3, 4, 5, 6] rfl rfl 0 rfl rfl rfl (by decide) (by decide) (by decide) (by decide) (Nat.le_of_ble_eq_true rfl) (fun r w hK => ?_)
                obtain ⟨rfl, rfl⟩ := hK
                refine ⟨rfl, ?_⟩
                dsimp only [puts, List.set, Option.toList, List.cons_append, List.nil_append, List.append_nil]
                refine g_pop dX4_findFrom_184 rfl rfl ?_
                refine g_aload dX4_findFrom_185 rfl rfl ?_
                refine g_get f_X4_74 dX4_findFrom_187 rfl 9 rfl rfl ?_
                refine g_iconst (v := -1) dX4_findFrom_190 rfl (by decide) ?_
                refine g_icmp_ne (t := 216) dX4_findFrom_191 (by decide) rfl (fun h191 => ?_) (fun h191 => ?_)
                · have hf : fN F N S w a r once (dfs F C N S w a r once last m) u s c = none := by unfold fN; rw [if_neg (fun z => h191 z.2)]
                  rw [fsome, hf] at hv
                  refine g_iinc dX4_findFrom_216 rfl rfl (nI_1 _) (by decide) rfl rfl ?_
                  refine g_goto (q := 67) dX4_findFrom_219 (by decide) ?_
                  refine g_drop 8 rfl ?_
                  try refine g_drop 9 rfl ?_
                  exact ih (c + 1) _ _ _ _ _ _ _ _ _ _ _ _ _ _ _ _ _ _ _ _ _ _ _ _ _ (by omega) (by assumption) hv
                · skip
                  refine g_aload_n dX4_findFrom_194 rfl rfl ?_
                  refine g_aload_n dX4_findFrom_195 rfl rfl ?_
                  refine g_aload dX4_findFrom_196 rfl rfl ?_
                  refine g_iload_n dX4_findFrom_198 rfl rfl ?_
                  refine g_iconst (v := nI 1) dX4_findFrom_199 rfl (by decide) ?_
                  refine g_iadd dX4_findFrom_200 rfl (nI_add _ _) ?_
                  refine g_iload dX4_findFrom_201 rfl rfl ?_
                  refine g_iconst (v := nI 1) dX4_findFrom_203 rfl (by decide) ?_
                  refine g_iload dX4_findFrom_204 rfl rfl ?_
                  refine g_ishl dX4_findFrom_206 rfl rfl ?_
                  refine g_ior dX4_findFrom_207 rfl rfl ?_
                  refine g_callV (c_findFrom1 sk hB (hm1) hgl2 (go1_SB hs0) hst1 hst2 hst3 hst4 hst5) m_X4_80 a_X4_findFrom dX4_findFrom_208 rfl [0, 1, 2, 3, 4, 5, 6, 9, 10, 11, 12, 13, 14, 15, 16, 17, 18, 19, 20] rfl rfl 0 rfl rfl rfl (by decide) (by decide) (by decide) (by decide) (Nat.le_of_ble_eq_true rfl) (fun r w hK => ?_)
                  obtain ⟨rfl, fr2, g1, o1, z1, g2, o2, z2, g3, o3, z3, g4, o4, z4, g5, o5, z5, f1, f2, f3, f4, f5, rfl, hfr2, hl2⟩ := hK
                  refine ⟨rfl, ?_⟩
                  dsimp only [puts, List.set, Option.toList, List.cons_append, List.nil_append, List.append_nil]
                  refine g_if_eqB (t := 216) dX4_findFrom_211 (by decide) rfl (fun h211 => ?_) (fun h211 => ?_)
                  · have hn : dfs F C N S w a r once last m (u ||| (nI 1 <<< (nI c &&& 31))) (go1 F N S w a r false s c) = none := by simpa using h211
                    have hf : fN F N S w a r once (dfs F C N S w a r once last m) u s c = none := by unfold fN; rw [if_pos ⟨hok, h191⟩, hn]; rfl
                    rw [fsome, hf] at hv
                    have hfrc : ∀ j, j < 0 → fr2 j = fr j := fun j hj => (hfr2 j (by omega)).trans (hup j hj)
                    refine g_iinc dX4_findFrom_216 rfl rfl (nI_1 _) (by decide) rfl rfl ?_
                    refine g_goto (q := 67) dX4_findFrom_219 (by decide) ?_
                    refine g_drop 8 rfl ?_
                    try refine g_drop 9 rfl ?_
                    exact ih (c + 1) _ _ _ _ _ _ _ _ _ _ _ _ _ _ _ _ _ _ _ _ _ _ _ _ _ (by omega) (by assumption) hv
                  · obtain ⟨l0, hl0⟩ := Option.isSome_iff_exists.mp h211
                    have hf : fN F N S w a r once (dfs F C N S w a r once last m) u s c = some (c :: l0) := by unfold fN; rw [if_pos ⟨hok, h191⟩, hl0]; rfl
                    rw [fsome, hf] at hv
                    subst hv
                    have hfrc : ∀ j, j < 0 → fr2 j = fr j := fun j hj => (hfr2 j (by omega)).trans (hup j hj)
                    refine g_iconst (v := nI 1) dX4_findFrom_214 rfl (by decide) ?_
                    exact g_zret (b := true) dX4_findFrom_215 rfl (Nat.le_refl _) (Nat.le_refl _) (⟨rfl, _, _, _, _, _, _, _, _, _, _, _, _, _, _, _, _, _, _, _, _, _, _, _, _, _, rfl, hfrc, row_cons ((hfr2 0 (by omega)).trans (if_pos rfl)) (fun j hj => hl2 l0 hl0 j hj)⟩)
              · exact absurd h140 (by decide)
            · exact absurd h107 (by decide)
set_option maxRecDepth 20000 in
theorem c_findFrom0 (sk : Nat → Nat) {rh rs rr gl ar yr yg yf pl ps pw pa pr F C N S : Nat} {last ag V E : Int32} {once af : Bool} {st : Nat → Option Nat} {w a r : Nat → Nat} {pt qt p0 q0 p1 q1 p2 q2 p3 q3 p4 q4 p5 q5 : Nat} {zt : Int32} {u : Int32} {s : PSt} {m : Nat} {fr : Nat → Int32} {g0 o0 z0 g1 o1 z1 g2 o2 z2 g3 o3 z3 g4 o4 z4 g5 o5 z5 : Int32} {f0 f1 f2 f3 f4 f5 : Nat → Int32} (hB : PB F C N S w a r) (hm : m + 0 ≤ 5) (hgl : gl = 0 + m + 1) (hs0 : SB s.1) (hst0 : st 0 = some p0) (hst1 : st 1 = some p1) (hst2 : st 2 = some p2) (hst3 : st 3 = some p3) (hst4 : st 4 = some p4) (hst5 : st 5 = some p5) : Ct sk yX4_findFrom cX4_findFrom 10 (some .boolean) 9 0 0 [oRows rh rs rr (nI gl) last once ar ag af yr yg yf, cP rs 6 st, cI rr 6 fr, oPlan pl ps pw pa pr (nI F) (nI C) V E (nI N) (nI S), cI pw 6 (fI w), cI pa 6 (fI a), cI pr 6 (fI r), oPoleS pt qt s zt, cI qt 30 (fI s.1), oPole p0 q0 g0 o0 z0, cI q0 30 f0, oPole p1 q1 g1 o1 z1, cI q1 30 f1, oPole p2 q2 g2 o2 z2, cI q2 30 f2, oPole p3 q3 g3 o3 z3, cI q3 30 f3, oPole p4 q4 g4 o4 z4, cI q4 30 f4, oPole p5 q5 g5 o5 z5, cI q5 30 f5] [.ref rh, .ref pl, .ref pt, .int (nI 0), .int u] (fun q w1 => q = some (.int (zb (dfs F C N S w a r once last m u s).isSome)) ∧ ∃ (fr2 : Nat → Int32) (g0 o0 z0 g1 o1 z1 g2 o2 z2 g3 o3 z3 g4 o4 z4 g5 o5 z5 : Int32) (f0 f1 f2 f3 f4 f5 : Nat → Int32), w1 = [oRows rh rs rr (nI gl) last once ar ag af yr yg yf, cP rs 6 st, cI rr 6 fr2, oPlan pl ps pw pa pr (nI F) (nI C) V E (nI N) (nI S), cI pw 6 (fI w), cI pa 6 (fI a), cI pr 6 (fI r), oPoleS pt qt s zt, cI qt 30 (fI s.1), oPole p0 q0 g0 o0 z0, cI q0 30 f0, oPole p1 q1 g1 o1 z1, cI q1 30 f1, oPole p2 q2 g2 o2 z2, cI q2 30 f2, oPole p3 q3 g3 o3 z3, cI q3 30 f3, oPole p4 q4 g4 o4 z4, cI q4 30 f4, oPole p5 q5 g5 o5 z5, cI q5 30 f5] ∧ (∀ j, j < 0 → fr2 j = fr j) ∧ ∀ l : List Nat, dfs F C N S w a r once last m u s = some l → ∀ j, j < l.length → fr2 (0 + j) = nI (l.getD j 0)) := by
  refine Ct.of (own := RX4) (l := [some (.ref rh), some (.ref pl), some (.ref pt), some (.int (nI 0)), some (.int u), none, none, none, none, none]) (by decide) rfl (Nat.le_of_ble_eq_true rfl) rfl ?_
  refine g_aload_n dX4_findFrom_0 rfl rfl ?_
  refine g_get f_X4_77 dX4_findFrom_1 rfl 0 rfl rfl ?_
  refine g_iconst (v := nI 1) dX4_findFrom_4 rfl (by decide) ?_
  refine g_isub dX4_findFrom_5 rfl (pk_sub (by omega)) ?_
  refine g_iload_n dX4_findFrom_6 rfl rfl ?_
  refine g_isub (v := nI m) dX4_findFrom_7 rfl (by rw [pk_sub (by omega), show gl - 1 - 0 = m by omega]) ?_
  refine g_istore dX4_findFrom_8 rfl (by decide) rfl rfl ?_
  refine g_iload dX4_findFrom_10 rfl rfl ?_
  refine g_if_lt (t := 37) dX4_findFrom_12 (by decide) rfl (fun h12 => ?_) (fun h12 => ?_)
  · exact absurd h12 (nI_nlt0 (by omega))
  · skip
    refine g_iload_n dX4_findFrom_15 rfl rfl ?_
    refine g_if_lt (t := 37) dX4_findFrom_16 (by decide) rfl (fun h16 => ?_) (fun h16 => ?_)
    · exact absurd h16 (nI_nlt0 (by omega))
    · skip
      refine g_iload_n dX4_findFrom_19 rfl rfl ?_
      refine g_aload_n dX4_findFrom_20 rfl rfl ?_
      refine g_get f_X4_24 dX4_findFrom_21 rfl 0 rfl rfl ?_
      refine g_alen dX4_findFrom_24 rfl 2 rfl (Nat.le_of_ble_eq_true rfl) rfl ?_
      refine g_icmp_geN (t := 37) dX4_findFrom_25 (by decide) rfl (by omega) (by omega) (fun h25 => ?_) (fun h25 => ?_)
      · exact absurd h25 (by omega)
      · skip
        refine g_iload_n dX4_findFrom_28 rfl rfl ?_
        refine g_aload_n dX4_findFrom_29 rfl rfl ?_
        refine g_get f_X4_17 dX4_findFrom_30 rfl 0 rfl rfl ?_
        refine g_alen dX4_findFrom_33 rfl 1 rfl (Nat.le_of_ble_eq_true rfl) rfl ?_
        refine g_icmp_ltN (t := 39) dX4_findFrom_34 (by decide) rfl (by omega) (by omega) (fun h34 => ?_) (fun h34 => ?_)
        · skip
          refine g_aload_n dX4_findFrom_39 rfl rfl ?_
          refine g_aload_n dX4_findFrom_40 rfl rfl ?_
          refine g_aload_n dX4_findFrom_41 rfl rfl ?_
          refine g_iload dX4_findFrom_42 rfl rfl ?_
          refine g_callV (c_X4_isHopeless sk (m := m) hB hs0 (by omega)) m_X4_84 a_X4_isHopeless dX4_findFrom_44 rfl [0, 3, 4, 5, 6, 7, 8] rfl rfl 0 rfl rfl rfl (by decide) (by decide) (by decide) (by decide) (Nat.le_of_ble_eq_true rfl) (fun r w hK => ?_)
          obtain ⟨rfl, rfl⟩ := hK
          refine ⟨rfl, ?_⟩
          dsimp only [puts, List.set, Option.toList, List.cons_append, List.nil_append, List.append_nil]
          refine g_if_eqB (t := 52) dX4_findFrom_47 (by decide) rfl (fun h47 => ?_) (fun h47 => ?_)
          · have hh : hopeR F C N S w a r last m s C 0 = true := by simpa using h47
            refine g_iload dX4_findFrom_52 rfl rfl ?_
            refine g_if_ne (t := 61) dX4_findFrom_54 (by decide) rfl (fun h54 => ?_) (fun h54 => ?_)
            · have hm0 : ¬ m = 0 := fun e => h54 (congrArg nI e : nI m = nI 0)
              refine g_iconst (v := nI 0) dX4_findFrom_61 rfl (by decide) ?_
              refine g_istore dX4_findFrom_62 rfl (by decide) rfl rfl ?_
              refine g_iconst (v := nI 0) dX4_findFrom_64 rfl (by decide) ?_
              refine g_istore dX4_findFrom_65 rfl (by decide) rfl rfl ?_
              generalize hD : dfs F C N S w a r once last m u s = v
              obtain ⟨m, rfl⟩ : ∃ k, m = k + 1 := ⟨m - 1, by omega⟩
              rw [dfs, if_pos hh] at hD
              exact lpN_findFrom0 sk hB hs0 (by omega) (by omega) hst0 hst1 hst2 hst3 hst4 hst5 C 0 fr _ _ _ _ _ _ _ _ _ _ _ _ _ _ _ _ _ _ _ _ _ _ _ _ (by omega) (fun _ _ => rfl) hD
            · have hm0 : m = 0 := (nI_eq (by omega) (by omega)).mp (h54 : nI m = nI 0)
              refine g_iconst (v := nI 1) dX4_findFrom_57 rfl (by decide) ?_
              refine g_goto (q := 62) dX4_findFrom_58 (by decide) ?_
              refine g_istore dX4_findFrom_62 rfl (by decide) rfl rfl ?_
              refine g_iconst (v := nI 0) dX4_findFrom_64 rfl (by decide) ?_
              refine g_istore dX4_findFrom_65 rfl (by decide) rfl rfl ?_
              generalize hD : dfs F C N S w a r once last m u s = v
              subst hm0
              rw [dfs, if_pos hh] at hD
              exact lpE_findFrom0 sk hB hs0 hst0 hst1 hst2 hst3 hst4 hst5 C 0 fr _ _ _ _ _ _ _ _ _ _ _ _ _ _ _ _ _ _ _ _ _ _ _ _ (by omega) (fun _ _ => rfl) hD
          · have hh : ¬ hopeR F C N S w a r last m s C 0 = true := by simpa using h47
            have hD : dfs F C N S w a r once last m u s = none := by cases m <;> rw [dfs, if_neg hh]
            refine g_iconst (v := nI 0) dX4_findFrom_50 rfl (by decide) ?_
            exact g_zret (b := false) dX4_findFrom_51 rfl (Nat.le_refl _) (Nat.le_refl _) (⟨by rw [hD]; rfl, _, _, _, _, _, _, _, _, _, _, _, _, _, _, _, _, _, _, _, _, _, _, _, _, _, rfl, fun _ _ => rfl, fun l hl => by rw [hD] at hl; cases hl⟩)
        · exact absurd h34 (by omega)
