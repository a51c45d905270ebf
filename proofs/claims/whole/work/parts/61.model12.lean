/-! the reference: the order of all -/
/-- by which go the ham is had, n goes of the row p from go k on: one more than all if it isn't -/
def hbR (F N S : Nat) (w a r : Nat → Nat) (p : Nat → Nat) : Nat → Nat → PSt → Nat
  | 0, k, t => if t.2.2 = -1 then k + 1 else k
  | n + 1, k, t => if t.2.2 = -1 then hbR F N S w a r p n (k + 1) (go1 F N S w a r false t (p k)) else k
theorem hbR_le (F N S : Nat) (w a r : Nat → Nat) (p : Nat → Nat) : ∀ (n k : Nat) (t : PSt), hbR F N S w a r p n k t ≤ k + n + 1
  | 0, k, t => by
    rw [hbR]
    split <;> omega
  | n + 1, k, t => by
    rw [hbR]
    split
    · have := hbR_le F N S w a r p n (k + 1) (go1 F N S w a r false t (p k)); omega
    · omega
theorem hbR_x (F N S : Nat) (w a r : Nat → Nat) (p : Nat → Nat) {t : PSt} (n k : Nat) (h : ¬ t.2.2 = -1) : hbR F N S w a r p n k t = k := by
  cases n with
  | zero => rw [hbR, if_neg h]
  | succ n => rw [hbR, if_neg h]
def swR (p : Nat → Nat) (a b : Nat) : Nat → Nat := nup (nup p a (p b)) b (p a)
/-- the next order: where it may be raised; by whom; the rest turned round -/
def nxK (p : Nat → Nat) : Nat → Option Nat
  | 0 => none
  | m + 1 => if p m ≤ p (m + 1) then some m else nxK p m
def nxQ (p : Nat → Nat) (k : Nat) : Nat → Nat
  | 0 => 0
  | q + 1 => if p k ≤ p (q + 1) then q + 1 else nxQ p k q
def rvR : Nat → (Nat → Nat) → Nat → Nat → (Nat → Nat)
  | 0, p, _, _ => p
  | m + 1, p, lo, hi => if lo < hi then rvR m (swR p lo hi) (lo + 1) (hi - 1) else p
def nxP (p : Nat → Nat) (n : Nat) : Option (Nat → Nat) := match nxK p (n - 1) with
  | none => none
  | some k => some (rvR n (swR p k (nxQ p k (n - 1))) (k + 1) (n - 1))
theorem nxK_lt {p : Nat → Nat} : ∀ {m k : Nat}, nxK p m = some k → k < m ∧ p k ≤ p (k + 1)
  | 0, k, h => by cases h
  | m + 1, k, h => by
    rw [nxK] at h
    by_cases q : p m ≤ p (m + 1)
    · rw [if_pos q] at h; cases h; exact ⟨Nat.lt_succ_self _, q⟩
    · rw [if_neg q] at h; have := nxK_lt h; exact ⟨by omega, this.2⟩
theorem nxQ_lt {p : Nat → Nat} {k : Nat} (hk : p k ≤ p (k + 1)) : ∀ q, k < q → k < nxQ p k q ∧ nxQ p k q ≤ q
  | 0, h => by omega
  | q + 1, h => by
    rw [nxQ]
    by_cases e : p k ≤ p (q + 1)
    · rw [if_pos e]; omega
    · rw [if_neg e]
      have h2 : ¬ q = k := fun z => e (by rw [z]; exact hk)
      have := nxQ_lt hk q (by omega)
      omega
def P6 (p : Nat → Nat) : Prop := ∀ j, j < 6 → p j < 6
theorem swR_P6 {p : Nat → Nat} {x y : Nat} (h : P6 p) (hx : x < 6) (hy : y < 6) : P6 (swR p x y) := fun j hj => by
  unfold swR nup
  split
  · exact h x hx
  · split
    · exact h y hy
    · exact h j hj
theorem n_m2 {n : Nat} (h1 : 1 ≤ n) (h6 : n ≤ 6) : nI n - nI 2 = nI (n - 1) + (-1) := by
  rcases (show n = 1 ∨ n = 2 ∨ n = 3 ∨ n = 4 ∨ n = 5 ∨ n = 6 by omega) with rfl | rfl | rfl | rfl | rfl | rfl <;> decide
set_option maxRecDepth 20000 in
theorem lp_hadBy40 (sk : Nat → Nat) {ru : Int32} {h mt mo md ms mn mi mz mk mw mf mr mb mu : Nat} {ty li se fAt at_ so sta sz fl : Int32} {iha isn : Bool} {T : Nat → Nat} {n k : Nat} {p : Nat → Nat} {s : PSt} {Z : Nat} {t : PSt} {l3 : Option Value} (hn : n ≤ 6) (hZ : (if t.2.2 = -1 then n + 1 else k) = Z) : GG sk RX7 yX7_hadBy cX7_hadBy 4 (some .int) 2 0 0 (fun q w1 => q = some (.int (nI Z)) ∧ ∃ (ru2 : Int32) (fn2 : Nat → Int32), w1 = [oMod h mt ty mo md ms mn mi mz mk mw mf li se fAt at_ so sta sz fl iha isn ru2 mr mb mu, cI mo 56 (fI T), cI ms 32 (fS s), cI mn 32 fn2, cI mr 6 (fI p)]) 0 0 40 [some (.ref h), some (.int (nI n)), some (.int (nI k)), l3] [] [oMod h mt ty mo md ms mn mi mz mk mw mf li se fAt at_ so sta sz fl iha isn ru mr mb mu, cI mo 56 (fI T), cI ms 32 (fS s), cI mn 32 (fS t), cI mr 6 (fI p)] := by
  refine g_aload_n dX7_hadBy_40 rfl rfl ?_
  refine g_get f_X7_22 dX7_hadBy_41 rfl 0 rfl rfl ?_
  refine g_bipush (v := nI 31) dX7_hadBy_44 rfl (by decide) ?_
  refine g_ialdN (v := t.2.2) dX7_hadBy_46 rfl 3 rfl (by omega) (by decide) (rfl) ?_
  refine g_iconst (v := -1) dX7_hadBy_47 rfl (by decide) ?_
  refine g_icmp_ne (t := 57) dX7_hadBy_48 (by decide) rfl (fun h48 => ?_) (fun h48 => ?_)
  · rw [if_neg h48] at hZ
    subst hZ
    refine g_iload_n dX7_hadBy_57 rfl rfl ?_
    exact g_iret dX7_hadBy_58 rfl (Nat.le_refl _) (Nat.le_refl _) (⟨rfl, _, _, rfl⟩)
  · rw [if_pos h48] at hZ
    subst hZ
    refine g_iload_n dX7_hadBy_51 rfl rfl ?_
    refine g_iconst (v := nI 1) dX7_hadBy_52 rfl (by decide) ?_
    refine g_iadd dX7_hadBy_53 rfl (nI_add _ _) ?_
    refine g_goto (q := 58) dX7_hadBy_54 (by decide) ?_
    exact g_iret dX7_hadBy_58 rfl (Nat.le_refl _) (Nat.le_refl _) (⟨rfl, _, _, rfl⟩)
set_option maxRecDepth 20000 in
theorem lp_hadBy (sk : Nat → Nat) {h mt mo md ms mn mi mz mk mw mf mr mb mu : Nat} {ty li se fAt at_ so sta sz fl : Int32} {iha isn : Bool} {T : Nat → Nat} {w a r : Nat → Nat} {n : Nat} {p : Nat → Nat} {s : PSt} {Z : Nat} (hB : PB (T 0) (T 1) (T 4) (T 5) w a r) (hW : TWR T w a r) (hn : n ≤ 6) (hp : ∀ j, j < n → p j < T 1) : ∀ (m k : Nat) (t : PSt) (ru : Int32) (l3 : Option Value), k + m = n → SB t.1 → hbR (T 0) (T 4) (T 5) w a r p m k t = Z → GG sk RX7 yX7_hadBy cX7_hadBy 4 (some .int) 2 0 0 (fun q w1 => q = some (.int (nI Z)) ∧ ∃ (ru2 : Int32) (fn2 : Nat → Int32), w1 = [oMod h mt ty mo md ms mn mi mz mk mw mf li se fAt at_ so sta sz fl iha isn ru2 mr mb mu, cI mo 56 (fI T), cI ms 32 (fS s), cI mn 32 fn2, cI mr 6 (fI p)]) 0 0 6 [some (.ref h), some (.int (nI n)), some (.int (nI k)), l3] [] [oMod h mt ty mo md ms mn mi mz mk mw mf li se fAt at_ so sta sz fl iha isn ru mr mb mu, cI mo 56 (fI T), cI ms 32 (fS s), cI mn 32 (fS t), cI mr 6 (fI p)] := by
  intro m
  induction m with
  | zero =>
    intro k t ru l3 hk ht hZ
    rw [hbR, show k = n by omega] at hZ
    refine g_iload_n dX7_hadBy_6 rfl rfl ?_
    refine g_iload_n dX7_hadBy_7 rfl rfl ?_
    refine g_icmp_geN (t := 40) dX7_hadBy_8 (by decide) rfl (by omega) (by omega) (fun h8 => ?_) (fun h8 => ?_)
    · skip
      exact lp_hadBy40 sk hn (by rw [← hZ, show k = n by omega])
    · exact absurd h8 (by omega)
  | succ m ih =>
    intro k t ru l3 hk ht hZ
    rw [hbR] at hZ
    refine g_iload_n dX7_hadBy_6 rfl rfl ?_
    refine g_iload_n dX7_hadBy_7 rfl rfl ?_
    refine g_icmp_geN (t := 40) dX7_hadBy_8 (by decide) rfl (by omega) (by omega) (fun h8 => ?_) (fun h8 => ?_)
    · exact absurd h8 (by omega)
    · skip
      refine g_aload_n dX7_hadBy_11 rfl rfl ?_
      refine g_get f_X7_22 dX7_hadBy_12 rfl 0 rfl rfl ?_
      refine g_bipush (v := nI 31) dX7_hadBy_15 rfl (by decide) ?_
      refine g_ialdN (v := t.2.2) dX7_hadBy_17 rfl 3 rfl (by omega) (by decide) (rfl) ?_
      refine g_iconst (v := -1) dX7_hadBy_18 rfl (by decide) ?_
      refine g_icmp_ne (t := 40) dX7_hadBy_19 (by decide) rfl (fun h19 => ?_) (fun h19 => ?_)
      · rw [if_neg h19] at hZ
        exact lp_hadBy40 sk hn (by rw [← hZ, if_neg h19])
      · rw [if_pos h19] at hZ
        refine g_aload_n dX7_hadBy_22 rfl rfl ?_
        refine g_aload_n dX7_hadBy_23 rfl rfl ?_
        refine g_get f_X7_45 dX7_hadBy_24 rfl 0 rfl rfl ?_
        refine g_iload_n dX7_hadBy_27 rfl rfl ?_
        refine g_ialdN (v := nI _) dX7_hadBy_28 rfl 4 rfl (by omega) (by decide) (rfl) ?_
        refine g_iconst (v := nI 0) dX7_hadBy_29 rfl (by decide) ?_
        refine g_callV (c_goes sk (sand := false) hB hW (hp k (by omega)) ht) m_X7_176 a_X7_goes dX7_hadBy_30 rfl [0, 1, 3] rfl rfl 0 rfl rfl rfl (by decide) (by decide) (by decide) (by decide) (Nat.le_of_ble_eq_true rfl) (fun r w hK => ?_)
        obtain ⟨rfl, rfl⟩ := hK
        refine ⟨rfl, ?_⟩
        dsimp only [puts, List.set, Option.toList, List.cons_append, List.nil_append, List.append_nil]
        refine g_istore_n dX7_hadBy_33 rfl (by decide) rfl rfl ?_
        refine g_iinc dX7_hadBy_34 rfl rfl (nI_1 _) (by decide) rfl rfl ?_
        refine g_goto (q := 6) dX7_hadBy_37 (by decide) ?_
        exact ih (k + 1) _ _ _ (by omega) (go1_SB ht) hZ
set_option maxRecDepth 20000 in
theorem c_X7_hadBy (sk : Nat → Nat) {h mt mo md ms mn mi mz mk mw mf mr mb mu : Nat} {ty li se fAt at_ so sta sz fl ru : Int32} {iha isn : Bool} {T : Nat → Nat} {w a r : Nat → Nat} {n : Nat} {p : Nat → Nat} {s : PSt} {fn : Nat → Int32} (hB : PB (T 0) (T 1) (T 4) (T 5) w a r) (hW : TWR T w a r) (hn : n ≤ 6) (hp : ∀ j, j < n → p j < T 1) (hs0 : SB s.1) : Ct sk yX7_hadBy cX7_hadBy 4 (some .int) 2 0 0 [oMod h mt ty mo md ms mn mi mz mk mw mf li se fAt at_ so sta sz fl iha isn ru mr mb mu, cI mo 56 (fI T), cI ms 32 (fS s), cI mn 32 fn, cI mr 6 (fI p)] [.ref h, .int (nI n)] ((fun q w1 => q = some (.int (nI (hbR (T 0) (T 4) (T 5) w a r p n 0 s))) ∧ ∃ (ru2 : Int32) (fn2 : Nat → Int32), w1 = [oMod h mt ty mo md ms mn mi mz mk mw mf li se fAt at_ so sta sz fl iha isn ru2 mr mb mu, cI mo 56 (fI T), cI ms 32 (fS s), cI mn 32 fn2, cI mr 6 (fI p)])) := by
  refine Ct.of (own := RX7) (l := [some (.ref h), some (.int (nI n)), none, none]) (by decide) rfl (Nat.le_of_ble_eq_true rfl) rfl ?_
  refine g_aload_n dX7_hadBy_0 rfl rfl ?_
  refine g_callV (c_X7_lays sk) m_X7_172 a_X7_lays dX7_hadBy_1 rfl [0, 2, 3] rfl rfl 0 rfl rfl rfl (by decide) (by decide) (by decide) (by decide) (Nat.le_of_ble_eq_true rfl) (fun r w hK => ?_)
  obtain ⟨rfl, rfl⟩ := hK
  refine ⟨rfl, ?_⟩
  dsimp only [puts, List.set, Option.toList, List.cons_append, List.nil_append, List.append_nil]
  refine g_iconst (v := nI 0) dX7_hadBy_4 rfl (by decide) ?_
  refine g_istore_n dX7_hadBy_5 rfl (by decide) rfl rfl ?_
  exact lp_hadBy sk hB hW hn hp n 0 s _ _ (by omega) hs0 rfl
set_option maxRecDepth 20000 in
theorem c_X7_swaps (sk : Nat → Nat) {h mt mo md ms mn mi mz mk mw mf mr mb mu : Nat} {ty li se fAt at_ so sta sz fl ru : Int32} {iha isn : Bool} {p : Nat → Nat} {x y : Nat} (hx : x < 6) (hy : y < 6) : Ct sk yX7_swaps cX7_swaps 4 none 0 0 0 [oMod h mt ty mo md ms mn mi mz mk mw mf li se fAt at_ so sta sz fl iha isn ru mr mb mu, cI mr 6 (fI p)] [.ref h, .int (nI x), .int (nI y)] (zD none [oMod h mt ty mo md ms mn mi mz mk mw mf li se fAt at_ so sta sz fl iha isn ru mr mb mu, cI mr 6 (fI (swR p x y))]) := by
  refine Ct.of (own := RX7) (l := [some (.ref h), some (.int (nI x)), some (.int (nI y)), none]) (by decide) rfl (Nat.le_of_ble_eq_true rfl) rfl ?_
  refine g_aload_n dX7_swaps_0 rfl rfl ?_
  refine g_get f_X7_45 dX7_swaps_1 rfl 0 rfl rfl ?_
  refine g_iload_n dX7_swaps_4 rfl rfl ?_
  refine g_ialdN (v := nI _) dX7_swaps_5 rfl 1 rfl (by omega) (by decide) (rfl) ?_
  refine g_istore_n dX7_swaps_6 rfl (by decide) rfl rfl ?_
  refine g_aload_n dX7_swaps_7 rfl rfl ?_
  refine g_get f_X7_45 dX7_swaps_8 rfl 0 rfl rfl ?_
  refine g_iload_n dX7_swaps_11 rfl rfl ?_
  refine g_aload_n dX7_swaps_12 rfl rfl ?_
  refine g_get f_X7_45 dX7_swaps_13 rfl 0 rfl rfl ?_
  refine g_iload_n dX7_swaps_16 rfl rfl ?_
  refine g_ialdN (v := nI _) dX7_swaps_17 rfl 1 rfl (by omega) (by decide) (rfl) ?_
  refine g_iastN dX7_swaps_18 rfl 1 rfl (by omega) (by decide) (fI_up _ _ _) rfl ?_
  refine g_aload_n dX7_swaps_19 rfl rfl ?_
  refine g_get f_X7_45 dX7_swaps_20 rfl 0 rfl rfl ?_
  refine g_iload_n dX7_swaps_23 rfl rfl ?_
  refine g_iload_n dX7_swaps_24 rfl rfl ?_
  refine g_iastN dX7_swaps_25 rfl 1 rfl (by omega) (by decide) (fI_up _ _ _) rfl ?_
  exact g_vret dX7_swaps_26 rfl (Nat.le_refl _) (Nat.le_refl _) (⟨rfl, rfl⟩)
set_option maxRecDepth 20000 in
theorem lp_nx78 (sk : Nat → Nat) {h mt mo md ms mn mi mz mk mw mf mr mb mu : Nat} {ty li se fAt at_ so sta sz fl ru : Int32} {iha isn : Bool} {n k : Nat} {P : Nat → Nat} {y3 : Int32} (hn : n ≤ 6) : ∀ (m : Nat) (p : Nat → Nat) (lo hi : Nat), hi ≤ lo + m → hi < n → lo < 2 ^ 30 → rvR m p lo hi = P → GG sk RX7 yX7_nextOrder cX7_nextOrder 6 (some .boolean) 1 0 0 (zD (some (.int (zb true))) [oMod h mt ty mo md ms mn mi mz mk mw mf li se fAt at_ so sta sz fl iha isn ru mr mb mu, cI mr 6 (fI P)]) 0 0 78 [some (.ref h), some (.int (nI n)), some (.int (nI k)), some (.int y3), some (.int (nI hi)), some (.int (nI lo))] [] [oMod h mt ty mo md ms mn mi mz mk mw mf li se fAt at_ so sta sz fl iha isn ru mr mb mu, cI mr 6 (fI p)] := by
  intro m
  induction m with
  | zero =>
    intro p lo hi hl hh lo30 hP
    rw [rvR] at hP
    subst hP
    refine g_iload dX7_nextOrder_78 rfl rfl ?_
    refine g_iload dX7_nextOrder_80 rfl rfl ?_
    refine g_icmp_geN (t := 102) dX7_nextOrder_82 (by decide) rfl (by omega) (by omega) (fun h82 => ?_) (fun h82 => ?_)
    · skip
      refine g_iconst (v := nI 1) dX7_nextOrder_102 rfl (by decide) ?_
      exact g_zret (b := true) dX7_nextOrder_103 rfl (Nat.le_refl _) (Nat.le_refl _) (⟨rfl, rfl⟩)
    · exact absurd h82 (by omega)
  | succ m ih =>
    intro p lo hi hl hh lo30 hP
    rw [rvR] at hP
    refine g_iload dX7_nextOrder_78 rfl rfl ?_
    refine g_iload dX7_nextOrder_80 rfl rfl ?_
    refine g_icmp_geN (t := 102) dX7_nextOrder_82 (by decide) rfl (by omega) (by omega) (fun h82 => ?_) (fun h82 => ?_)
    · rw [if_neg (by omega)] at hP
      subst hP
      refine g_iconst (v := nI 1) dX7_nextOrder_102 rfl (by decide) ?_
      exact g_zret (b := true) dX7_nextOrder_103 rfl (Nat.le_refl _) (Nat.le_refl _) (⟨rfl, rfl⟩)
    · rw [if_pos (by omega)] at hP
      obtain ⟨hj, rfl⟩ : ∃ hj, hi = hj + 1 := ⟨hi - 1, by omega⟩
      refine g_aload_n dX7_nextOrder_85 rfl rfl ?_
      refine g_iload dX7_nextOrder_86 rfl rfl ?_
      refine g_iload dX7_nextOrder_88 rfl rfl ?_
      refine g_callV (c_X7_swaps sk (by omega) (by omega)) m_X7_196 a_X7_swaps dX7_nextOrder_90 rfl [0, 1] rfl rfl 0 rfl rfl rfl (by decide) (by decide) (by decide) (by decide) (Nat.le_of_ble_eq_true rfl) (fun r w hK => ?_)
      obtain ⟨rfl, rfl⟩ := hK
      refine ⟨rfl, ?_⟩
      dsimp only [puts, List.set, Option.toList, List.cons_append, List.nil_append, List.append_nil]
      refine g_iinc dX7_nextOrder_93 rfl rfl (pk_m1 _) (by decide) rfl rfl ?_
      refine g_iinc dX7_nextOrder_96 rfl rfl (nI_1 _) (by decide) rfl rfl ?_
      refine g_goto (q := 78) dX7_nextOrder_99 (by decide) ?_
      exact ih _ _ _ (by omega) (by omega) (by omega) hP
set_option maxRecDepth 20000 in
theorem lp_nx41 (sk : Nat → Nat) {h mt mo md ms mn mi mz mk mw mf mr mb mu : Nat} {ty li se fAt at_ so sta sz fl ru : Int32} {iha isn : Bool} {n : Nat} {p P : Nat → Nat} {k Q : Nat} {l4 l5 : Option Value} (hn : n ≤ 6) (hp : P6 p) (hk1 : p k ≤ p (k + 1)) (hk : k + 1 < n) (hP : rvR n (swR p k Q) (k + 1) (n - 1) = P) : ∀ (q : Nat), k < q → q < n → nxQ p k q = Q → GG sk RX7 yX7_nextOrder cX7_nextOrder 6 (some .boolean) 1 0 0 (zD (some (.int (zb true))) [oMod h mt ty mo md ms mn mi mz mk mw mf li se fAt at_ so sta sz fl iha isn ru mr mb mu, cI mr 6 (fI P)]) 0 0 41 [some (.ref h), some (.int (nI n)), some (.int (nI k)), some (.int (nI q)), l4, l5] [] [oMod h mt ty mo md ms mn mi mz mk mw mf li se fAt at_ so sta sz fl iha isn ru mr mb mu, cI mr 6 (fI p)] := by
  intro q
  induction q with
  | zero => intro h1; omega
  | succ q ih =>
    intro h1 h2 hQ
    rw [nxQ] at hQ
    have b1 := hp (q + 1) (by omega)
    have b2 := hp k (by omega)
    refine g_aload_n dX7_nextOrder_41 rfl rfl ?_
    refine g_get f_X7_45 dX7_nextOrder_42 rfl 0 rfl rfl ?_
    refine g_iload_n dX7_nextOrder_45 rfl rfl ?_
    refine g_ialdN (v := nI _) dX7_nextOrder_46 rfl 1 rfl (by omega) (by decide) (rfl) ?_
    refine g_aload_n dX7_nextOrder_47 rfl rfl ?_
    refine g_get f_X7_45 dX7_nextOrder_48 rfl 0 rfl rfl ?_
    refine g_iload_n dX7_nextOrder_51 rfl rfl ?_
    refine g_ialdN (v := nI _) dX7_nextOrder_52 rfl 1 rfl (by omega) (by decide) (rfl) ?_
    refine g_icmp_geN (t := 62) dX7_nextOrder_53 (by decide) rfl (by omega) (by omega) (fun h53 => ?_) (fun h53 => ?_)
    · rw [if_pos (by omega)] at hQ
      subst hQ
      refine g_aload_n dX7_nextOrder_62 rfl rfl ?_
      refine g_iload_n dX7_nextOrder_63 rfl rfl ?_
      refine g_iload_n dX7_nextOrder_64 rfl rfl ?_
      refine g_callV (c_X7_swaps sk (by omega) (by omega)) m_X7_196 a_X7_swaps dX7_nextOrder_65 rfl [0, 1] rfl rfl 0 rfl rfl rfl (by decide) (by decide) (by decide) (by decide) (Nat.le_of_ble_eq_true rfl) (fun r w hK => ?_)
      obtain ⟨rfl, rfl⟩ := hK
      refine ⟨rfl, ?_⟩
      dsimp only [puts, List.set, Option.toList, List.cons_append, List.nil_append, List.append_nil]
      refine g_iload_n dX7_nextOrder_68 rfl rfl ?_
      refine g_iconst (v := nI 1) dX7_nextOrder_69 rfl (by decide) ?_
      refine g_isub dX7_nextOrder_70 rfl (pk_sub (by omega)) ?_
      refine g_istore dX7_nextOrder_71 rfl (by decide) rfl rfl ?_
      refine g_iload_n dX7_nextOrder_73 rfl rfl ?_
      refine g_iconst (v := nI 1) dX7_nextOrder_74 rfl (by decide) ?_
      refine g_iadd dX7_nextOrder_75 rfl (nI_add _ _) ?_
      refine g_istore dX7_nextOrder_76 rfl (by decide) rfl rfl ?_
      exact lp_nx78 sk hn n _ _ _ (by omega) (by omega) (by omega) hP
    · rw [if_neg (by omega)] at hQ
      refine g_iinc dX7_nextOrder_56 rfl rfl (pk_m1 _) (by decide) rfl rfl ?_
      refine g_goto (q := 41) dX7_nextOrder_59 (by decide) ?_
      have h3 : ¬ q = k := fun z => by subst z; omega
      exact ih (by omega) (by omega) hQ
set_option maxRecDepth 20000 in
theorem lp_nx4 (sk : Nat → Nat) {h mt mo md ms mn mi mz mk mw mf mr mb mu : Nat} {ty li se fAt at_ so sta sz fl ru : Int32} {iha isn : Bool} {n : Nat} {p : Nat → Nat} {K : Option Nat} (hn : n ≤ 6) (hn1 : 1 ≤ n) (hp : P6 p) (hK : nxK p (n - 1) = K) : ∀ (m : Nat), m ≤ n - 1 → nxK p m = K → GG sk RX7 yX7_nextOrder cX7_nextOrder 6 (some .boolean) 1 0 0 (fun q w1 => q = some (.int (zb (nxP p n).isSome)) ∧ w1 = [oMod h mt ty mo md ms mn mi mz mk mw mf li se fAt at_ so sta sz fl iha isn ru mr mb mu, cI mr 6 (fI ((nxP p n).getD p))]) 0 0 4 [some (.ref h), some (.int (nI n)), some (.int (nI m + (-1))), none, none, none] [] [oMod h mt ty mo md ms mn mi mz mk mw mf li se fAt at_ so sta sz fl iha isn ru mr mb mu, cI mr 6 (fI p)] := by
  intro m
  induction m with
  | zero =>
    intro hm hK2
    rw [nxK] at hK2
    subst hK2
    have e1 : nxP p n = none := by unfold nxP; rw [hK]
    rw [e1]
    refine g_iload_n dX7_nextOrder_4 rfl rfl ?_
    refine g_if_lt (t := 31) dX7_nextOrder_5 (by decide) rfl (fun h5 => ?_) (fun h5 => ?_)
    · skip
      refine g_iload_n dX7_nextOrder_31 rfl rfl ?_
      refine g_if_ge (t := 37) dX7_nextOrder_32 (by decide) rfl (fun h32 => ?_) (fun h32 => ?_)
      · exact absurd (show ¬ (0 ≤ nI 0 + (-1)) by decide) (not_not_intro h32)
      · skip
        refine g_iconst (v := nI 0) dX7_nextOrder_35 rfl (by decide) ?_
        exact g_zret (b := false) dX7_nextOrder_36 rfl (Nat.le_refl _) (Nat.le_refl _) (⟨rfl, rfl⟩)
    · exact absurd (show nI 0 + (-1) < 0 by decide) h5
  | succ m ih =>
    intro hm hK2
    rw [pk_m1]
    rw [nxK] at hK2
    have b1 := hp m (by omega)
    have b2 := hp (m + 1) (by omega)
    refine g_iload_n dX7_nextOrder_4 rfl rfl ?_
    refine g_if_lt (t := 31) dX7_nextOrder_5 (by decide) rfl (fun h5 => ?_) (fun h5 => ?_)
    · exact absurd h5 (nI_pos (by omega))
    · skip
      refine g_aload_n dX7_nextOrder_8 rfl rfl ?_
      refine g_get f_X7_45 dX7_nextOrder_9 rfl 0 rfl rfl ?_
      refine g_iload_n dX7_nextOrder_12 rfl rfl ?_
      refine g_ialdN (v := nI _) dX7_nextOrder_13 rfl 1 rfl (by omega) (by decide) (rfl) ?_
      refine g_aload_n dX7_nextOrder_14 rfl rfl ?_
      refine g_get f_X7_45 dX7_nextOrder_15 rfl 0 rfl rfl ?_
      refine g_iload_n dX7_nextOrder_18 rfl rfl ?_
      refine g_iconst (v := nI 1) dX7_nextOrder_19 rfl (by decide) ?_
      refine g_iadd dX7_nextOrder_20 rfl (nI_add _ _) ?_
      refine g_ialdN (v := nI _) dX7_nextOrder_21 rfl 1 rfl (by omega) (by decide) (rfl) ?_
      refine g_icmp_leN (t := 31) dX7_nextOrder_22 (by decide) rfl (by omega) (by omega) (fun h22 => ?_) (fun h22 => ?_)
      · rw [if_pos h22] at hK2
        subst hK2
        have e1 : nxP p n = some (rvR n (swR p m (nxQ p m (n - 1))) (m + 1) (n - 1)) := by unfold nxP; rw [hK]
        rw [e1]
        refine g_iload_n dX7_nextOrder_31 rfl rfl ?_
        refine g_if_ge (t := 37) dX7_nextOrder_32 (by decide) rfl (fun h32 => ?_) (fun h32 => ?_)
        · skip
          refine g_iload_n dX7_nextOrder_37 rfl rfl ?_
          refine g_iconst (v := nI 1) dX7_nextOrder_38 rfl (by decide) ?_
          refine g_isub dX7_nextOrder_39 rfl (pk_sub (by omega)) ?_
          refine g_istore_n dX7_nextOrder_40 rfl (by decide) rfl rfl ?_
          exact lp_nx41 sk hn hp h22 (by omega) rfl (n - 1) (by omega) (by omega) rfl
        · exact absurd (nI_pos' (show m < 2 ^ 31 by omega)) h32
      · rw [if_neg (by omega)] at hK2
        refine g_iinc dX7_nextOrder_25 rfl rfl rfl (by decide) rfl rfl ?_
        refine g_goto (q := 4) dX7_nextOrder_28 (by decide) ?_
        exact ih (by omega) hK2
set_option maxRecDepth 20000 in
theorem c_X7_nextOrder (sk : Nat → Nat) {h mt mo md ms mn mi mz mk mw mf mr mb mu : Nat} {ty li se fAt at_ so sta sz fl ru : Int32} {iha isn : Bool} {n : Nat} {p : Nat → Nat} (hn : n ≤ 6) (hn1 : 1 ≤ n) (hp : P6 p) : Ct sk yX7_nextOrder cX7_nextOrder 6 (some .boolean) 1 0 0 [oMod h mt ty mo md ms mn mi mz mk mw mf li se fAt at_ so sta sz fl iha isn ru mr mb mu, cI mr 6 (fI p)] [.ref h, .int (nI n)] ((fun q w1 => q = some (.int (zb (nxP p n).isSome)) ∧ w1 = [oMod h mt ty mo md ms mn mi mz mk mw mf li se fAt at_ so sta sz fl iha isn ru mr mb mu, cI mr 6 (fI ((nxP p n).getD p))])) := by
  refine Ct.of (own := RX7) (l := [some (.ref h), some (.int (nI n)), none, none, none, none]) (by decide) rfl (Nat.le_of_ble_eq_true rfl) rfl ?_
  refine g_iload_n dX7_nextOrder_0 rfl rfl ?_
  refine g_iconst (v := nI 2) dX7_nextOrder_1 rfl (by decide) ?_
  refine g_isub dX7_nextOrder_2 rfl (n_m2 hn1 hn) ?_
  refine g_istore_n dX7_nextOrder_3 rfl (by decide) rfl rfl ?_
  exact lp_nx4 sk hn hn1 hp rfl (n - 1) (by omega) rfl
