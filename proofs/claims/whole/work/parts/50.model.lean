/-! the reference: its cell, its small methods -/
abbrev oMod (h : Nat) (mt : Nat) (ty : Int32) (mo : Nat) (md : Nat) (ms : Nat) (mn : Nat) (mi : Nat) (mz : Nat) (mk : Nat) (mw : Nat) (mf : Nat) (li : Int32) (se : Int32) (fAt : Int32) (at_ : Int32) (so : Int32) (sta : Int32) (sz : Int32) (fl : Int32) (iha : Bool) (isn : Bool) (ru : Int32) (mr : Nat) (mb : Nat) (mu : Nat) : Nat × AE := (h, .inr (7, [.ref mt, .int ty, .ref mo, .ref md, .ref ms, .ref mn, .ref mi, .ref mz, .ref mk, .ref mw, .ref mf, .int li, .int se, .int fAt, .int at_, .int so, .int sta, .int sz, .int fl, .int (zb iha), .int (zb isn), .int ru, .ref mr, .ref mb, .ref mu]))
/-- a state, as the reference lays it: thirty slips, the goes, who has the ham -/
def fS (s : PSt) : Nat → Int32 := fun j => if j < 30 then nI (s.1 j) else if j = 30 then s.2.1 else s.2.2
def inI (x a b : Int32) : Bool := decide (¬ x < a) && decide (¬ b < x)
set_option maxRecDepth 20000 in
theorem c_X7_in (sk : Nat → Nat) {x a b : Int32}  : Ct sk yX7_in cX7_in 3 (some .boolean) 0 0 0 [] [.int x, .int a, .int b] (zD (some (.int (zb (inI x a b)))) []) := by
  refine Ct.of (own := RX7) (l := [some (.int x), some (.int a), some (.int b)]) (by decide) rfl (Nat.le_of_ble_eq_true rfl) rfl ?_
  refine g_iload_n dX7_in_0 rfl rfl ?_
  refine g_iload_n dX7_in_1 rfl rfl ?_
  refine g_icmp_lt (t := 14) dX7_in_2 (by decide) rfl (fun h2 => ?_) (fun h2 => ?_)
  · have hz : inI x a b = false := by unfold inI; rw [decide_eq_false (fun z => z h2)]; rfl
    refine g_iconst (v := nI 0) dX7_in_14 rfl (by decide) ?_
    exact g_zret (b := false) dX7_in_15 rfl (Nat.le_refl _) (Nat.le_refl _) (by rw [hz]; exact ⟨rfl, rfl⟩)
  · skip
    refine g_iload_n dX7_in_5 rfl rfl ?_
    refine g_iload_n dX7_in_6 rfl rfl ?_
    refine g_icmp_gt (t := 14) dX7_in_7 (by decide) rfl (fun h7 => ?_) (fun h7 => ?_)
    · have hz : inI x a b = false := by unfold inI; rw [decide_eq_false (p := ¬ b < x) (fun z => z h7), Bool.and_false]
      refine g_iconst (v := nI 0) dX7_in_14 rfl (by decide) ?_
      exact g_zret (b := false) dX7_in_15 rfl (Nat.le_refl _) (Nat.le_refl _) (by rw [hz]; exact ⟨rfl, rfl⟩)
    · have hz : inI x a b = true := by unfold inI; rw [decide_eq_true (p := ¬ x < a) h2, decide_eq_true (p := ¬ b < x) h7]; rfl
      refine g_iconst (v := nI 1) dX7_in_10 rfl (by decide) ?_
      refine g_goto (q := 15) dX7_in_11 (by decide) ?_
      exact g_zret (b := true) dX7_in_15 rfl (Nat.le_refl _) (Nat.le_refl _) (by rw [hz]; exact ⟨rfl, rfl⟩)
set_option maxRecDepth 20000 in
theorem c_X7_wrong (sk : Nat → Nat) {h mt mo md ms mn mi mz mk mw mf mr mb mu : Nat} {ty li se fAt at_ so sta sz fl ru : Int32} {iha isn : Bool}{x : Int32}  : Ct sk yX7_wrong cX7_wrong 2 (some .boolean) 0 0 0 [oMod h mt ty mo md ms mn mi mz mk mw mf li se fAt at_ so sta sz fl iha isn ru mr mb mu] [.ref h, .int x] (zD (some (.int (zb false))) [oMod h mt ty mo md ms mn mi mz mk mw mf li se fAt at_ so sta sz x iha isn ru mr mb mu]) := by
  refine Ct.of (own := RX7) (l := [some (.ref h), some (.int x)]) (by decide) rfl (Nat.le_of_ble_eq_true rfl) rfl ?_
  refine g_aload_n dX7_wrong_0 rfl rfl ?_
  refine g_iload_n dX7_wrong_1 rfl rfl ?_
  refine g_putI f_X7_93 dX7_wrong_2 rfl 0 rfl (Nat.le_of_ble_eq_true rfl) rfl ?_
  dsimp only [List.set]
  refine g_iconst (v := nI 0) dX7_wrong_5 rfl (by decide) ?_
  exact g_zret (b := false) dX7_wrong_6 rfl (Nat.le_refl _) (Nat.le_refl _) (⟨rfl, rfl⟩)
set_option maxRecDepth 20000 in
theorem c_X7_fault (sk : Nat → Nat) {h mt mo md ms mn mi mz mk mw mf mr mb mu : Nat} {ty li se fAt at_ so sta sz fl ru : Int32} {iha isn : Bool}  : Ct sk yX7_fault cX7_fault 1 (some .int) 0 0 0 [oMod h mt ty mo md ms mn mi mz mk mw mf li se fAt at_ so sta sz fl iha isn ru mr mb mu] [.ref h] (zD (some (.int fAt)) [oMod h mt ty mo md ms mn mi mz mk mw mf li se fAt at_ so sta sz fl iha isn ru mr mb mu]) := by
  refine Ct.of (own := RX7) (l := [some (.ref h)]) (by decide) rfl (Nat.le_of_ble_eq_true rfl) rfl ?_
  refine g_aload_n dX7_fault_0 rfl rfl ?_
  refine g_get f_X7_41 dX7_fault_1 rfl 0 rfl rfl ?_
  exact g_iret dX7_fault_4 rfl (Nat.le_refl _) (Nat.le_refl _) (⟨rfl, rfl⟩)
set_option maxRecDepth 20000 in
theorem c_X7_seed (sk : Nat → Nat) {h mt mo md ms mn mi mz mk mw mf mr mb mu : Nat} {ty li se fAt at_ so sta sz fl ru : Int32} {iha isn : Bool}{x : Int32} {Z : Int32 × Int32} (hZ : seedA x se = Z) : Ct sk yX7_seed cX7_seed 3 (some .int) 0 0 0 [oMod h mt ty mo md ms mn mi mz mk mw mf li se fAt at_ so sta sz fl iha isn ru mr mb mu] [.ref h, .int x] (zD (some (.int Z.1)) [oMod h mt ty mo md ms mn mi mz mk mw mf li Z.2 fAt at_ so sta sz fl iha isn ru mr mb mu]) := by
  refine Ct.of (own := RX7) (l := [some (.ref h), some (.int x), none]) (by decide) rfl (Nat.le_of_ble_eq_true rfl) rfl ?_
  refine g_iload_n dX7_seed_0 rfl rfl ?_
  refine g_if_ge (t := 7) dX7_seed_1 (by decide) rfl (fun h1 => ?_) (fun h1 => ?_)
  · rw [seedA, if_neg (by rw [Int32.not_lt]; exact h1)] at hZ
    subst hZ
    refine g_aload_n dX7_seed_7 rfl rfl ?_
    refine g_get f_X7_183 dX7_seed_8 rfl 0 rfl rfl ?_
    refine g_istore_n dX7_seed_11 rfl (by decide) rfl rfl ?_
    refine g_aload_n dX7_seed_12 rfl rfl ?_
    refine g_iload_n dX7_seed_13 rfl rfl ?_
    refine g_putI f_X7_183 dX7_seed_14 rfl 0 rfl (Nat.le_of_ble_eq_true rfl) rfl ?_
    dsimp only [List.set]
    refine g_iload_n dX7_seed_17 rfl rfl ?_
    exact g_iret dX7_seed_18 rfl (Nat.le_refl _) (Nat.le_refl _) (⟨rfl, rfl⟩)
  · rw [seedA, if_pos (by rw [← Int32.not_le]; exact h1)] at hZ
    subst hZ
    refine g_ldc dX7_seed_4 rfl k_X7_65 ?_
    exact g_iret dX7_seed_6 rfl (Nat.le_refl _) (Nat.le_refl _) (⟨rfl, rfl⟩)
set_option maxRecDepth 20000 in
theorem c_X7_tear (sk : Nat → Nat) {h mt mo md ms mn mi mz mk mw mf mr mb mu : Nat} {ty li se fAt at_ so sta sz fl ru : Int32} {iha isn : Bool}  : Ct sk yX7_tear cX7_tear 2 (some .int) 0 0 0 [oMod h mt ty mo md ms mn mi mz mk mw mf li se fAt at_ so sta sz fl iha isn ru mr mb mu] [.ref h] (zD (some (.int li)) [oMod h mt ty mo md ms mn mi mz mk mw mf (nI 0) se fAt at_ so sta sz fl iha isn ru mr mb mu]) := by
  refine Ct.of (own := RX7) (l := [some (.ref h), none]) (by decide) rfl (Nat.le_of_ble_eq_true rfl) rfl ?_
  refine g_aload_n dX7_tear_0 rfl rfl ?_
  refine g_get f_X7_151 dX7_tear_1 rfl 0 rfl rfl ?_
  refine g_istore_n dX7_tear_4 rfl (by decide) rfl rfl ?_
  refine g_aload_n dX7_tear_5 rfl rfl ?_
  refine g_iconst (v := nI 0) dX7_tear_6 rfl (by decide) ?_
  refine g_putI f_X7_151 dX7_tear_7 rfl 0 rfl (Nat.le_of_ble_eq_true rfl) rfl ?_
  dsimp only [List.set]
  refine g_iload_n dX7_tear_10 rfl rfl ?_
  exact g_iret dX7_tear_11 rfl (Nat.le_refl _) (Nat.le_refl _) (⟨rfl, rfl⟩)
theorem fS_30 (s : PSt) : fS s 30 = s.2.1 := rfl
theorem fS_31 (s : PSt) : fS s 31 = s.2.2 := rfl
theorem fS_lt (s : PSt) {j : Nat} (h : j < 30) : fS s j = nI (s.1 j) := if_pos h
theorem fS_ham (s : PSt) (x : Int32) : ∀ j, j < 32 → upd (fS s) 31 x j = fS (s.1, s.2.1, x) j := fun j hj => by
  unfold upd fS
  by_cases e : j = 31
  · rw [if_pos e, if_neg (by omega), if_neg (by omega)]
  · rw [if_neg e]
    by_cases e2 : j < 30
    · rw [if_pos e2, if_pos e2]
    · rw [if_neg e2, if_neg e2, if_pos (by omega), if_pos (by omega)]
set_option maxRecDepth 20000 in
theorem c_X7_hang (sk : Nat → Nat) {h mt mo md ms mn mi mz mk mw mf mr mb mu : Nat} {ty li se fAt at_ so sta sz fl ru : Int32} {iha isn : Bool}{s : PSt}  : Ct sk yX7_hang cX7_hang 2 (some .int) 0 0 0 [oMod h mt ty mo md ms mn mi mz mk mw mf li se fAt at_ so sta sz fl iha isn ru mr mb mu, cI ms 32 (fS s)] [.ref h] (zD (some (.int s.2.2)) [oMod h mt ty mo md ms mn mi mz mk mw mf li se fAt at_ so sta sz fl iha isn ru mr mb mu, cI ms 32 (upd (fS s) 31 (-1))]) := by
  refine Ct.of (own := RX7) (l := [some (.ref h), none]) (by decide) rfl (Nat.le_of_ble_eq_true rfl) rfl ?_
  refine g_aload_n dX7_hang_0 rfl rfl ?_
  refine g_get f_X7_19 dX7_hang_1 rfl 0 rfl rfl ?_
  refine g_bipush (v := nI 31) dX7_hang_4 rfl (by decide) ?_
  refine g_ialdN (v := s.2.2) dX7_hang_6 rfl 1 rfl (by omega) (by decide) (rfl) ?_
  refine g_istore_n dX7_hang_7 rfl (by decide) rfl rfl ?_
  refine g_aload_n dX7_hang_8 rfl rfl ?_
  refine g_get f_X7_19 dX7_hang_9 rfl 0 rfl rfl ?_
  refine g_bipush (v := nI 31) dX7_hang_12 rfl (by decide) ?_
  refine g_iconst (v := -1) dX7_hang_14 rfl (by decide) ?_
  refine g_iastN dX7_hang_15 rfl 1 rfl (by omega) (by decide) (rfl) rfl ?_
  refine g_iload_n dX7_hang_16 rfl rfl ?_
  exact g_iret dX7_hang_17 rfl (Nat.le_refl _) (Nat.le_refl _) (⟨rfl, rfl⟩)
def cpF_lays (i : Nat) (f g : Nat → Int32) : Nat → Int32 := fun j => if j < i then f j else g j
theorem cpF_0 (f g : Nat → Int32) : cpF_lays 0 f g = g := by funext j; simp [cpF_lays]
theorem cpF_up (i : Nat) (f g : Nat → Int32) : upd (cpF_lays i f g) i (f i) = cpF_lays (i + 1) f g := by
  funext j
  unfold upd cpF_lays
  by_cases h : j = i
  · subst h; simp
  · by_cases h2 : j < i
    · simp [h, h2, show j < i + 1 by omega]
    · simp [h, h2, show ¬ j < i + 1 by omega]
set_option maxRecDepth 20000 in
theorem lp_lays (sk : Nat → Nat) {h mt mo md ms mn mi mz mk mw mf mr mb mu : Nat} {ty li se fAt at_ so sta sz fl ru : Int32} {iha isn : Bool} {f g : Nat → Int32}  : ∀ (n i : Nat) (g2 : Nat → Int32), i + n = 32 → g2 = cpF_lays i f g → GG sk RX7 yX7_lays cX7_lays 2 none 0 0 0 (zD none [oMod h mt ty mo md ms mn mi mz mk mw mf li se fAt at_ so sta sz fl iha isn ru mr mb mu, cI ms 32 f, cI mn 32 f]) 0 0 2 [some (.ref h), some (.int (nI i))] [] [oMod h mt ty mo md ms mn mi mz mk mw mf li se fAt at_ so sta sz fl iha isn ru mr mb mu, cI ms 32 f, cI mn 32 g2] := by
  intro n
  induction n with
  | zero =>
    intro i g2 hi hg
    subst hg
    have e : i = 32 := by omega
    subst e
    refine g_iload_n dX7_lays_2 rfl rfl ?_
    refine g_bipush (v := nI 32) dX7_lays_3 rfl (by decide) ?_
    refine g_icmp_geN (t := 26) dX7_lays_5 (by decide) rfl (by omega) (by omega) (fun h5 => ?_) (fun h5 => ?_)
    · skip
      refine g_cong (g := f) 2 rfl (fun j hj => if_pos hj) rfl ?_
      dsimp only [List.set]
      exact g_vret dX7_lays_26 rfl (Nat.le_refl _) (Nat.le_refl _) (⟨rfl, rfl⟩)
    · exact absurd h5 (by decide)
  | succ n ih =>
    intro i g2 hi hg
    subst hg
    refine g_iload_n dX7_lays_2 rfl rfl ?_
    refine g_bipush (v := nI 32) dX7_lays_3 rfl (by decide) ?_
    refine g_icmp_geN (t := 26) dX7_lays_5 (by decide) rfl (by omega) (by omega) (fun h5 => ?_) (fun h5 => ?_)
    · exact absurd h5 (by omega)
    · skip
      refine g_aload_n dX7_lays_8 rfl rfl ?_
      refine g_get f_X7_22 dX7_lays_9 rfl 0 rfl rfl ?_
      refine g_iload_n dX7_lays_12 rfl rfl ?_
      refine g_aload_n dX7_lays_13 rfl rfl ?_
      refine g_get f_X7_19 dX7_lays_14 rfl 0 rfl rfl ?_
      refine g_iload_n dX7_lays_17 rfl rfl ?_
      refine g_ialdN dX7_lays_18 rfl 1 rfl (by omega) (by decide) (rfl) ?_
      refine g_iastN dX7_lays_19 rfl 2 rfl (by omega) (by decide) (cpF_up i f g) rfl ?_
      refine g_iinc dX7_lays_20 rfl rfl (nI_1 _) (by decide) rfl rfl ?_
      refine g_goto (q := 2) dX7_lays_23 (by decide) ?_
      exact ih (i + 1) _ (by omega) rfl
set_option maxRecDepth 20000 in
theorem c_X7_lays (sk : Nat → Nat) {h mt mo md ms mn mi mz mk mw mf mr mb mu : Nat} {ty li se fAt at_ so sta sz fl ru : Int32} {iha isn : Bool}{f g : Nat → Int32}  : Ct sk yX7_lays cX7_lays 2 none 0 0 0 [oMod h mt ty mo md ms mn mi mz mk mw mf li se fAt at_ so sta sz fl iha isn ru mr mb mu, cI ms 32 f, cI mn 32 g] [.ref h] (zD none [oMod h mt ty mo md ms mn mi mz mk mw mf li se fAt at_ so sta sz fl iha isn ru mr mb mu, cI ms 32 f, cI mn 32 f]) := by
  refine Ct.of (own := RX7) (l := [some (.ref h), none]) (by decide) rfl (Nat.le_of_ble_eq_true rfl) rfl ?_
  refine g_iconst (v := nI 0) dX7_lays_0 rfl (by decide) ?_
  refine g_istore_n dX7_lays_1 rfl (by decide) rfl rfl ?_
  exact lp_lays sk 32 0 g (by decide) (cpF_0 f g).symm
set_option maxRecDepth 20000 in
theorem lp_takes (sk : Nat → Nat) {h mt mo md ms mn mi mz mk mw mf mr mb mu : Nat} {ty li se fAt at_ so sta sz fl ru : Int32} {iha isn : Bool} {f g : Nat → Int32}  : ∀ (n i : Nat) (g2 : Nat → Int32), i + n = 32 → g2 = cpF_lays i f g → GG sk RX7 yX7_takes cX7_takes 2 none 0 0 0 (zD none [oMod h mt ty mo md ms mn mi mz mk mw mf li se fAt at_ so sta sz fl iha isn ru mr mb mu, cI mn 32 f, cI ms 32 f]) 0 0 2 [some (.ref h), some (.int (nI i))] [] [oMod h mt ty mo md ms mn mi mz mk mw mf li se fAt at_ so sta sz fl iha isn ru mr mb mu, cI mn 32 f, cI ms 32 g2] := by
  intro n
  induction n with
  | zero =>
    intro i g2 hi hg
    subst hg
    have e : i = 32 := by omega
    subst e
    refine g_iload_n dX7_takes_2 rfl rfl ?_
    refine g_bipush (v := nI 32) dX7_takes_3 rfl (by decide) ?_
    refine g_icmp_geN (t := 26) dX7_takes_5 (by decide) rfl (by omega) (by omega) (fun h5 => ?_) (fun h5 => ?_)
    · skip
      refine g_cong (g := f) 2 rfl (fun j hj => if_pos hj) rfl ?_
      dsimp only [List.set]
      exact g_vret dX7_takes_26 rfl (Nat.le_refl _) (Nat.le_refl _) (⟨rfl, rfl⟩)
    · exact absurd h5 (by decide)
  | succ n ih =>
    intro i g2 hi hg
    subst hg
    refine g_iload_n dX7_takes_2 rfl rfl ?_
    refine g_bipush (v := nI 32) dX7_takes_3 rfl (by decide) ?_
    refine g_icmp_geN (t := 26) dX7_takes_5 (by decide) rfl (by omega) (by omega) (fun h5 => ?_) (fun h5 => ?_)
    · exact absurd h5 (by omega)
    · skip
      refine g_aload_n dX7_takes_8 rfl rfl ?_
      refine g_get f_X7_19 dX7_takes_9 rfl 0 rfl rfl ?_
      refine g_iload_n dX7_takes_12 rfl rfl ?_
      refine g_aload_n dX7_takes_13 rfl rfl ?_
      refine g_get f_X7_22 dX7_takes_14 rfl 0 rfl rfl ?_
      refine g_iload_n dX7_takes_17 rfl rfl ?_
      refine g_ialdN dX7_takes_18 rfl 1 rfl (by omega) (by decide) (rfl) ?_
      refine g_iastN dX7_takes_19 rfl 2 rfl (by omega) (by decide) (cpF_up i f g) rfl ?_
      refine g_iinc dX7_takes_20 rfl rfl (nI_1 _) (by decide) rfl rfl ?_
      refine g_goto (q := 2) dX7_takes_23 (by decide) ?_
      exact ih (i + 1) _ (by omega) rfl
set_option maxRecDepth 20000 in
theorem c_X7_takes (sk : Nat → Nat) {h mt mo md ms mn mi mz mk mw mf mr mb mu : Nat} {ty li se fAt at_ so sta sz fl ru : Int32} {iha isn : Bool}{f g : Nat → Int32}  : Ct sk yX7_takes cX7_takes 2 none 0 0 0 [oMod h mt ty mo md ms mn mi mz mk mw mf li se fAt at_ so sta sz fl iha isn ru mr mb mu, cI mn 32 f, cI ms 32 g] [.ref h] (zD none [oMod h mt ty mo md ms mn mi mz mk mw mf li se fAt at_ so sta sz fl iha isn ru mr mb mu, cI mn 32 f, cI ms 32 f]) := by
  refine Ct.of (own := RX7) (l := [some (.ref h), none]) (by decide) rfl (Nat.le_of_ble_eq_true rfl) rfl ?_
  refine g_iconst (v := nI 0) dX7_takes_0 rfl (by decide) ?_
  refine g_istore_n dX7_takes_1 rfl (by decide) rfl rfl ?_
  exact lp_takes sk 32 0 g (by decide) (cpF_0 f g).symm
