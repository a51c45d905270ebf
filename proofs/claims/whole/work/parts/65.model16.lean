/-! the reference: numbers, words, clauses -/
/-- a number from pos on, by the reference: a fault and its place, or the number and what follows -/
def numM (tx : Nat → Nat) (len lo hi pos : Nat) : (Nat × Nat) ⊕ (Nat × Nat) :=
  if runTo isD tx len (runTo isB tx len pos) = runTo isB tx len pos then .inl (1, runTo isB tx len pos)
  else if 3 < runTo isD tx len (runTo isB tx len pos) - runTo isB tx len pos ∨ numV tx (runTo isB tx len pos) (runTo isD tx len (runTo isB tx len pos) - runTo isB tx len pos) < lo ∨ hi < numV tx (runTo isB tx len pos) (runTo isD tx len (runTo isB tx len pos) - runTo isB tx len pos) then .inl (2, runTo isB tx len pos)
  else .inr (numV tx (runTo isB tx len pos) (runTo isD tx len (runTo isB tx len pos) - runTo isB tx len pos), runTo isD tx len (runTo isB tx len pos))
theorem numR_M {tx : Nat → Nat} {len k i F pos lo hi : Nat} {ft : Nat → Bool} (h : ¬ (k = 2 ∧ i = 0)) (hlo : loN k i = lo) (hhi : hiN k i F = hi) : numR tx len k i F ft pos = numM tx len lo hi pos := by
  subst hlo; subst hhi
  unfold numR numM
  rw [if_neg (c := k = 2 ∧ i = 0 ∧ _) (fun q => h ⟨q.1, q.2.1⟩)]
theorem numR_F {tx : Nat → Nat} {len F pos : Nat} {ft : Nat → Bool} : numR tx len 2 0 F ft pos = match numM tx len 0 (F - 1) pos with
    | .inl f => .inl f
    | .inr (v, e) => if ft v = true then .inl (4, runTo isB tx len pos) else .inr (v, e) := by
  unfold numR numM
  by_cases h1 : runTo isD tx len (runTo isB tx len pos) = runTo isB tx len pos
  · rw [if_pos h1, if_pos h1]
  · rw [if_neg h1, if_neg h1]
    have e1 : loN 2 0 = 0 := rfl
    have e2 : hiN 2 0 F = F - 1 := rfl
    rw [e1, e2]
    split
    · rfl
    · dsimp only
      by_cases h2 : ft (numV tx (runTo isB tx len pos) (runTo isD tx len (runTo isB tx len pos) - runTo isB tx len pos)) = true
      · rw [if_pos h2, if_pos ⟨rfl, rfl, h2⟩]
      · rw [if_neg h2, if_neg (fun q => h2 q.2.2)]
theorem numM_ok {tx : Nat → Nat} {len lo hi pos v e : Nat} (hp : pos ≤ len) (h : numM tx len lo hi pos = .inr (v, e)) : e ≤ len ∧ lo ≤ v ∧ v ≤ hi := by
  have h1 := runTo_le isB tx hp
  have h2 := runTo_le isD tx h1.2
  unfold numM at h
  split at h
  · cases h
  · split at h
    · cases h
    · cases h
      refine ⟨h2.2, ?_⟩
      omega
theorem runTo_D {tx : Nat → Nat} {len p : Nat} (hp : p ≤ len) (h : ¬ soN tx len p = 2) : runTo isD tx len p = p := by
  by_cases h1 : p < len
  · exact runTo_f h1 (Bool.eq_false_iff.mpr (fun q => h (soN_2.mpr ⟨h1, q⟩)))
  · exact runTo_end isD tx (by omega)
theorem tokE_2 {tx : Nat → Nat} {len p : Nat} (h : soN tx len p = 2) : tokE tx len p = runTo isD tx len p := by
  unfold tokE; rw [h]; rfl
theorem tokE_1 {tx : Nat → Nat} {len p : Nat} (h : soN tx len p = 1) : tokE tx len p = runTo isL tx len p := by
  unfold tokE; rw [h]; rfl
theorem tokE_3 {tx : Nat → Nat} {len p : Nat} (h : soN tx len p = 3) : tokE tx len p = p + 1 := by
  unfold tokE; rw [h]; rfl
theorem run_D {tx : Nat → Nat} {len p : Nat} (h : soN tx len p = 2) : p < runTo isD tx len p := by
  have h1 := soN_2.mp h
  rw [runTo_t h1.1 h1.2]
  have := runTo_le isD tx (show p + 1 ≤ len by omega)
  omega
theorem run_L {tx : Nat → Nat} {len p : Nat} (h : soN tx len p = 1) : p < runTo isL tx len p := by
  have h1 := soN_1.mp h
  rw [runTo_t h1.1 h1.2]
  have := runTo_le isL tx (show p + 1 ≤ len by omega)
  omega
def nuQ (res : (Nat × Nat) ⊕ (Nat × Nat)) (W : Int32 → Int32 → Int32 → Int32 → Int32 → Bool → Bool → (Nat → Int32) → AW) (p1 : Nat) (fl : Int32) (b1 b2 : Bool) (fd : Nat → Int32) (pl : Nat) : PS := fun q w1 => match res with
  | .inl f => q = some (.int (zb false)) ∧ ∃ a so sz : Int32, w1 = W a so (nI f.2) sz (nI f.1) b1 b2 fd
  | .inr u => q = some (.int (zb true)) ∧ ∃ so sz : Int32, w1 = W (nI u.2) so (nI p1) sz fl b1 b2 (upd fd pl (nI u.1))
def stQ (res : (Nat × Nat) ⊕ Nat) (W : Int32 → Int32 → Int32 → Int32 → Int32 → AW) (fl : Int32) : PS := fun q w1 => match res with
  | .inl f => q = some (.int (zb false)) ∧ ∃ a so sz : Int32, w1 = W a so (nI f.2) sz (nI f.1)
  | .inr p => q = some (.int (zb true)) ∧ ∃ so sta sz : Int32, w1 = W (nI p) so sta sz fl
set_option maxRecDepth 20000 in
theorem lp_num24 (sk : Nat → Nat) {h mt mo md ms mn mi mz mk mw mf mr mb mu : Nat} {li se fAt ru : Int32} {iha isn : Bool} {len : Nat} {tx : Nat → Nat} {fx : Nat → Int32} {p1 sz pl lo hi : Nat} {at_ so fl : Int32} {fd : Nat → Int32} {Ψ : PS} (hlen : len ≤ 400) (htx : ∀ j, j < len → fx j = nI (tx j) ∧ tx j < 256) (hsz : p1 + sz ≤ len) (hd : ∀ j, j < sz → isD (tx (p1 + j)) = true) (hK2 : ∀ (v : Nat) (l5 : Option Value), (sz < 4 → v = numV tx p1 sz) → v < 1000 → GG sk RX7 yX7_number cX7_number 6 (some .boolean) 3 0 0 Ψ 0 0 69 [some (.ref h), some (.int (nI pl)), some (.int (nI lo)), some (.int (nI hi)), some (.int (nI v)), l5] [] [oMod h mt (nI len) mo md ms mn mi mz mk mw mf li se fAt at_ so (nI p1) (nI sz) fl iha isn ru mr mb mu, cI mt 400 fx, cI md 56 fd]) : ∀ (n k : Nat), k + n = sz → (sz < 4 ∨ k = 0) → GG sk RX7 yX7_number cX7_number 6 (some .boolean) 3 0 0 Ψ 0 0 24 [some (.ref h), some (.int (nI pl)), some (.int (nI lo)), some (.int (nI hi)), some (.int (nI (numV tx p1 k))), some (.int (nI k))] [] [oMod h mt (nI len) mo md ms mn mi mz mk mw mf li se fAt at_ so (nI p1) (nI sz) fl iha isn ru mr mb mu, cI mt 400 fx, cI md 56 fd] := by
  intro n
  induction n with
  | zero =>
    intro k hk h4
    have e : k = sz := by omega
    subst e
    have hv : numV tx p1 k < 1000 := by
      by_cases e : k < 4
      · have := numV_lt tx p1 k hd; have h2 : 10 ^ k ≤ 10 ^ 3 := Nat.pow_le_pow_right (by decide) (by omega); omega
      · have e0 : k = 0 := by omega
        subst e0; exact (by decide : (0 : Nat) < 1000)
    refine g_iload dX7_number_24 rfl rfl ?_
    refine g_aload_n dX7_number_26 rfl rfl ?_
    refine g_get f_X7_88 dX7_number_27 rfl 0 rfl rfl ?_
    refine g_icmp_geN (t := 69) dX7_number_30 (by decide) rfl (by omega) (by omega) (fun h30 => ?_) (fun h30 => ?_)
    · skip
      exact hK2 _ _ (fun _ => rfl) hv
    · exact absurd h30 (by omega)
  | succ n ih =>
    intro k hk h4
    have hdk := isD_b (hd k (by omega))
    have hbk := (htx (p1 + k) (by omega))
    refine g_iload dX7_number_24 rfl rfl ?_
    refine g_aload_n dX7_number_26 rfl rfl ?_
    refine g_get f_X7_88 dX7_number_27 rfl 0 rfl rfl ?_
    refine g_icmp_geN (t := 69) dX7_number_30 (by decide) rfl (by omega) (by omega) (fun h30 => ?_) (fun h30 => ?_)
    · exact absurd h30 (by omega)
    · skip
      refine g_aload_n dX7_number_33 rfl rfl ?_
      refine g_get f_X7_88 dX7_number_34 rfl 0 rfl rfl ?_
      refine g_iconst (v := nI 4) dX7_number_37 rfl (by decide) ?_
      refine g_icmp_geN (t := 69) dX7_number_38 (by decide) rfl (by omega) (by omega) (fun h38 => ?_) (fun h38 => ?_)
      · have hk0 : k = 0 := by omega
        subst hk0
        exact hK2 0 _ (fun q => absurd q (by omega)) (by decide)
      · have hv9 := numV_lt tx p1 k (fun j hj => hd j (by omega))
        have h10 : 10 ^ k ≤ 10 ^ 3 := Nat.pow_le_pow_right (by decide) (by omega)
        refine g_bipush (v := nI 10) dX7_number_41 rfl (by decide) ?_
        refine g_iload dX7_number_43 rfl rfl ?_
        refine g_imul dX7_number_45 rfl (pk_mul _ _) ?_
        refine g_aload_n dX7_number_46 rfl rfl ?_
        refine g_aload_n dX7_number_47 rfl rfl ?_
        refine g_get f_X7_79 dX7_number_48 rfl 0 rfl rfl ?_
        refine g_iload dX7_number_51 rfl rfl ?_
        refine g_iadd dX7_number_53 rfl (nI_add _ _) ?_
        refine g_callV (c_X7_byteAt sk (i := p1 + k) hlen htx (by omega)) m_X7_75 a_X7_byteAt dX7_number_54 rfl [0, 1] rfl rfl 0 rfl rfl rfl (by decide) (by decide) (by decide) (by decide) (Nat.le_of_ble_eq_true rfl) (fun r w hK => ?_)
        obtain ⟨rfl, rfl⟩ := hK
        refine ⟨rfl, ?_⟩
        rw [bN, if_pos (show p1 + k < len by omega)]
        dsimp only [puts, List.set, Option.toList, List.cons_append, List.nil_append, List.append_nil]
        refine g_iadd dX7_number_57 rfl (nI_add _ _) ?_
        refine g_bipush (v := nI 48) dX7_number_58 rfl (by decide) ?_
        refine g_isub dX7_number_60 rfl ((pk_sub (by omega)).trans (congrArg nI (show 10 * numV tx p1 k + tx (p1 + k) - 48 = numV tx p1 (k + 1) by rw [numV]; omega))) ?_
        refine g_istore dX7_number_61 rfl (by decide) rfl rfl ?_
        refine g_iinc dX7_number_63 rfl rfl (nI_1 _) (by decide) rfl rfl ?_
        refine g_goto (q := 24) dX7_number_66 (by decide) ?_
        exact ih (k + 1) (by omega) (Or.inl h38)
set_option maxRecDepth 20000 in
theorem c_X7_number (sk : Nat → Nat) {h mt mo md ms mn mi mz mk mw mf mr mb mu : Nat} {li se fAt ru : Int32} {iha isn : Bool} {len : Nat} {tx : Nat → Nat} {fx : Nat → Int32} {pos pl lo hi : Nat} {so sta sz fl : Int32} {fd : Nat → Int32} {res : (Nat × Nat) ⊕ (Nat × Nat)} (hlen : len ≤ 400) (htx : ∀ j, j < len → fx j = nI (tx j) ∧ tx j < 256) (hp : pos ≤ len) (hpl : pl < 56) (hlo : lo ≤ 1000) (hhi : hi ≤ 1000) (hres : numM tx len lo hi pos = res) : Ct sk yX7_number cX7_number 6 (some .boolean) 3 0 0 [oMod h mt (nI len) mo md ms mn mi mz mk mw mf li se fAt (nI pos) so sta sz fl iha isn ru mr mb mu, cI mt 400 fx, cI md 56 fd] [.ref h, .int (nI pl), .int (nI lo), .int (nI hi)] (nuQ (res) (fun a so sta sz fl b1 b2 fd => [oMod h mt (nI len) mo md ms mn mi mz mk mw mf li se fAt a so sta sz fl b1 b2 ru mr mb mu, cI mt 400 fx, cI md 56 fd]) (runTo isB tx len pos) fl iha isn fd pl) := by
  refine Ct.of (own := RX7) (l := [some (.ref h), some (.int (nI pl)), some (.int (nI lo)), some (.int (nI hi)), none, none]) (by decide) rfl (Nat.le_of_ble_eq_true rfl) rfl ?_
  refine g_aload_n dX7_number_0 rfl rfl ?_
  refine g_callV (c_X7_token sk hlen htx hp) m_X7_96 a_X7_token dX7_number_1 rfl [0, 1] rfl rfl 0 rfl rfl rfl (by decide) (by decide) (by decide) (by decide) (Nat.le_of_ble_eq_true rfl) (fun r w hK => ?_)
  obtain ⟨rfl, rfl⟩ := hK
  refine ⟨rfl, ?_⟩
  have hP1 := (runTo_le isB tx hp).2
  have hso := soN_le tx len (runTo isB tx len pos)
  dsimp only [puts, List.set, Option.toList, List.cons_append, List.nil_append, List.append_nil]
  refine g_aload_n dX7_number_4 rfl rfl ?_
  refine g_get f_X7_85 dX7_number_5 rfl 0 rfl rfl ?_
  refine g_iconst (v := nI 2) dX7_number_8 rfl (by decide) ?_
  refine g_icmp_eqN (t := 18) dX7_number_9 (by decide) rfl (by omega) (by omega) (fun h9 => ?_) (fun h9 => ?_)
  · rw [tokE_2 h9]
    have hE := runTo_le isD tx hP1
    have hrD := run_D h9
    generalize hgE : runTo isD tx len (runTo isB tx len pos) = E at hE hrD ⊢
    refine g_iconst (v := nI 0) dX7_number_18 rfl (by decide) ?_
    refine g_istore dX7_number_19 rfl (by decide) rfl rfl ?_
    refine g_iconst (v := nI 0) dX7_number_21 rfl (by decide) ?_
    refine g_istore dX7_number_22 rfl (by decide) rfl rfl ?_
    refine lp_num24 sk hlen htx (sz := E - (runTo isB tx len pos)) (by omega) (fun j hj => run_all isD tx hP1 j (by rw [hgE]; exact hj)) (fun v l5 hv hv9 => ?_) (E - (runTo isB tx len pos)) 0 (by omega) (Or.inr rfl)
    refine g_aload_n dX7_number_69 rfl rfl ?_
    refine g_get f_X7_88 dX7_number_70 rfl 0 rfl rfl ?_
    refine g_iconst (v := nI 3) dX7_number_73 rfl (by decide) ?_
    refine g_icmp_gtN (t := 87) dX7_number_74 (by decide) rfl (by omega) (by omega) (fun h74 => ?_) (fun h74 => ?_)
    · have hz : numM tx len lo hi pos = .inl (2, (runTo isB tx len pos)) := by unfold numM; rw [hgE, if_neg (by omega), if_pos (Or.inl (by omega))]
      rw [hz] at hres
      subst hres
      refine g_aload_n dX7_number_87 rfl rfl ?_
      refine g_iconst (v := nI 2) dX7_number_88 rfl (by decide) ?_
      refine g_callV (c_X7_wrong sk) m_X7_99 a_X7_wrong dX7_number_89 rfl [0] rfl rfl 0 rfl rfl rfl (by decide) (by decide) (by decide) (by decide) (Nat.le_of_ble_eq_true rfl) (fun r w hK => ?_)
      obtain ⟨rfl, rfl⟩ := hK
      refine ⟨rfl, ?_⟩
      dsimp only [puts, List.set, Option.toList, List.cons_append, List.nil_append, List.append_nil]
      exact g_zret dX7_number_92 rfl (Nat.le_refl _) (Nat.le_refl _) (⟨rfl, _, _, _, rfl⟩)
    · have hvv := hv (by omega)
      subst hvv
      refine g_iload dX7_number_77 rfl rfl ?_
      refine g_iload_n dX7_number_79 rfl rfl ?_
      refine g_iload_n dX7_number_80 rfl rfl ?_
      refine g_callS (c_X7_in sk) m_X7_61 a_X7_in dX7_number_81 rfl [] rfl rfl rfl rfl (by decide) (by decide) (by decide) (by decide) (Nat.le_of_ble_eq_true rfl) (fun r w hK => ?_)
      obtain ⟨rfl, rfl⟩ := hK
      refine ⟨rfl, ?_⟩
      rw [inI_nat (by omega) (by omega) (by omega)]
      dsimp only [puts, List.set, Option.toList, List.cons_append, List.nil_append, List.append_nil]
      refine g_if_neB (t := 93) dX7_number_84 (by decide) rfl (fun h84 => ?_) (fun h84 => ?_)
      · rw [Bool.and_eq_true, decide_eq_true_eq, decide_eq_true_eq] at h84
        have hz : numM tx len lo hi pos = .inr (numV tx (runTo isB tx len pos) (E - (runTo isB tx len pos)), E) := by unfold numM; rw [hgE, if_neg (by omega), if_neg (by omega)]
        rw [hz] at hres
        subst hres
        refine g_aload_n dX7_number_93 rfl rfl ?_
        refine g_get f_X7_16 dX7_number_94 rfl 0 rfl rfl ?_
        refine g_iload_n dX7_number_97 rfl rfl ?_
        refine g_iload dX7_number_98 rfl rfl ?_
        refine g_iastN dX7_number_100 rfl 2 rfl (by omega) (by decide) (rfl) rfl ?_
        refine g_iconst (v := nI 1) dX7_number_101 rfl (by decide) ?_
        exact g_zret (b := true) dX7_number_102 rfl (Nat.le_refl _) (Nat.le_refl _) (⟨rfl, _, _, rfl⟩)
      · have h85 : ¬ (lo ≤ numV tx (runTo isB tx len pos) (E - (runTo isB tx len pos)) ∧ numV tx (runTo isB tx len pos) (E - (runTo isB tx len pos)) ≤ hi) := fun q => by rw [decide_eq_true q.1, decide_eq_true q.2] at h84; cases h84
        have hz : numM tx len lo hi pos = .inl (2, (runTo isB tx len pos)) := by unfold numM; rw [hgE, if_neg (by omega), if_pos (by omega)]
        rw [hz] at hres
        subst hres
        refine g_aload_n dX7_number_87 rfl rfl ?_
        refine g_iconst (v := nI 2) dX7_number_88 rfl (by decide) ?_
        refine g_callV (c_X7_wrong sk) m_X7_99 a_X7_wrong dX7_number_89 rfl [0] rfl rfl 0 rfl rfl rfl (by decide) (by decide) (by decide) (by decide) (Nat.le_of_ble_eq_true rfl) (fun r w hK => ?_)
        obtain ⟨rfl, rfl⟩ := hK
        refine ⟨rfl, ?_⟩
        dsimp only [puts, List.set, Option.toList, List.cons_append, List.nil_append, List.append_nil]
        exact g_zret dX7_number_92 rfl (Nat.le_refl _) (Nat.le_refl _) (⟨rfl, _, _, _, rfl⟩)
  · have hz : numM tx len lo hi pos = .inl (1, (runTo isB tx len pos)) := by unfold numM; rw [if_pos (runTo_D hP1 h9)]
    rw [hz] at hres
    subst hres
    refine g_aload_n dX7_number_12 rfl rfl ?_
    refine g_iconst (v := nI 1) dX7_number_13 rfl (by decide) ?_
    refine g_callV (c_X7_wrong sk) m_X7_99 a_X7_wrong dX7_number_14 rfl [0] rfl rfl 0 rfl rfl rfl (by decide) (by decide) (by decide) (by decide) (Nat.le_of_ble_eq_true rfl) (fun r w hK => ?_)
    obtain ⟨rfl, rfl⟩ := hK
    refine ⟨rfl, ?_⟩
    dsimp only [puts, List.set, Option.toList, List.cons_append, List.nil_append, List.append_nil]
    exact g_zret dX7_number_17 rfl (Nat.le_refl _) (Nat.le_refl _) (⟨rfl, _, _, _, rfl⟩)
set_option maxRecDepth 20000 in
theorem c_X7_stops (sk : Nat → Nat) {h mt mo md ms mn mi mz mk mw mf mr mb mu : Nat} {li se fAt ru : Int32} {iha isn : Bool} {len : Nat} {tx : Nat → Nat} {fx : Nat → Int32} {pos : Nat} {so sta sz fl : Int32} {res : (Nat × Nat) ⊕ Nat} (hlen : len ≤ 400) (htx : ∀ j, j < len → fx j = nI (tx j) ∧ tx j < 256) (hp : pos ≤ len) (hres : endR tx len pos = res) : Ct sk yX7_stops cX7_stops 1 (some .boolean) 3 0 0 [oMod h mt (nI len) mo md ms mn mi mz mk mw mf li se fAt (nI pos) so sta sz fl iha isn ru mr mb mu, cI mt 400 fx] [.ref h] (stQ res (fun a so sta sz fl => [oMod h mt (nI len) mo md ms mn mi mz mk mw mf li se fAt a so sta sz fl iha isn ru mr mb mu, cI mt 400 fx]) fl) := by
  refine Ct.of (own := RX7) (l := [some (.ref h)]) (by decide) rfl (Nat.le_of_ble_eq_true rfl) rfl ?_
  refine g_aload_n dX7_stops_0 rfl rfl ?_
  refine g_callV (c_X7_token sk hlen htx hp) m_X7_96 a_X7_token dX7_stops_1 rfl [0, 1] rfl rfl 0 rfl rfl rfl (by decide) (by decide) (by decide) (by decide) (Nat.le_of_ble_eq_true rfl) (fun r w hK => ?_)
  obtain ⟨rfl, rfl⟩ := hK
  refine ⟨rfl, ?_⟩
  have hP1 := (runTo_le isB tx hp).2
  have hso := soN_le tx len (runTo isB tx len pos)
  dsimp only [puts, List.set, Option.toList, List.cons_append, List.nil_append, List.append_nil]
  refine g_aload_n dX7_stops_4 rfl rfl ?_
  refine g_get f_X7_85 dX7_stops_5 rfl 0 rfl rfl ?_
  refine g_iconst (v := nI 3) dX7_stops_8 rfl (by decide) ?_
  refine g_icmp_eqN (t := 20) dX7_stops_9 (by decide) rfl (by omega) (by omega) (fun h9 => ?_) (fun h9 => ?_)
  · have h3 := soN_3.mp h9
    have hz : endR tx len pos = .inr ((runTo isB tx len pos) + 1) := by unfold endR; rw [if_pos (by rw [bN, if_pos h3.1, h3.2])]
    rw [hz] at hres
    subst hres
    rw [tokE_3 h9]
    refine g_iconst (v := nI 1) dX7_stops_20 rfl (by decide) ?_
    refine g_goto (q := 25) dX7_stops_21 (by decide) ?_
    exact g_zret (b := true) dX7_stops_25 rfl (Nat.le_refl _) (Nat.le_refl _) (⟨rfl, _, _, _, rfl⟩)
  · have hz : endR tx len pos = .inl (1, (runTo isB tx len pos)) := by
      unfold endR
      refine if_neg (fun q => h9 (soN_3.mpr ?_))
      unfold bN at q
      by_cases hl : (runTo isB tx len pos) < len
      · rw [if_pos hl] at q; exact ⟨hl, nI_inj (by have := (htx _ hl).2; omega) (by omega) q⟩
      · rw [if_neg hl] at q; exact absurd q (by decide)
    rw [hz] at hres
    subst hres
    refine g_aload_n dX7_stops_12 rfl rfl ?_
    refine g_iconst (v := nI 1) dX7_stops_13 rfl (by decide) ?_
    refine g_callV (c_X7_wrong sk) m_X7_99 a_X7_wrong dX7_stops_14 rfl [0] rfl rfl 0 rfl rfl rfl (by decide) (by decide) (by decide) (by decide) (Nat.le_of_ble_eq_true rfl) (fun r w hK => ?_)
    obtain ⟨rfl, rfl⟩ := hK
    refine ⟨rfl, ?_⟩
    dsimp only [puts, List.set, Option.toList, List.cons_append, List.nil_append, List.append_nil]
    refine g_if_eqB (t := 24) dX7_stops_17 (by decide) rfl (fun h17 => ?_) (fun h17 => ?_)
    · skip
      refine g_iconst (v := nI 0) dX7_stops_24 rfl (by decide) ?_
      exact g_zret (b := false) dX7_stops_25 rfl (Nat.le_refl _) (Nat.le_refl _) (⟨rfl, _, _, _, rfl⟩)
    · exact absurd h17 (by decide)
def wN (tx : Nat → Nat) (p : Nat) : Nat → Nat
  | 0 => 0
  | k + 1 => 256 * wN tx p k + tx (p + k)
def wordV (tx : Nat → Nat) (p so sz : Nat) : Nat := if so = 1 ∧ sz < 8 then wN tx p sz else 0
theorem wN_lt {tx : Nat → Nat} {p : Nat} : ∀ k, (∀ j, j < k → tx (p + j) < 256) → wN tx p k < 256 ^ k
  | 0, _ => by simp [wN]
  | k + 1, h => by
    have h1 := wN_lt k (fun j hj => h j (by omega))
    have h2 := h k (by omega)
    rw [wN, Nat.pow_succ]
    omega
theorem wordV_lt {tx : Nat → Nat} {p so sz : Nat} (h : ∀ j, j < sz → tx (p + j) < 256) : wordV tx p so sz < 2 ^ 63 := by
  unfold wordV
  split
  · rename_i q
    have h1 := wN_lt sz h
    have h2 : 256 ^ sz ≤ 256 ^ 7 := Nat.pow_le_pow_right (by decide) (by omega)
    omega
  · decide
set_option maxRecDepth 20000 in
theorem lp_word (sk : Nat → Nat) {h mt mo md ms mn mi mz mk mw mf mr mb mu : Nat} {li se fAt at_ fl ru : Int32} {iha isn : Bool} {len : Nat} {tx : Nat → Nat} {fx : Nat → Int32} {p1 so sz : Nat} (hlen : len ≤ 400) (htx : ∀ j, j < len → fx j = nI (tx j) ∧ tx j < 256) (hsz : p1 + sz ≤ len) (hso : so ≤ 4) : ∀ (n k : Nat), k + n = sz → (k = 0 ∨ (so = 1 ∧ sz < 8)) → GG sk RX7 yX7_word cX7_word 4 (some .long) 1 0 0 (zD (some (.long (lN (wordV tx p1 so sz)))) [oMod h mt (nI len) mo md ms mn mi mz mk mw mf li se fAt at_ (nI so) (nI p1) (nI sz) fl iha isn ru mr mb mu, cI mt 400 fx]) 0 0 4 [some (.ref h), some (.long (lN (wN tx p1 k))), none, some (.int (nI k))] [] [oMod h mt (nI len) mo md ms mn mi mz mk mw mf li se fAt at_ (nI so) (nI p1) (nI sz) fl iha isn ru mr mb mu, cI mt 400 fx] := by
  intro n
  induction n with
  | zero =>
    intro k hk hw
    have e : k = sz := by omega
    subst e
    have ew : wordV tx p1 so k = wN tx p1 k := by
      unfold wordV
      by_cases q : so = 1 ∧ k < 8
      · rw [if_pos q]
      · rw [if_neg q, show k = 0 by omega]; rfl
    rw [ew]
    refine g_iload_n dX7_word_4 rfl rfl ?_
    refine g_aload_n dX7_word_5 rfl rfl ?_
    refine g_get f_X7_88 dX7_word_6 rfl 0 rfl rfl ?_
    refine g_icmp_geN (t := 53) dX7_word_9 (by decide) rfl (by omega) (by omega) (fun h9 => ?_) (fun h9 => ?_)
    · skip
      refine g_lload_n dX7_word_53 rfl rfl ?_
      exact g_lret dX7_word_54 rfl (Nat.le_refl _) (Nat.le_refl _) (⟨rfl, rfl⟩)
    · exact absurd h9 (by omega)
  | succ n ih =>
    intro k hk hw
    refine g_iload_n dX7_word_4 rfl rfl ?_
    refine g_aload_n dX7_word_5 rfl rfl ?_
    refine g_get f_X7_88 dX7_word_6 rfl 0 rfl rfl ?_
    refine g_icmp_geN (t := 53) dX7_word_9 (by decide) rfl (by omega) (by omega) (fun h9 => ?_) (fun h9 => ?_)
    · exact absurd h9 (by omega)
    · skip
      refine g_aload_n dX7_word_12 rfl rfl ?_
      refine g_get f_X7_88 dX7_word_13 rfl 0 rfl rfl ?_
      refine g_bipush (v := nI 8) dX7_word_16 rfl (by decide) ?_
      refine g_icmp_geN (t := 53) dX7_word_18 (by decide) rfl (by omega) (by omega) (fun h18 => ?_) (fun h18 => ?_)
      · have ew : wordV tx p1 so sz = wN tx p1 k := by unfold wordV; rw [if_neg (by omega), show k = 0 by omega]; rfl
        rw [ew]
        refine g_lload_n dX7_word_53 rfl rfl ?_
        exact g_lret dX7_word_54 rfl (Nat.le_refl _) (Nat.le_refl _) (⟨rfl, rfl⟩)
      · skip
        refine g_aload_n dX7_word_21 rfl rfl ?_
        refine g_get f_X7_85 dX7_word_22 rfl 0 rfl rfl ?_
        refine g_iconst (v := nI 1) dX7_word_25 rfl (by decide) ?_
        refine g_icmp_neN (t := 53) dX7_word_26 (by decide) rfl (by omega) (by omega) (fun h26 => ?_) (fun h26 => ?_)
        · have ew : wordV tx p1 so sz = wN tx p1 k := by unfold wordV; rw [if_neg (fun q => h26 q.1), show k = 0 by omega]; rfl
          rw [ew]
          refine g_lload_n dX7_word_53 rfl rfl ?_
          exact g_lret dX7_word_54 rfl (Nat.le_refl _) (Nat.le_refl _) (⟨rfl, rfl⟩)
        · skip
          refine g_ldc2 dX7_word_29 rfl k_X7_91 ?_
          refine g_lload_n dX7_word_32 rfl rfl ?_
          refine g_lmul dX7_word_33 rfl (lN_mul 256 (wN tx p1 k)) ?_
          refine g_aload_n dX7_word_34 rfl rfl ?_
          refine g_aload_n dX7_word_35 rfl rfl ?_
          refine g_get f_X7_79 dX7_word_36 rfl 0 rfl rfl ?_
          refine g_iload_n dX7_word_39 rfl rfl ?_
          refine g_iadd dX7_word_40 rfl (nI_add _ _) ?_
          refine g_callV (c_X7_byteAt sk (i := p1 + k) hlen htx (by omega)) m_X7_75 a_X7_byteAt dX7_word_41 rfl [0, 1] rfl rfl 0 rfl rfl rfl (by decide) (by decide) (by decide) (by decide) (Nat.le_of_ble_eq_true rfl) (fun r w hK => ?_)
          obtain ⟨rfl, rfl⟩ := hK
          refine ⟨rfl, ?_⟩
          rw [bN, if_pos (show p1 + k < len by omega)]
          dsimp only [puts, List.set, Option.toList, List.cons_append, List.nil_append, List.append_nil]
          refine g_i2l dX7_word_44 rfl (nI_l (Nat.lt_trans (htx (p1 + k) (by omega)).2 (by decide))) ?_
          refine g_ladd dX7_word_45 rfl (lN_add _ _) ?_
          refine g_lstore_n dX7_word_46 rfl (by decide) rfl rfl ?_
          refine g_iinc dX7_word_47 rfl rfl (nI_1 _) (by decide) rfl rfl ?_
          refine g_goto (q := 4) dX7_word_50 (by decide) ?_
          exact ih (k + 1) (by omega) (Or.inr ⟨h26, h18⟩)
set_option maxRecDepth 20000 in
theorem c_X7_word (sk : Nat → Nat) {h mt mo md ms mn mi mz mk mw mf mr mb mu : Nat} {li se fAt at_ fl ru : Int32} {iha isn : Bool} {len : Nat} {tx : Nat → Nat} {fx : Nat → Int32} {p1 so sz : Nat} (hlen : len ≤ 400) (htx : ∀ j, j < len → fx j = nI (tx j) ∧ tx j < 256) (hsz : p1 + sz ≤ len) (hso : so ≤ 4) : Ct sk yX7_word cX7_word 4 (some .long) 1 0 0 [oMod h mt (nI len) mo md ms mn mi mz mk mw mf li se fAt at_ (nI so) (nI p1) (nI sz) fl iha isn ru mr mb mu, cI mt 400 fx] [.ref h] (zD (some (.long (lN (wordV tx p1 so sz)))) [oMod h mt (nI len) mo md ms mn mi mz mk mw mf li se fAt at_ (nI so) (nI p1) (nI sz) fl iha isn ru mr mb mu, cI mt 400 fx]) := by
  refine Ct.of (own := RX7) (l := [some (.ref h), none, none, none]) (by decide) rfl (Nat.le_of_ble_eq_true rfl) rfl ?_
  refine g_lconst (v := 0) dX7_word_0 rfl (by decide) ?_
  refine g_lstore_n dX7_word_1 rfl (by decide) rfl rfl ?_
  refine g_iconst (v := nI 0) dX7_word_2 rfl (by decide) ?_
  refine g_istore_n dX7_word_3 rfl (by decide) rfl rfl ?_
  exact lp_word sk hlen htx hsz hso sz 0 (by omega) (Or.inl rfl)
theorem wN_0 {tx : Nat → Nat} {p k : Nat} (hd : ∀ j, j < k → 97 ≤ tx (p + j) ∧ tx (p + j) ≤ 122) (h : wN tx p k = 0) : k = 0 := by
  cases k with
  | zero => rfl
  | succ k => have := hd k (by omega); rw [wN] at h; omega
theorem wN_d {tx : Nat → Nat} {p k : Nat} (A B : Nat) (hd : ∀ j, j < k → 97 ≤ tx (p + j) ∧ tx (p + j) ≤ 122) (h : wN tx p k = 256 * A + B) (h1 : 1 ≤ B) (h2 : B < 256) : ∃ k2, k = k2 + 1 ∧ wN tx p k2 = A ∧ tx (p + k2) = B := by
  cases k with
  | zero => rw [wN] at h; omega
  | succ k => have := hd k (by omega); rw [wN] at h; exact ⟨k, rfl, by omega, by omega⟩
theorem isL_b {b : Nat} (h : isL b = true) : 97 ≤ b ∧ b ≤ 122 := by
  unfold isL at h
  simpa only [Bool.and_eq_true, decide_eq_true_eq] using h
theorem nI_c {a c : Nat} (ha : a < 256) (hc : c < 256) : decide (nI a = nI c) = decide (a = c) := decide_eq_decide.mpr (nI_eq (by omega) (by omega))
theorem kw_0 {tx : Nat → Nat} {len p1 : Nat} (hp : p1 ≤ len) (hb : ∀ j, j < len → tx j < 256) : wordV tx p1 (soN tx len p1) (tokE tx len p1 - p1) = 1886350437 ↔ isW 0 tx p1 (runTo isL tx len p1) = true := by
  have hL := runTo_le isL tx hp
  have hd : ∀ j, j < (runTo isL tx len p1) - p1 → 97 ≤ tx (p1 + j) ∧ tx (p1 + j) ≤ 122 := fun j hj => isL_b (run_all isL tx hp j hj)
  have hW : isW 0 tx p1 (runTo isL tx len p1) = (decide ((runTo isL tx len p1) - p1 = 4) && (decide (nI (tx (p1 + 0)) = nI 112) && (decide (nI (tx (p1 + 1)) = nI 111) && (decide (nI (tx (p1 + 2)) = nI 108) && (decide (nI (tx (p1 + 3)) = nI 101) && true))))) := rfl
  rw [hW]
  simp only [Bool.and_eq_true, decide_eq_true_eq, and_true]
  constructor
  · intro hw
    unfold wordV at hw
    by_cases q : soN tx len p1 = 1 ∧ tokE tx len p1 - p1 < 8
    · rw [if_pos q, tokE_1 q.1] at hw
      obtain ⟨k0, hk0, hw0, ht0⟩ := wN_d 7368556 101 hd hw (by decide) (by decide)
      obtain ⟨k1, hk1, hw1, ht1⟩ := wN_d 28783 108 (fun j hj => hd j (by omega)) hw0 (by decide) (by decide)
      obtain ⟨k2, hk2, hw2, ht2⟩ := wN_d 112 111 (fun j hj => hd j (by omega)) hw1 (by decide) (by decide)
      obtain ⟨k3, hk3, hw3, ht3⟩ := wN_d 0 112 (fun j hj => hd j (by omega)) hw2 (by decide) (by decide)
      have hz := wN_0 (fun j hj => hd j (by omega)) hw3
      subst hz
      have hs : (runTo isL tx len p1) - p1 = 4 := by omega
      rw [show k0 = 3 by omega] at ht0
      rw [show k1 = 2 by omega] at ht1
      rw [show k2 = 1 by omega] at ht2
      skip
      exact ⟨hs, congrArg nI ht3, congrArg nI ht2, congrArg nI ht1, congrArg nI ht0⟩
    · rw [if_neg q] at hw; exact absurd hw (by decide)
  · rintro ⟨hs, e0, e1, e2, e3⟩
    have hl1 : p1 < len := by omega
    have h1 : soN tx len p1 = 1 := soN_1.mpr ⟨hl1, by have := run_all isL tx hp 0 (by omega); rwa [Nat.add_zero] at this⟩
    unfold wordV
    rw [tokE_1 h1, hs, if_pos ⟨h1, by decide⟩]
    have f0 := nI_inj (Nat.lt_trans (hb (p1 + 0) (by omega)) (by decide)) (by decide) e0
    have f1 := nI_inj (Nat.lt_trans (hb (p1 + 1) (by omega)) (by decide)) (by decide) e1
    have f2 := nI_inj (Nat.lt_trans (hb (p1 + 2) (by omega)) (by decide)) (by decide) e2
    have f3 := nI_inj (Nat.lt_trans (hb (p1 + 3) (by omega)) (by decide)) (by decide) e3
    simp only [wN]
    rw [f0, f1, f2, f3]
theorem kw_1 {tx : Nat → Nat} {len p1 : Nat} (hp : p1 ≤ len) (hb : ∀ j, j < len → tx j < 256) : wordV tx p1 (soN tx len p1) (tokE tx len p1 - p1) = 1718579060 ↔ isW 1 tx p1 (runTo isL tx len p1) = true := by
  have hL := runTo_le isL tx hp
  have hd : ∀ j, j < (runTo isL tx len p1) - p1 → 97 ≤ tx (p1 + j) ∧ tx (p1 + j) ≤ 122 := fun j hj => isL_b (run_all isL tx hp j hj)
  have hW : isW 1 tx p1 (runTo isL tx len p1) = (decide ((runTo isL tx len p1) - p1 = 4) && (decide (nI (tx (p1 + 0)) = nI 102) && (decide (nI (tx (p1 + 1)) = nI 111) && (decide (nI (tx (p1 + 2)) = nI 111) && (decide (nI (tx (p1 + 3)) = nI 116) && true))))) := rfl
  rw [hW]
  simp only [Bool.and_eq_true, decide_eq_true_eq, and_true]
  constructor
  · intro hw
    unfold wordV at hw
    by_cases q : soN tx len p1 = 1 ∧ tokE tx len p1 - p1 < 8
    · rw [if_pos q, tokE_1 q.1] at hw
      obtain ⟨k0, hk0, hw0, ht0⟩ := wN_d 6713199 116 hd hw (by decide) (by decide)
      obtain ⟨k1, hk1, hw1, ht1⟩ := wN_d 26223 111 (fun j hj => hd j (by omega)) hw0 (by decide) (by decide)
      obtain ⟨k2, hk2, hw2, ht2⟩ := wN_d 102 111 (fun j hj => hd j (by omega)) hw1 (by decide) (by decide)
      obtain ⟨k3, hk3, hw3, ht3⟩ := wN_d 0 102 (fun j hj => hd j (by omega)) hw2 (by decide) (by decide)
      have hz := wN_0 (fun j hj => hd j (by omega)) hw3
      subst hz
      have hs : (runTo isL tx len p1) - p1 = 4 := by omega
      rw [show k0 = 3 by omega] at ht0
      rw [show k1 = 2 by omega] at ht1
      rw [show k2 = 1 by omega] at ht2
      skip
      exact ⟨hs, congrArg nI ht3, congrArg nI ht2, congrArg nI ht1, congrArg nI ht0⟩
    · rw [if_neg q] at hw; exact absurd hw (by decide)
  · rintro ⟨hs, e0, e1, e2, e3⟩
    have hl1 : p1 < len := by omega
    have h1 : soN tx len p1 = 1 := soN_1.mpr ⟨hl1, by have := run_all isL tx hp 0 (by omega); rwa [Nat.add_zero] at this⟩
    unfold wordV
    rw [tokE_1 h1, hs, if_pos ⟨h1, by decide⟩]
    have f0 := nI_inj (Nat.lt_trans (hb (p1 + 0) (by omega)) (by decide)) (by decide) e0
    have f1 := nI_inj (Nat.lt_trans (hb (p1 + 1) (by omega)) (by decide)) (by decide) e1
    have f2 := nI_inj (Nat.lt_trans (hb (p1 + 2) (by omega)) (by decide)) (by decide) e2
    have f3 := nI_inj (Nat.lt_trans (hb (p1 + 3) (by omega)) (by decide)) (by decide) e3
    simp only [wN]
    rw [f0, f1, f2, f3]
theorem kw_2 {tx : Nat → Nat} {len p1 : Nat} (hp : p1 ≤ len) (hb : ∀ j, j < len → tx j < 256) : wordV tx p1 (soN tx len p1) (tokE tx len p1 - p1) = 27985222756885874 ↔ isW 2 tx p1 (runTo isL tx len p1) = true := by
  have hL := runTo_le isL tx hp
  have hd : ∀ j, j < (runTo isL tx len p1) - p1 → 97 ≤ tx (p1 + j) ∧ tx (p1 + j) ≤ 122 := fun j hj => isL_b (run_all isL tx hp j hj)
  have hW : isW 2 tx p1 (runTo isL tx len p1) = (decide ((runTo isL tx len p1) - p1 = 7) && (decide (nI (tx (p1 + 0)) = nI 99) && (decide (nI (tx (p1 + 1)) = nI 108) && (decide (nI (tx (p1 + 2)) = nI 105) && (decide (nI (tx (p1 + 3)) = nI 109) && (decide (nI (tx (p1 + 4)) = nI 98) && (decide (nI (tx (p1 + 5)) = nI 101) && (decide (nI (tx (p1 + 6)) = nI 114) && true)))))))) := rfl
  rw [hW]
  simp only [Bool.and_eq_true, decide_eq_true_eq, and_true]
  constructor
  · intro hw
    unfold wordV at hw
    by_cases q : soN tx len p1 = 1 ∧ tokE tx len p1 - p1 < 8
    · rw [if_pos q, tokE_1 q.1] at hw
      obtain ⟨k0, hk0, hw0, ht0⟩ := wN_d 109317276394085 114 hd hw (by decide) (by decide)
      obtain ⟨k1, hk1, hw1, ht1⟩ := wN_d 427020610914 101 (fun j hj => hd j (by omega)) hw0 (by decide) (by decide)
      obtain ⟨k2, hk2, hw2, ht2⟩ := wN_d 1668049261 98 (fun j hj => hd j (by omega)) hw1 (by decide) (by decide)
      obtain ⟨k3, hk3, hw3, ht3⟩ := wN_d 6515817 109 (fun j hj => hd j (by omega)) hw2 (by decide) (by decide)
      obtain ⟨k4, hk4, hw4, ht4⟩ := wN_d 25452 105 (fun j hj => hd j (by omega)) hw3 (by decide) (by decide)
      obtain ⟨k5, hk5, hw5, ht5⟩ := wN_d 99 108 (fun j hj => hd j (by omega)) hw4 (by decide) (by decide)
      obtain ⟨k6, hk6, hw6, ht6⟩ := wN_d 0 99 (fun j hj => hd j (by omega)) hw5 (by decide) (by decide)
      have hz := wN_0 (fun j hj => hd j (by omega)) hw6
      subst hz
      have hs : (runTo isL tx len p1) - p1 = 7 := by omega
      rw [show k0 = 6 by omega] at ht0
      rw [show k1 = 5 by omega] at ht1
      rw [show k2 = 4 by omega] at ht2
      rw [show k3 = 3 by omega] at ht3
      rw [show k4 = 2 by omega] at ht4
      rw [show k5 = 1 by omega] at ht5
      skip
      exact ⟨hs, congrArg nI ht6, congrArg nI ht5, congrArg nI ht4, congrArg nI ht3, congrArg nI ht2, congrArg nI ht1, congrArg nI ht0⟩
    · rw [if_neg q] at hw; exact absurd hw (by decide)
  · rintro ⟨hs, e0, e1, e2, e3, e4, e5, e6⟩
    have hl1 : p1 < len := by omega
    have h1 : soN tx len p1 = 1 := soN_1.mpr ⟨hl1, by have := run_all isL tx hp 0 (by omega); rwa [Nat.add_zero] at this⟩
    unfold wordV
    rw [tokE_1 h1, hs, if_pos ⟨h1, by decide⟩]
    have f0 := nI_inj (Nat.lt_trans (hb (p1 + 0) (by omega)) (by decide)) (by decide) e0
    have f1 := nI_inj (Nat.lt_trans (hb (p1 + 1) (by omega)) (by decide)) (by decide) e1
    have f2 := nI_inj (Nat.lt_trans (hb (p1 + 2) (by omega)) (by decide)) (by decide) e2
    have f3 := nI_inj (Nat.lt_trans (hb (p1 + 3) (by omega)) (by decide)) (by decide) e3
    have f4 := nI_inj (Nat.lt_trans (hb (p1 + 4) (by omega)) (by decide)) (by decide) e4
    have f5 := nI_inj (Nat.lt_trans (hb (p1 + 5) (by omega)) (by decide)) (by decide) e5
    have f6 := nI_inj (Nat.lt_trans (hb (p1 + 6) (by omega)) (by decide)) (by decide) e6
    simp only [wN]
    rw [f0, f1, f2, f3, f4, f5, f6]
theorem kw_3 {tx : Nat → Nat} {len p1 : Nat} (hp : p1 ≤ len) (hb : ∀ j, j < len → tx j < 256) : wordV tx p1 (soN tx len p1) (tokE tx len p1 - p1) = 6840685 ↔ isW 3 tx p1 (runTo isL tx len p1) = true := by
  have hL := runTo_le isL tx hp
  have hd : ∀ j, j < (runTo isL tx len p1) - p1 → 97 ≤ tx (p1 + j) ∧ tx (p1 + j) ≤ 122 := fun j hj => isL_b (run_all isL tx hp j hj)
  have hW : isW 3 tx p1 (runTo isL tx len p1) = (decide ((runTo isL tx len p1) - p1 = 3) && (decide (nI (tx (p1 + 0)) = nI 104) && (decide (nI (tx (p1 + 1)) = nI 97) && (decide (nI (tx (p1 + 2)) = nI 109) && true)))) := rfl
  rw [hW]
  simp only [Bool.and_eq_true, decide_eq_true_eq, and_true]
  constructor
  · intro hw
    unfold wordV at hw
    by_cases q : soN tx len p1 = 1 ∧ tokE tx len p1 - p1 < 8
    · rw [if_pos q, tokE_1 q.1] at hw
      obtain ⟨k0, hk0, hw0, ht0⟩ := wN_d 26721 109 hd hw (by decide) (by decide)
      obtain ⟨k1, hk1, hw1, ht1⟩ := wN_d 104 97 (fun j hj => hd j (by omega)) hw0 (by decide) (by decide)
      obtain ⟨k2, hk2, hw2, ht2⟩ := wN_d 0 104 (fun j hj => hd j (by omega)) hw1 (by decide) (by decide)
      have hz := wN_0 (fun j hj => hd j (by omega)) hw2
      subst hz
      have hs : (runTo isL tx len p1) - p1 = 3 := by omega
      rw [show k0 = 2 by omega] at ht0
      rw [show k1 = 1 by omega] at ht1
      skip
      exact ⟨hs, congrArg nI ht2, congrArg nI ht1, congrArg nI ht0⟩
    · rw [if_neg q] at hw; exact absurd hw (by decide)
  · rintro ⟨hs, e0, e1, e2⟩
    have hl1 : p1 < len := by omega
    have h1 : soN tx len p1 = 1 := soN_1.mpr ⟨hl1, by have := run_all isL tx hp 0 (by omega); rwa [Nat.add_zero] at this⟩
    unfold wordV
    rw [tokE_1 h1, hs, if_pos ⟨h1, by decide⟩]
    have f0 := nI_inj (Nat.lt_trans (hb (p1 + 0) (by omega)) (by decide)) (by decide) e0
    have f1 := nI_inj (Nat.lt_trans (hb (p1 + 1) (by omega)) (by decide)) (by decide) e1
    have f2 := nI_inj (Nat.lt_trans (hb (p1 + 2) (by omega)) (by decide)) (by decide) e2
    simp only [wN]
    rw [f0, f1, f2]
theorem kw_4 {tx : Nat → Nat} {len p1 : Nat} (hp : p1 ≤ len) (hb : ∀ j, j < len → tx j < 256) : wordV tx p1 (soN tx len p1) (tokE tx len p1 - p1) = 7566702 ↔ isW 4 tx p1 (runTo isL tx len p1) = true := by
  have hL := runTo_le isL tx hp
  have hd : ∀ j, j < (runTo isL tx len p1) - p1 → 97 ≤ tx (p1 + j) ∧ tx (p1 + j) ≤ 122 := fun j hj => isL_b (run_all isL tx hp j hj)
  have hW : isW 4 tx p1 (runTo isL tx len p1) = (decide ((runTo isL tx len p1) - p1 = 3) && (decide (nI (tx (p1 + 0)) = nI 115) && (decide (nI (tx (p1 + 1)) = nI 117) && (decide (nI (tx (p1 + 2)) = nI 110) && true)))) := rfl
  rw [hW]
  simp only [Bool.and_eq_true, decide_eq_true_eq, and_true]
  constructor
  · intro hw
    unfold wordV at hw
    by_cases q : soN tx len p1 = 1 ∧ tokE tx len p1 - p1 < 8
    · rw [if_pos q, tokE_1 q.1] at hw
      obtain ⟨k0, hk0, hw0, ht0⟩ := wN_d 29557 110 hd hw (by decide) (by decide)
      obtain ⟨k1, hk1, hw1, ht1⟩ := wN_d 115 117 (fun j hj => hd j (by omega)) hw0 (by decide) (by decide)
      obtain ⟨k2, hk2, hw2, ht2⟩ := wN_d 0 115 (fun j hj => hd j (by omega)) hw1 (by decide) (by decide)
      have hz := wN_0 (fun j hj => hd j (by omega)) hw2
      subst hz
      have hs : (runTo isL tx len p1) - p1 = 3 := by omega
      rw [show k0 = 2 by omega] at ht0
      rw [show k1 = 1 by omega] at ht1
      skip
      exact ⟨hs, congrArg nI ht2, congrArg nI ht1, congrArg nI ht0⟩
    · rw [if_neg q] at hw; exact absurd hw (by decide)
  · rintro ⟨hs, e0, e1, e2⟩
    have hl1 : p1 < len := by omega
    have h1 : soN tx len p1 = 1 := soN_1.mpr ⟨hl1, by have := run_all isL tx hp 0 (by omega); rwa [Nat.add_zero] at this⟩
    unfold wordV
    rw [tokE_1 h1, hs, if_pos ⟨h1, by decide⟩]
    have f0 := nI_inj (Nat.lt_trans (hb (p1 + 0) (by omega)) (by decide)) (by decide) e0
    have f1 := nI_inj (Nat.lt_trans (hb (p1 + 1) (by omega)) (by decide)) (by decide) e1
    have f2 := nI_inj (Nat.lt_trans (hb (p1 + 2) (by omega)) (by decide)) (by decide) e2
    simp only [wN]
    rw [f0, f1, f2]
