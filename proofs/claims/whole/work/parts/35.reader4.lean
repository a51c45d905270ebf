theorem x_up {fn : Nat → Int32} {x : Nat → Nat} {i v : Nat} (h : ∀ j, j < i → fn j = nI (x j)) : ∀ j, j < i + 1 → upd fn i (nI v) j = nI (nup x i v j) := fun j hj => by
  unfold upd nup
  by_cases e : j = i
  · rw [if_pos e, if_pos e]
  · rw [if_neg e, if_neg e]
    exact h j (by omega)
/-! Reader of the class: a clause, the whole text -/
theorem numR_f {tx : Nat → Nat} {len k i F pos : Nat} {ft : Nat → Bool} {f : Nat × Nat} (h : numR tx len k i F ft pos = .inl f) : ¬ nI f.1 = 0 := by
  unfold numR at h
  split at h
  · cases h; exact (by decide : ¬ nI 1 = 0)
  · split at h
    · cases h; exact (by decide : ¬ nI 2 = 0)
    · split at h
      · cases h; exact (by decide : ¬ nI 4 = 0)
      · cases h
theorem numR_ok {tx : Nat → Nat} {len k i F pos v p : Nat} {ft : Nat → Bool} (hp : pos ≤ len) (h : numR tx len k i F ft pos = .inr (v, p)) : pos ≤ p ∧ p ≤ len ∧ loN k i ≤ v ∧ v ≤ hiN k i F ∧ (k = 2 ∧ i = 0 → ft v = false) := by
  have h1 := runTo_le isB tx hp
  have h2 := runTo_le isD tx h1.2
  unfold numR at h
  split at h
  · cases h
  · split at h
    · cases h
    · split at h
      · cases h
      · rename_i _ a b
        cases h
        refine ⟨by omega, by omega, by omega, by omega, fun z => ?_⟩
        cases hf : ft (numV tx (runTo isB tx len pos) (runTo isD tx len (runTo isB tx len pos) - runTo isB tx len pos)) with
        | false => rfl
        | true => exact absurd ⟨z.1, z.2, hf⟩ b
theorem endR_f {tx : Nat → Nat} {len pos : Nat} {f : Nat × Nat} (h : endR tx len pos = .inl f) : ¬ nI f.1 = 0 := by
  unfold endR at h
  split at h
  · cases h
  · cases h; exact (by decide : ¬ nI 1 = 0)
theorem endR_ok {tx : Nat → Nat} {len pos p : Nat} (hp : pos ≤ len) (h : endR tx len pos = .inr p) : pos < p ∧ p ≤ len := by
  have h1 := runTo_le isB tx hp
  unfold endR at h
  split at h
  · rename_i e
    cases h
    unfold bN at e
    split at e
    · omega
    · exact absurd e (by decide)
  · cases h
theorem numsR_f {tx : Nat → Nat} {len k F : Nat} {ft : Nat → Bool} : ∀ (n i pos : Nat) (x : Nat → Nat) (f : Nat × Nat), numsR tx len k F ft n i pos x = .inl f → ¬ nI f.1 = 0
  | 0, i, pos, x, f, h => by
    rw [numsR] at h
    cases he : endR tx len pos with
    | inl g => rw [he] at h; cases h; exact endR_f he
    | inr p => rw [he] at h; cases h
  | n + 1, i, pos, x, f, h => by
    rw [numsR] at h
    cases he : numR tx len k i F ft pos with
    | inl g => rw [he] at h; cases h; exact numR_f he
    | inr u => rw [he] at h; exact numsR_f n (i + 1) u.2 (nup x i u.1) f h
theorem numsR_ok {tx : Nat → Nat} {len k F : Nat} {ft : Nat → Bool} : ∀ (n i pos : Nat) (x x2 : Nat → Nat) (p : Nat), pos ≤ len → numsR tx len k F ft n i pos x = .inr (x2, p) → pos < p ∧ p ≤ len ∧ (∀ j, j < i → x2 j = x j) ∧ ∀ j, i ≤ j → j < i + n → loN k j ≤ x2 j ∧ x2 j ≤ hiN k j F ∧ (k = 2 ∧ j = 0 → ft (x2 j) = false)
  | 0, i, pos, x, x2, p, hp, h => by
    rw [numsR] at h
    cases he : endR tx len pos with
    | inl g => rw [he] at h; cases h
    | inr q =>
      rw [he] at h
      cases h
      have := endR_ok hp he
      exact ⟨this.1, this.2, fun _ _ => rfl, fun j h1 h2 => by omega⟩
  | n + 1, i, pos, x, x2, p, hp, h => by
    rw [numsR] at h
    cases he : numR tx len k i F ft pos with
    | inl g => rw [he] at h; cases h
    | inr u =>
      rw [he] at h
      have h1 := numR_ok hp he
      have h2 := numsR_ok n (i + 1) u.2 (nup x i u.1) x2 p h1.2.1 h
      have h3 : x2 i = u.1 := (h2.2.2.1 i (by omega)).trans (nup_s _ _ _)
      refine ⟨by omega, h2.2.1, fun j hj => (h2.2.2.1 j (by omega)).trans (nup_n _ (by omega) _), fun j hj1 hj2 => ?_⟩
      by_cases e : j = i
      · subst e
        rw [h3]
        exact h1.2.2
      · exact h2.2.2.2 j (by omega) (by omega)
theorem c_X2_take (sk : Nat → Nat) {rh rt rf rn pl ps pw pa pr fc k : Nat} {ln ai fa0 fp : Int32} {hm sn : Bool} {fF fn fs fw fa fr : Nat → Int32} {T x : Nat → Nat} {ft : Nat → Bool} (hk : k = 1 ∨ k = 2 ∨ k = 3 ∨ k = 4 ∨ k = 5) (hP : PlR T fs fw fa fr) (hft : ∀ j, j < 30 → fF j = zb (ft j)) (hx0 : fn 0 = nI (x 0)) (hx1 : fn 1 = nI (x 1)) (hx2 : k = 3 → fn 2 = nI (x 2)) (hC6 : T 1 ≤ 6) (hb1 : k = 1 → (1 ≤ x 0 ∧ x 0 ≤ 30) ∧ x 1 ≤ 99) (hb2 : k = 2 → x 0 < 30 ∧ x 1 ≤ 99) (hb3 : k = 3 → T 1 < 6) : Ct sk yX2_take cX2_take 5 none 1 0 0 [oReader rh rt rf rn ln ai fa0 fp (nI fc) (decide (0 < T 0)) hm sn, cZ rf 30 fF, cI rn 3 fn, oPlan pl ps pw pa pr (nI (T 0)) (nI (T 1)) (nI (T 2)) (nI (T 3)) (nI (T 4)) (nI (T 5)), cI ps 30 fs, cI pw 6 fw, cI pa 6 fa, cI pr 6 fr] [.ref rh, .int (nI k), .ref pl] (fun q w1 => q = none ∧ ∃ fF2 fs2 fw2 fa2 fr2 : Nat → Int32, w1 = [oReader rh rt rf rn ln ai fa0 fp (nI (takeQ k x (T, ft, fc, hm, sn)).2.2.1) (decide (0 < (takeQ k x (T, ft, fc, hm, sn)).1 0)) (takeQ k x (T, ft, fc, hm, sn)).2.2.2.1 (takeQ k x (T, ft, fc, hm, sn)).2.2.2.2, cZ rf 30 fF2, cI rn 3 fn, oPlan pl ps pw pa pr (nI ((takeQ k x (T, ft, fc, hm, sn)).1 0)) (nI ((takeQ k x (T, ft, fc, hm, sn)).1 1)) (nI ((takeQ k x (T, ft, fc, hm, sn)).1 2)) (nI ((takeQ k x (T, ft, fc, hm, sn)).1 3)) (nI ((takeQ k x (T, ft, fc, hm, sn)).1 4)) (nI ((takeQ k x (T, ft, fc, hm, sn)).1 5)), cI ps 30 fs2, cI pw 6 fw2, cI pa 6 fa2, cI pr 6 fr2] ∧ PlR (takeQ k x (T, ft, fc, hm, sn)).1 fs2 fw2 fa2 fr2 ∧ ∀ j, j < 30 → fF2 j = zb ((takeQ k x (T, ft, fc, hm, sn)).2.1 j)) := by
  rcases hk with rfl | rfl | rfl | rfl | rfl
  · exact c_take_1 sk hP hft hx0 hC6 hx1 (hb1 rfl).1 (hb1 rfl).2
  · exact c_take_2 sk hP hft hx0 hC6 hx1 (hb2 rfl).1 (hb2 rfl).2
  · exact c_take_3 sk hP hft hx0 hC6 hx1 (hx2 rfl) (hb3 rfl)
  · exact c_take_4 sk hP hft hx0 hC6 hx1
  · exact c_take_5 sk hP hft hx0 hC6 hx1
theorem c_X2_tooOften (sk : Nat → Nat) {rh rt rf rn fc pl ps pw pa pr k : Nat} {ln ai fa0 fp : Int32} {hm sn : Bool} {T : Nat → Nat} {ft : Nat → Bool} (hk : k = 1 ∨ k = 2 ∨ k = 3 ∨ k = 4 ∨ k = 5) (hfc : fc < 1000) (hC : T 1 < 1000) : Ct sk yX2_isTooOften cX2_isTooOften 3 (some .boolean) 0 0 0 [oReader rh rt rf rn ln ai fa0 fp (nI fc) (decide (0 < T 0)) hm sn, oPlan pl ps pw pa pr (nI (T 0)) (nI (T 1)) (nI (T 2)) (nI (T 3)) (nI (T 4)) (nI (T 5))] [.ref rh, .int (nI k), .ref pl] (zD (some (.int (zb (tooB k (T, ft, fc, hm, sn))))) [oReader rh rt rf rn ln ai fa0 fp (nI fc) (decide (0 < T 0)) hm sn, oPlan pl ps pw pa pr (nI (T 0)) (nI (T 1)) (nI (T 2)) (nI (T 3)) (nI (T 4)) (nI (T 5))]) := by
  rcases hk with rfl | rfl | rfl | rfl | rfl
  · exact c_tooOften_1 sk hfc hC
  · exact c_tooOften_2 sk hfc hC
  · exact c_tooOften_3 sk hfc hC
  · exact c_tooOften_4 sk hfc hC
  · exact c_tooOften_5 sk hfc hC
set_option maxRecDepth 20000 in
theorem lp_clauseF (sk : Nat → Nat) {rh rt rf rn len fc k cnt first pl ps pw pa pr : Nat} {fp : Int32} {hm sn : Bool} {tx : Nat → Nat} {fb fF fs fw fa fr : Nat → Int32} {T : Nat → Nat} {ft : Nat → Bool} {i : Nat} {ai fa1 fp1 : Int32} {fn : Nat → Int32} {Ψ : PS} (hc : cnt ≤ 3) (hi3 : i ≤ 3) (hfa : ¬ fa1 = 0) (hΨ : Ψ none [oReader rh rt rf rn (nI len) ai fa1 fp1 (nI fc) (decide (0 < T 0)) hm sn, cB rt 400 fb, cZ rf 30 fF, cI rn 3 fn, oPlan pl ps pw pa pr (nI (T 0)) (nI (T 1)) (nI (T 2)) (nI (T 3)) (nI (T 4)) (nI (T 5)), cI ps 30 fs, cI pw 6 fw, cI pa 6 fa, cI pr 6 fr]) : GG sk RX2 yX2_readClause cX2_readClause 6 none 7 0 0 Ψ 0 0 73 [some (.ref rh), some (.ref pl), some (.int (nI first)), some (.int (nI k)), some (.int (nI cnt)), some (.int (nI i))] [] [oReader rh rt rf rn (nI len) ai fa1 fp1 (nI fc) (decide (0 < T 0)) hm sn, cB rt 400 fb, cZ rf 30 fF, cI rn 3 fn, oPlan pl ps pw pa pr (nI (T 0)) (nI (T 1)) (nI (T 2)) (nI (T 3)) (nI (T 4)) (nI (T 5)), cI ps 30 fs, cI pw 6 fw, cI pa 6 fa, cI pr 6 fr] := by
  refine g_iload dX2_readClause_73 rfl rfl ?_
  refine g_iload dX2_readClause_75 rfl rfl ?_
  refine g_icmp_geN (t := 111) dX2_readClause_77 (by decide) rfl (by omega) (by omega) (fun h77 => ?_) (fun h77 => ?_)
  · skip
    refine g_aload_n dX2_readClause_111 rfl rfl ?_
    refine g_callV (c_X2_readEndF sk (tx := tx) hfa) m_X2_83 a_X2_readEnd dX2_readClause_112 rfl [0, 1] rfl rfl 0 rfl rfl rfl (by decide) (by decide) (by decide) (by decide) (Nat.le_of_ble_eq_true rfl) (fun r w hK => ?_)
    obtain ⟨rfl, rfl⟩ := hK
    refine ⟨rfl, ?_⟩
    dsimp only [puts, List.set, Option.toList, List.cons_append, List.nil_append, List.append_nil]
    refine g_aload_n dX2_readClause_115 rfl rfl ?_
    refine g_get f_X2_41 dX2_readClause_116 rfl 0 rfl rfl ?_
    refine g_if_ne (t := 128) dX2_readClause_119 (by decide) rfl (fun h119 => ?_) (fun h119 => ?_)
    · skip
      exact g_vret dX2_readClause_128 rfl (Nat.le_refl _) (Nat.le_refl _) (hΨ)
    · exact absurd h119 hfa
  · skip
    refine g_iload dX2_readClause_80 rfl rfl ?_
    refine g_aload_n dX2_readClause_82 rfl rfl ?_
    refine g_get f_X2_19 dX2_readClause_83 rfl 0 rfl rfl ?_
    refine g_alen dX2_readClause_86 rfl 3 rfl (Nat.le_of_ble_eq_true rfl) rfl ?_
    refine g_icmp_geN (t := 111) dX2_readClause_87 (by decide) rfl (by omega) (by omega) (fun h87 => ?_) (fun h87 => ?_)
    · skip
      refine g_aload_n dX2_readClause_111 rfl rfl ?_
      refine g_callV (c_X2_readEndF sk (tx := tx) hfa) m_X2_83 a_X2_readEnd dX2_readClause_112 rfl [0, 1] rfl rfl 0 rfl rfl rfl (by decide) (by decide) (by decide) (by decide) (Nat.le_of_ble_eq_true rfl) (fun r w hK => ?_)
      obtain ⟨rfl, rfl⟩ := hK
      refine ⟨rfl, ?_⟩
      dsimp only [puts, List.set, Option.toList, List.cons_append, List.nil_append, List.append_nil]
      refine g_aload_n dX2_readClause_115 rfl rfl ?_
      refine g_get f_X2_41 dX2_readClause_116 rfl 0 rfl rfl ?_
      refine g_if_ne (t := 128) dX2_readClause_119 (by decide) rfl (fun h119 => ?_) (fun h119 => ?_)
      · skip
        exact g_vret dX2_readClause_128 rfl (Nat.le_refl _) (Nat.le_refl _) (hΨ)
      · exact absurd h119 hfa
    · skip
      refine g_aload_n dX2_readClause_90 rfl rfl ?_
      refine g_get f_X2_41 dX2_readClause_91 rfl 0 rfl rfl ?_
      refine g_if_ne (t := 111) dX2_readClause_94 (by decide) rfl (fun h94 => ?_) (fun h94 => ?_)
      · skip
        refine g_aload_n dX2_readClause_111 rfl rfl ?_
        refine g_callV (c_X2_readEndF sk (tx := tx) hfa) m_X2_83 a_X2_readEnd dX2_readClause_112 rfl [0, 1] rfl rfl 0 rfl rfl rfl (by decide) (by decide) (by decide) (by decide) (Nat.le_of_ble_eq_true rfl) (fun r w hK => ?_)
        obtain ⟨rfl, rfl⟩ := hK
        refine ⟨rfl, ?_⟩
        dsimp only [puts, List.set, Option.toList, List.cons_append, List.nil_append, List.append_nil]
        refine g_aload_n dX2_readClause_115 rfl rfl ?_
        refine g_get f_X2_41 dX2_readClause_116 rfl 0 rfl rfl ?_
        refine g_if_ne (t := 128) dX2_readClause_119 (by decide) rfl (fun h119 => ?_) (fun h119 => ?_)
        · skip
          exact g_vret dX2_readClause_128 rfl (Nat.le_refl _) (Nat.le_refl _) (hΨ)
        · exact absurd h119 hfa
      · exact absurd h94 hfa
set_option maxRecDepth 20000 in
theorem lp_clauseN (sk : Nat → Nat) {rh rt rf rn len fc k cnt first pl ps pw pa pr : Nat} {fp : Int32} {hm sn : Bool} {tx : Nat → Nat} {fb fF fs fw fa fr : Nat → Int32} {T : Nat → Nat} {ft : Nat → Bool} {res : (Nat × Nat) ⊕ ((Nat → Nat) × Nat)} {Ψ : PS} (hlen : len ≤ 400) (htx : ∀ j, j < len → fb j = (nI (tx j)).toInt8.toInt32 ∧ tx j < 256) (hk : k = 1 ∨ k = 2 ∨ k = 3 ∨ k = 4 ∨ k = 5) (hk1 : k = 1 ∨ 1 ≤ T 0) (hT30 : T 0 ≤ 30) (hft : ∀ j, j < 30 → fF j = zb (ft j)) (hc : cnt ≤ 3) (hE : ∀ (x2 : Nat → Nat) (p2 : Nat) (fn2 : Nat → Int32), res = .inr (x2, p2) → (∀ j, j < cnt → fn2 j = nI (x2 j)) → GG sk RX2 yX2_readClause cX2_readClause 6 none 7 0 0 Ψ 0 0 122 [some (.ref rh), some (.ref pl), some (.int (nI first)), some (.int (nI k)), some (.int (nI cnt)), none] [] [oReader rh rt rf rn (nI len) (nI p2) (nI 0) fp (nI fc) (decide (0 < T 0)) hm sn, cB rt 400 fb, cZ rf 30 fF, cI rn 3 fn2, oPlan pl ps pw pa pr (nI (T 0)) (nI (T 1)) (nI (T 2)) (nI (T 3)) (nI (T 4)) (nI (T 5)), cI ps 30 fs, cI pw 6 fw, cI pa 6 fa, cI pr 6 fr]) (hF : ∀ (f : Nat × Nat) (a : Nat) (fn2 : Nat → Int32), a ≤ len → res = .inl f → Ψ none [oReader rh rt rf rn (nI len) (nI a) (nI f.1) (nI f.2) (nI fc) (decide (0 < T 0)) hm sn, cB rt 400 fb, cZ rf 30 fF, cI rn 3 fn2, oPlan pl ps pw pa pr (nI (T 0)) (nI (T 1)) (nI (T 2)) (nI (T 3)) (nI (T 4)) (nI (T 5)), cI ps 30 fs, cI pw 6 fw, cI pa 6 fa, cI pr 6 fr]) : ∀ (n i pos : Nat) (x : Nat → Nat) (fn : Nat → Int32), i + n = cnt → pos ≤ len → (∀ j, j < i → fn j = nI (x j)) → numsR tx len k (T 0) ft n i pos x = res → GG sk RX2 yX2_readClause cX2_readClause 6 none 7 0 0 Ψ 0 0 73 [some (.ref rh), some (.ref pl), some (.int (nI first)), some (.int (nI k)), some (.int (nI cnt)), some (.int (nI i))] [] [oReader rh rt rf rn (nI len) (nI pos) (nI 0) fp (nI fc) (decide (0 < T 0)) hm sn, cB rt 400 fb, cZ rf 30 fF, cI rn 3 fn, oPlan pl ps pw pa pr (nI (T 0)) (nI (T 1)) (nI (T 2)) (nI (T 3)) (nI (T 4)) (nI (T 5)), cI ps 30 fs, cI pw 6 fw, cI pa 6 fa, cI pr 6 fr] := by
  intro n
  induction n with
  | zero =>
    intro i pos x fn hi hp hx hres
    rw [numsR] at hres
    refine g_iload dX2_readClause_73 rfl rfl ?_
    refine g_iload dX2_readClause_75 rfl rfl ?_
    refine g_icmp_geN (t := 111) dX2_readClause_77 (by decide) rfl (by omega) (by omega) (fun h77 => ?_) (fun h77 => ?_)
    · skip
      refine g_aload_n dX2_readClause_111 rfl rfl ?_
      refine g_callV (c_X2_readEnd sk hlen htx hp) m_X2_83 a_X2_readEnd dX2_readClause_112 rfl [0, 1] rfl rfl 0 rfl rfl rfl (by decide) (by decide) (by decide) (by decide) (Nat.le_of_ble_eq_true rfl) (fun r w hK => ?_)
      obtain ⟨rfl, hK⟩ := hK
      cases hend : endR tx len pos with
      | inl f =>
        rw [hend] at hK hres
        obtain ⟨a1, ha1, rfl⟩ := hK
        refine ⟨rfl, ?_⟩
        dsimp only [puts, List.set, Option.toList, List.cons_append, List.nil_append, List.append_nil]
        refine g_aload_n dX2_readClause_115 rfl rfl ?_
        refine g_get f_X2_41 dX2_readClause_116 rfl 0 rfl rfl ?_
        refine g_if_ne (t := 128) dX2_readClause_119 (by decide) rfl (fun _ => ?_) (fun h => absurd h (endR_f hend))
        exact g_vret dX2_readClause_128 rfl (Nat.le_refl _) (Nat.le_refl _) (hF f a1 _ ha1 hres.symm)
      | inr u =>
        rw [hend] at hK hres
        subst hK
        refine ⟨rfl, ?_⟩
        dsimp only [puts, List.set, Option.toList, List.cons_append, List.nil_append, List.append_nil]
        refine g_aload_n dX2_readClause_115 rfl rfl ?_
        refine g_get f_X2_41 dX2_readClause_116 rfl 0 rfl rfl ?_
        refine g_if_ne (t := 128) dX2_readClause_119 (by decide) rfl (fun h => absurd rfl h) (fun _ => ?_)
        refine g_drop 5 rfl ?_
        exact hE x u _ hres.symm (fun j hj => hx j (by omega))
    · exact absurd h77 (by omega)
  | succ n ih =>
    intro i pos x fn hi hp hx hres
    rw [numsR] at hres
    refine g_iload dX2_readClause_73 rfl rfl ?_
    refine g_iload dX2_readClause_75 rfl rfl ?_
    refine g_icmp_geN (t := 111) dX2_readClause_77 (by decide) rfl (by omega) (by omega) (fun h77 => ?_) (fun h77 => ?_)
    · exact absurd h77 (by omega)
    · skip
      refine g_iload dX2_readClause_80 rfl rfl ?_
      refine g_aload_n dX2_readClause_82 rfl rfl ?_
      refine g_get f_X2_19 dX2_readClause_83 rfl 0 rfl rfl ?_
      refine g_alen dX2_readClause_86 rfl 3 rfl (Nat.le_of_ble_eq_true rfl) rfl ?_
      refine g_icmp_geN (t := 111) dX2_readClause_87 (by decide) rfl (by omega) (by omega) (fun h87 => ?_) (fun h87 => ?_)
      · exact absurd h87 (by show ¬ 3 ≤ i; omega)
      · skip
        refine g_aload_n dX2_readClause_90 rfl rfl ?_
        refine g_get f_X2_41 dX2_readClause_91 rfl 0 rfl rfl ?_
        refine g_if_ne (t := 111) dX2_readClause_94 (by decide) rfl (fun h94 => ?_) (fun h94 => ?_)
        · exact absurd rfl h94
        · skip
          refine g_aload_n dX2_readClause_97 rfl rfl ?_
          refine g_iload_n dX2_readClause_98 rfl rfl ?_
          refine g_iload dX2_readClause_99 rfl rfl ?_
          refine g_aload_n dX2_readClause_101 rfl rfl ?_
          refine g_callV (c_X2_readNumber sk hlen htx hk (show i = 0 ∨ i = 1 ∨ i = 2 by omega) (show k = 1 ∨ 1 ≤ T 0 from hk1) hT30 hft hp) m_X2_79 a_X2_readNumber dX2_readClause_102 rfl [0, 1, 2, 3, 4] rfl rfl 0 rfl rfl rfl (by decide) (by decide) (by decide) (by decide) (Nat.le_of_ble_eq_true rfl) (fun r w hK => ?_)
          obtain ⟨rfl, hK⟩ := hK
          cases hnum : numR tx len k i (T 0) ft pos with
          | inl f =>
            rw [hnum] at hK hres
            obtain ⟨a1, ha1, rfl⟩ := hK
            refine ⟨rfl, ?_⟩
            dsimp only [puts, List.set, Option.toList, List.cons_append, List.nil_append, List.append_nil]
            refine g_iinc dX2_readClause_105 rfl rfl (nI_1 _) (by decide) rfl rfl ?_
            refine g_goto (q := 73) dX2_readClause_108 (by decide) ?_
            exact lp_clauseF sk (tx := tx) (ft := ft) (fp := fp) hc (by omega) (numR_f hnum) (hF f a1 _ ha1 hres.symm)
          | inr u =>
            rw [hnum] at hK hres
            subst hK
            refine ⟨rfl, ?_⟩
            dsimp only [puts, List.set, Option.toList, List.cons_append, List.nil_append, List.append_nil]
            refine g_iinc dX2_readClause_105 rfl rfl (nI_1 _) (by decide) rfl rfl ?_
            refine g_goto (q := 73) dX2_readClause_108 (by decide) ?_
            exact ih (i + 1) u.2 (nup x i u.1) _ (by omega) (numR_ok hp hnum).2.1 (fun j hj => x_up hx j hj) hres
theorem xb_clause {tx x x0 : Nat → Nat} {len k F pos p cnt : Nat} {ft : Nat → Bool} (hp : pos ≤ len) (hF : F ≤ 30) (hk1 : k = 1 ∨ 1 ≤ F) (hc : cnt = if k = 3 then 3 else 2) (h : numsR tx len k F ft cnt 0 pos x0 = .inr (x, p)) : (k = 1 → (1 ≤ x 0 ∧ x 0 ≤ 30) ∧ x 1 ≤ 99) ∧ (k = 2 → x 0 < F ∧ x 1 ≤ 99 ∧ ft (x 0) = false) ∧ (k = 3 → x 0 ≤ 99 ∧ x 1 ≤ 999 ∧ x 2 ≤ 20) ∧ (k = 4 → x 0 ≤ 999 ∧ x 1 ≤ 99) ∧ (k = 5 → (1 ≤ x 0 ∧ x 0 ≤ 20) ∧ x 1 ≤ 9) := by
  have h1 := (numsR_ok cnt 0 pos x0 x p hp h).2.2.2
  have hc2 : 2 ≤ cnt := by
    rw [hc]
    split <;> omega
  have a0 := h1 0 (by omega) (by omega)
  have a1 := h1 1 (by omega) (by omega)
  refine ⟨?_, ?_, ?_, ?_, ?_⟩
  · rintro rfl
    exact ⟨⟨a0.1, a0.2.1⟩, a1.2.1⟩
  · rintro rfl
    have b : x 0 ≤ F - 1 := a0.2.1
    exact ⟨by omega, a1.2.1, a0.2.2 ⟨rfl, rfl⟩⟩
  · rintro rfl
    have a2 := h1 2 (by omega) (by rw [hc, if_pos rfl]; omega)
    exact ⟨a0.2.1, a1.2.1, a2.2.1⟩
  · rintro rfl
    exact ⟨a0.2.1, a1.2.1⟩
  · rintro rfl
    exact ⟨⟨a0.1, a0.2.1⟩, a1.2.1⟩
abbrev RW : Type := Int32 → Int32 → Int32 → QS → (Nat → Int32) → (Nat → Int32) → (Nat → Int32) → (Nat → Int32) → (Nat → Int32) → (Nat → Int32) → AW
def clQ (len : Nat) (res : (Nat × Nat) ⊕ (QS × Nat)) (W : RW) (fp : Int32) (q0 : QS) (fF fs fw fa fr : Nat → Int32) : PS := fun q w1 => q = none ∧ match res with
  | .inl f => ∃ (a : Nat) (fn : Nat → Int32), a ≤ len ∧ w1 = W (nI a) (nI f.1) (nI f.2) q0 fF fn fs fw fa fr
  | .inr u => ∃ fF2 fn2 fs2 fw2 fa2 fr2 : Nat → Int32, w1 = W (nI u.2) (nI 0) fp u.1 fF2 fn2 fs2 fw2 fa2 fr2 ∧ PlR u.1.1 fs2 fw2 fa2 fr2 ∧ ∀ j, j < 30 → fF2 j = zb (u.1.2.1 j)
set_option maxRecDepth 20000 in
theorem lp_clauseT (sk : Nat → Nat) {rh rt rf rn len fc k cnt first pl ps pw pa pr : Nat} {fp : Int32} {hm sn : Bool} {tx : Nat → Nat} {fb fF fs fw fa fr : Nat → Int32} {T x : Nat → Nat} {ft : Nat → Bool} {p : Nat} {l5 : Option Value} {fn : Nat → Int32} (hk : k = 1 ∨ k = 2 ∨ k = 3 ∨ k = 4 ∨ k = 5) (hP : PlR T fs fw fa fr) (hft : ∀ j, j < 30 → fF j = zb (ft j)) (hx0 : fn 0 = nI (x 0)) (hx1 : fn 1 = nI (x 1)) (hx2 : k = 3 → fn 2 = nI (x 2)) (hC6 : T 1 ≤ 6) (hb1 : k = 1 → (1 ≤ x 0 ∧ x 0 ≤ 30) ∧ x 1 ≤ 99) (hb2 : k = 2 → x 0 < 30 ∧ x 1 ≤ 99) (hb3 : k = 3 → T 1 < 6) : GG sk RX2 yX2_readClause cX2_readClause 6 none 7 0 0 (clQ len (.inr (takeQ k x (T, ft, fc, hm, sn), p)) (fun ai fa fp q fF fn fs fw fa_ fr => [oReader rh rt rf rn (nI len) ai fa fp (nI q.2.2.1) (decide (0 < q.1 0)) q.2.2.2.1 q.2.2.2.2, cB rt 400 fb, cZ rf 30 fF, cI rn 3 fn, oPlan pl ps pw pa pr (nI (q.1 0)) (nI (q.1 1)) (nI (q.1 2)) (nI (q.1 3)) (nI (q.1 4)) (nI (q.1 5)), cI ps 30 fs, cI pw 6 fw, cI pa 6 fa_, cI pr 6 fr]) fp (T, ft, fc, hm, sn) fF fs fw fa fr) 0 0 122 [some (.ref rh), some (.ref pl), some (.int (nI first)), some (.int (nI k)), some (.int (nI cnt)), l5] [] [oReader rh rt rf rn (nI len) (nI p) (nI 0) fp (nI fc) (decide (0 < T 0)) hm sn, cB rt 400 fb, cZ rf 30 fF, cI rn 3 fn, oPlan pl ps pw pa pr (nI (T 0)) (nI (T 1)) (nI (T 2)) (nI (T 3)) (nI (T 4)) (nI (T 5)), cI ps 30 fs, cI pw 6 fw, cI pa 6 fa, cI pr 6 fr] := by
  refine g_aload_n dX2_readClause_122 rfl rfl ?_
  refine g_iload_n dX2_readClause_123 rfl rfl ?_
  refine g_aload_n dX2_readClause_124 rfl rfl ?_
  refine g_callV (c_X2_take sk hk hP hft hx0 hx1 hx2 hC6 hb1 hb2 hb3) m_X2_86 a_X2_take dX2_readClause_125 rfl [0, 2, 3, 4, 5, 6, 7, 8] rfl rfl 0 rfl rfl rfl (by decide) (by decide) (by decide) (by decide) (Nat.le_of_ble_eq_true rfl) (fun r w hK => ?_)
  obtain ⟨rfl, fF2, fs2, fw2, fa2, fr2, rfl, hP2, hft2⟩ := hK
  refine ⟨rfl, ?_⟩
  dsimp only [puts, List.set, Option.toList, List.cons_append, List.nil_append, List.append_nil]
  exact g_vret dX2_readClause_128 rfl (Nat.le_refl _) (Nat.le_refl _) (⟨rfl, fF2, fn, fs2, fw2, fa2, fr2, rfl, hP2, hft2⟩)
set_option maxRecDepth 20000 in
theorem c_X2_readClause (sk : Nat → Nat) {rh rt rf rn len fc pl ps pw pa pr : Nat} {fp : Int32} {hm sn : Bool} {tx : Nat → Nat} {fb fF fs fw fa fr : Nat → Int32} {T : Nat → Nat} {ft : Nat → Bool} {p : Nat} {fn : Nat → Int32} {res : (Nat × Nat) ⊕ (QS × Nat)} (hlen : len ≤ 400) (htx : ∀ j, j < len → fb j = (nI (tx j)).toInt8.toInt32 ∧ tx j < 256) (hp : p ≤ len) (hq : QB (T, ft, fc, hm, sn)) (hP : PlR T fs fw fa fr) (hft : ∀ j, j < 30 → fF j = zb (ft j)) (hres : clauseR tx len (T, ft, fc, hm, sn) p = res) : Ct sk yX2_readClause cX2_readClause 6 none 7 0 0 [oReader rh rt rf rn (nI len) (nI p) (nI 0) fp (nI fc) (decide (0 < T 0)) hm sn, cB rt 400 fb, cZ rf 30 fF, cI rn 3 fn, oPlan pl ps pw pa pr (nI (T 0)) (nI (T 1)) (nI (T 2)) (nI (T 3)) (nI (T 4)) (nI (T 5)), cI ps 30 fs, cI pw 6 fw, cI pa 6 fa, cI pr 6 fr] [.ref rh, .ref pl] (clQ len res (fun ai fa fp q fF fn fs fw fa_ fr => [oReader rh rt rf rn (nI len) ai fa fp (nI q.2.2.1) (decide (0 < q.1 0)) q.2.2.2.1 q.2.2.2.2, cB rt 400 fb, cZ rf 30 fF, cI rn 3 fn, oPlan pl ps pw pa pr (nI (q.1 0)) (nI (q.1 1)) (nI (q.1 2)) (nI (q.1 3)) (nI (q.1 4)) (nI (q.1 5)), cI ps 30 fs, cI pw 6 fw, cI pa 6 fa_, cI pr 6 fr]) fp (T, ft, fc, hm, sn) fF fs fw fa fr) := by
  have hfc : fc ≤ 20 := hq.2.2.2.2.2.2.2.2
  have hT1 : T 1 ≤ 6 := hq.2.1
  have hL := runTo_le isL tx hp
  have hk5 := kindN_le tx p (runTo isL tx len p)
  unfold clauseR at hres
  dsimp only at hres
  refine Ct.of (own := RX2) (l := [some (.ref rh), some (.ref pl), none, none, none, none]) (by decide) rfl (Nat.le_of_ble_eq_true rfl) rfl ?_
  refine g_aload_n dX2_readClause_0 rfl rfl ?_
  refine g_get f_X2_44 dX2_readClause_1 rfl 0 rfl rfl ?_
  refine g_istore_n dX2_readClause_4 rfl (by decide) rfl rfl ?_
  refine g_aload_n dX2_readClause_5 rfl rfl ?_
  refine g_callV (c_X2_skipLetters sk hlen htx hp) m_X2_64 a_X2_skipLetters dX2_readClause_6 rfl [0, 1] rfl rfl 0 rfl rfl rfl (by decide) (by decide) (by decide) (by decide) (Nat.le_of_ble_eq_true rfl) (fun r w hK => ?_)
  obtain ⟨rfl, rfl⟩ := hK
  refine ⟨rfl, ?_⟩
  dsimp only [puts, List.set, Option.toList, List.cons_append, List.nil_append, List.append_nil]
  refine g_aload_n dX2_readClause_9 rfl rfl ?_
  refine g_iload_n dX2_readClause_10 rfl rfl ?_
  refine g_aload_n dX2_readClause_11 rfl rfl ?_
  refine g_get f_X2_44 dX2_readClause_12 rfl 0 rfl rfl ?_
  refine g_callV (c_X2_kindOf sk hlen htx hL.1 hL.2) m_X2_67 a_X2_kindOf dX2_readClause_15 rfl [0, 1] rfl rfl 0 rfl rfl rfl (by decide) (by decide) (by decide) (by decide) (Nat.le_of_ble_eq_true rfl) (fun r w hK => ?_)
  obtain ⟨rfl, rfl⟩ := hK
  refine ⟨rfl, ?_⟩
  dsimp only [puts, List.set, Option.toList, List.cons_append, List.nil_append, List.append_nil]
  generalize kindN tx p (runTo isL tx len p) = k at hres hk5 ⊢
  refine g_istore_n dX2_readClause_18 rfl (by decide) rfl rfl ?_
  refine g_iload_n dX2_readClause_19 rfl rfl ?_
  refine g_if_eq (t := 35) dX2_readClause_20 (by decide) rfl (fun h20 => ?_) (fun h20 => ?_)
  · have hk0 : k = 0 := (nI_eq (by omega) (by omega)).mp (h20 : nI k = nI 0)
    rw [if_pos (Or.inl hk0)] at hres
    refine g_aload_n dX2_readClause_35 rfl rfl ?_
    refine g_iconst (v := nI 1) dX2_readClause_36 rfl (by decide) ?_
    refine g_iload_n dX2_readClause_37 rfl rfl ?_
    refine g_callV (c_X2_fail sk) m_X2_71 a_X2_fail dX2_readClause_38 rfl [0] rfl rfl 0 rfl rfl rfl (by decide) (by decide) (by decide) (by decide) (Nat.le_of_ble_eq_true rfl) (fun r w hK => ?_)
    obtain ⟨rfl, rfl⟩ := hK
    refine ⟨rfl, ?_⟩
    dsimp only [puts, List.set, Option.toList, List.cons_append, List.nil_append, List.append_nil]
    exact g_vret dX2_readClause_41 rfl (Nat.le_refl _) (Nat.le_refl _) (⟨rfl, by subst hres; exact ⟨_, _, hL.2, rfl⟩⟩)
  · have hk0 : ¬ k = 0 := fun e => h20 (congrArg nI e : nI k = nI 0)
    have hk : k = 1 ∨ k = 2 ∨ k = 3 ∨ k = 4 ∨ k = 5 := by omega
    have key2 : ∀ (cnt : Nat), cnt = (if k = 3 then 3 else 2) → (match numsR tx len k (T 0) ft cnt 0 (runTo isL tx len p) (fun _ => 0) with | .inl f => .inl f | .inr (x, p) => .inr (takeQ k x (T, ft, fc, hm, sn), p)) = res → (k = 1 ∨ 1 ≤ T 0) → tooB k (T, ft, fc, hm, sn) = false → GG sk RX2 yX2_readClause cX2_readClause 6 none 7 0 0 (clQ len res (fun ai fa fp q fF fn fs fw fa_ fr => [oReader rh rt rf rn (nI len) ai fa fp (nI q.2.2.1) (decide (0 < q.1 0)) q.2.2.2.1 q.2.2.2.2, cB rt 400 fb, cZ rf 30 fF, cI rn 3 fn, oPlan pl ps pw pa pr (nI (q.1 0)) (nI (q.1 1)) (nI (q.1 2)) (nI (q.1 3)) (nI (q.1 4)) (nI (q.1 5)), cI ps 30 fs, cI pw 6 fw, cI pa 6 fa_, cI pr 6 fr]) fp (T, ft, fc, hm, sn) fF fs fw fa fr) 0 0 73 [some (.ref rh), some (.ref pl), some (.int (nI p)), some (.int (nI k)), some (.int (nI cnt)), some (.int (nI 0))] [] [oReader rh rt rf rn (nI len) (nI (runTo isL tx len p)) (nI 0) fp (nI fc) (decide (0 < T 0)) hm sn, cB rt 400 fb, cZ rf 30 fF, cI rn 3 fn, oPlan pl ps pw pa pr (nI (T 0)) (nI (T 1)) (nI (T 2)) (nI (T 3)) (nI (T 4)) (nI (T 5)), cI ps 30 fs, cI pw 6 fw, cI pa 6 fa, cI pr 6 fr] := by
      intro cnt hc hres hk1 h48
      have hc3 : cnt ≤ 3 := by
        rw [hc]
        split <;> omega
      have hc2 : 2 ≤ cnt := by
        rw [hc]
        split <;> omega
      refine lp_clauseN sk (first := p) hlen htx hk hk1 hq.1 hft hc3 (fun x2 p2 fn2 e hx => ?_) (fun f a fn2 ha e => ?_) cnt 0 (runTo isL tx len p) (fun _ => 0) fn (by omega) hL.2 (fun j hj => absurd hj (by omega)) rfl
      · rw [e] at hres
        subst hres
        have hb := xb_clause hL.2 hq.1 hk1 hc e
        refine lp_clauseT sk (tx := tx) hk hP hft (hx 0 (by omega)) (hx 1 (by omega)) (fun e3 => hx 2 (by rw [hc, if_pos e3]; omega)) hq.2.1 hb.1 (fun e2 => ⟨by have := (hb.2.1 e2).1; have := hq.1; omega, (hb.2.1 e2).2.1⟩) (fun e3 => ?_)
        subst e3
        have : decide (6 ≤ T 1) = false := h48
        have := of_decide_eq_false this
        omega
      · rw [e] at hres
        subst hres
        exact ⟨rfl, _, _, ha, rfl⟩
    refine g_iload_n dX2_readClause_23 rfl rfl ?_
    refine g_iconst (v := nI 1) dX2_readClause_24 rfl (by decide) ?_
    refine g_icmp_eqN (t := 42) dX2_readClause_25 (by decide) rfl (by omega) (by omega) (fun h25 => ?_) (fun h25 => ?_)
    · have hk1 : k = 1 ∨ 1 ≤ T 0 := Or.inl h25
      rw [if_neg (show ¬ (k = 0 ∨ (k ≠ 1 ∧ T 0 = 0)) by omega)] at hres
      refine g_aload_n dX2_readClause_42 rfl rfl ?_
      refine g_iload_n dX2_readClause_43 rfl rfl ?_
      refine g_aload_n dX2_readClause_44 rfl rfl ?_
      refine g_callV (c_X2_tooOften sk (ft := ft) hk (by omega) (by omega)) m_X2_75 a_X2_isTooOften dX2_readClause_45 rfl [0, 4] rfl rfl 0 rfl rfl rfl (by decide) (by decide) (by decide) (by decide) (Nat.le_of_ble_eq_true rfl) (fun r w hK => ?_)
      obtain ⟨rfl, rfl⟩ := hK
      refine ⟨rfl, ?_⟩
      dsimp only [puts, List.set, Option.toList, List.cons_append, List.nil_append, List.append_nil]
      refine g_if_eqB (t := 58) dX2_readClause_48 (by decide) rfl (fun h48 => ?_) (fun h48 => ?_)
      · rw [if_neg (show ¬ tooB k (T, ft, fc, hm, sn) = true by rw [h48]; decide)] at hres
        refine g_iload_n dX2_readClause_58 rfl rfl ?_
        refine g_iconst (v := nI 3) dX2_readClause_59 rfl (by decide) ?_
        refine g_icmp_neN (t := 67) dX2_readClause_60 (by decide) rfl (by omega) (by omega) (fun h60 => ?_) (fun h60 => ?_)
        · rw [if_neg h60] at hres
          refine g_iconst (v := nI 2) dX2_readClause_67 rfl (by decide) ?_
          refine g_istore dX2_readClause_68 rfl (by decide) rfl rfl ?_
          refine g_iconst (v := nI 0) dX2_readClause_70 rfl (by decide) ?_
          refine g_istore dX2_readClause_71 rfl (by decide) rfl rfl ?_
          exact key2 2 (if_neg h60).symm hres hk1 h48
        · rw [if_pos h60] at hres
          refine g_iconst (v := nI 3) dX2_readClause_63 rfl (by decide) ?_
          refine g_goto (q := 68) dX2_readClause_64 (by decide) ?_
          refine g_istore dX2_readClause_68 rfl (by decide) rfl rfl ?_
          refine g_iconst (v := nI 0) dX2_readClause_70 rfl (by decide) ?_
          refine g_istore dX2_readClause_71 rfl (by decide) rfl rfl ?_
          exact key2 3 (if_pos h60).symm hres hk1 h48
      · rw [if_pos h48] at hres
        refine g_aload_n dX2_readClause_51 rfl rfl ?_
        refine g_iconst (v := nI 3) dX2_readClause_52 rfl (by decide) ?_
        refine g_iload_n dX2_readClause_53 rfl rfl ?_
        refine g_callV (c_X2_fail sk) m_X2_71 a_X2_fail dX2_readClause_54 rfl [0] rfl rfl 0 rfl rfl rfl (by decide) (by decide) (by decide) (by decide) (Nat.le_of_ble_eq_true rfl) (fun r w hK => ?_)
        obtain ⟨rfl, rfl⟩ := hK
        refine ⟨rfl, ?_⟩
        dsimp only [puts, List.set, Option.toList, List.cons_append, List.nil_append, List.append_nil]
        exact g_vret dX2_readClause_57 rfl (Nat.le_refl _) (Nat.le_refl _) (⟨rfl, by subst hres; exact ⟨_, _, hL.2, rfl⟩⟩)
    · skip
      refine g_aload_n dX2_readClause_28 rfl rfl ?_
      refine g_get f_X2_54 dX2_readClause_29 rfl 0 rfl rfl ?_
      refine g_if_neB (t := 42) dX2_readClause_32 (by decide) rfl (fun h32 => ?_) (fun h32 => ?_)
      · have hk1 : k = 1 ∨ 1 ≤ T 0 := Or.inr (of_decide_eq_true h32)
        rw [if_neg (show ¬ (k = 0 ∨ (k ≠ 1 ∧ T 0 = 0)) by omega)] at hres
        refine g_aload_n dX2_readClause_42 rfl rfl ?_
        refine g_iload_n dX2_readClause_43 rfl rfl ?_
        refine g_aload_n dX2_readClause_44 rfl rfl ?_
        refine g_callV (c_X2_tooOften sk (ft := ft) hk (by omega) (by omega)) m_X2_75 a_X2_isTooOften dX2_readClause_45 rfl [0, 4] rfl rfl 0 rfl rfl rfl (by decide) (by decide) (by decide) (by decide) (Nat.le_of_ble_eq_true rfl) (fun r w hK => ?_)
        obtain ⟨rfl, rfl⟩ := hK
        refine ⟨rfl, ?_⟩
        dsimp only [puts, List.set, Option.toList, List.cons_append, List.nil_append, List.append_nil]
        refine g_if_eqB (t := 58) dX2_readClause_48 (by decide) rfl (fun h48 => ?_) (fun h48 => ?_)
        · rw [if_neg (show ¬ tooB k (T, ft, fc, hm, sn) = true by rw [h48]; decide)] at hres
          refine g_iload_n dX2_readClause_58 rfl rfl ?_
          refine g_iconst (v := nI 3) dX2_readClause_59 rfl (by decide) ?_
          refine g_icmp_neN (t := 67) dX2_readClause_60 (by decide) rfl (by omega) (by omega) (fun h60 => ?_) (fun h60 => ?_)
          · rw [if_neg h60] at hres
            refine g_iconst (v := nI 2) dX2_readClause_67 rfl (by decide) ?_
            refine g_istore dX2_readClause_68 rfl (by decide) rfl rfl ?_
            refine g_iconst (v := nI 0) dX2_readClause_70 rfl (by decide) ?_
            refine g_istore dX2_readClause_71 rfl (by decide) rfl rfl ?_
            exact key2 2 (if_neg h60).symm hres hk1 h48
          · rw [if_pos h60] at hres
            refine g_iconst (v := nI 3) dX2_readClause_63 rfl (by decide) ?_
            refine g_goto (q := 68) dX2_readClause_64 (by decide) ?_
            refine g_istore dX2_readClause_68 rfl (by decide) rfl rfl ?_
            refine g_iconst (v := nI 0) dX2_readClause_70 rfl (by decide) ?_
            refine g_istore dX2_readClause_71 rfl (by decide) rfl rfl ?_
            exact key2 3 (if_pos h60).symm hres hk1 h48
        · rw [if_pos h48] at hres
          refine g_aload_n dX2_readClause_51 rfl rfl ?_
          refine g_iconst (v := nI 3) dX2_readClause_52 rfl (by decide) ?_
          refine g_iload_n dX2_readClause_53 rfl rfl ?_
          refine g_callV (c_X2_fail sk) m_X2_71 a_X2_fail dX2_readClause_54 rfl [0] rfl rfl 0 rfl rfl rfl (by decide) (by decide) (by decide) (by decide) (Nat.le_of_ble_eq_true rfl) (fun r w hK => ?_)
          obtain ⟨rfl, rfl⟩ := hK
          refine ⟨rfl, ?_⟩
          dsimp only [puts, List.set, Option.toList, List.cons_append, List.nil_append, List.append_nil]
          exact g_vret dX2_readClause_57 rfl (Nat.le_refl _) (Nat.le_refl _) (⟨rfl, by subst hres; exact ⟨_, _, hL.2, rfl⟩⟩)
      · have hT0 : ¬ 0 < T 0 := of_decide_eq_false h32
        rw [if_pos (Or.inr ⟨h25, by omega⟩)] at hres
        refine g_aload_n dX2_readClause_35 rfl rfl ?_
        refine g_iconst (v := nI 1) dX2_readClause_36 rfl (by decide) ?_
        refine g_iload_n dX2_readClause_37 rfl rfl ?_
        refine g_callV (c_X2_fail sk) m_X2_71 a_X2_fail dX2_readClause_38 rfl [0] rfl rfl 0 rfl rfl rfl (by decide) (by decide) (by decide) (by decide) (Nat.le_of_ble_eq_true rfl) (fun r w hK => ?_)
        obtain ⟨rfl, rfl⟩ := hK
        refine ⟨rfl, ?_⟩
        dsimp only [puts, List.set, Option.toList, List.cons_append, List.nil_append, List.append_nil]
        exact g_vret dX2_readClause_41 rfl (Nat.le_refl _) (Nat.le_refl _) (⟨rfl, by subst hres; exact ⟨_, _, hL.2, rfl⟩⟩)
