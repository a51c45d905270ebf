/-! Reader of the class: numbers and clauses -/
theorem numV_lt (tx : Nat → Nat) (p : Nat) : ∀ n, (∀ j, j < n → isD (tx (p + j)) = true) → numV tx p n < 10 ^ n
  | 0, _ => by simp [numV]
  | n + 1, h => by
    have h1 := numV_lt tx p n (fun j hj => h j (by omega))
    have h2 := h n (by omega)
    unfold isD at h2
    simp only [Bool.and_eq_true, decide_eq_true_eq] at h2
    rw [numV, Nat.pow_succ]
    omega
theorem numV_3 {tx : Nat → Nat} {p n : Nat} (h : ∀ j, j < n → isD (tx (p + j)) = true) : numV tx p (min n 3) < 1000 := by
  have h1 := numV_lt tx p (min n 3) (fun j hj => h j (by omega))
  have h2 : 10 ^ (min n 3) ≤ 10 ^ 3 := Nat.pow_le_pow_right (by decide) (by omega)
  omega
theorem isD_b {b : Nat} (h : isD b = true) : 48 ≤ b ∧ b ≤ 57 := by
  unfold isD at h
  simpa only [Bool.and_eq_true, decide_eq_true_eq] using h
/-- what readNumber leaves -/
def nmQ (len : Nat) (res : (Nat × Nat) ⊕ (Nat × Nat)) (W : Int32 → Int32 → Int32 → (Nat → Int32) → AW) (fp : Int32) (fn : Nat → Int32) (i : Nat) : PS := fun q w1 => q = none ∧ match res with
  | .inl f => ∃ a : Nat, a ≤ len ∧ w1 = W (nI a) (nI f.1) (nI f.2) fn
  | .inr u => w1 = W (nI u.2) (nI 0) fp (upd fn i (nI u.1))
theorem run_all (p : Nat → Bool) (tx : Nat → Nat) {len i : Nat} (h : i ≤ len) : ∀ j, j < runTo p tx len i - i → p (tx (i + j)) = true := by
  have key : ∀ (n i : Nat) (j : Nat), j < run p tx n i - i → p (tx (i + j)) = true := by
    intro n
    induction n with
    | zero => intro i j hj; rw [run, Nat.sub_self] at hj; exact absurd hj (Nat.not_lt_zero j)
    | succ n ih =>
      intro i j hj
      rw [run] at hj
      cases hp : p (tx i) with
      | true =>
        rw [hp] at hj
        have hj2 : j < run p tx n (i + 1) - i := hj
        cases j with
        | zero => exact hp
        | succ j =>
          have := ih (i + 1) j (by have := run_le p tx n (i + 1); omega)
          rw [show i + (j + 1) = i + 1 + j by omega]
          exact this
      | false =>
        rw [hp] at hj
        have hj2 : j < i - i := hj
        omega
  exact key (len - i) i
theorem dig_up {tx : Nat → Nat} {p q : Nat} (hpq : p ≤ q) (h : ∀ j, j < q - p → isD (tx (p + j)) = true) (h2 : isD (tx q) = true) : ∀ j, j < q + 1 - p → isD (tx (p + j)) = true := fun j hj => by
  by_cases e : j = q - p
  · rw [e, show p + (q - p) = q by omega]
    exact h2
  · exact h j (by omega)
theorem num_up {tx : Nat → Nat} {p q : Nat} (hpq : p ≤ q) (h3 : q - p < 3) (h : 48 ≤ tx q) : numV tx p (min (q - p) 3) * 10 + tx q - 48 = numV tx p (min (q + 1 - p) 3) := by
  rw [show min (q - p) 3 = q - p by omega, show min (q + 1 - p) 3 = (q - p) + 1 by omega, numV, show p + (q - p) = q by omega]
  omega
theorem i_zero {i : Nat} (hi : i = 0 ∨ i = 1 ∨ i = 2) (h : nI i = 0) : i = 0 := by
  rcases hi with rfl | rfl | rfl
  · rfl
  · exact absurd h (by decide)
  · exact absurd h (by decide)
theorem loN_le (k i : Nat) : loN k i ≤ 1 := by
  unfold loN
  repeat' split
  all_goals omega
theorem hiN_le (k i F : Nat) (h : F ≤ 30) : hiN k i F ≤ 999 := by
  unfold hiN
  repeat' split
  all_goals omega
set_option maxRecDepth 20000 in
theorem lp_X2_readNumber81 (sk : Nat → Nat) {rh rt rf rn len p fc k i F pl ps pw pa pr : Nat} {fp C V E N S : Int32} {pt hm sn : Bool} {tx : Nat → Nat} {fb fF fn : Nat → Int32} {ft : Nat → Bool} {p1 e v : Nat} (hlen : len ≤ 400) (htx : ∀ j, j < len → fb j = (nI (tx j)).toInt8.toInt32 ∧ tx j < 256) (hk : k = 1 ∨ k = 2 ∨ k = 3 ∨ k = 4 ∨ k = 5) (hi : i = 0 ∨ i = 1 ∨ i = 2) (hF : k = 1 ∨ 1 ≤ F) (hF30 : F ≤ 30) (hft : ∀ j, j < 30 → fF j = zb (ft j)) (hp1 : p1 = runTo isB tx len p) (he : e = runTo isD tx len p1) (hp1e : p1 ≤ e) (hel : e ≤ len) (hv1000 : v < 1000) (hvv : e - p1 ≤ 3 → numV tx p1 (e - p1) = v) : GG sk RX2 yX2_readNumber cX2_readNumber 6 none 2 0 0 (nmQ len (numR tx len k i F ft p) (fun aa bb cc dd => [oReader rh rt rf rn (nI len) aa bb cc (nI fc) pt hm sn, cB rt 400 fb, cZ rf 30 fF, cI rn 3 (dd), oPlan pl ps pw pa pr (nI F) C V E N S]) fp fn i) 0 0 81 [some (.ref rh), some (.int (nI k)), some (.int (nI i)), some (.ref pl), some (.int (nI p1)), some (.int (nI v))] [] [oReader rh rt rf rn (nI len) (nI e) (nI 0) fp (nI fc) pt hm sn, cB rt 400 fb, cZ rf 30 fF, cI rn 3 (fn), oPlan pl ps pw pa pr (nI F) C V E N S] := by
  have hlo := loN_le k i
  have hhi := hiN_le k i F hF30
  refine g_aload_n dX2_readNumber_81 rfl rfl ?_
  refine g_get f_X2_44 dX2_readNumber_82 rfl 0 rfl rfl ?_
  refine g_iload dX2_readNumber_85 rfl rfl ?_
  refine g_icmp_neN (t := 98) dX2_readNumber_87 (by decide) rfl (by omega) (by omega) (fun h87 => ?_) (fun h87 => ?_)
  · have hne := h87
    refine g_aload_n dX2_readNumber_98 rfl rfl ?_
    refine g_get f_X2_44 dX2_readNumber_99 rfl 0 rfl rfl ?_
    refine g_iload dX2_readNumber_102 rfl rfl ?_
    refine g_isub dX2_readNumber_104 rfl (pk_sub (by omega)) ?_
    refine g_iconst (v := nI 3) dX2_readNumber_105 rfl (by decide) ?_
    refine g_icmp_gtN (t := 130) dX2_readNumber_106 (by decide) rfl (by omega) (by omega) (fun h106 => ?_) (fun h106 => ?_)
    · have hv : numR tx len k i F ft p = (.inl (2, p1)) := by unfold numR; rw [← hp1, ← he, if_neg hne, if_pos (Or.inl (by omega))]
      refine g_aload_n dX2_readNumber_130 rfl rfl ?_
      refine g_iconst (v := nI 2) dX2_readNumber_131 rfl (by decide) ?_
      refine g_iload dX2_readNumber_132 rfl rfl ?_
      refine g_callV (c_X2_fail sk) m_X2_71 a_X2_fail dX2_readNumber_134 rfl [0] rfl rfl 0 rfl rfl rfl (by decide) (by decide) (by decide) (by decide) (Nat.le_of_ble_eq_true rfl) (fun r w hK => ?_)
      obtain ⟨rfl, rfl⟩ := hK
      refine ⟨rfl, ?_⟩
      dsimp only [puts, List.set, Option.toList, List.cons_append, List.nil_append, List.append_nil]
      exact g_vret dX2_readNumber_137 rfl (Nat.le_refl _) (Nat.le_refl _) (⟨rfl, by rw [hv]; exact ⟨_, hel, rfl⟩⟩)
    · have hve : numV tx p1 (e - p1) = v := hvv (by omega)
      refine g_iload dX2_readNumber_109 rfl rfl ?_
      refine g_iload_n dX2_readNumber_111 rfl rfl ?_
      refine g_iload_n dX2_readNumber_112 rfl rfl ?_
      refine g_callS (c_X2_least sk hk hi) m_X2_124 a_X2_least dX2_readNumber_113 rfl [] rfl rfl rfl rfl (by decide) (by decide) (by decide) (by decide) (Nat.le_of_ble_eq_true rfl) (fun r w hK => ?_)
      obtain ⟨rfl, rfl⟩ := hK
      refine ⟨rfl, ?_⟩
      dsimp only [puts, List.set, Option.toList, List.cons_append, List.nil_append, List.append_nil]
      refine g_icmp_ltN (t := 130) dX2_readNumber_116 (by decide) rfl (by omega) (by have := hlo; omega) (fun h116 => ?_) (fun h116 => ?_)
      · have hv : numR tx len k i F ft p = (.inl (2, p1)) := by unfold numR; rw [← hp1, ← he, if_neg hne, if_pos (Or.inr (Or.inl (by rw [hve]; exact h116)))]
        refine g_aload_n dX2_readNumber_130 rfl rfl ?_
        refine g_iconst (v := nI 2) dX2_readNumber_131 rfl (by decide) ?_
        refine g_iload dX2_readNumber_132 rfl rfl ?_
        refine g_callV (c_X2_fail sk) m_X2_71 a_X2_fail dX2_readNumber_134 rfl [0] rfl rfl 0 rfl rfl rfl (by decide) (by decide) (by decide) (by decide) (Nat.le_of_ble_eq_true rfl) (fun r w hK => ?_)
        obtain ⟨rfl, rfl⟩ := hK
        refine ⟨rfl, ?_⟩
        dsimp only [puts, List.set, Option.toList, List.cons_append, List.nil_append, List.append_nil]
        exact g_vret dX2_readNumber_137 rfl (Nat.le_refl _) (Nat.le_refl _) (⟨rfl, by rw [hv]; exact ⟨_, hel, rfl⟩⟩)
      · skip
        refine g_iload dX2_readNumber_119 rfl rfl ?_
        refine g_iload_n dX2_readNumber_121 rfl rfl ?_
        refine g_iload_n dX2_readNumber_122 rfl rfl ?_
        refine g_aload_n dX2_readNumber_123 rfl rfl ?_
        refine g_callS (c_X2_most sk hk hi hF) m_X2_127 a_X2_most dX2_readNumber_124 rfl [4] rfl rfl rfl rfl (by decide) (by decide) (by decide) (by decide) (Nat.le_of_ble_eq_true rfl) (fun r w hK => ?_)
        obtain ⟨rfl, rfl⟩ := hK
        refine ⟨rfl, ?_⟩
        dsimp only [puts, List.set, Option.toList, List.cons_append, List.nil_append, List.append_nil]
        refine g_icmp_leN (t := 138) dX2_readNumber_127 (by decide) rfl (by omega) (by have := hhi; omega) (fun h127 => ?_) (fun h127 => ?_)
        · have hno : ¬ (3 < e - p1 ∨ numV tx p1 (e - p1) < loN k i ∨ hiN k i F < numV tx p1 (e - p1)) := by rw [hve]; omega
          refine g_iload_n dX2_readNumber_138 rfl rfl ?_
          refine g_iconst (v := nI 2) dX2_readNumber_139 rfl (by decide) ?_
          refine g_icmp_neN (t := 164) dX2_readNumber_140 (by decide) rfl (by omega) (by omega) (fun h140 => ?_) (fun h140 => ?_)
          · have hv : numR tx len k i F ft p = (.inr (v, e)) := by unfold numR; rw [← hp1, ← he, if_neg hne, if_neg hno, if_neg (fun z => h140 z.1), hve]
            skip
            refine g_iload_n dX2_readNumber_164 rfl rfl ?_
            refine g_if_lt (t := 185) dX2_readNumber_165 (by decide) rfl (fun h165 => ?_) (fun h165 => ?_)
            · exact absurd h165 (nI_nlt0 (by omega))
            · skip
              refine g_iload_n dX2_readNumber_168 rfl rfl ?_
              refine g_aload_n dX2_readNumber_169 rfl rfl ?_
              refine g_get f_X2_19 dX2_readNumber_170 rfl 0 rfl rfl ?_
              refine g_alen dX2_readNumber_173 rfl 3 rfl (Nat.le_of_ble_eq_true rfl) rfl ?_
              refine g_icmp_geN (t := 185) dX2_readNumber_174 (by decide) rfl (by omega) (by omega) (fun h174 => ?_) (fun h174 => ?_)
              · exact absurd h174 (by show ¬ 3 ≤ i; omega)
              · skip
                refine g_aload_n dX2_readNumber_177 rfl rfl ?_
                refine g_get f_X2_19 dX2_readNumber_178 rfl 0 rfl rfl ?_
                refine g_iload_n dX2_readNumber_181 rfl rfl ?_
                refine g_iload dX2_readNumber_182 rfl rfl ?_
                refine g_iastN dX2_readNumber_184 rfl 3 rfl (by omega) (by decide) (rfl) rfl ?_
                exact g_vret dX2_readNumber_185 rfl (Nat.le_refl _) (Nat.le_refl _) (⟨rfl, by rw [hv]; rfl⟩)
          · skip
            refine g_iload_n dX2_readNumber_143 rfl rfl ?_
            refine g_if_ne (t := 164) dX2_readNumber_144 (by decide) rfl (fun h144 => ?_) (fun h144 => ?_)
            · have hv : numR tx len k i F ft p = (.inr (v, e)) := by unfold numR; rw [← hp1, ← he, if_neg hne, if_neg hno, if_neg (fun z => h144 (by rw [z.2.1]; rfl)), hve]
              skip
              refine g_iload_n dX2_readNumber_164 rfl rfl ?_
              refine g_if_lt (t := 185) dX2_readNumber_165 (by decide) rfl (fun h165 => ?_) (fun h165 => ?_)
              · exact absurd h165 (nI_nlt0 (by omega))
              · skip
                refine g_iload_n dX2_readNumber_168 rfl rfl ?_
                refine g_aload_n dX2_readNumber_169 rfl rfl ?_
                refine g_get f_X2_19 dX2_readNumber_170 rfl 0 rfl rfl ?_
                refine g_alen dX2_readNumber_173 rfl 3 rfl (Nat.le_of_ble_eq_true rfl) rfl ?_
                refine g_icmp_geN (t := 185) dX2_readNumber_174 (by decide) rfl (by omega) (by omega) (fun h174 => ?_) (fun h174 => ?_)
                · exact absurd h174 (by show ¬ 3 ≤ i; omega)
                · skip
                  refine g_aload_n dX2_readNumber_177 rfl rfl ?_
                  refine g_get f_X2_19 dX2_readNumber_178 rfl 0 rfl rfl ?_
                  refine g_iload_n dX2_readNumber_181 rfl rfl ?_
                  refine g_iload dX2_readNumber_182 rfl rfl ?_
                  refine g_iastN dX2_readNumber_184 rfl 3 rfl (by omega) (by decide) (rfl) rfl ?_
                  exact g_vret dX2_readNumber_185 rfl (Nat.le_refl _) (Nat.le_refl _) (⟨rfl, by rw [hv]; rfl⟩)
            · have hi0 : i = 0 := by exact i_zero hi h144
              have hv30 : v < 30 := by rw [h140, hi0] at h127; have : hiN 2 0 F = F - 1 := rfl; omega
              refine g_aload_n dX2_readNumber_147 rfl rfl ?_
              refine g_iload dX2_readNumber_148 rfl rfl ?_
              refine g_callV (c_X2_isFootTold sk hv30 (hft v hv30)) m_X2_131 a_X2_isFootTold dX2_readNumber_150 rfl [0, 2] rfl rfl 0 rfl rfl rfl (by decide) (by decide) (by decide) (by decide) (Nat.le_of_ble_eq_true rfl) (fun r w hK => ?_)
              obtain ⟨rfl, rfl⟩ := hK
              refine ⟨rfl, ?_⟩
              dsimp only [puts, List.set, Option.toList, List.cons_append, List.nil_append, List.append_nil]
              refine g_if_eqB (t := 164) dX2_readNumber_153 (by decide) rfl (fun h153 => ?_) (fun h153 => ?_)
              · have hv : numR tx len k i F ft p = (.inr (v, e)) := by unfold numR; rw [← hp1, ← he, if_neg hne, if_neg hno, if_neg (fun z => by rw [hve, h153] at z; exact absurd z.2.2 (by decide)), hve]
                skip
                refine g_iload_n dX2_readNumber_164 rfl rfl ?_
                refine g_if_lt (t := 185) dX2_readNumber_165 (by decide) rfl (fun h165 => ?_) (fun h165 => ?_)
                · exact absurd h165 (nI_nlt0 (by omega))
                · skip
                  refine g_iload_n dX2_readNumber_168 rfl rfl ?_
                  refine g_aload_n dX2_readNumber_169 rfl rfl ?_
                  refine g_get f_X2_19 dX2_readNumber_170 rfl 0 rfl rfl ?_
                  refine g_alen dX2_readNumber_173 rfl 3 rfl (Nat.le_of_ble_eq_true rfl) rfl ?_
                  refine g_icmp_geN (t := 185) dX2_readNumber_174 (by decide) rfl (by omega) (by omega) (fun h174 => ?_) (fun h174 => ?_)
                  · exact absurd h174 (by show ¬ 3 ≤ i; omega)
                  · skip
                    refine g_aload_n dX2_readNumber_177 rfl rfl ?_
                    refine g_get f_X2_19 dX2_readNumber_178 rfl 0 rfl rfl ?_
                    refine g_iload_n dX2_readNumber_181 rfl rfl ?_
                    refine g_iload dX2_readNumber_182 rfl rfl ?_
                    refine g_iastN dX2_readNumber_184 rfl 3 rfl (by omega) (by decide) (rfl) rfl ?_
                    exact g_vret dX2_readNumber_185 rfl (Nat.le_refl _) (Nat.le_refl _) (⟨rfl, by rw [hv]; rfl⟩)
              · have hv : numR tx len k i F ft p = (.inl (4, p1)) := by unfold numR; rw [← hp1, ← he, if_neg hne, if_neg hno, if_pos ⟨h140, hi0, by rw [hve]; exact h153⟩]
                refine g_aload_n dX2_readNumber_156 rfl rfl ?_
                refine g_iconst (v := nI 4) dX2_readNumber_157 rfl (by decide) ?_
                refine g_iload dX2_readNumber_158 rfl rfl ?_
                refine g_callV (c_X2_fail sk) m_X2_71 a_X2_fail dX2_readNumber_160 rfl [0] rfl rfl 0 rfl rfl rfl (by decide) (by decide) (by decide) (by decide) (Nat.le_of_ble_eq_true rfl) (fun r w hK => ?_)
                obtain ⟨rfl, rfl⟩ := hK
                refine ⟨rfl, ?_⟩
                dsimp only [puts, List.set, Option.toList, List.cons_append, List.nil_append, List.append_nil]
                exact g_vret dX2_readNumber_163 rfl (Nat.le_refl _) (Nat.le_refl _) (⟨rfl, by rw [hv]; exact ⟨_, hel, rfl⟩⟩)
        · have hv : numR tx len k i F ft p = (.inl (2, p1)) := by unfold numR; rw [← hp1, ← he, if_neg hne, if_pos (Or.inr (Or.inr (by rw [hve]; exact h127)))]
          refine g_aload_n dX2_readNumber_130 rfl rfl ?_
          refine g_iconst (v := nI 2) dX2_readNumber_131 rfl (by decide) ?_
          refine g_iload dX2_readNumber_132 rfl rfl ?_
          refine g_callV (c_X2_fail sk) m_X2_71 a_X2_fail dX2_readNumber_134 rfl [0] rfl rfl 0 rfl rfl rfl (by decide) (by decide) (by decide) (by decide) (Nat.le_of_ble_eq_true rfl) (fun r w hK => ?_)
          obtain ⟨rfl, rfl⟩ := hK
          refine ⟨rfl, ?_⟩
          dsimp only [puts, List.set, Option.toList, List.cons_append, List.nil_append, List.append_nil]
          exact g_vret dX2_readNumber_137 rfl (Nat.le_refl _) (Nat.le_refl _) (⟨rfl, by rw [hv]; exact ⟨_, hel, rfl⟩⟩)
  · have hv : numR tx len k i F ft p = (.inl (1, p1)) := by unfold numR; rw [← hp1, ← he, if_pos h87]
    refine g_aload_n dX2_readNumber_90 rfl rfl ?_
    refine g_iconst (v := nI 1) dX2_readNumber_91 rfl (by decide) ?_
    refine g_iload dX2_readNumber_92 rfl rfl ?_
    refine g_callV (c_X2_fail sk) m_X2_71 a_X2_fail dX2_readNumber_94 rfl [0] rfl rfl 0 rfl rfl rfl (by decide) (by decide) (by decide) (by decide) (Nat.le_of_ble_eq_true rfl) (fun r w hK => ?_)
    obtain ⟨rfl, rfl⟩ := hK
    refine ⟨rfl, ?_⟩
    dsimp only [puts, List.set, Option.toList, List.cons_append, List.nil_append, List.append_nil]
    exact g_vret dX2_readNumber_97 rfl (Nat.le_refl _) (Nat.le_refl _) (⟨rfl, by rw [hv]; exact ⟨_, hel, rfl⟩⟩)
set_option maxRecDepth 20000 in
theorem lp_X2_readNumber13 (sk : Nat → Nat) {rh rt rf rn len fc k i F pl ps pw pa pr : Nat} {fp C V E N S : Int32} {pt hm sn : Bool} {tx : Nat → Nat} {fb fF fn : Nat → Int32} {ft : Nat → Bool} {p1 e : Nat} {Ψ : PS} (hlen : len ≤ 400) (htx : ∀ j, j < len → fb j = (nI (tx j)).toInt8.toInt32 ∧ tx j < 256) (hp1 : p1 ≤ len) (hx : GG sk RX2 yX2_readNumber cX2_readNumber 6 none 2 0 0 Ψ 0 0 81 [some (.ref rh), some (.int (nI k)), some (.int (nI i)), some (.ref pl), some (.int (nI p1)), some (.int (nI (numV tx p1 (min (e - p1) 3))))] [] [oReader rh rt rf rn (nI len) (nI e) (nI 0) fp (nI fc) pt hm sn, cB rt 400 fb, cZ rf 30 fF, cI rn 3 (fn), oPlan pl ps pw pa pr (nI F) C V E N S]) : ∀ (n q : Nat), p1 ≤ q → q ≤ len → len - q = n → runTo isD tx len q = e → (∀ j, j < q - p1 → isD (tx (p1 + j)) = true) → GG sk RX2 yX2_readNumber cX2_readNumber 6 none 2 0 0 Ψ 0 0 13 [some (.ref rh), some (.int (nI k)), some (.int (nI i)), some (.ref pl), some (.int (nI p1)), some (.int (nI (numV tx p1 (min (q - p1) 3))))] [] [oReader rh rt rf rn (nI len) (nI q) (nI 0) fp (nI fc) pt hm sn, cB rt 400 fb, cZ rf 30 fF, cI rn 3 (fn), oPlan pl ps pw pa pr (nI F) C V E N S] := by
  intro n
  induction n with
  | zero =>
    intro q hpq hql hn hqD hdig
    refine g_aload_n dX2_readNumber_13 rfl rfl ?_
    refine g_get f_X2_44 dX2_readNumber_14 rfl 0 rfl rfl ?_
    refine g_aload_n dX2_readNumber_17 rfl rfl ?_
    refine g_get f_X2_27 dX2_readNumber_18 rfl 0 rfl rfl ?_
    refine g_icmp_geN (t := 81) dX2_readNumber_21 (by decide) rfl (by omega) (by omega) (fun h21 => ?_) (fun h21 => ?_)
    · have hqe : e = q := by rw [← hqD]; exact runTo_end _ _ h21
      subst hqe
      exact hx
    · exact absurd h21 (by omega)
  | succ n ih =>
    intro q hpq hql hn hqD hdig
    refine g_aload_n dX2_readNumber_13 rfl rfl ?_
    refine g_get f_X2_44 dX2_readNumber_14 rfl 0 rfl rfl ?_
    refine g_aload_n dX2_readNumber_17 rfl rfl ?_
    refine g_get f_X2_27 dX2_readNumber_18 rfl 0 rfl rfl ?_
    refine g_icmp_geN (t := 81) dX2_readNumber_21 (by decide) rfl (by omega) (by omega) (fun h21 => ?_) (fun h21 => ?_)
    · exact absurd h21 (by omega)
    · skip
      refine g_aload_n dX2_readNumber_24 rfl rfl ?_
      refine g_aload_n dX2_readNumber_25 rfl rfl ?_
      refine g_get f_X2_44 dX2_readNumber_26 rfl 0 rfl rfl ?_
      refine g_callV (c_X2_byteAt sk hlen htx (by omega)) m_X2_109 a_X2_byteAt dX2_readNumber_29 rfl [0, 1] rfl rfl 0 rfl rfl rfl (by decide) (by decide) (by decide) (by decide) (Nat.le_of_ble_eq_true rfl) (fun r w hK => ?_)
      obtain ⟨rfl, rfl⟩ := hK
      refine ⟨rfl, ?_⟩
      dsimp only [puts, List.set, Option.toList, List.cons_append, List.nil_append, List.append_nil]
      rw [show bN tx len q = nI (tx q) from if_pos h21]
      refine g_callS (c_X2_isFigure sk (htx q h21).2) m_X2_120 a_X2_isFigure dX2_readNumber_32 rfl [] rfl rfl rfl rfl (by decide) (by decide) (by decide) (by decide) (Nat.le_of_ble_eq_true rfl) (fun r w hK => ?_)
      obtain ⟨rfl, rfl⟩ := hK
      refine ⟨rfl, ?_⟩
      dsimp only [puts, List.set, Option.toList, List.cons_append, List.nil_append, List.append_nil]
      refine g_if_eqB (t := 81) dX2_readNumber_35 (by decide) rfl (fun h35 => ?_) (fun h35 => ?_)
      · have hqe : e = q := by rw [← hqD]; exact runTo_f h21 h35
        subst hqe
        exact hx
      · have hdd := isD_b h35
        have hqD2 : runTo isD tx len (q + 1) = e := by rw [← hqD]; exact (runTo_t h21 h35).symm
        have hdig2 : ∀ j, j < q + 1 - p1 → isD (tx (p1 + j)) = true := fun j hj => dig_up hpq hdig h35 j hj
        have hv9 := numV_3 hdig
        refine g_aload_n dX2_readNumber_38 rfl rfl ?_
        refine g_get f_X2_44 dX2_readNumber_39 rfl 0 rfl rfl ?_
        refine g_iload dX2_readNumber_42 rfl rfl ?_
        refine g_isub dX2_readNumber_44 rfl (pk_sub (by omega)) ?_
        refine g_iconst (v := nI 3) dX2_readNumber_45 rfl (by decide) ?_
        refine g_icmp_geN (t := 68) dX2_readNumber_46 (by decide) rfl (by omega) (by omega) (fun h46 => ?_) (fun h46 => ?_)
        · skip
          refine g_aload_n dX2_readNumber_68 rfl rfl ?_
          refine g_dup dX2_readNumber_69 rfl rfl ?_
          refine g_get f_X2_44 dX2_readNumber_70 rfl 0 rfl rfl ?_
          refine g_iconst (v := nI 1) dX2_readNumber_73 rfl (by decide) ?_
          refine g_iadd dX2_readNumber_74 rfl (nI_add _ _) ?_
          refine g_putI f_X2_44 dX2_readNumber_75 rfl 0 rfl (Nat.le_of_ble_eq_true rfl) rfl ?_
          dsimp only [List.set]
          refine g_goto (q := 13) dX2_readNumber_78 (by decide) ?_
          have e3 : numV tx p1 (min (q - p1) 3) = numV tx p1 (min (q + 1 - p1) 3) := by rw [show min (q - p1) 3 = min (q + 1 - p1) 3 by omega]
          rw [e3]
          exact ih (q + 1) (by omega) (by omega) (by omega) hqD2 hdig2
        · skip
          refine g_iload dX2_readNumber_49 rfl rfl ?_
          refine g_bipush (v := nI 10) dX2_readNumber_51 rfl (by decide) ?_
          refine g_imul dX2_readNumber_53 rfl (pk_mul _ _) ?_
          refine g_aload_n dX2_readNumber_54 rfl rfl ?_
          refine g_aload_n dX2_readNumber_55 rfl rfl ?_
          refine g_get f_X2_44 dX2_readNumber_56 rfl 0 rfl rfl ?_
          refine g_callV (c_X2_byteAt sk hlen htx (by omega)) m_X2_109 a_X2_byteAt dX2_readNumber_59 rfl [0, 1] rfl rfl 0 rfl rfl rfl (by decide) (by decide) (by decide) (by decide) (Nat.le_of_ble_eq_true rfl) (fun r w hK => ?_)
          obtain ⟨rfl, rfl⟩ := hK
          refine ⟨rfl, ?_⟩
          dsimp only [puts, List.set, Option.toList, List.cons_append, List.nil_append, List.append_nil]
          rw [show bN tx len q = nI (tx q) from if_pos h21]
          refine g_iadd dX2_readNumber_62 rfl (nI_add _ _) ?_
          refine g_bipush (v := nI 48) dX2_readNumber_63 rfl (by decide) ?_
          refine g_isub dX2_readNumber_65 rfl (pk_sub (by omega)) ?_
          refine g_istore dX2_readNumber_66 rfl (by decide) rfl rfl ?_
          refine g_aload_n dX2_readNumber_68 rfl rfl ?_
          refine g_dup dX2_readNumber_69 rfl rfl ?_
          refine g_get f_X2_44 dX2_readNumber_70 rfl 0 rfl rfl ?_
          refine g_iconst (v := nI 1) dX2_readNumber_73 rfl (by decide) ?_
          refine g_iadd dX2_readNumber_74 rfl (nI_add _ _) ?_
          refine g_putI f_X2_44 dX2_readNumber_75 rfl 0 rfl (Nat.le_of_ble_eq_true rfl) rfl ?_
          dsimp only [List.set]
          refine g_goto (q := 13) dX2_readNumber_78 (by decide) ?_
          have e3 : numV tx p1 (min (q - p1) 3) * 10 + tx q - 48 = numV tx p1 (min (q + 1 - p1) 3) := num_up hpq (by omega) hdd.1
          rw [e3]
          exact ih (q + 1) (by omega) (by omega) (by omega) hqD2 hdig2
set_option maxRecDepth 20000 in
theorem c_X2_readNumber (sk : Nat → Nat) {rh rt rf rn len p fc k i F pl ps pw pa pr : Nat} {fp C V E N S : Int32} {pt hm sn : Bool} {tx : Nat → Nat} {fb fF fn : Nat → Int32} {ft : Nat → Bool} (hlen : len ≤ 400) (htx : ∀ j, j < len → fb j = (nI (tx j)).toInt8.toInt32 ∧ tx j < 256) (hk : k = 1 ∨ k = 2 ∨ k = 3 ∨ k = 4 ∨ k = 5) (hi : i = 0 ∨ i = 1 ∨ i = 2) (hF : k = 1 ∨ 1 ≤ F) (hF30 : F ≤ 30) (hft : ∀ j, j < 30 → fF j = zb (ft j)) (hp : p ≤ len) : Ct sk yX2_readNumber cX2_readNumber 6 none 2 0 0 [oReader rh rt rf rn (nI len) (nI p) (nI 0) fp (nI fc) pt hm sn, cB rt 400 fb, cZ rf 30 fF, cI rn 3 fn, oPlan pl ps pw pa pr (nI F) C V E N S] [.ref rh, .int (nI k), .int (nI i), .ref pl] (nmQ len (numR tx len k i F ft p) (fun aa bb cc dd => [oReader rh rt rf rn (nI len) aa bb cc (nI fc) pt hm sn, cB rt 400 fb, cZ rf 30 fF, cI rn 3 (dd), oPlan pl ps pw pa pr (nI F) C V E N S]) fp fn i) := by
  refine Ct.of (own := RX2) (l := [some (.ref rh), some (.int (nI k)), some (.int (nI i)), some (.ref pl), none, none]) (by decide) rfl (Nat.le_of_ble_eq_true rfl) rfl ?_
  refine g_aload_n dX2_readNumber_0 rfl rfl ?_
  refine g_callV (c_X2_skipBlanks sk hlen htx hp) m_X2_38 a_X2_skipBlanks dX2_readNumber_1 rfl [0, 1] rfl rfl 0 rfl rfl rfl (by decide) (by decide) (by decide) (by decide) (Nat.le_of_ble_eq_true rfl) (fun r w hK => ?_)
  obtain ⟨rfl, rfl⟩ := hK
  refine ⟨rfl, ?_⟩
  dsimp only [puts, List.set, Option.toList, List.cons_append, List.nil_append, List.append_nil]
  refine g_aload_n dX2_readNumber_4 rfl rfl ?_
  refine g_get f_X2_44 dX2_readNumber_5 rfl 0 rfl rfl ?_
  refine g_istore dX2_readNumber_8 rfl (by decide) rfl rfl ?_
  refine g_iconst (v := nI 0) dX2_readNumber_10 rfl (by decide) ?_
  refine g_istore dX2_readNumber_11 rfl (by decide) rfl rfl ?_
  have hb := runTo_le isB tx hp
  have hd := runTo_le isD tx hb.2
  have h0 := lp_X2_readNumber13 sk (rh := rh) (rt := rt) (rf := rf) (rn := rn) (len := len) (fc := fc) (k := k) (i := i) (F := F) (pl := pl) (ps := ps) (pw := pw) (pa := pa) (pr := pr) (fp := fp) (C := C) (V := V) (E := E) (N := N) (S := S) (pt := pt) (hm := hm) (sn := sn) (fF := fF) (fn := fn) (ft := ft) (p1 := runTo isB tx len p) (e := runTo isD tx len (runTo isB tx len p)) (Ψ := nmQ len (numR tx len k i F ft p) (fun aa bb cc dd => [oReader rh rt rf rn (nI len) aa bb cc (nI fc) pt hm sn, cB rt 400 fb, cZ rf 30 fF, cI rn 3 (dd), oPlan pl ps pw pa pr (nI F) C V E N S]) fp fn i) hlen htx hb.2 (lp_X2_readNumber81 sk hlen htx hk hi hF hF30 hft rfl rfl hd.1 hd.2 (numV_3 (run_all isD tx hb.2)) (fun h => by rw [Nat.min_eq_left h])) (len - runTo isB tx len p) (runTo isB tx len p) (Nat.le_refl _) hb.2 rfl rfl (fun j hj => absurd hj (by omega))
  rw [show numV tx (runTo isB tx len p) (min (runTo isB tx len p - runTo isB tx len p) 3) = 0 by rw [Nat.sub_self]; rfl] at h0
  exact h0
set_option maxRecDepth 20000 in
theorem c_X2_readEnd (sk : Nat → Nat) {rh rt rf rn len p fc : Nat} {fp : Int32} {pt hm sn : Bool} {tx : Nat → Nat} {fb : Nat → Int32} (hlen : len ≤ 400) (htx : ∀ j, j < len → fb j = (nI (tx j)).toInt8.toInt32 ∧ tx j < 256) (hp : p ≤ len) : Ct sk yX2_readEnd cX2_readEnd 1 none 2 0 0 [oReader rh rt rf rn (nI len) (nI p) (nI 0) fp (nI fc) pt hm sn, cB rt 400 fb] [.ref rh] (fun q w1 => q = none ∧ match endR tx len p with | .inl f => ∃ a : Nat, a ≤ len ∧ w1 = [oReader rh rt rf rn (nI len) (nI a) (nI f.1) (nI f.2) (nI fc) pt hm sn, cB rt 400 fb] | .inr u => w1 = [oReader rh rt rf rn (nI len) (nI u) (nI 0) fp (nI fc) pt hm sn, cB rt 400 fb]) := by
  refine Ct.of (own := RX2) (l := [some (.ref rh)]) (by decide) rfl (Nat.le_of_ble_eq_true rfl) rfl ?_
  refine g_aload_n dX2_readEnd_0 rfl rfl ?_
  refine g_get f_X2_41 dX2_readEnd_1 rfl 0 rfl rfl ?_
  refine g_if_eq (t := 8) dX2_readEnd_4 (by decide) rfl (fun h4 => ?_) (fun h4 => ?_)
  · skip
    refine g_aload_n dX2_readEnd_8 rfl rfl ?_
    refine g_callV (c_X2_skipBlanks sk hlen htx hp) m_X2_38 a_X2_skipBlanks dX2_readEnd_9 rfl [0, 1] rfl rfl 0 rfl rfl rfl (by decide) (by decide) (by decide) (by decide) (Nat.le_of_ble_eq_true rfl) (fun r w hK => ?_)
    obtain ⟨rfl, rfl⟩ := hK
    refine ⟨rfl, ?_⟩
    dsimp only [puts, List.set, Option.toList, List.cons_append, List.nil_append, List.append_nil]
    have hb := runTo_le isB tx hp
    refine g_aload_n dX2_readEnd_12 rfl rfl ?_
    refine g_aload_n dX2_readEnd_13 rfl rfl ?_
    refine g_get f_X2_44 dX2_readEnd_14 rfl 0 rfl rfl ?_
    refine g_callV (c_X2_byteAt sk hlen htx (by omega)) m_X2_109 a_X2_byteAt dX2_readEnd_17 rfl [0, 1] rfl rfl 0 rfl rfl rfl (by decide) (by decide) (by decide) (by decide) (Nat.le_of_ble_eq_true rfl) (fun r w hK => ?_)
    obtain ⟨rfl, rfl⟩ := hK
    refine ⟨rfl, ?_⟩
    dsimp only [puts, List.set, Option.toList, List.cons_append, List.nil_append, List.append_nil]
    refine g_bipush (v := nI 59) dX2_readEnd_20 rfl (by decide) ?_
    refine g_icmp_eq (t := 35) dX2_readEnd_22 (by decide) rfl (fun h22 => ?_) (fun h22 => ?_)
    · have hv : endR tx len p = .inr (runTo isB tx len p + 1) := by unfold endR; rw [if_pos h22]
      refine g_aload_n dX2_readEnd_35 rfl rfl ?_
      refine g_dup dX2_readEnd_36 rfl rfl ?_
      refine g_get f_X2_44 dX2_readEnd_37 rfl 0 rfl rfl ?_
      refine g_iconst (v := nI 1) dX2_readEnd_40 rfl (by decide) ?_
      refine g_iadd dX2_readEnd_41 rfl (nI_add _ _) ?_
      refine g_putI f_X2_44 dX2_readEnd_42 rfl 0 rfl (Nat.le_of_ble_eq_true rfl) rfl ?_
      dsimp only [List.set]
      exact g_vret dX2_readEnd_45 rfl (Nat.le_refl _) (Nat.le_refl _) (⟨rfl, by rw [hv]⟩)
    · have hv : endR tx len p = .inl (1, runTo isB tx len p) := by unfold endR; rw [if_neg h22]
      refine g_aload_n dX2_readEnd_25 rfl rfl ?_
      refine g_iconst (v := nI 1) dX2_readEnd_26 rfl (by decide) ?_
      refine g_aload_n dX2_readEnd_27 rfl rfl ?_
      refine g_get f_X2_44 dX2_readEnd_28 rfl 0 rfl rfl ?_
      refine g_callV (c_X2_fail sk) m_X2_71 a_X2_fail dX2_readEnd_31 rfl [0] rfl rfl 0 rfl rfl rfl (by decide) (by decide) (by decide) (by decide) (Nat.le_of_ble_eq_true rfl) (fun r w hK => ?_)
      obtain ⟨rfl, rfl⟩ := hK
      refine ⟨rfl, ?_⟩
      dsimp only [puts, List.set, Option.toList, List.cons_append, List.nil_append, List.append_nil]
      exact g_vret dX2_readEnd_34 rfl (Nat.le_refl _) (Nat.le_refl _) (⟨rfl, by rw [hv]; exact ⟨_, (runTo_le isB tx hp).2, rfl⟩⟩)
  · exact absurd rfl h4
set_option maxRecDepth 20000 in
theorem c_X2_readEndF (sk : Nat → Nat) {rh rt rf rn len fc : Nat} {fp fa ai : Int32} {pt hm sn : Bool} {tx : Nat → Nat} {fb : Nat → Int32} (hfa : ¬ fa = 0) : Ct sk yX2_readEnd cX2_readEnd 1 none 0 0 0 [oReader rh rt rf rn (nI len) ai fa fp (nI fc) pt hm sn, cB rt 400 fb] [.ref rh] (zD none [oReader rh rt rf rn (nI len) ai fa fp (nI fc) pt hm sn, cB rt 400 fb]) := by
  refine Ct.of (own := RX2) (l := [some (.ref rh)]) (by decide) rfl (Nat.le_of_ble_eq_true rfl) rfl ?_
  refine g_aload_n dX2_readEnd_0 rfl rfl ?_
  refine g_get f_X2_41 dX2_readEnd_1 rfl 0 rfl rfl ?_
  refine g_if_eq (t := 8) dX2_readEnd_4 (by decide) rfl (fun h4 => ?_) (fun h4 => ?_)
  · exact absurd h4 hfa
  · exact g_vret dX2_readEnd_7 rfl (Nat.le_refl _) (Nat.le_refl _) ⟨rfl, rfl⟩
/-- slips of a pole lie in their bounds -/
def SlB (fs : Nat → Int32) : Prop := ∀ j, j < 30 → ∃ v : Nat, v ≤ 99 ∧ fs j = nI v
def PlR (T : Nat → Nat) (fs fw fa fr : Nat → Int32) : Prop := (1 ≤ T 0 → ∀ j, j < 30 → fs j = nI (T (24 + j))) ∧ (∀ c, c < T 1 → fw c = nI (T (6 + c)) ∧ fa c = nI (T (12 + c)) ∧ fr c = nI (T (18 + c))) ∧ SlB fs
/-- what is told lies in its bounds -/
def QB (q : QS) : Prop := q.1 0 ≤ 30 ∧ q.1 1 ≤ 6 ∧ (1 ≤ q.1 1 → 1 ≤ q.1 0) ∧ q.1 4 ≤ 20 ∧ 1 ≤ q.1 4 ∧ q.1 5 ≤ 9 ∧ (∀ c, c < q.1 1 → q.1 (6 + c) ≤ 99 ∧ q.1 (12 + c) ≤ 999 ∧ q.1 (18 + c) ≤ 20) ∧ (∀ j, j < 30 → q.1 (24 + j) ≤ 99) ∧ q.2.2.1 ≤ 20
theorem slB_up {fs : Nat → Int32} {k v : Nat} (h : SlB fs) (hv : v ≤ 99) : SlB (upd fs k (nI v)) := fun j hj => by
  unfold upd
  by_cases e : j = k
  · rw [if_pos e]; exact ⟨v, hv, rfl⟩
  · rw [if_neg e]; exact h j hj
set_option maxRecDepth 20000 in
theorem c_X2_number (sk : Nat → Nat) {rh rt rf rn fc i : Nat} {ln ai fa0 fp v : Int32} {pt hm sn : Bool} {fn : Nat → Int32} (hi : i < 3) (hv : fn i = v) : Ct sk yX2_number cX2_number 2 (some .int) 0 0 0 [oReader rh rt rf rn ln ai fa0 fp (nI fc) pt hm sn, cI rn 3 fn] [.ref rh, .int (nI i)] (zD (some (.int v)) [oReader rh rt rf rn ln ai fa0 fp (nI fc) pt hm sn, cI rn 3 fn]) := by
  refine Ct.of (own := RX2) (l := [some (.ref rh), some (.int (nI i))]) (by decide) rfl (Nat.le_of_ble_eq_true rfl) rfl ?_
  refine g_iload_n dX2_number_0 rfl rfl ?_
  refine g_if_lt (t := 22) dX2_number_1 (by decide) rfl (fun h1 => ?_) (fun h1 => ?_)
  · exact absurd h1 (nI_nlt0 (by omega))
  · skip
    refine g_iload_n dX2_number_4 rfl rfl ?_
    refine g_aload_n dX2_number_5 rfl rfl ?_
    refine g_get f_X2_19 dX2_number_6 rfl 0 rfl rfl ?_
    refine g_alen dX2_number_9 rfl 1 rfl (Nat.le_of_ble_eq_true rfl) rfl ?_
    refine g_icmp_geN (t := 22) dX2_number_10 (by decide) rfl (by omega) (by omega) (fun h10 => ?_) (fun h10 => ?_)
    · exact absurd h10 (by omega)
    · skip
      refine g_aload_n dX2_number_13 rfl rfl ?_
      refine g_get f_X2_19 dX2_number_14 rfl 0 rfl rfl ?_
      refine g_iload_n dX2_number_17 rfl rfl ?_
      refine g_ialdN dX2_number_18 rfl 1 rfl (hi) (by decide) (hv) ?_
      refine g_goto (q := 23) dX2_number_19 (by decide) ?_
      exact g_iret dX2_number_23 rfl (Nat.le_refl _) (Nat.le_refl _) (⟨rfl, rfl⟩)
theorem take1T {T x : Nat → Nat} {ft : Nat → Bool} {fc : Nat} {hm sn : Bool} {j : Nat} (h0 : 0 < j) (h : j < 24) : (takeQ 1 x (T, ft, fc, hm, sn)).1 j = T j := by
  show (if j = 0 then x 0 else if 24 ≤ j then (if j - 24 < x 0 then x 1 else 0) else T j) = T j
  rw [if_neg (by omega), if_neg (by omega)]
theorem take1 {rh rt rf rn pl ps pw pa pr fc : Nat} {ln ai fa0 fp : Int32} {hm sn : Bool} {fF fn fs fw fa fr : Nat → Int32} {T x : Nat → Nat} {ft : Nat → Bool} (h : 1 ≤ x 0) : [oReader rh rt rf rn ln ai fa0 fp (nI fc) true hm sn, cZ rf 30 fF, cI rn 3 fn, oPlan pl ps pw pa pr (nI ((fun j => if j = 0 then x 0 else if 24 ≤ j then (if j - 24 < x 0 then x 1 else 0) else T j) 0)) (nI ((fun j => if j = 0 then x 0 else if 24 ≤ j then (if j - 24 < x 0 then x 1 else 0) else T j) 1)) (nI ((fun j => if j = 0 then x 0 else if 24 ≤ j then (if j - 24 < x 0 then x 1 else 0) else T j) 2)) (nI ((fun j => if j = 0 then x 0 else if 24 ≤ j then (if j - 24 < x 0 then x 1 else 0) else T j) 3)) (nI ((fun j => if j = 0 then x 0 else if 24 ≤ j then (if j - 24 < x 0 then x 1 else 0) else T j) 4)) (nI ((fun j => if j = 0 then x 0 else if 24 ≤ j then (if j - 24 < x 0 then x 1 else 0) else T j) 5)), cI ps 30 (stF (x 0) (x 1) 30 fs), cI pw 6 fw, cI pa 6 fa, cI pr 6 fr] = [oReader rh rt rf rn ln ai fa0 fp (nI (takeQ 1 x (T, ft, fc, hm, sn)).2.2.1) (decide (0 < (takeQ 1 x (T, ft, fc, hm, sn)).1 0)) (takeQ 1 x (T, ft, fc, hm, sn)).2.2.2.1 (takeQ 1 x (T, ft, fc, hm, sn)).2.2.2.2, cZ rf 30 fF, cI rn 3 fn, oPlan pl ps pw pa pr (nI ((takeQ 1 x (T, ft, fc, hm, sn)).1 0)) (nI ((takeQ 1 x (T, ft, fc, hm, sn)).1 1)) (nI ((takeQ 1 x (T, ft, fc, hm, sn)).1 2)) (nI ((takeQ 1 x (T, ft, fc, hm, sn)).1 3)) (nI ((takeQ 1 x (T, ft, fc, hm, sn)).1 4)) (nI ((takeQ 1 x (T, ft, fc, hm, sn)).1 5)), cI ps 30 (stF (x 0) (x 1) 30 fs), cI pw 6 fw, cI pa 6 fa, cI pr 6 fr] := by
  rw [show decide (0 < (takeQ 1 x (T, ft, fc, hm, sn)).1 0) = true from decide_eq_true h]
  rfl
theorem take1P {T x : Nat → Nat} {ft : Nat → Bool} {fc : Nat} {hm sn : Bool} {fs fw fa fr : Nat → Int32} (hP : PlR T fs fw fa fr) (hC6 : T 1 ≤ 6) (hx1 : x 1 ≤ 99) : PlR (takeQ 1 x (T, ft, fc, hm, sn)).1 (stF (x 0) (x 1) 30 fs) fw fa fr := by
  refine ⟨fun h0 j hj => ?_, fun c hc => ?_, fun j hj => ⟨if j < x 0 then x 1 else 0, by split <;> omega, by unfold stF; rw [if_pos hj]⟩⟩
  · show (if j < 30 then nI (if j < x 0 then x 1 else 0) else fs j) = nI (if 24 + j = 0 then x 0 else if 24 ≤ 24 + j then (if 24 + j - 24 < x 0 then x 1 else 0) else T (24 + j))
    rw [if_pos hj, if_neg (show ¬ 24 + j = 0 by omega), if_pos (show 24 ≤ 24 + j by omega), show 24 + j - 24 = j by omega]
  · have hc2 : c < T 1 := hc
    rw [take1T (by omega) (by omega), take1T (by omega) (by omega), take1T (by omega) (by omega)]
    exact hP.2.1 c hc2
set_option maxRecDepth 20000 in
theorem c_take_1 (sk : Nat → Nat) {rh rt rf rn pl ps pw pa pr fc : Nat} {ln ai fa0 fp : Int32} {hm sn : Bool} {fF fn fs fw fa fr : Nat → Int32} {T x : Nat → Nat} {ft : Nat → Bool} (hP : PlR T fs fw fa fr) (hft : ∀ j, j < 30 → fF j = zb (ft j)) (hx0 : fn 0 = nI (x 0)) (hC6 : T 1 ≤ 6) (hx1 : fn 1 = nI (x 1)) (hb0 : 1 ≤ x 0 ∧ x 0 ≤ 30) (hb1 : x 1 ≤ 99) : Ct sk yX2_take cX2_take 5 none 1 0 0 [oReader rh rt rf rn ln ai fa0 fp (nI fc) (decide (0 < T 0)) hm sn, cZ rf 30 fF, cI rn 3 fn, oPlan pl ps pw pa pr (nI (T 0)) (nI (T 1)) (nI (T 2)) (nI (T 3)) (nI (T 4)) (nI (T 5)), cI ps 30 fs, cI pw 6 fw, cI pa 6 fa, cI pr 6 fr] [.ref rh, .int (nI 1), .ref pl] (fun q w1 => q = none ∧ ∃ fF2 fs2 fw2 fa2 fr2 : Nat → Int32, w1 = [oReader rh rt rf rn ln ai fa0 fp (nI (takeQ 1 x (T, ft, fc, hm, sn)).2.2.1) (decide (0 < (takeQ 1 x (T, ft, fc, hm, sn)).1 0)) (takeQ 1 x (T, ft, fc, hm, sn)).2.2.2.1 (takeQ 1 x (T, ft, fc, hm, sn)).2.2.2.2, cZ rf 30 fF2, cI rn 3 fn, oPlan pl ps pw pa pr (nI ((takeQ 1 x (T, ft, fc, hm, sn)).1 0)) (nI ((takeQ 1 x (T, ft, fc, hm, sn)).1 1)) (nI ((takeQ 1 x (T, ft, fc, hm, sn)).1 2)) (nI ((takeQ 1 x (T, ft, fc, hm, sn)).1 3)) (nI ((takeQ 1 x (T, ft, fc, hm, sn)).1 4)) (nI ((takeQ 1 x (T, ft, fc, hm, sn)).1 5)), cI ps 30 fs2, cI pw 6 fw2, cI pa 6 fa2, cI pr 6 fr2] ∧ PlR (takeQ 1 x (T, ft, fc, hm, sn)).1 fs2 fw2 fa2 fr2 ∧ ∀ j, j < 30 → fF2 j = zb ((takeQ 1 x (T, ft, fc, hm, sn)).2.1 j)) := by
  refine Ct.of (own := RX2) (l := [some (.ref rh), some (.int (nI 1)), some (.ref pl), none, none]) (by decide) rfl (Nat.le_of_ble_eq_true rfl) rfl ?_
  refine g_aload_n dX2_take_0 rfl rfl ?_
  refine g_iconst (v := nI 0) dX2_take_1 rfl (by decide) ?_
  refine g_callV (c_X2_number sk (i := 0) (by decide) hx0) m_X2_137 a_X2_number dX2_take_2 rfl [0, 2] rfl rfl 0 rfl rfl rfl (by decide) (by decide) (by decide) (by decide) (Nat.le_of_ble_eq_true rfl) (fun r w hK => ?_)
  obtain ⟨rfl, rfl⟩ := hK
  refine ⟨rfl, ?_⟩
  dsimp only [puts, List.set, Option.toList, List.cons_append, List.nil_append, List.append_nil]
  refine g_istore_n dX2_take_5 rfl (by decide) rfl rfl ?_
  refine g_aload_n dX2_take_6 rfl rfl ?_
  refine g_iconst (v := nI 1) dX2_take_7 rfl (by decide) ?_
  refine g_callV (c_X2_number sk (i := 1) (by decide) hx1) m_X2_137 a_X2_number dX2_take_8 rfl [0, 2] rfl rfl 0 rfl rfl rfl (by decide) (by decide) (by decide) (by decide) (Nat.le_of_ble_eq_true rfl) (fun r w hK => ?_)
  obtain ⟨rfl, rfl⟩ := hK
  refine ⟨rfl, ?_⟩
  dsimp only [puts, List.set, Option.toList, List.cons_append, List.nil_append, List.append_nil]
  refine g_istore dX2_take_11 rfl (by decide) rfl rfl ?_
  refine g_iload_n dX2_take_13 rfl rfl ?_
  skip
  · refine g_tblIn (q := 44) (off := 30) dX2_take_14 (by decide) (by decide) (by decide) (by decide) ?_
    refine g_aload_n dX2_take_44 rfl rfl ?_
    refine g_iconst (v := nI 1) dX2_take_45 rfl (by decide) ?_
    refine g_putZ (b := true) f_X2_54 dX2_take_46 rfl 0 rfl (Nat.le_of_ble_eq_true rfl) rfl ?_
    dsimp only [List.set]
    refine g_aload_n dX2_take_49 rfl rfl ?_
    refine g_iload_n dX2_take_50 rfl rfl ?_
    refine g_iload dX2_take_51 rfl rfl ?_
    refine g_callV (c_X0_setFeet sk hb0.2 hb1) m_X2_140 a_X0_setFeet dX2_take_53 rfl [3, 4] rfl rfl 0 rfl rfl rfl (by decide) (by decide) (by decide) (by decide) (Nat.le_of_ble_eq_true rfl) (fun r w hK => ?_)
    obtain ⟨rfl, rfl⟩ := hK
    refine ⟨rfl, ?_⟩
    dsimp only [puts, List.set, Option.toList, List.cons_append, List.nil_append, List.append_nil]
    refine g_goto (q := 149) dX2_take_56 (by decide) ?_
    exact g_vret dX2_take_149 rfl (Nat.le_refl _) (Nat.le_refl _) (⟨rfl, fF, stF (x 0) (x 1) 30 fs, fw, fa, fr, take1 hb0.1, take1P hP hC6 hb1, hft⟩)
theorem take2T {T x : Nat → Nat} {ft : Nat → Bool} {fc : Nat} {hm sn : Bool} {j : Nat} (h : j < 24) : (takeQ 2 x (T, ft, fc, hm, sn)).1 j = T j := nup_n _ (by omega) _
theorem take2P {T x : Nat → Nat} {ft : Nat → Bool} {fc : Nat} {hm sn : Bool} {fs fw fa fr : Nat → Int32} (hP : PlR T fs fw fa fr) (hC6 : T 1 ≤ 6) (hx1 : x 1 ≤ 99) : PlR (takeQ 2 x (T, ft, fc, hm, sn)).1 (upd fs (x 0) (nI (x 1))) fw fa fr := by
  refine ⟨fun h0 j hj => ?_, fun c hc => ?_, fun j hj => slB_up hP.2.2 hx1 j hj⟩
  · show (if j = x 0 then nI (x 1) else fs j) = nI (nup T (24 + x 0) (x 1) (24 + j))
    unfold nup
    by_cases e : j = x 0
    · rw [if_pos e, if_pos (by omega)]
    · rw [if_neg e, if_neg (by omega)]
      exact hP.1 (by rw [take2T (by decide)] at h0; exact h0) j hj
  · rw [take2T (by decide)] at hc
    rw [take2T (by omega), take2T (by omega), take2T (by omega)]
    exact hP.2.1 c hc
theorem take2F {T x : Nat → Nat} {ft : Nat → Bool} {fc : Nat} {hm sn : Bool} {fF : Nat → Int32} (h : ∀ j, j < 30 → fF j = zb (ft j)) : ∀ j, j < 30 → upd fF (x 0) (zb true) j = zb ((takeQ 2 x (T, ft, fc, hm, sn)).2.1 j) := fun j hj => by
  show (if j = x 0 then zb true else fF j) = zb (if j = x 0 then true else ft j)
  by_cases e : j = x 0
  · rw [if_pos e, if_pos e]
  · rw [if_neg e, if_neg e]
    exact h j hj
set_option maxRecDepth 20000 in
theorem c_take_2 (sk : Nat → Nat) {rh rt rf rn pl ps pw pa pr fc : Nat} {ln ai fa0 fp : Int32} {hm sn : Bool} {fF fn fs fw fa fr : Nat → Int32} {T x : Nat → Nat} {ft : Nat → Bool} (hP : PlR T fs fw fa fr) (hft : ∀ j, j < 30 → fF j = zb (ft j)) (hx0 : fn 0 = nI (x 0)) (hC6 : T 1 ≤ 6) (hx1 : fn 1 = nI (x 1)) (hb0 : x 0 < 30) (hb1 : x 1 ≤ 99) : Ct sk yX2_take cX2_take 5 none 1 0 0 [oReader rh rt rf rn ln ai fa0 fp (nI fc) (decide (0 < T 0)) hm sn, cZ rf 30 fF, cI rn 3 fn, oPlan pl ps pw pa pr (nI (T 0)) (nI (T 1)) (nI (T 2)) (nI (T 3)) (nI (T 4)) (nI (T 5)), cI ps 30 fs, cI pw 6 fw, cI pa 6 fa, cI pr 6 fr] [.ref rh, .int (nI 2), .ref pl] (fun q w1 => q = none ∧ ∃ fF2 fs2 fw2 fa2 fr2 : Nat → Int32, w1 = [oReader rh rt rf rn ln ai fa0 fp (nI (takeQ 2 x (T, ft, fc, hm, sn)).2.2.1) (decide (0 < (takeQ 2 x (T, ft, fc, hm, sn)).1 0)) (takeQ 2 x (T, ft, fc, hm, sn)).2.2.2.1 (takeQ 2 x (T, ft, fc, hm, sn)).2.2.2.2, cZ rf 30 fF2, cI rn 3 fn, oPlan pl ps pw pa pr (nI ((takeQ 2 x (T, ft, fc, hm, sn)).1 0)) (nI ((takeQ 2 x (T, ft, fc, hm, sn)).1 1)) (nI ((takeQ 2 x (T, ft, fc, hm, sn)).1 2)) (nI ((takeQ 2 x (T, ft, fc, hm, sn)).1 3)) (nI ((takeQ 2 x (T, ft, fc, hm, sn)).1 4)) (nI ((takeQ 2 x (T, ft, fc, hm, sn)).1 5)), cI ps 30 fs2, cI pw 6 fw2, cI pa 6 fa2, cI pr 6 fr2] ∧ PlR (takeQ 2 x (T, ft, fc, hm, sn)).1 fs2 fw2 fa2 fr2 ∧ ∀ j, j < 30 → fF2 j = zb ((takeQ 2 x (T, ft, fc, hm, sn)).2.1 j)) := by
  refine Ct.of (own := RX2) (l := [some (.ref rh), some (.int (nI 2)), some (.ref pl), none, none]) (by decide) rfl (Nat.le_of_ble_eq_true rfl) rfl ?_
  refine g_aload_n dX2_take_0 rfl rfl ?_
  refine g_iconst (v := nI 0) dX2_take_1 rfl (by decide) ?_
  refine g_callV (c_X2_number sk (i := 0) (by decide) hx0) m_X2_137 a_X2_number dX2_take_2 rfl [0, 2] rfl rfl 0 rfl rfl rfl (by decide) (by decide) (by decide) (by decide) (Nat.le_of_ble_eq_true rfl) (fun r w hK => ?_)
  obtain ⟨rfl, rfl⟩ := hK
  refine ⟨rfl, ?_⟩
  dsimp only [puts, List.set, Option.toList, List.cons_append, List.nil_append, List.append_nil]
  refine g_istore_n dX2_take_5 rfl (by decide) rfl rfl ?_
  refine g_aload_n dX2_take_6 rfl rfl ?_
  refine g_iconst (v := nI 1) dX2_take_7 rfl (by decide) ?_
  refine g_callV (c_X2_number sk (i := 1) (by decide) hx1) m_X2_137 a_X2_number dX2_take_8 rfl [0, 2] rfl rfl 0 rfl rfl rfl (by decide) (by decide) (by decide) (by decide) (Nat.le_of_ble_eq_true rfl) (fun r w hK => ?_)
  obtain ⟨rfl, rfl⟩ := hK
  refine ⟨rfl, ?_⟩
  dsimp only [puts, List.set, Option.toList, List.cons_append, List.nil_append, List.append_nil]
  refine g_istore dX2_take_11 rfl (by decide) rfl rfl ?_
  refine g_iload_n dX2_take_13 rfl rfl ?_
  skip
  · refine g_tblIn (q := 59) (off := 45) dX2_take_14 (by decide) (by decide) (by decide) (by decide) ?_
    refine g_aload_n dX2_take_59 rfl rfl ?_
    refine g_dup dX2_take_60 rfl rfl ?_
    refine g_get f_X2_51 dX2_take_61 rfl 0 rfl rfl ?_
    refine g_iconst (v := nI 1) dX2_take_64 rfl (by decide) ?_
    refine g_iadd dX2_take_65 rfl (nI_add _ _) ?_
    refine g_putI f_X2_51 dX2_take_66 rfl 0 rfl (Nat.le_of_ble_eq_true rfl) rfl ?_
    dsimp only [List.set]
    refine g_iload_n dX2_take_69 rfl rfl ?_
    refine g_if_lt (t := 89) dX2_take_70 (by decide) rfl (fun h70 => ?_) (fun h70 => ?_)
    · exact absurd h70 (nI_nlt0 (by omega))
    · skip
      refine g_iload_n dX2_take_73 rfl rfl ?_
      refine g_aload_n dX2_take_74 rfl rfl ?_
      refine g_get f_X2_15 dX2_take_75 rfl 0 rfl rfl ?_
      refine g_alen dX2_take_78 rfl 1 rfl (Nat.le_of_ble_eq_true rfl) rfl ?_
      refine g_icmp_geN (t := 89) dX2_take_79 (by decide) rfl (by omega) (by omega) (fun h79 => ?_) (fun h79 => ?_)
      · exact absurd h79 (by omega)
      · skip
        refine g_aload_n dX2_take_82 rfl rfl ?_
        refine g_get f_X2_15 dX2_take_83 rfl 0 rfl rfl ?_
        refine g_iload_n dX2_take_86 rfl rfl ?_
        refine g_iconst (v := nI 1) dX2_take_87 rfl (by decide) ?_
        refine g_zastN (b := true) dX2_take_88 rfl 1 rfl (by omega) (by decide) (rfl) rfl ?_
        refine g_aload_n dX2_take_89 rfl rfl ?_
        refine g_iload_n dX2_take_90 rfl rfl ?_
        refine g_iload dX2_take_91 rfl rfl ?_
        refine g_callV (c_X0_setSlip sk hb0) m_X2_143 a_X0_setSlip dX2_take_93 rfl [3, 4] rfl rfl 0 rfl rfl rfl (by decide) (by decide) (by decide) (by decide) (Nat.le_of_ble_eq_true rfl) (fun r w hK => ?_)
        obtain ⟨rfl, rfl⟩ := hK
        refine ⟨rfl, ?_⟩
        dsimp only [puts, List.set, Option.toList, List.cons_append, List.nil_append, List.append_nil]
        refine g_goto (q := 149) dX2_take_96 (by decide) ?_
        exact g_vret dX2_take_149 rfl (Nat.le_refl _) (Nat.le_refl _) (⟨rfl, _, _, fw, fa, fr, (by rw [take2T (j := 0) (by decide), take2T (j := 1) (by decide), take2T (j := 2) (by decide), take2T (j := 3) (by decide), take2T (j := 4) (by decide), take2T (j := 5) (by decide)]; rfl), take2P hP hC6 hb1, take2F hft⟩)
theorem take3T {T x : Nat → Nat} {ft : Nat → Bool} {fc : Nat} {hm sn : Bool} {j : Nat} (h1 : j ≠ 1) (h : j < 6 ∨ 24 ≤ j) (hC : T 1 < 6) : (takeQ 3 x (T, ft, fc, hm, sn)).1 j = T j := by
  show nup (nup (nup (nup T (6 + T 1) (x 0)) (12 + T 1) (x 1)) (18 + T 1) (x 2)) 1 (T 1 + 1) j = T j
  rw [nup_n _ h1, nup_n _ (by omega), nup_n _ (by omega), nup_n _ (by omega)]
theorem take3C {T x : Nat → Nat} {ft : Nat → Bool} {fc : Nat} {hm sn : Bool} : (takeQ 3 x (T, ft, fc, hm, sn)).1 1 = T 1 + 1 := by
  show nup (nup (nup (nup T (6 + T 1) (x 0)) (12 + T 1) (x 1)) (18 + T 1) (x 2)) 1 (T 1 + 1) 1 = T 1 + 1
  exact nup_s _ _ _
theorem take3P {T x : Nat → Nat} {ft : Nat → Bool} {fc : Nat} {hm sn : Bool} {fs fw fa fr : Nat → Int32} (hP : PlR T fs fw fa fr) (hC : T 1 < 6) : PlR (takeQ 3 x (T, ft, fc, hm, sn)).1 fs (upd fw (T 1) (nI (x 0))) (upd fa (T 1) (nI (x 1))) (upd fr (T 1) (nI (x 2))) := by
  refine ⟨fun h0 j hj => ?_, fun c hc => ?_, hP.2.2⟩
  · rw [take3T (by omega) (by omega) hC]
    exact hP.1 (by rw [take3T (by decide) (by decide) hC] at h0; exact h0) j hj
  · rw [take3C] at hc
    show (if c = T 1 then nI (x 0) else fw c) = nI (nup (nup (nup (nup T (6 + T 1) (x 0)) (12 + T 1) (x 1)) (18 + T 1) (x 2)) 1 (T 1 + 1) (6 + c)) ∧ (if c = T 1 then nI (x 1) else fa c) = nI (nup (nup (nup (nup T (6 + T 1) (x 0)) (12 + T 1) (x 1)) (18 + T 1) (x 2)) 1 (T 1 + 1) (12 + c)) ∧ (if c = T 1 then nI (x 2) else fr c) = nI (nup (nup (nup (nup T (6 + T 1) (x 0)) (12 + T 1) (x 1)) (18 + T 1) (x 2)) 1 (T 1 + 1) (18 + c))
    by_cases e : c = T 1
    · subst e
      rw [if_pos rfl, if_pos rfl, if_pos rfl, nup_n _ (by omega), nup_n _ (by omega), nup_n _ (by omega), nup_s, nup_n _ (by omega), nup_n _ (by omega), nup_s, nup_n _ (by omega), nup_s]
      exact ⟨rfl, rfl, rfl⟩
    · have h := hP.2.1 c (by omega)
      rw [if_neg e, if_neg e, if_neg e, nup_n _ (by omega), nup_n _ (by omega), nup_n _ (by omega), nup_n _ (by omega), nup_n _ (by omega), nup_n _ (by omega), nup_n _ (by omega), nup_n _ (by omega), nup_n _ (by omega), nup_n _ (by omega), nup_n _ (by omega), nup_n _ (by omega)]
      exact h
set_option maxRecDepth 20000 in
theorem c_take_3 (sk : Nat → Nat) {rh rt rf rn pl ps pw pa pr fc : Nat} {ln ai fa0 fp : Int32} {hm sn : Bool} {fF fn fs fw fa fr : Nat → Int32} {T x : Nat → Nat} {ft : Nat → Bool} (hP : PlR T fs fw fa fr) (hft : ∀ j, j < 30 → fF j = zb (ft j)) (hx0 : fn 0 = nI (x 0)) (hC6 : T 1 ≤ 6) (hx1 : fn 1 = nI (x 1)) (hx2 : fn 2 = nI (x 2)) (hC : T 1 < 6) : Ct sk yX2_take cX2_take 5 none 1 0 0 [oReader rh rt rf rn ln ai fa0 fp (nI fc) (decide (0 < T 0)) hm sn, cZ rf 30 fF, cI rn 3 fn, oPlan pl ps pw pa pr (nI (T 0)) (nI (T 1)) (nI (T 2)) (nI (T 3)) (nI (T 4)) (nI (T 5)), cI ps 30 fs, cI pw 6 fw, cI pa 6 fa, cI pr 6 fr] [.ref rh, .int (nI 3), .ref pl] (fun q w1 => q = none ∧ ∃ fF2 fs2 fw2 fa2 fr2 : Nat → Int32, w1 = [oReader rh rt rf rn ln ai fa0 fp (nI (takeQ 3 x (T, ft, fc, hm, sn)).2.2.1) (decide (0 < (takeQ 3 x (T, ft, fc, hm, sn)).1 0)) (takeQ 3 x (T, ft, fc, hm, sn)).2.2.2.1 (takeQ 3 x (T, ft, fc, hm, sn)).2.2.2.2, cZ rf 30 fF2, cI rn 3 fn, oPlan pl ps pw pa pr (nI ((takeQ 3 x (T, ft, fc, hm, sn)).1 0)) (nI ((takeQ 3 x (T, ft, fc, hm, sn)).1 1)) (nI ((takeQ 3 x (T, ft, fc, hm, sn)).1 2)) (nI ((takeQ 3 x (T, ft, fc, hm, sn)).1 3)) (nI ((takeQ 3 x (T, ft, fc, hm, sn)).1 4)) (nI ((takeQ 3 x (T, ft, fc, hm, sn)).1 5)), cI ps 30 fs2, cI pw 6 fw2, cI pa 6 fa2, cI pr 6 fr2] ∧ PlR (takeQ 3 x (T, ft, fc, hm, sn)).1 fs2 fw2 fa2 fr2 ∧ ∀ j, j < 30 → fF2 j = zb ((takeQ 3 x (T, ft, fc, hm, sn)).2.1 j)) := by
  refine Ct.of (own := RX2) (l := [some (.ref rh), some (.int (nI 3)), some (.ref pl), none, none]) (by decide) rfl (Nat.le_of_ble_eq_true rfl) rfl ?_
  refine g_aload_n dX2_take_0 rfl rfl ?_
  refine g_iconst (v := nI 0) dX2_take_1 rfl (by decide) ?_
  refine g_callV (c_X2_number sk (i := 0) (by decide) hx0) m_X2_137 a_X2_number dX2_take_2 rfl [0, 2] rfl rfl 0 rfl rfl rfl (by decide) (by decide) (by decide) (by decide) (Nat.le_of_ble_eq_true rfl) (fun r w hK => ?_)
  obtain ⟨rfl, rfl⟩ := hK
  refine ⟨rfl, ?_⟩
  dsimp only [puts, List.set, Option.toList, List.cons_append, List.nil_append, List.append_nil]
  refine g_istore_n dX2_take_5 rfl (by decide) rfl rfl ?_
  refine g_aload_n dX2_take_6 rfl rfl ?_
  refine g_iconst (v := nI 1) dX2_take_7 rfl (by decide) ?_
  refine g_callV (c_X2_number sk (i := 1) (by decide) hx1) m_X2_137 a_X2_number dX2_take_8 rfl [0, 2] rfl rfl 0 rfl rfl rfl (by decide) (by decide) (by decide) (by decide) (Nat.le_of_ble_eq_true rfl) (fun r w hK => ?_)
  obtain ⟨rfl, rfl⟩ := hK
  refine ⟨rfl, ?_⟩
  dsimp only [puts, List.set, Option.toList, List.cons_append, List.nil_append, List.append_nil]
  refine g_istore dX2_take_11 rfl (by decide) rfl rfl ?_
  refine g_iload_n dX2_take_13 rfl rfl ?_
  skip
  · refine g_tblIn (q := 99) (off := 85) dX2_take_14 (by decide) (by decide) (by decide) (by decide) ?_
    refine g_aload_n dX2_take_99 rfl rfl ?_
    refine g_iload_n dX2_take_100 rfl rfl ?_
    refine g_iload dX2_take_101 rfl rfl ?_
    refine g_aload_n dX2_take_103 rfl rfl ?_
    refine g_iconst (v := nI 2) dX2_take_104 rfl (by decide) ?_
    refine g_callV (c_X2_number sk (i := 2) (by decide) hx2) m_X2_137 a_X2_number dX2_take_105 rfl [0, 2] rfl rfl 0 rfl rfl rfl (by decide) (by decide) (by decide) (by decide) (Nat.le_of_ble_eq_true rfl) (fun r w hK => ?_)
    obtain ⟨rfl, rfl⟩ := hK
    refine ⟨rfl, ?_⟩
    dsimp only [puts, List.set, Option.toList, List.cons_append, List.nil_append, List.append_nil]
    refine g_callV (c_X0_addClimber sk hC) m_X2_146 a_X0_addClimber dX2_take_108 rfl [3, 5, 6, 7] rfl rfl 0 rfl rfl rfl (by decide) (by decide) (by decide) (by decide) (Nat.le_of_ble_eq_true rfl) (fun r w hK => ?_)
    obtain ⟨rfl, rfl⟩ := hK
    refine ⟨rfl, ?_⟩
    dsimp only [puts, List.set, Option.toList, List.cons_append, List.nil_append, List.append_nil]
    refine g_goto (q := 149) dX2_take_111 (by decide) ?_
    exact g_vret dX2_take_149 rfl (Nat.le_refl _) (Nat.le_refl _) (⟨rfl, fF, fs, _, _, _, (by rw [take3T (j := 0) (by decide) (Or.inl (by decide)) hC, take3C, take3T (j := 2) (by decide) (Or.inl (by decide)) hC, take3T (j := 3) (by decide) (Or.inl (by decide)) hC, take3T (j := 4) (by decide) (Or.inl (by decide)) hC, take3T (j := 5) (by decide) (Or.inl (by decide)) hC]; rfl), take3P hP hC, hft⟩)
theorem take4T {T x : Nat → Nat} {ft : Nat → Bool} {fc : Nat} {hm sn : Bool} {j : Nat} (h2 : j ≠ 2) (h3 : j ≠ 3) : (takeQ 4 x (T, ft, fc, hm, sn)).1 j = T j := by
  show nup (nup T 2 (x 0)) 3 (x 1) j = T j
  rw [nup_n _ h3, nup_n _ h2]
theorem take4P {T x : Nat → Nat} {ft : Nat → Bool} {fc : Nat} {hm sn : Bool} {fs fw fa fr : Nat → Int32} (hP : PlR T fs fw fa fr) : PlR (takeQ 4 x (T, ft, fc, hm, sn)).1 fs fw fa fr := by
  refine ⟨fun h0 j hj => ?_, fun c hc => ?_, hP.2.2⟩
  · rw [take4T (by omega) (by omega)]
    exact hP.1 (by rw [take4T (by decide) (by decide)] at h0; exact h0) j hj
  · rw [take4T (by decide) (by decide)] at hc
    rw [take4T (by omega) (by omega), take4T (by omega) (by omega), take4T (by omega) (by omega)]
    exact hP.2.1 c hc
set_option maxRecDepth 20000 in
theorem c_take_4 (sk : Nat → Nat) {rh rt rf rn pl ps pw pa pr fc : Nat} {ln ai fa0 fp : Int32} {hm sn : Bool} {fF fn fs fw fa fr : Nat → Int32} {T x : Nat → Nat} {ft : Nat → Bool} (hP : PlR T fs fw fa fr) (hft : ∀ j, j < 30 → fF j = zb (ft j)) (hx0 : fn 0 = nI (x 0)) (hC6 : T 1 ≤ 6) (hx1 : fn 1 = nI (x 1)) : Ct sk yX2_take cX2_take 5 none 1 0 0 [oReader rh rt rf rn ln ai fa0 fp (nI fc) (decide (0 < T 0)) hm sn, cZ rf 30 fF, cI rn 3 fn, oPlan pl ps pw pa pr (nI (T 0)) (nI (T 1)) (nI (T 2)) (nI (T 3)) (nI (T 4)) (nI (T 5)), cI ps 30 fs, cI pw 6 fw, cI pa 6 fa, cI pr 6 fr] [.ref rh, .int (nI 4), .ref pl] (fun q w1 => q = none ∧ ∃ fF2 fs2 fw2 fa2 fr2 : Nat → Int32, w1 = [oReader rh rt rf rn ln ai fa0 fp (nI (takeQ 4 x (T, ft, fc, hm, sn)).2.2.1) (decide (0 < (takeQ 4 x (T, ft, fc, hm, sn)).1 0)) (takeQ 4 x (T, ft, fc, hm, sn)).2.2.2.1 (takeQ 4 x (T, ft, fc, hm, sn)).2.2.2.2, cZ rf 30 fF2, cI rn 3 fn, oPlan pl ps pw pa pr (nI ((takeQ 4 x (T, ft, fc, hm, sn)).1 0)) (nI ((takeQ 4 x (T, ft, fc, hm, sn)).1 1)) (nI ((takeQ 4 x (T, ft, fc, hm, sn)).1 2)) (nI ((takeQ 4 x (T, ft, fc, hm, sn)).1 3)) (nI ((takeQ 4 x (T, ft, fc, hm, sn)).1 4)) (nI ((takeQ 4 x (T, ft, fc, hm, sn)).1 5)), cI ps 30 fs2, cI pw 6 fw2, cI pa 6 fa2, cI pr 6 fr2] ∧ PlR (takeQ 4 x (T, ft, fc, hm, sn)).1 fs2 fw2 fa2 fr2 ∧ ∀ j, j < 30 → fF2 j = zb ((takeQ 4 x (T, ft, fc, hm, sn)).2.1 j)) := by
  refine Ct.of (own := RX2) (l := [some (.ref rh), some (.int (nI 4)), some (.ref pl), none, none]) (by decide) rfl (Nat.le_of_ble_eq_true rfl) rfl ?_
  refine g_aload_n dX2_take_0 rfl rfl ?_
  refine g_iconst (v := nI 0) dX2_take_1 rfl (by decide) ?_
  refine g_callV (c_X2_number sk (i := 0) (by decide) hx0) m_X2_137 a_X2_number dX2_take_2 rfl [0, 2] rfl rfl 0 rfl rfl rfl (by decide) (by decide) (by decide) (by decide) (Nat.le_of_ble_eq_true rfl) (fun r w hK => ?_)
  obtain ⟨rfl, rfl⟩ := hK
  refine ⟨rfl, ?_⟩
  dsimp only [puts, List.set, Option.toList, List.cons_append, List.nil_append, List.append_nil]
  refine g_istore_n dX2_take_5 rfl (by decide) rfl rfl ?_
  refine g_aload_n dX2_take_6 rfl rfl ?_
  refine g_iconst (v := nI 1) dX2_take_7 rfl (by decide) ?_
  refine g_callV (c_X2_number sk (i := 1) (by decide) hx1) m_X2_137 a_X2_number dX2_take_8 rfl [0, 2] rfl rfl 0 rfl rfl rfl (by decide) (by decide) (by decide) (by decide) (Nat.le_of_ble_eq_true rfl) (fun r w hK => ?_)
  obtain ⟨rfl, rfl⟩ := hK
  refine ⟨rfl, ?_⟩
  dsimp only [puts, List.set, Option.toList, List.cons_append, List.nil_append, List.append_nil]
  refine g_istore dX2_take_11 rfl (by decide) rfl rfl ?_
  refine g_iload_n dX2_take_13 rfl rfl ?_
  skip
  · refine g_tblIn (q := 114) (off := 100) dX2_take_14 (by decide) (by decide) (by decide) (by decide) ?_
    refine g_aload_n dX2_take_114 rfl rfl ?_
    refine g_iconst (v := nI 1) dX2_take_115 rfl (by decide) ?_
    refine g_putZ (b := true) f_X2_58 dX2_take_116 rfl 0 rfl (Nat.le_of_ble_eq_true rfl) rfl ?_
    dsimp only [List.set]
    refine g_aload_n dX2_take_119 rfl rfl ?_
    refine g_iload_n dX2_take_120 rfl rfl ?_
    refine g_putI f_X2_150 dX2_take_121 rfl 3 rfl (Nat.le_of_ble_eq_true rfl) rfl ?_
    dsimp only [List.set]
    refine g_aload_n dX2_take_124 rfl rfl ?_
    refine g_iload dX2_take_125 rfl rfl ?_
    refine g_putI f_X2_153 dX2_take_127 rfl 3 rfl (Nat.le_of_ble_eq_true rfl) rfl ?_
    dsimp only [List.set]
    refine g_goto (q := 149) dX2_take_130 (by decide) ?_
    exact g_vret dX2_take_149 rfl (Nat.le_refl _) (Nat.le_refl _) (⟨rfl, fF, fs, fw, fa, fr, rfl, take4P hP, hft⟩)
theorem take5T {T x : Nat → Nat} {ft : Nat → Bool} {fc : Nat} {hm sn : Bool} {j : Nat} (h2 : j ≠ 4) (h3 : j ≠ 5) : (takeQ 5 x (T, ft, fc, hm, sn)).1 j = T j := by
  show nup (nup T 4 (x 0)) 5 (x 1) j = T j
  rw [nup_n _ h3, nup_n _ h2]
theorem take5P {T x : Nat → Nat} {ft : Nat → Bool} {fc : Nat} {hm sn : Bool} {fs fw fa fr : Nat → Int32} (hP : PlR T fs fw fa fr) : PlR (takeQ 5 x (T, ft, fc, hm, sn)).1 fs fw fa fr := by
  refine ⟨fun h0 j hj => ?_, fun c hc => ?_, hP.2.2⟩
  · rw [take5T (by omega) (by omega)]
    exact hP.1 (by rw [take5T (by decide) (by decide)] at h0; exact h0) j hj
  · rw [take5T (by decide) (by decide)] at hc
    rw [take5T (by omega) (by omega), take5T (by omega) (by omega), take5T (by omega) (by omega)]
    exact hP.2.1 c hc
set_option maxRecDepth 20000 in
theorem c_take_5 (sk : Nat → Nat) {rh rt rf rn pl ps pw pa pr fc : Nat} {ln ai fa0 fp : Int32} {hm sn : Bool} {fF fn fs fw fa fr : Nat → Int32} {T x : Nat → Nat} {ft : Nat → Bool} (hP : PlR T fs fw fa fr) (hft : ∀ j, j < 30 → fF j = zb (ft j)) (hx0 : fn 0 = nI (x 0)) (hC6 : T 1 ≤ 6) (hx1 : fn 1 = nI (x 1)) : Ct sk yX2_take cX2_take 5 none 1 0 0 [oReader rh rt rf rn ln ai fa0 fp (nI fc) (decide (0 < T 0)) hm sn, cZ rf 30 fF, cI rn 3 fn, oPlan pl ps pw pa pr (nI (T 0)) (nI (T 1)) (nI (T 2)) (nI (T 3)) (nI (T 4)) (nI (T 5)), cI ps 30 fs, cI pw 6 fw, cI pa 6 fa, cI pr 6 fr] [.ref rh, .int (nI 5), .ref pl] (fun q w1 => q = none ∧ ∃ fF2 fs2 fw2 fa2 fr2 : Nat → Int32, w1 = [oReader rh rt rf rn ln ai fa0 fp (nI (takeQ 5 x (T, ft, fc, hm, sn)).2.2.1) (decide (0 < (takeQ 5 x (T, ft, fc, hm, sn)).1 0)) (takeQ 5 x (T, ft, fc, hm, sn)).2.2.2.1 (takeQ 5 x (T, ft, fc, hm, sn)).2.2.2.2, cZ rf 30 fF2, cI rn 3 fn, oPlan pl ps pw pa pr (nI ((takeQ 5 x (T, ft, fc, hm, sn)).1 0)) (nI ((takeQ 5 x (T, ft, fc, hm, sn)).1 1)) (nI ((takeQ 5 x (T, ft, fc, hm, sn)).1 2)) (nI ((takeQ 5 x (T, ft, fc, hm, sn)).1 3)) (nI ((takeQ 5 x (T, ft, fc, hm, sn)).1 4)) (nI ((takeQ 5 x (T, ft, fc, hm, sn)).1 5)), cI ps 30 fs2, cI pw 6 fw2, cI pa 6 fa2, cI pr 6 fr2] ∧ PlR (takeQ 5 x (T, ft, fc, hm, sn)).1 fs2 fw2 fa2 fr2 ∧ ∀ j, j < 30 → fF2 j = zb ((takeQ 5 x (T, ft, fc, hm, sn)).2.1 j)) := by
  refine Ct.of (own := RX2) (l := [some (.ref rh), some (.int (nI 5)), some (.ref pl), none, none]) (by decide) rfl (Nat.le_of_ble_eq_true rfl) rfl ?_
  refine g_aload_n dX2_take_0 rfl rfl ?_
  refine g_iconst (v := nI 0) dX2_take_1 rfl (by decide) ?_
  refine g_callV (c_X2_number sk (i := 0) (by decide) hx0) m_X2_137 a_X2_number dX2_take_2 rfl [0, 2] rfl rfl 0 rfl rfl rfl (by decide) (by decide) (by decide) (by decide) (Nat.le_of_ble_eq_true rfl) (fun r w hK => ?_)
  obtain ⟨rfl, rfl⟩ := hK
  refine ⟨rfl, ?_⟩
  dsimp only [puts, List.set, Option.toList, List.cons_append, List.nil_append, List.append_nil]
  refine g_istore_n dX2_take_5 rfl (by decide) rfl rfl ?_
  refine g_aload_n dX2_take_6 rfl rfl ?_
  refine g_iconst (v := nI 1) dX2_take_7 rfl (by decide) ?_
  refine g_callV (c_X2_number sk (i := 1) (by decide) hx1) m_X2_137 a_X2_number dX2_take_8 rfl [0, 2] rfl rfl 0 rfl rfl rfl (by decide) (by decide) (by decide) (by decide) (Nat.le_of_ble_eq_true rfl) (fun r w hK => ?_)
  obtain ⟨rfl, rfl⟩ := hK
  refine ⟨rfl, ?_⟩
  dsimp only [puts, List.set, Option.toList, List.cons_append, List.nil_append, List.append_nil]
  refine g_istore dX2_take_11 rfl (by decide) rfl rfl ?_
  refine g_iload_n dX2_take_13 rfl rfl ?_
  skip
  · refine g_tblOut (q := 133) dX2_take_14 (by decide) (by decide) ?_
    refine g_aload_n dX2_take_133 rfl rfl ?_
    refine g_iconst (v := nI 1) dX2_take_134 rfl (by decide) ?_
    refine g_putZ (b := true) f_X2_61 dX2_take_135 rfl 0 rfl (Nat.le_of_ble_eq_true rfl) rfl ?_
    dsimp only [List.set]
    refine g_aload_n dX2_take_138 rfl rfl ?_
    refine g_iload_n dX2_take_139 rfl rfl ?_
    refine g_putI f_X2_156 dX2_take_140 rfl 3 rfl (Nat.le_of_ble_eq_true rfl) rfl ?_
    dsimp only [List.set]
    refine g_aload_n dX2_take_143 rfl rfl ?_
    refine g_iload dX2_take_144 rfl rfl ?_
    refine g_putI f_X2_159 dX2_take_146 rfl 3 rfl (Nat.le_of_ble_eq_true rfl) rfl ?_
    dsimp only [List.set]
    exact g_vret dX2_take_149 rfl (Nat.le_refl _) (Nat.le_refl _) (⟨rfl, fF, fs, fw, fa, fr, rfl, take5P hP, hft⟩)
