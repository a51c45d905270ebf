/-! the whole text -/
theorem takeQB {x T : Nat → Nat} {ft : Nat → Bool} {k fc F : Nat} {hm sn : Bool} (hF : F = T 0) (hq : QB (T, ft, fc, hm, sn)) (hk : k = 1 ∨ k = 2 ∨ k = 3 ∨ k = 4 ∨ k = 5) (hk1 : k = 1 ∨ 1 ≤ T 0) (h48 : tooB k (T, ft, fc, hm, sn) = false) (hb : (k = 1 → (1 ≤ x 0 ∧ x 0 ≤ 30) ∧ x 1 ≤ 99) ∧ (k = 2 → x 0 < F ∧ x 1 ≤ 99 ∧ ft (x 0) = false) ∧ (k = 3 → x 0 ≤ 99 ∧ x 1 ≤ 999 ∧ x 2 ≤ 20) ∧ (k = 4 → x 0 ≤ 999 ∧ x 1 ≤ 99) ∧ (k = 5 → (1 ≤ x 0 ∧ x 0 ≤ 20) ∧ x 1 ≤ 9)) : QB (takeQ k x (T, ft, fc, hm, sn)) := by
  obtain ⟨q0, q1, q2, q3, q4, q5, q6, q7, q8⟩ := hq
  dsimp only at q0 q1 q2 q3 q4 q5 q6 q7 q8
  rcases hk with rfl | rfl | rfl | rfl | rfl
  · have b := hb.1 rfl
    refine ⟨b.1.2, ?_, fun _ => b.1.1, ?_, ?_, ?_, fun c hc => ?_, fun j hj => ?_, q8⟩
    · rw [take1T (by decide) (by decide)]; exact q1
    · rw [take1T (by decide) (by decide)]; exact q3
    · rw [take1T (by decide) (by decide)]; exact q4
    · rw [take1T (by decide) (by decide)]; exact q5
    · rw [take1T (by decide) (by decide)] at hc
      rw [take1T (by omega) (by omega), take1T (by omega) (by omega), take1T (by omega) (by omega)]
      exact q6 c hc
    · show (if 24 + j = 0 then x 0 else if 24 ≤ 24 + j then (if 24 + j - 24 < x 0 then x 1 else 0) else T (24 + j)) ≤ 99
      rw [if_neg (by omega), if_pos (by omega)]
      split
      · exact b.2
      · omega
  · have b := hb.2.1 rfl
    have c20 : fc < 20 := by
      have h49 : decide (20 ≤ fc) = false := h48
      have := of_decide_eq_false h49
      omega
    refine ⟨?_, ?_, ?_, ?_, ?_, ?_, fun c hc => ?_, fun j hj => ?_, c20⟩
    · rw [take2T (by decide)]; exact q0
    · rw [take2T (by decide)]; exact q1
    · rw [take2T (by decide), take2T (by decide)]; exact q2
    · rw [take2T (by decide)]; exact q3
    · rw [take2T (by decide)]; exact q4
    · rw [take2T (by decide)]; exact q5
    · rw [take2T (by decide)] at hc
      rw [take2T (by omega), take2T (by omega), take2T (by omega)]
      exact q6 c hc
    · show nup T (24 + x 0) (x 1) (24 + j) ≤ 99
      unfold nup
      split
      · exact b.2.1
      · exact q7 j hj
  · have b := hb.2.2.1 rfl
    have c6 : T 1 < 6 := by
      have h49 : decide (6 ≤ T 1) = false := h48
      have := of_decide_eq_false h49
      omega
    refine ⟨?_, ?_, ?_, ?_, ?_, ?_, fun c hc => ?_, fun j hj => ?_, q8⟩
    · rw [take3T (by decide) (by decide) c6]; exact q0
    · rw [take3C]; exact c6
    · intro _; rw [take3T (j := 0) (by decide) (by decide) c6]; omega
    · rw [take3T (by decide) (by decide) c6]; exact q3
    · rw [take3T (by decide) (by decide) c6]; exact q4
    · rw [take3T (by decide) (by decide) c6]; exact q5
    · rw [take3C] at hc
      show nup (nup (nup (nup T (6 + T 1) (x 0)) (12 + T 1) (x 1)) (18 + T 1) (x 2)) 1 (T 1 + 1) (6 + c) ≤ 99 ∧ nup (nup (nup (nup T (6 + T 1) (x 0)) (12 + T 1) (x 1)) (18 + T 1) (x 2)) 1 (T 1 + 1) (12 + c) ≤ 999 ∧ nup (nup (nup (nup T (6 + T 1) (x 0)) (12 + T 1) (x 1)) (18 + T 1) (x 2)) 1 (T 1 + 1) (18 + c) ≤ 20
      by_cases e : c = T 1
      · subst e
        rw [nup_n _ (by omega), nup_n _ (by omega), nup_n _ (by omega), nup_s, nup_n _ (by omega), nup_n _ (by omega), nup_s, nup_n _ (by omega), nup_s]
        exact b
      · rw [nup_n _ (by omega), nup_n _ (by omega), nup_n _ (by omega), nup_n _ (by omega), nup_n _ (by omega), nup_n _ (by omega), nup_n _ (by omega), nup_n _ (by omega), nup_n _ (by omega), nup_n _ (by omega), nup_n _ (by omega), nup_n _ (by omega)]
        exact q6 c (by omega)
    · rw [take3T (by omega) (by omega) c6]; exact q7 j hj
  · refine ⟨?_, ?_, ?_, ?_, ?_, ?_, fun c hc => ?_, fun j hj => ?_, q8⟩
    · rw [take4T (by decide) (by decide)]; exact q0
    · rw [take4T (by decide) (by decide)]; exact q1
    · rw [take4T (by decide) (by decide), take4T (by decide) (by decide)]; exact q2
    · rw [take4T (by decide) (by decide)]; exact q3
    · rw [take4T (by decide) (by decide)]; exact q4
    · rw [take4T (by decide) (by decide)]; exact q5
    · rw [take4T (by decide) (by decide)] at hc
      rw [take4T (by omega) (by omega), take4T (by omega) (by omega), take4T (by omega) (by omega)]
      exact q6 c hc
    · rw [take4T (by omega) (by omega)]; exact q7 j hj
  · have b := hb.2.2.2.2 rfl
    refine ⟨?_, ?_, ?_, ?_, ?_, ?_, fun c hc => ?_, fun j hj => ?_, q8⟩
    · rw [take5T (by decide) (by decide)]; exact q0
    · rw [take5T (by decide) (by decide)]; exact q1
    · rw [take5T (by decide) (by decide), take5T (by decide) (by decide)]; exact q2
    · show nup (nup T 4 (x 0)) 5 (x 1) 4 ≤ 20
      rw [nup_n _ (by decide), nup_s]; exact b.1.2
    · show 1 ≤ nup (nup T 4 (x 0)) 5 (x 1) 4
      rw [nup_n _ (by decide), nup_s]; exact b.1.1
    · show nup (nup T 4 (x 0)) 5 (x 1) 5 ≤ 9
      rw [nup_s]; exact b.2
    · rw [take5T (by decide) (by decide)] at hc
      rw [take5T (by omega) (by omega), take5T (by omega) (by omega), take5T (by omega) (by omega)]
      exact q6 c hc
    · rw [take5T (by omega) (by omega)]; exact q7 j hj
/-- a clause that is told leaves the bounds, and the reading goes on behind it -/
theorem clauseR_ok {tx : Nat → Nat} {len pos p : Nat} {q q2 : QS} (hq : QB q) (hp : pos ≤ len) (h : clauseR tx len q pos = .inr (q2, p)) : QB q2 ∧ pos < p ∧ p ≤ len := by
  obtain ⟨T, ft, fc, hm, sn⟩ := q
  have hL := runTo_le isL tx hp
  have hk5 := kindN_le tx pos (runTo isL tx len pos)
  unfold clauseR at h
  dsimp only at h
  generalize kindN tx pos (runTo isL tx len pos) = k at h hk5
  by_cases h1 : k = 0 ∨ (k ≠ 1 ∧ T 0 = 0)
  · rw [if_pos h1] at h
    cases h
  · rw [if_neg h1] at h
    cases h48 : tooB k (T, ft, fc, hm, sn) with
    | true => rw [if_pos h48] at h; cases h
    | false =>
      rw [if_neg (by rw [h48]; decide)] at h
      cases hn : numsR tx len k (T 0) ft (if k = 3 then 3 else 2) 0 (runTo isL tx len pos) (fun _ => 0) with
      | inl f => rw [hn] at h; cases h
      | inr u =>
        rw [hn] at h
        cases h
        have h2 := numsR_ok _ 0 _ _ _ _ hL.2 hn
        exact ⟨takeQB rfl hq (by omega) (by omega) h48 (xb_clause hL.2 hq.1 (by omega) rfl hn), by omega, h2.2.1⟩
theorem clauseR_f {tx : Nat → Nat} {len pos : Nat} {q : QS} {f : Nat × Nat} (h : clauseR tx len q pos = .inl f) : ¬ nI f.1 = 0 := by
  unfold clauseR at h
  split at h
  · cases h; exact (by decide : ¬ nI 1 = 0)
  · split at h
    · cases h; exact (by decide : ¬ nI 3 = 0)
    · split at h
      · rename_i g e
        cases h
        exact numsR_f _ _ _ _ _ e
      · cases h
theorem parseR_ok {tx : Nat → Nat} {len : Nat} : ∀ (n : Nat) (q q2 : QS) (pos : Nat), QB q → pos ≤ len → parseR tx len n q pos = .inr q2 → QB q2
  | 0, q, q2, pos, hq, hp, h => by
    rw [parseR] at h
    cases h
    exact hq
  | n + 1, q, q2, pos, hq, hp, h => by
    rw [parseR] at h
    by_cases h1 : pos < len
    · rw [if_pos h1] at h
      cases hc : clauseR tx len q pos with
      | inl f => rw [hc] at h; cases h
      | inr u =>
        rw [hc] at h
        have h2 := clauseR_ok hq hp hc
        exact parseR_ok n u.1 q2 _ h2.1 (runTo_le isB tx h2.2.2).2 h
    · rw [if_neg h1] at h
      cases h
      exact hq
theorem q0QB : QB q0R := ⟨by decide, by decide, by decide, by decide, by decide, by decide, fun c hc => absurd hc (by show ¬ c < 0; omega), fun j _ => by
  show (if 24 + j = 2 then 100 else if 24 + j = 3 then 1 else if 24 + j = 4 then 1 else 0) ≤ 99
  rw [if_neg (by omega), if_neg (by omega), if_neg (by omega)]
  omega, by decide⟩
theorem readR_ok {tx : Nat → Nat} {len : Nat} {q : QS} (h : readR tx len = .inr q) : QB q := parseR_ok len q0R q _ q0QB (runTo_le isB tx (Nat.zero_le _)).2 h
theorem QB_PB {q : QS} (h : QB q) : PB (q.1 0) (q.1 1) (q.1 4) (q.1 5) (fun c => q.1 (6 + c)) (fun c => q.1 (12 + c)) (fun c => q.1 (18 + c)) := ⟨h.1, h.2.1, h.2.2.1, h.2.2.2.1, h.2.2.2.2.1, h.2.2.2.2.2.1, h.2.2.2.2.2.2.1⟩
def rdQ (res : (Nat × Nat) ⊕ QS) (W : RW) : PS := fun q w1 => match res with
  | .inl f => q = some (.int (nI f.1)) ∧ ∃ (a : Int32) (q2 : QS) (fF fn fs fw fa fr : Nat → Int32), w1 = W a (nI f.1) (nI f.2) q2 fF fn fs fw fa fr ∧ SlB fs
  | .inr u => q = some (.int 0) ∧ ∃ (a : Int32) (fF fn fs fw fa fr : Nat → Int32), w1 = W a (nI 0) (-1) u fF fn fs fw fa fr ∧ PlR u.1 fs fw fa fr
set_option maxRecDepth 20000 in
theorem lp_readF (sk : Nat → Nat) {rh rt rf rn len pl ps pw pa pr : Nat} {tx : Nat → Nat} {fb : Nat → Int32} {i : Nat} {ai : Int32} {f : Nat × Nat} {q : QS} {res : (Nat × Nat) ⊕ QS} {fF fn fs fw fa fr : Nat → Int32} (hi : i ≤ 400) (hf : ¬ nI f.1 = 0) (hsl : SlB fs) (hres : res = .inl f) : GG sk RX2 yX2_read cX2_read 3 (some .int) 8 0 0 (rdQ res (fun ai fa fp q fF fn fs fw fa_ fr => [oReader rh rt rf rn (nI len) ai fa fp (nI q.2.2.1) (decide (0 < q.1 0)) q.2.2.2.1 q.2.2.2.2, cB rt 400 fb, cZ rf 30 fF, cI rn 3 fn, oPlan pl ps pw pa pr (nI (q.1 0)) (nI (q.1 1)) (nI (q.1 2)) (nI (q.1 3)) (nI (q.1 4)) (nI (q.1 5)), cI ps 30 fs, cI pw 6 fw, cI pa 6 fa_, cI pr 6 fr])) 0 0 14 [some (.ref rh), some (.ref pl), some (.int (nI i))] [] [oReader rh rt rf rn (nI len) ai (nI f.1) (nI f.2) (nI q.2.2.1) (decide (0 < q.1 0)) q.2.2.2.1 q.2.2.2.2, cB rt 400 fb, cZ rf 30 fF, cI rn 3 fn, oPlan pl ps pw pa pr (nI (q.1 0)) (nI (q.1 1)) (nI (q.1 2)) (nI (q.1 3)) (nI (q.1 4)) (nI (q.1 5)), cI ps 30 fs, cI pw 6 fw, cI pa 6 fa, cI pr 6 fr] := by
  refine g_iload_n dX2_read_14 rfl rfl ?_
  refine g_aload_n dX2_read_15 rfl rfl ?_
  refine g_get f_X2_9 dX2_read_16 rfl 0 rfl rfl ?_
  refine g_alen dX2_read_19 rfl 1 rfl (Nat.le_of_ble_eq_true rfl) rfl ?_
  refine g_icmp_geN (t := 56) dX2_read_20 (by decide) rfl (by omega) (by omega) (fun h20 => ?_) (fun h20 => ?_)
  · skip
    refine g_aload_n dX2_read_56 rfl rfl ?_
    refine g_get f_X2_41 dX2_read_57 rfl 0 rfl rfl ?_
    exact g_iret dX2_read_60 rfl (Nat.le_refl _) (Nat.le_refl _) (by subst hres; exact ⟨rfl, ai, q, fF, fn, fs, fw, fa, fr, rfl, hsl⟩)
  · skip
    refine g_aload_n dX2_read_23 rfl rfl ?_
    refine g_get f_X2_41 dX2_read_24 rfl 0 rfl rfl ?_
    refine g_if_ne (t := 56) dX2_read_27 (by decide) rfl (fun h27 => ?_) (fun h27 => ?_)
    · skip
      refine g_aload_n dX2_read_56 rfl rfl ?_
      refine g_get f_X2_41 dX2_read_57 rfl 0 rfl rfl ?_
      exact g_iret dX2_read_60 rfl (Nat.le_refl _) (Nat.le_refl _) (by subst hres; exact ⟨rfl, ai, q, fF, fn, fs, fw, fa, fr, rfl, hsl⟩)
    · exact absurd h27 hf
set_option maxRecDepth 20000 in
theorem lp_readB (sk : Nat → Nat) {rh rt rf rn len pl ps pw pa pr : Nat} {tx : Nat → Nat} {fb : Nat → Int32} {i a : Nat} {f : Nat × Nat} {q : QS} {res : (Nat × Nat) ⊕ QS} {fF fn fs fw fa fr : Nat → Int32} (hlen : len ≤ 400) (htx : ∀ j, j < len → fb j = (nI (tx j)).toInt8.toInt32 ∧ tx j < 256) (hi : i < 400) (ha : a ≤ len) (hf : ¬ nI f.1 = 0) (hsl : SlB fs) (hres : res = .inl f) : GG sk RX2 yX2_read cX2_read 3 (some .int) 8 0 0 (rdQ res (fun ai fa fp q fF fn fs fw fa_ fr => [oReader rh rt rf rn (nI len) ai fa fp (nI q.2.2.1) (decide (0 < q.1 0)) q.2.2.2.1 q.2.2.2.2, cB rt 400 fb, cZ rf 30 fF, cI rn 3 fn, oPlan pl ps pw pa pr (nI (q.1 0)) (nI (q.1 1)) (nI (q.1 2)) (nI (q.1 3)) (nI (q.1 4)) (nI (q.1 5)), cI ps 30 fs, cI pw 6 fw, cI pa 6 fa_, cI pr 6 fr])) 0 0 46 [some (.ref rh), some (.ref pl), some (.int (nI i))] [] [oReader rh rt rf rn (nI len) (nI a) (nI f.1) (nI f.2) (nI q.2.2.1) (decide (0 < q.1 0)) q.2.2.2.1 q.2.2.2.2, cB rt 400 fb, cZ rf 30 fF, cI rn 3 fn, oPlan pl ps pw pa pr (nI (q.1 0)) (nI (q.1 1)) (nI (q.1 2)) (nI (q.1 3)) (nI (q.1 4)) (nI (q.1 5)), cI ps 30 fs, cI pw 6 fw, cI pa 6 fa, cI pr 6 fr] := by
  refine g_aload_n dX2_read_46 rfl rfl ?_
  refine g_callV (c_X2_skipBlanks sk hlen htx ha) m_X2_38 a_X2_skipBlanks dX2_read_47 rfl [0, 1] rfl rfl 0 rfl rfl rfl (by decide) (by decide) (by decide) (by decide) (Nat.le_of_ble_eq_true rfl) (fun r w hK => ?_)
  obtain ⟨rfl, rfl⟩ := hK
  refine ⟨rfl, ?_⟩
  dsimp only [puts, List.set, Option.toList, List.cons_append, List.nil_append, List.append_nil]
  refine g_iinc dX2_read_50 rfl rfl (nI_1 _) (by decide) rfl rfl ?_
  refine g_goto (q := 14) dX2_read_53 (by decide) ?_
  exact lp_readF sk (tx := tx) (by omega) hf hsl hres
set_option maxRecDepth 20000 in
theorem lp_read (sk : Nat → Nat) {rh rt rf rn len pl ps pw pa pr : Nat} {tx : Nat → Nat} {fb : Nat → Int32} {res : (Nat × Nat) ⊕ QS} (hlen : len ≤ 400) (htx : ∀ j, j < len → fb j = (nI (tx j)).toInt8.toInt32 ∧ tx j < 256) : ∀ (n i pos : Nat) (q : QS) (fF fn fs fw fa fr : Nat → Int32), len ≤ pos + n → i ≤ pos → pos ≤ len → QB q → PlR q.1 fs fw fa fr → (∀ j, j < 30 → fF j = zb (q.2.1 j)) → parseR tx len n q pos = res → GG sk RX2 yX2_read cX2_read 3 (some .int) 8 0 0 (rdQ res (fun ai fa fp q fF fn fs fw fa_ fr => [oReader rh rt rf rn (nI len) ai fa fp (nI q.2.2.1) (decide (0 < q.1 0)) q.2.2.2.1 q.2.2.2.2, cB rt 400 fb, cZ rf 30 fF, cI rn 3 fn, oPlan pl ps pw pa pr (nI (q.1 0)) (nI (q.1 1)) (nI (q.1 2)) (nI (q.1 3)) (nI (q.1 4)) (nI (q.1 5)), cI ps 30 fs, cI pw 6 fw, cI pa 6 fa_, cI pr 6 fr])) 0 0 14 [some (.ref rh), some (.ref pl), some (.int (nI i))] [] [oReader rh rt rf rn (nI len) (nI pos) (nI 0) (-1) (nI q.2.2.1) (decide (0 < q.1 0)) q.2.2.2.1 q.2.2.2.2, cB rt 400 fb, cZ rf 30 fF, cI rn 3 fn, oPlan pl ps pw pa pr (nI (q.1 0)) (nI (q.1 1)) (nI (q.1 2)) (nI (q.1 3)) (nI (q.1 4)) (nI (q.1 5)), cI ps 30 fs, cI pw 6 fw, cI pa 6 fa, cI pr 6 fr] := by
  intro n
  induction n with
  | zero =>
    intro i pos q fF fn fs fw fa fr hn hi hp hq hP hft hres
    rw [parseR] at hres
    refine g_iload_n dX2_read_14 rfl rfl ?_
    refine g_aload_n dX2_read_15 rfl rfl ?_
    refine g_get f_X2_9 dX2_read_16 rfl 0 rfl rfl ?_
    refine g_alen dX2_read_19 rfl 1 rfl (Nat.le_of_ble_eq_true rfl) rfl ?_
    refine g_icmp_geN (t := 56) dX2_read_20 (by decide) rfl (by omega) (by omega) (fun h20 => ?_) (fun h20 => ?_)
    · skip
      refine g_aload_n dX2_read_56 rfl rfl ?_
      refine g_get f_X2_41 dX2_read_57 rfl 0 rfl rfl ?_
      exact g_iret dX2_read_60 rfl (Nat.le_refl _) (Nat.le_refl _) (by subst hres; exact ⟨rfl, _, fF, fn, fs, fw, fa, fr, rfl, hP⟩)
    · skip
      refine g_aload_n dX2_read_23 rfl rfl ?_
      refine g_get f_X2_41 dX2_read_24 rfl 0 rfl rfl ?_
      refine g_if_ne (t := 56) dX2_read_27 (by decide) rfl (fun h27 => ?_) (fun h27 => ?_)
      · exact absurd rfl h27
      · skip
        refine g_aload_n dX2_read_30 rfl rfl ?_
        refine g_get f_X2_44 dX2_read_31 rfl 0 rfl rfl ?_
        refine g_aload_n dX2_read_34 rfl rfl ?_
        refine g_get f_X2_27 dX2_read_35 rfl 0 rfl rfl ?_
        refine g_icmp_geN (t := 56) dX2_read_38 (by decide) rfl (by omega) (by omega) (fun h38 => ?_) (fun h38 => ?_)
        · skip
          refine g_aload_n dX2_read_56 rfl rfl ?_
          refine g_get f_X2_41 dX2_read_57 rfl 0 rfl rfl ?_
          exact g_iret dX2_read_60 rfl (Nat.le_refl _) (Nat.le_refl _) (by subst hres; exact ⟨rfl, _, fF, fn, fs, fw, fa, fr, rfl, hP⟩)
        · exact absurd h38 (by omega)
  | succ n ih =>
    intro i pos q fF fn fs fw fa fr hn hi hp hq hP hft hres
    rw [parseR] at hres
    refine g_iload_n dX2_read_14 rfl rfl ?_
    refine g_aload_n dX2_read_15 rfl rfl ?_
    refine g_get f_X2_9 dX2_read_16 rfl 0 rfl rfl ?_
    refine g_alen dX2_read_19 rfl 1 rfl (Nat.le_of_ble_eq_true rfl) rfl ?_
    refine g_icmp_geN (t := 56) dX2_read_20 (by decide) rfl (by omega) (by omega) (fun h20 => ?_) (fun h20 => ?_)
    · rw [if_neg (by omega)] at hres
      refine g_aload_n dX2_read_56 rfl rfl ?_
      refine g_get f_X2_41 dX2_read_57 rfl 0 rfl rfl ?_
      exact g_iret dX2_read_60 rfl (Nat.le_refl _) (Nat.le_refl _) (by subst hres; exact ⟨rfl, _, fF, fn, fs, fw, fa, fr, rfl, hP⟩)
    · skip
      refine g_aload_n dX2_read_23 rfl rfl ?_
      refine g_get f_X2_41 dX2_read_24 rfl 0 rfl rfl ?_
      refine g_if_ne (t := 56) dX2_read_27 (by decide) rfl (fun h27 => ?_) (fun h27 => ?_)
      · exact absurd rfl h27
      · skip
        refine g_aload_n dX2_read_30 rfl rfl ?_
        refine g_get f_X2_44 dX2_read_31 rfl 0 rfl rfl ?_
        refine g_aload_n dX2_read_34 rfl rfl ?_
        refine g_get f_X2_27 dX2_read_35 rfl 0 rfl rfl ?_
        refine g_icmp_geN (t := 56) dX2_read_38 (by decide) rfl (by omega) (by omega) (fun h38 => ?_) (fun h38 => ?_)
        · rw [if_neg (by omega)] at hres
          refine g_aload_n dX2_read_56 rfl rfl ?_
          refine g_get f_X2_41 dX2_read_57 rfl 0 rfl rfl ?_
          exact g_iret dX2_read_60 rfl (Nat.le_refl _) (Nat.le_refl _) (by subst hres; exact ⟨rfl, _, fF, fn, fs, fw, fa, fr, rfl, hP⟩)
        · rw [if_pos (by omega)] at hres
          refine g_aload_n dX2_read_41 rfl rfl ?_
          refine g_aload_n dX2_read_42 rfl rfl ?_
          refine g_callV (c_X2_readClause sk (T := q.1) (ft := q.2.1) (fc := q.2.2.1) (hm := q.2.2.2.1) (sn := q.2.2.2.2) hlen htx hp hq hP hft rfl) m_X2_47 a_X2_readClause dX2_read_43 rfl [0, 1, 2, 3, 4, 5, 6, 7, 8] rfl rfl 0 rfl rfl rfl (by decide) (by decide) (by decide) (by decide) (Nat.le_of_ble_eq_true rfl) (fun r w hK => ?_)
          obtain ⟨rfl, hK⟩ := hK
          cases hcl : clauseR tx len q pos with
          | inl f =>
            rw [hcl] at hres
            rw [show clauseR tx len (q.1, q.2.1, q.2.2.1, q.2.2.2.1, q.2.2.2.2) pos = .inl f from hcl] at hK
            obtain ⟨a1, fn1, ha1, rfl⟩ := hK
            refine ⟨rfl, ?_⟩
            dsimp only [puts, List.set, Option.toList, List.cons_append, List.nil_append, List.append_nil]
            exact lp_readB sk hlen htx (by omega) ha1 (clauseR_f hcl) hP.2.2 hres.symm
          | inr u =>
            rw [hcl] at hres
            rw [show clauseR tx len (q.1, q.2.1, q.2.2.1, q.2.2.2.1, q.2.2.2.2) pos = .inr u from hcl] at hK
            obtain ⟨fF2, fn2, fs2, fw2, fa2, fr2, rfl, hP2, hft2⟩ := hK
            have hu := clauseR_ok hq hp hcl
            have hL := runTo_le isB tx hu.2.2
            refine ⟨rfl, ?_⟩
            dsimp only [puts, List.set, Option.toList, List.cons_append, List.nil_append, List.append_nil]
            refine g_aload_n dX2_read_46 rfl rfl ?_
            refine g_callV (c_X2_skipBlanks sk hlen htx hu.2.2) m_X2_38 a_X2_skipBlanks dX2_read_47 rfl [0, 1] rfl rfl 0 rfl rfl rfl (by decide) (by decide) (by decide) (by decide) (Nat.le_of_ble_eq_true rfl) (fun r w hK => ?_)
            obtain ⟨rfl, rfl⟩ := hK
            refine ⟨rfl, ?_⟩
            dsimp only [puts, List.set, Option.toList, List.cons_append, List.nil_append, List.append_nil]
            refine g_iinc dX2_read_50 rfl rfl (nI_1 _) (by decide) rfl rfl ?_
            refine g_goto (q := 14) dX2_read_53 (by decide) ?_
            exact ih (i + 1) (runTo isB tx len u.2) u.1 fF2 fn2 fs2 fw2 fa2 fr2 (by omega) (by omega) hL.2 hu.1 hP2 hft2 hres
set_option maxRecDepth 20000 in
theorem c_X2_read (sk : Nat → Nat) {rh rt rf rn len pl ps pw pa pr : Nat} {tx : Nat → Nat} {fb : Nat → Int32} {ai fa0 fp F C V E N S ci : Int32} {pt hm sn : Bool} {fF fn fs fw fa fr : Nat → Int32} {res : (Nat × Nat) ⊕ QS} (hlen : len ≤ 400) (htx : ∀ j, j < len → fb j = (nI (tx j)).toInt8.toInt32 ∧ tx j < 256) (hsl : SlB fs) (hres : readR tx len = res) : Ct sk yX2_read cX2_read 3 (some .int) 8 0 0 [oReader rh rt rf rn (nI len) ai fa0 fp ci pt hm sn, cB rt 400 fb, cZ rf 30 fF, cI rn 3 fn, oPlan pl ps pw pa pr F C V E N S, cI ps 30 fs, cI pw 6 fw, cI pa 6 fa, cI pr 6 fr] [.ref rh, .ref pl] (rdQ res (fun ai fa fp q fF fn fs fw fa_ fr => [oReader rh rt rf rn (nI len) ai fa fp (nI q.2.2.1) (decide (0 < q.1 0)) q.2.2.2.1 q.2.2.2.2, cB rt 400 fb, cZ rf 30 fF, cI rn 3 fn, oPlan pl ps pw pa pr (nI (q.1 0)) (nI (q.1 1)) (nI (q.1 2)) (nI (q.1 3)) (nI (q.1 4)) (nI (q.1 5)), cI ps 30 fs, cI pw 6 fw, cI pa 6 fa_, cI pr 6 fr])) := by
  refine Ct.of (own := RX2) (l := [some (.ref rh), some (.ref pl), none]) (by decide) rfl (Nat.le_of_ble_eq_true rfl) rfl ?_
  refine g_aload_n dX2_read_0 rfl rfl ?_
  refine g_callV (c_X2_start sk) m_X2_30 a_X2_start dX2_read_1 rfl [0, 2] rfl rfl 0 rfl rfl rfl (by decide) (by decide) (by decide) (by decide) (Nat.le_of_ble_eq_true rfl) (fun r w hK => ?_)
  obtain ⟨rfl, rfl⟩ := hK
  refine ⟨rfl, ?_⟩
  dsimp only [puts, List.set, Option.toList, List.cons_append, List.nil_append, List.append_nil]
  refine g_aload_n dX2_read_4 rfl rfl ?_
  refine g_callV (c_X0_empty sk) m_X2_33 a_X0_empty dX2_read_5 rfl [4] rfl rfl 0 rfl rfl rfl (by decide) (by decide) (by decide) (by decide) (Nat.le_of_ble_eq_true rfl) (fun r w hK => ?_)
  obtain ⟨rfl, rfl⟩ := hK
  refine ⟨rfl, ?_⟩
  dsimp only [puts, List.set, Option.toList, List.cons_append, List.nil_append, List.append_nil]
  refine g_aload_n dX2_read_8 rfl rfl ?_
  refine g_callV (c_X2_skipBlanks sk (p := 0) hlen htx (Nat.zero_le _)) m_X2_38 a_X2_skipBlanks dX2_read_9 rfl [0, 1] rfl rfl 0 rfl rfl rfl (by decide) (by decide) (by decide) (by decide) (Nat.le_of_ble_eq_true rfl) (fun r w hK => ?_)
  obtain ⟨rfl, rfl⟩ := hK
  refine ⟨rfl, ?_⟩
  dsimp only [puts, List.set, Option.toList, List.cons_append, List.nil_append, List.append_nil]
  refine g_iconst (v := nI 0) dX2_read_12 rfl (by decide) ?_
  refine g_istore_n dX2_read_13 rfl (by decide) rfl rfl ?_
  have hL := runTo_le isB tx (Nat.zero_le len)
  exact lp_read sk hlen htx len 0 (runTo isB tx len 0) q0R _ fn fs fw fa fr (by omega) (by omega) hL.2 q0QB ⟨fun h => absurd h (by decide), fun c hc => absurd hc (by show ¬ c < 0; omega), hsl⟩ (fun _ _ => rfl) hres
