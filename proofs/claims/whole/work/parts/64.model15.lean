/-! the reference: the text, signs and numbers -/
def bt (x : Int32) (i : Nat) : Bool := x.toBitVec.getLsbD i
theorem b_ext {x y : Int32} (h : ∀ i, i < 32 → bt x i = bt y i) : x = y := Int32.toBitVec_inj.mp (BitVec.eq_of_getLsbD_eq (fun i hi => h i hi))
theorem b_or (x y : Int32) (i : Nat) : bt (x ||| y) i = (bt x i || bt y i) := by unfold bt; rw [Int32.toBitVec_or, BitVec.getLsbD_or]
theorem b_and (x y : Int32) (i : Nat) : bt (x &&& y) i = (bt x i && bt y i) := by unfold bt; rw [Int32.toBitVec_and, BitVec.getLsbD_and]
theorem b_0 (i : Nat) : bt 0 i = false := BitVec.getLsbD_zero
theorem b_sl : ∀ n, n < 32 → ((nI n &&& 31).toBitVec.smod 32).toNat = n := by decide +kernel
theorem b_shl (n : Nat) (hn : n < 32) (x : Int32) {i : Nat} (hi : i < 32) : bt (x <<< (nI n &&& 31)) i = (decide (n ≤ i) && bt x (i - n)) := by
  unfold bt
  rw [Int32.toBitVec_shiftLeft]
  show (x.toBitVec <<< ((nI n &&& 31).toBitVec.smod 32).toNat).getLsbD i = _
  rw [b_sl n hn, BitVec.getLsbD_shiftLeft]
  rcases Nat.lt_or_ge i n with h | h
  · simp [h, Nat.not_le.mpr h]
  · simp [hi, h, Nat.not_lt.mpr h]
theorem b_sshr (n : Nat) (hn : n < 32) (x : Int32) {i : Nat} (hi : i < 32) : bt (x >>> (nI n &&& 31)) i = if n + i < 32 then bt x (n + i) else bt x 31 := by
  unfold bt
  rw [Int32.toBitVec_shiftRight]
  show (x.toBitVec.sshiftRight ((nI n &&& 31).toBitVec.smod 32).toNat).getLsbD i = _
  rw [b_sl n hn, BitVec.getLsbD_sshiftRight, BitVec.msb_eq_getLsbD_last]
  simp [hi]
theorem b_1 (i : Nat) : bt (nI 1) i = decide (i = 0) := by
  cases i with
  | zero => rfl
  | succ i =>
    show (BitVec.ofNat 32 1).getLsbD (i + 1) = false
    simp [BitVec.getLsbD_ofNat, Nat.testBit_succ]
theorem b_get (x : Int32) {j : Nat} (hj : j < 32) : (x >>> (nI j &&& 31)) &&& nI 1 = if bt x j = true then nI 1 else nI 0 := by
  apply b_ext
  intro i hi
  rw [b_and, b_sshr j hj x hi, b_1]
  by_cases h : i = 0
  · subst h
    rw [if_pos (by omega), decide_eq_true rfl, Bool.and_true, Nat.add_zero]
    cases bt x j <;> rfl
  · rw [decide_eq_false h, Bool.and_false]
    cases bt x j
    · exact (b_0 i).symm
    · show false = bt (nI 1) i
      rw [b_1, decide_eq_false h]
theorem b_set (x : Int32) {j k : Nat} (hj : j < 32) (hk : k < 32) : bt (x ||| (nI 1 <<< (nI k &&& 31))) j = (bt x j || decide (j = k)) := by
  rw [b_or, b_shl k hk (nI 1) hj, b_1]
  congr 1
  by_cases h : j = k
  · subst h; simp
  · rw [decide_eq_false h]
    by_cases h2 : k ≤ j
    · rw [decide_eq_false (show ¬ j - k = 0 by omega), Bool.and_false]
    · rw [decide_eq_false h2, Bool.false_and]
theorem g_lcmp {sk : Nat → Nat} {own : String} {y : MethodName} {cc : ByteArray} {nL : Nat} {rt : Option FieldType} {d mc ms : Nat} {Ψ : PS} {k n pc q : Nat} {l : LV} {st : List Value} {ws : AW} {x z : Int64} (hd : decode cc pc = .ok (.lcmp, 1)) (hq : pc + 1 = q) {v : Int32} (hv : lg_cmp x z = v) (kk : GG sk own y cc nL rt d mc ms Ψ k n q l (.int v :: st) ws) : GG sk own y cc nL rt d mc ms Ψ k n pc l (.long z :: .long x :: st) ws := by
  subst hq; subst hv
  intro p la e s m args below meth c G ca A H locs ls C hl hP hD hS
  exact W.lcmp C.1 C.2.1 hd (kk p la e s m args below meth c G ca A H locs ls C hl hP hD hS)
/-- the sort of a sign -/
def soB (b : Nat) : Nat := match isL b with
  | true => 1
  | false => match isD b with
    | true => 2
    | false => if b = 59 then 3 else 4
def soN (tx : Nat → Nat) (len i : Nat) : Nat := if i < len then soB (tx i) else 0
theorem soB_le (b : Nat) : 1 ≤ soB b ∧ soB b ≤ 4 := by
  unfold soB
  cases isL b
  · cases isD b
    · dsimp only; split <;> omega
    · dsimp only; omega
  · dsimp only; omega
theorem inI_nat {b x y : Nat} (hb : b < 2 ^ 31) (hx : x < 2 ^ 31) (hy : y < 2 ^ 31) : inI (nI b) (nI x) (nI y) = (decide (x ≤ b) && decide (b ≤ y)) := by
  unfold inI
  have h1 : decide (¬ nI b < nI x) = decide (x ≤ b) := decide_eq_decide.mpr (by rw [nI_ltI hb hx]; omega)
  have h2 : decide (¬ nI y < nI b) = decide (b ≤ y) := decide_eq_decide.mpr (by rw [nI_ltI hy hb]; omega)
  rw [h1, h2]
set_option maxRecDepth 20000 in
theorem c_X7_sortB (sk : Nat → Nat) {b : Nat} (hb : b < 256) : Ct sk yX7_sortOf cX7_sortOf 1 (some .int) 1 0 0 [] [.int (nI b)] (zD (some (.int (nI (soB b)))) []) := by
  refine Ct.of (own := RX7) (l := [some (.int (nI b))]) (by decide) rfl (Nat.le_of_ble_eq_true rfl) rfl ?_
  refine g_iload_n dX7_sortOf_0 rfl rfl ?_
  refine g_if_ge (t := 8) dX7_sortOf_1 (by decide) rfl (fun h1 => ?_) (fun h1 => ?_)
  · skip
    refine g_iload_n dX7_sortOf_8 rfl rfl ?_
    refine g_bipush (v := nI 97) dX7_sortOf_9 rfl (by decide) ?_
    refine g_bipush (v := nI 122) dX7_sortOf_11 rfl (by decide) ?_
    refine g_callS (c_X7_in sk) m_X7_61 a_X7_in dX7_sortOf_13 rfl [] rfl rfl rfl rfl (by decide) (by decide) (by decide) (by decide) (Nat.le_of_ble_eq_true rfl) (fun r w hK => ?_)
    obtain ⟨rfl, rfl⟩ := hK
    refine ⟨rfl, ?_⟩
    rw [inI_nat (by omega) (by omega) (by omega)]
    dsimp only [puts, List.set, Option.toList, List.cons_append, List.nil_append, List.append_nil]
    refine g_if_eqB (t := 23) dX7_sortOf_16 (by decide) rfl (fun h16 => ?_) (fun h16 => ?_)
    · have e1 : isL b = false := h16
      refine g_iload_n dX7_sortOf_23 rfl rfl ?_
      refine g_bipush (v := nI 48) dX7_sortOf_24 rfl (by decide) ?_
      refine g_bipush (v := nI 57) dX7_sortOf_26 rfl (by decide) ?_
      refine g_callS (c_X7_in sk) m_X7_61 a_X7_in dX7_sortOf_28 rfl [] rfl rfl rfl rfl (by decide) (by decide) (by decide) (by decide) (Nat.le_of_ble_eq_true rfl) (fun r w hK => ?_)
      obtain ⟨rfl, rfl⟩ := hK
      refine ⟨rfl, ?_⟩
      rw [inI_nat (by omega) (by omega) (by omega)]
      dsimp only [puts, List.set, Option.toList, List.cons_append, List.nil_append, List.append_nil]
      refine g_if_eqB (t := 38) dX7_sortOf_31 (by decide) rfl (fun h31 => ?_) (fun h31 => ?_)
      · have e2 : isD b = false := h31
        refine g_iload_n dX7_sortOf_38 rfl rfl ?_
        refine g_bipush (v := nI 59) dX7_sortOf_39 rfl (by decide) ?_
        refine g_icmp_neN (t := 48) dX7_sortOf_41 (by decide) rfl (by omega) (by omega) (fun h41 => ?_) (fun h41 => ?_)
        · have e9 : soB b = 4 := by unfold soB; rw [e1, e2]; exact if_neg h41
          rw [e9]
          refine g_iconst (v := nI 4) dX7_sortOf_48 rfl (by decide) ?_
          exact g_iret dX7_sortOf_49 rfl (Nat.le_refl _) (Nat.le_refl _) (⟨rfl, rfl⟩)
        · have e9 : soB b = 3 := by unfold soB; rw [e1, e2]; exact if_pos h41
          rw [e9]
          refine g_iconst (v := nI 3) dX7_sortOf_44 rfl (by decide) ?_
          refine g_goto (q := 49) dX7_sortOf_45 (by decide) ?_
          exact g_iret dX7_sortOf_49 rfl (Nat.le_refl _) (Nat.le_refl _) (⟨rfl, rfl⟩)
      · have e2 : isD b = true := h31
        have e9 : soB b = 2 := by unfold soB; rw [e1, e2]
        rw [e9]
        refine g_iconst (v := nI 2) dX7_sortOf_34 rfl (by decide) ?_
        refine g_goto (q := 49) dX7_sortOf_35 (by decide) ?_
        exact g_iret dX7_sortOf_49 rfl (Nat.le_refl _) (Nat.le_refl _) (⟨rfl, rfl⟩)
    · have e1 : isL b = true := h16
      have e9 : soB b = 1 := by unfold soB; rw [e1]
      rw [e9]
      refine g_iconst (v := nI 1) dX7_sortOf_19 rfl (by decide) ?_
      refine g_goto (q := 49) dX7_sortOf_20 (by decide) ?_
      exact g_iret dX7_sortOf_49 rfl (Nat.le_refl _) (Nat.le_refl _) (⟨rfl, rfl⟩)
  · exact absurd (nI_pos' (show b < 2 ^ 31 by omega)) h1
set_option maxRecDepth 20000 in
theorem c_X7_sortE (sk : Nat → Nat)   : Ct sk yX7_sortOf cX7_sortOf 1 (some .int) 1 0 0 [] [.int (-1)] (zD (some (.int (nI 0))) []) := by
  refine Ct.of (own := RX7) (l := [some (.int (-1))]) (by decide) rfl (Nat.le_of_ble_eq_true rfl) rfl ?_
  refine g_iload_n dX7_sortOf_0 rfl rfl ?_
  refine g_if_ge (t := 8) dX7_sortOf_1 (by decide) rfl (fun h1 => ?_) (fun h1 => ?_)
  · exact absurd h1 (by decide)
  · skip
    refine g_iconst (v := nI 0) dX7_sortOf_4 rfl (by decide) ?_
    refine g_goto (q := 49) dX7_sortOf_5 (by decide) ?_
    exact g_iret dX7_sortOf_49 rfl (Nat.le_refl _) (Nat.le_refl _) (⟨rfl, rfl⟩)
theorem c_sortOf (sk : Nat → Nat) {len i : Nat} {tx : Nat → Nat} (hb : i < len → tx i < 256) : Ct sk yX7_sortOf cX7_sortOf 1 (some .int) 1 0 0 [] [.int (bN tx len i)] (zD (some (.int (nI (soN tx len i)))) []) := by
  unfold bN soN
  by_cases h : i < len
  · rw [if_pos h, if_pos h]
    exact c_X7_sortB sk (hb h)
  · rw [if_neg h, if_neg h]
    exact c_X7_sortE sk
set_option maxRecDepth 20000 in
theorem c_X7_byteAt (sk : Nat → Nat) {h mt mo md ms mn mi mz mk mw mf mr mb mu : Nat} {li se fAt at_ so sta sz fl ru : Int32} {iha isn : Bool} {len : Nat} {tx : Nat → Nat} {fx : Nat → Int32} {i : Nat} (hlen : len ≤ 400) (htx : ∀ j, j < len → fx j = nI (tx j) ∧ tx j < 256) (hi : i ≤ 400) : Ct sk yX7_byteAt cX7_byteAt 2 (some .int) 0 0 0 [oMod h mt (nI len) mo md ms mn mi mz mk mw mf li se fAt at_ so sta sz fl iha isn ru mr mb mu, cI mt 400 fx] [.ref h, .int (nI i)] (zD (some (.int (bN tx len i))) [oMod h mt (nI len) mo md ms mn mi mz mk mw mf li se fAt at_ so sta sz fl iha isn ru mr mb mu, cI mt 400 fx]) := by
  refine Ct.of (own := RX7) (l := [some (.ref h), some (.int (nI i))]) (by decide) rfl (Nat.le_of_ble_eq_true rfl) rfl ?_
  refine g_iload_n dX7_byteAt_0 rfl rfl ?_
  refine g_aload_n dX7_byteAt_1 rfl rfl ?_
  refine g_get f_X7_66 dX7_byteAt_2 rfl 0 rfl rfl ?_
  refine g_icmp_geN (t := 17) dX7_byteAt_5 (by decide) rfl (by omega) (by omega) (fun h5 => ?_) (fun h5 => ?_)
  · rw [bN, if_neg (by omega)]
    refine g_iconst (v := -1) dX7_byteAt_17 rfl (by decide) ?_
    exact g_iret dX7_byteAt_18 rfl (Nat.le_refl _) (Nat.le_refl _) (⟨rfl, rfl⟩)
  · rw [bN, if_pos h5]
    refine g_aload_n dX7_byteAt_8 rfl rfl ?_
    refine g_get f_X7_7 dX7_byteAt_9 rfl 0 rfl rfl ?_
    refine g_iload_n dX7_byteAt_12 rfl rfl ?_
    refine g_ialdN (v := nI (tx i)) dX7_byteAt_13 rfl 1 rfl (by omega) (by decide) ((htx i h5).1) ?_
    refine g_goto (q := 18) dX7_byteAt_14 (by decide) ?_
    exact g_iret dX7_byteAt_18 rfl (Nat.le_refl _) (Nat.le_refl _) (⟨rfl, rfl⟩)
theorem feed_b (b : Int64) (n : Nat) : (((b >>> ((nI (8 * n)).toInt64 &&& 63)) &&& 255) : Int64).toInt32 = nI (((b >>> ((nI (8 * n)).toInt64 &&& 63)).toInt32 &&& nI 255).toBitVec.toNat) := by
  rw [Int64.toInt32_and]
  apply Int32.toBitVec_inj.mp
  show _ = BitVec.ofNat 32 _
  rw [BitVec.ofNat_toNat, BitVec.setWidth_eq]
  rfl
set_option maxRecDepth 20000 in
theorem lp_mfeed (sk : Nat → Nat) {h mt mo md ms mn mi mz mk mw mf mr mb mu : Nat} {li se fAt at_ so sta sz fl ru : Int32} {iha isn : Bool} {len0 n0 : Nat} {b : Int64} {tx0 : Nat → Nat} (h400 : len0 + n0 ≤ 400) : ∀ (m len : Nat) (fx : Nat → Int32) (tx : Nat → Nat), len + m = len0 + n0 → m ≤ 8 → apF b m len tx = apF b n0 len0 tx0 → (∀ j, j < len → fx j = nI (tx j) ∧ tx j < 256) → GG sk RX7 yX7_feed cX7_feed 5 (some .int) 1 0 0 (fun q w1 => q = some (.int (nI (len0 + n0))) ∧ ∃ fx2 : Nat → Int32, w1 = [oMod h mt (nI (len0 + n0)) mo md ms mn mi mz mk mw mf li se fAt at_ so sta sz fl iha isn ru mr mb mu, cI mt 400 fx2] ∧ ∀ j, j < len0 + n0 → fx2 j = nI (apF b n0 len0 tx0 j) ∧ apF b n0 len0 tx0 j < 256) 0 0 33 [some (.ref h), some (.int (nI n0)), some (.long b), none, some (.int (nI m + (-1)))] [] [oMod h mt (nI len) mo md ms mn mi mz mk mw mf li se fAt at_ so sta sz fl iha isn ru mr mb mu, cI mt 400 fx] := by
  intro m
  induction m with
  | zero =>
    intro len fx tx hm h8 hap hb
    rw [apF] at hap
    subst hap
    have e : len = len0 + n0 := by omega
    subst e
    refine g_iload dX7_feed_33 rfl rfl ?_
    refine g_if_lt (t := 75) dX7_feed_35 (by decide) rfl (fun h35 => ?_) (fun h35 => ?_)
    · skip
      refine g_aload_n dX7_feed_75 rfl rfl ?_
      refine g_get f_X7_66 dX7_feed_76 rfl 0 rfl rfl ?_
      exact g_iret dX7_feed_79 rfl (Nat.le_refl _) (Nat.le_refl _) (⟨rfl, _, rfl, hb⟩)
    · exact absurd (show nI 0 + (-1) < 0 by decide) h35
  | succ m ih =>
    intro len fx tx hm h8 hap hb
    rw [pk_m1]
    rw [apF] at hap
    have hz := byte_of (b >>> ((nI (8 * m)).toInt64 &&& 63)).toInt32
    refine g_iload dX7_feed_33 rfl rfl ?_
    refine g_if_lt (t := 75) dX7_feed_35 (by decide) rfl (fun h35 => ?_) (fun h35 => ?_)
    · exact absurd h35 (nI_pos (by omega))
    · skip
      refine g_aload_n dX7_feed_38 rfl rfl ?_
      refine g_get f_X7_7 dX7_feed_39 rfl 0 rfl rfl ?_
      refine g_aload_n dX7_feed_42 rfl rfl ?_
      refine g_get f_X7_66 dX7_feed_43 rfl 0 rfl rfl ?_
      refine g_lload_n dX7_feed_46 rfl rfl ?_
      refine g_bipush (v := nI 8) dX7_feed_47 rfl (by decide) ?_
      refine g_iload dX7_feed_49 rfl rfl ?_
      refine g_imul dX7_feed_51 rfl (pk_mul _ _) ?_
      refine g_lshr dX7_feed_52 rfl rfl ?_
      refine g_ldc2 dX7_feed_53 rfl k_X7_70 ?_
      refine g_land dX7_feed_56 rfl rfl ?_
      refine g_l2i dX7_feed_57 rfl (feed_b b m) ?_
      refine g_iastN dX7_feed_58 rfl 1 rfl (by omega) (by decide) (rfl) rfl ?_
      refine g_aload_n dX7_feed_59 rfl rfl ?_
      refine g_dup dX7_feed_60 rfl rfl ?_
      refine g_get f_X7_66 dX7_feed_61 rfl 0 rfl rfl ?_
      refine g_iconst (v := nI 1) dX7_feed_64 rfl (by decide) ?_
      refine g_iadd dX7_feed_65 rfl (nI_add _ _) ?_
      refine g_putI f_X7_66 dX7_feed_66 rfl 0 rfl (Nat.le_of_ble_eq_true rfl) rfl ?_
      dsimp only [List.set]
      refine g_iinc dX7_feed_69 rfl rfl rfl (by decide) rfl rfl ?_
      refine g_goto (q := 33) dX7_feed_72 (by decide) ?_
      refine ih (len + 1) _ _ (by omega) (by omega) hap (fun j hj => ?_)
      by_cases e : j = len
      · subst e
        exact ⟨by rw [pk_us, nup_s], by rw [nup_s]; exact hz.2.1⟩
      · rw [pk_un e, nup_n _ e]
        exact hb j (by omega)
set_option maxRecDepth 20000 in
theorem c_X7_feedN (sk : Nat → Nat) {h mt mo md ms mn mi mz mk mw mf mr mb mu : Nat} {li se fAt at_ so sta sz fl ru : Int32} {iha isn : Bool} {len : Nat} {fx : Nat → Int32} {x : Int32} {b : Int64} (hx : x < nI 1 ∨ nI 8 < x) : Ct sk yX7_feed cX7_feed 5 (some .int) 1 0 0 [oMod h mt (nI len) mo md ms mn mi mz mk mw mf li se fAt at_ so sta sz fl iha isn ru mr mb mu, cI mt 400 fx] [.ref h, .int x, .long b] (zD (some (.int (-1000000002))) [oMod h mt (nI len) mo md ms mn mi mz mk mw mf li se fAt at_ so sta sz fl iha isn ru mr mb mu, cI mt 400 fx]) := by
  refine Ct.of (own := RX7) (l := [some (.ref h), some (.int x), some (.long b), none, none]) (by decide) rfl (Nat.le_of_ble_eq_true rfl) rfl ?_
  refine g_iload_n dX7_feed_0 rfl rfl ?_
  refine g_iconst (v := nI 1) dX7_feed_1 rfl (by decide) ?_
  refine g_bipush (v := nI 8) dX7_feed_2 rfl (by decide) ?_
  refine g_callS (c_X7_in sk) m_X7_61 a_X7_in dX7_feed_4 rfl [] rfl rfl rfl rfl (by decide) (by decide) (by decide) (by decide) (Nat.le_of_ble_eq_true rfl) (fun r w hK => ?_)
  obtain ⟨rfl, rfl⟩ := hK
  refine ⟨rfl, ?_⟩
  dsimp only [puts, List.set, Option.toList, List.cons_append, List.nil_append, List.append_nil]
  refine g_if_neB (t := 13) dX7_feed_7 (by decide) rfl (fun h7 => ?_) (fun h7 => ?_)
  · exact absurd hx (inI_t h7)
  · skip
    refine g_ldc dX7_feed_10 rfl k_X7_65 ?_
    exact g_iret dX7_feed_12 rfl (Nat.le_refl _) (Nat.le_refl _) (⟨rfl, rfl⟩)
set_option maxRecDepth 20000 in
theorem c_X7_feedF (sk : Nat → Nat) {h mt mo md ms mn mi mz mk mw mf mr mb mu : Nat} {li se fAt at_ so sta sz fl ru : Int32} {iha isn : Bool} {len : Nat} {fx : Nat → Int32} {j : Nat} {b : Int64} (hj : 1 ≤ j ∧ j ≤ 8) (hl : len ≤ 400) (h4 : 400 < len + j) : Ct sk yX7_feed cX7_feed 5 (some .int) 1 0 0 [oMod h mt (nI len) mo md ms mn mi mz mk mw mf li se fAt at_ so sta sz fl iha isn ru mr mb mu, cI mt 400 fx] [.ref h, .int (nI j), .long b] (zD (some (.int (-1000000004))) [oMod h mt (nI len) mo md ms mn mi mz mk mw mf li se fAt at_ so sta sz fl iha isn ru mr mb mu, cI mt 400 fx]) := by
  refine Ct.of (own := RX7) (l := [some (.ref h), some (.int (nI j)), some (.long b), none, none]) (by decide) rfl (Nat.le_of_ble_eq_true rfl) rfl ?_
  refine g_iload_n dX7_feed_0 rfl rfl ?_
  refine g_iconst (v := nI 1) dX7_feed_1 rfl (by decide) ?_
  refine g_bipush (v := nI 8) dX7_feed_2 rfl (by decide) ?_
  refine g_callS (c_X7_in sk) m_X7_61 a_X7_in dX7_feed_4 rfl [] rfl rfl rfl rfl (by decide) (by decide) (by decide) (by decide) (Nat.le_of_ble_eq_true rfl) (fun r w hK => ?_)
  obtain ⟨rfl, rfl⟩ := hK
  refine ⟨rfl, ?_⟩
  dsimp only [puts, List.set, Option.toList, List.cons_append, List.nil_append, List.append_nil]
  refine g_if_neB (t := 13) dX7_feed_7 (by decide) rfl (fun h7 => ?_) (fun h7 => ?_)
  · skip
    refine g_aload_n dX7_feed_13 rfl rfl ?_
    refine g_get f_X7_66 dX7_feed_14 rfl 0 rfl rfl ?_
    refine g_iload_n dX7_feed_17 rfl rfl ?_
    refine g_iadd dX7_feed_18 rfl (nI_add _ _) ?_
    refine g_sipush (v := nI 400) dX7_feed_19 rfl (by decide) ?_
    refine g_icmp_leN (t := 28) dX7_feed_22 (by decide) rfl (by omega) (by omega) (fun h22 => ?_) (fun h22 => ?_)
    · exact absurd h22 (by omega)
    · skip
      refine g_ldc dX7_feed_25 rfl k_X7_69 ?_
      exact g_iret dX7_feed_27 rfl (Nat.le_refl _) (Nat.le_refl _) (⟨rfl, rfl⟩)
  · exact absurd h7 (by rw [inI_N hj.1 hj.2 (by decide)]; decide)
set_option maxRecDepth 20000 in
theorem c_X7_feed (sk : Nat → Nat) {h mt mo md ms mn mi mz mk mw mf mr mb mu : Nat} {li se fAt at_ so sta sz fl ru : Int32} {iha isn : Bool} {len0 n0 : Nat} {b : Int64} {tx0 : Nat → Nat} {fx : Nat → Int32} (hj : 1 ≤ n0 ∧ n0 ≤ 8) (h4 : len0 + n0 ≤ 400) (hb : ∀ i, i < len0 → fx i = nI (tx0 i) ∧ tx0 i < 256) : Ct sk yX7_feed cX7_feed 5 (some .int) 1 0 0 [oMod h mt (nI len0) mo md ms mn mi mz mk mw mf li se fAt at_ so sta sz fl iha isn ru mr mb mu, cI mt 400 fx] [.ref h, .int (nI n0), .long b] ((fun q w1 => q = some (.int (nI (len0 + n0))) ∧ ∃ fx2 : Nat → Int32, w1 = [oMod h mt (nI (len0 + n0)) mo md ms mn mi mz mk mw mf li se fAt at_ so sta sz fl iha isn ru mr mb mu, cI mt 400 fx2] ∧ ∀ j, j < len0 + n0 → fx2 j = nI (apF b n0 len0 tx0 j) ∧ apF b n0 len0 tx0 j < 256)) := by
  refine Ct.of (own := RX7) (l := [some (.ref h), some (.int (nI n0)), some (.long b), none, none]) (by decide) rfl (Nat.le_of_ble_eq_true rfl) rfl ?_
  refine g_iload_n dX7_feed_0 rfl rfl ?_
  refine g_iconst (v := nI 1) dX7_feed_1 rfl (by decide) ?_
  refine g_bipush (v := nI 8) dX7_feed_2 rfl (by decide) ?_
  refine g_callS (c_X7_in sk) m_X7_61 a_X7_in dX7_feed_4 rfl [] rfl rfl rfl rfl (by decide) (by decide) (by decide) (by decide) (Nat.le_of_ble_eq_true rfl) (fun r w hK => ?_)
  obtain ⟨rfl, rfl⟩ := hK
  refine ⟨rfl, ?_⟩
  dsimp only [puts, List.set, Option.toList, List.cons_append, List.nil_append, List.append_nil]
  refine g_if_neB (t := 13) dX7_feed_7 (by decide) rfl (fun h7 => ?_) (fun h7 => ?_)
  · skip
    refine g_aload_n dX7_feed_13 rfl rfl ?_
    refine g_get f_X7_66 dX7_feed_14 rfl 0 rfl rfl ?_
    refine g_iload_n dX7_feed_17 rfl rfl ?_
    refine g_iadd dX7_feed_18 rfl (nI_add _ _) ?_
    refine g_sipush (v := nI 400) dX7_feed_19 rfl (by decide) ?_
    refine g_icmp_leN (t := 28) dX7_feed_22 (by decide) rfl (by omega) (by omega) (fun h22 => ?_) (fun h22 => ?_)
    · skip
      refine g_iload_n dX7_feed_28 rfl rfl ?_
      refine g_iconst (v := nI 1) dX7_feed_29 rfl (by decide) ?_
      refine g_isub dX7_feed_30 rfl (sub1_m1 n0) ?_
      refine g_istore dX7_feed_31 rfl (by decide) rfl rfl ?_
      exact lp_mfeed sk h4 n0 len0 _ tx0 (by omega) hj.2 rfl hb
    · exact absurd h22 (by omega)
  · exact absurd h7 (by rw [inI_N hj.1 hj.2 (by decide)]; decide)
/-- where the token that begins at p ends -/
def tokE (tx : Nat → Nat) (len p : Nat) : Nat := if soN tx len p = 0 then p else if soN tx len p = 1 then runTo isL tx len p else if soN tx len p = 2 then runTo isD tx len p else p + 1
theorem soN_0 {tx : Nat → Nat} {len p : Nat} : soN tx len p = 0 ↔ len ≤ p := by
  unfold soN
  by_cases h : p < len
  · rw [if_pos h]; have := soB_le (tx p); omega
  · rw [if_neg h]; omega
theorem soN_1 {tx : Nat → Nat} {len p : Nat} : soN tx len p = 1 ↔ p < len ∧ isL (tx p) = true := by
  unfold soN soB
  by_cases h : p < len
  · rw [if_pos h]
    cases h1 : isL (tx p)
    · cases isD (tx p)
      · dsimp only; split <;> simp
      · simp
    · simp [h]
  · rw [if_neg h]; simp [h]
theorem isD_L {b : Nat} (h : isD b = true) : isL b = false := by
  have := isD_b h
  unfold isL
  rw [decide_eq_false (by omega), Bool.false_and]
theorem soN_2 {tx : Nat → Nat} {len p : Nat} : soN tx len p = 2 ↔ p < len ∧ isD (tx p) = true := by
  unfold soN soB
  by_cases h : p < len
  · rw [if_pos h]
    cases h1 : isL (tx p)
    · cases isD (tx p)
      · dsimp only; split <;> simp
      · simp [h]
    · cases h2 : isD (tx p)
      · simp
      · rw [isD_L h2] at h1; cases h1
  · rw [if_neg h]; simp [h]
theorem soN_3 {tx : Nat → Nat} {len p : Nat} : soN tx len p = 3 ↔ p < len ∧ tx p = 59 := by
  unfold soN soB
  by_cases h : p < len
  · rw [if_pos h]
    cases h1 : isL (tx p)
    · cases h2 : isD (tx p)
      · dsimp only
        by_cases e : tx p = 59
        · rw [if_pos e]; simp [h, e]
        · rw [if_neg e]; simp [e]
      · have := isD_b h2
        dsimp only
        constructor
        · intro q; omega
        · intro q; omega
    · dsimp only
      constructor
      · intro q; omega
      · rintro ⟨-, q⟩; rw [q] at h1; exact absurd h1 (by decide)
  · rw [if_neg h]
    constructor
    · intro q; omega
    · intro q; exact absurd q.1 h
theorem soN_le (tx : Nat → Nat) (len p : Nat) : soN tx len p ≤ 4 := by
  unfold soN
  split
  · exact (soB_le _).2
  · omega
theorem tokE_le {tx : Nat → Nat} {len p : Nat} (h : p ≤ len) : p ≤ tokE tx len p ∧ tokE tx len p ≤ len := by
  unfold tokE
  by_cases h0 : soN tx len p = 0
  · rw [if_pos h0]; omega
  · rw [if_neg h0]
    have h00 : p < len := Nat.not_le.mp (fun q => h0 (soN_0.mpr q))
    by_cases h1 : soN tx len p = 1
    · rw [if_pos h1]; exact runTo_le isL tx h
    · rw [if_neg h1]
      by_cases h2 : soN tx len p = 2
      · rw [if_pos h2]; exact runTo_le isD tx h
      · rw [if_neg h2]; omega
theorem bN_32 {tx : Nat → Nat} {len p : Nat} (hb : p < len → tx p < 256) : bN tx len p = nI 32 ↔ p < len ∧ isB (tx p) = true := by
  unfold bN isB
  by_cases h : p < len
  · rw [if_pos h, nI_eq (by have := hb h; omega) (by omega)]
    simp [h]
  · rw [if_neg h]
    constructor
    · intro q; exact absurd q (by decide)
    · intro q; exact absurd q.1 h
set_option maxRecDepth 20000 in
theorem lp_tok0 (sk : Nat → Nat) {h mt mo md ms mn mi mz mk mw mf mr mb mu : Nat} {li se fAt so sta sz fl ru : Int32} {iha isn : Bool} {len : Nat} {tx : Nat → Nat} {fx : Nat → Int32} {Ψ : PS} (hlen : len ≤ 400) (htx : ∀ j, j < len → fx j = nI (tx j) ∧ tx j < 256) : ∀ (n p : Nat), p ≤ len → len - p = n → GG sk RX7 yX7_token cX7_token 1 none 2 0 0 Ψ 0 0 26 [some (.ref h)] [] [oMod h mt (nI len) mo md ms mn mi mz mk mw mf li se fAt (nI (runTo isB tx len p)) so sta sz fl iha isn ru mr mb mu, cI mt 400 fx] → GG sk RX7 yX7_token cX7_token 1 none 2 0 0 Ψ 0 0 0 [some (.ref h)] [] [oMod h mt (nI len) mo md ms mn mi mz mk mw mf li se fAt (nI p) so sta sz fl iha isn ru mr mb mu, cI mt 400 fx] := by
  intro n
  induction n with
  | zero =>
    intro p hp hn hK2
    rw [runTo_end isB tx (by omega)] at hK2
    refine g_aload_n dX7_token_0 rfl rfl ?_
    refine g_aload_n dX7_token_1 rfl rfl ?_
    refine g_get f_X7_72 dX7_token_2 rfl 0 rfl rfl ?_
    refine g_callV (c_X7_byteAt sk (i := p) hlen htx (by omega)) m_X7_75 a_X7_byteAt dX7_token_5 rfl [0, 1] rfl rfl 0 rfl rfl rfl (by decide) (by decide) (by decide) (by decide) (Nat.le_of_ble_eq_true rfl) (fun r w hK => ?_)
    obtain ⟨rfl, rfl⟩ := hK
    refine ⟨rfl, ?_⟩
    dsimp only [puts, List.set, Option.toList, List.cons_append, List.nil_append, List.append_nil]
    refine g_bipush (v := nI 32) dX7_token_8 rfl (by decide) ?_
    refine g_icmp_ne (t := 26) dX7_token_10 (by decide) rfl (fun h10 => ?_) (fun h10 => ?_)
    · skip
      exact hK2
    · exact absurd ((bN_32 (fun q => (htx p q).2)).mp h10).1 (by omega)
  | succ n ih =>
    intro p hp hn hK2
    refine g_aload_n dX7_token_0 rfl rfl ?_
    refine g_aload_n dX7_token_1 rfl rfl ?_
    refine g_get f_X7_72 dX7_token_2 rfl 0 rfl rfl ?_
    refine g_callV (c_X7_byteAt sk (i := p) hlen htx (by omega)) m_X7_75 a_X7_byteAt dX7_token_5 rfl [0, 1] rfl rfl 0 rfl rfl rfl (by decide) (by decide) (by decide) (by decide) (Nat.le_of_ble_eq_true rfl) (fun r w hK => ?_)
    obtain ⟨rfl, rfl⟩ := hK
    refine ⟨rfl, ?_⟩
    dsimp only [puts, List.set, Option.toList, List.cons_append, List.nil_append, List.append_nil]
    refine g_bipush (v := nI 32) dX7_token_8 rfl (by decide) ?_
    refine g_icmp_ne (t := 26) dX7_token_10 (by decide) rfl (fun h10 => ?_) (fun h10 => ?_)
    · rw [runTo_f (show p < len by omega) (Bool.eq_false_iff.mpr (fun q => h10 ((bN_32 (fun q => (htx p q).2)).mpr ⟨by omega, q⟩)))] at hK2
      exact hK2
    · have hb := (bN_32 (fun q => (htx p q).2)).mp h10
      rw [runTo_t hb.1 hb.2] at hK2
      refine g_aload_n dX7_token_13 rfl rfl ?_
      refine g_dup dX7_token_14 rfl rfl ?_
      refine g_get f_X7_72 dX7_token_15 rfl 0 rfl rfl ?_
      refine g_iconst (v := nI 1) dX7_token_18 rfl (by decide) ?_
      refine g_iadd dX7_token_19 rfl (nI_add _ _) ?_
      refine g_putI f_X7_72 dX7_token_20 rfl 0 rfl (Nat.le_of_ble_eq_true rfl) rfl ?_
      dsimp only [List.set]
      refine g_goto (q := 0) dX7_token_23 (by decide) ?_
      exact ih (p + 1) (by omega) (by omega) hK2
set_option maxRecDepth 20000 in
theorem lp_tok54_1 (sk : Nat → Nat) {h mt mo md ms mn mi mz mk mw mf mr mb mu : Nat} {li se fAt fl ru : Int32} {iha isn : Bool} {len : Nat} {tx : Nat → Nat} {fx : Nat → Int32} {p1 : Nat} {Ψ : PS} (hlen : len ≤ 400) (htx : ∀ j, j < len → fx j = nI (tx j) ∧ tx j < 256) : ∀ (n i : Nat), p1 < i → i ≤ len → len - i = n → Ψ none [oMod h mt (nI len) mo md ms mn mi mz mk mw mf li se fAt (nI (runTo isL tx len i)) (nI 1) (nI p1) (nI (runTo isL tx len i - p1)) fl iha isn ru mr mb mu, cI mt 400 fx] → GG sk RX7 yX7_token cX7_token 1 none 2 0 0 Ψ 0 0 54 [some (.ref h)] [] [oMod h mt (nI len) mo md ms mn mi mz mk mw mf li se fAt (nI i) (nI 1) (nI p1) (nI (i - p1)) fl iha isn ru mr mb mu, cI mt 400 fx] := by
  intro n
  induction n with
  | zero =>
    intro i hi hl hn hK2
    rw [runTo_end isL tx (by omega)] at hK2
    have e0 : soN tx len i = 0 := soN_0.mpr (by omega)
    refine g_aload_n dX7_token_54 rfl rfl ?_
    refine g_get f_X7_88 dX7_token_55 rfl 0 rfl rfl ?_
    refine g_if_ne (t := 68) dX7_token_58 (by decide) rfl (fun h58 => ?_) (fun h58 => ?_)
    · skip
      refine g_aload_n dX7_token_68 rfl rfl ?_
      refine g_get f_X7_85 dX7_token_69 rfl 0 rfl rfl ?_
      refine g_iconst (v := nI 1) dX7_token_72 rfl (by decide) ?_
      refine g_icmp_eqN (t := 84) dX7_token_73 (by decide) rfl (by omega) (by omega) (fun h73 => ?_) (fun h73 => ?_)
      · skip
        refine g_aload_n dX7_token_84 rfl rfl ?_
        refine g_aload_n dX7_token_85 rfl rfl ?_
        refine g_get f_X7_72 dX7_token_86 rfl 0 rfl rfl ?_
        refine g_callV (c_X7_byteAt sk (i := i) hlen htx (by omega)) m_X7_75 a_X7_byteAt dX7_token_89 rfl [0, 1] rfl rfl 0 rfl rfl rfl (by decide) (by decide) (by decide) (by decide) (Nat.le_of_ble_eq_true rfl) (fun r w hK => ?_)
        obtain ⟨rfl, rfl⟩ := hK
        refine ⟨rfl, ?_⟩
        dsimp only [puts, List.set, Option.toList, List.cons_append, List.nil_append, List.append_nil]
        refine g_callS (c_sortOf sk (fun q => (htx i q).2)) m_X7_82 a_X7_sortOf dX7_token_92 rfl [] rfl rfl rfl rfl (by decide) (by decide) (by decide) (by decide) (Nat.le_of_ble_eq_true rfl) (fun r w hK => ?_)
        obtain ⟨rfl, rfl⟩ := hK
        refine ⟨rfl, ?_⟩
        rw [e0]
        dsimp only [puts, List.set, Option.toList, List.cons_append, List.nil_append, List.append_nil]
        refine g_aload_n dX7_token_95 rfl rfl ?_
        refine g_get f_X7_85 dX7_token_96 rfl 0 rfl rfl ?_
        refine g_icmp_neN (t := 125) dX7_token_99 (by decide) rfl (by omega) (by omega) (fun h99 => ?_) (fun h99 => ?_)
        · skip
          exact g_vret dX7_token_125 rfl (Nat.le_refl _) (Nat.le_refl _) (hK2)
        · exact absurd h99 (by decide)
      · exact absurd rfl h73
    · exact absurd h58 (nI_ne0 (by omega) (by omega))
  | succ n ih =>
    intro i hi hl hn hK2
    have hle := soN_le tx len i
    refine g_aload_n dX7_token_54 rfl rfl ?_
    refine g_get f_X7_88 dX7_token_55 rfl 0 rfl rfl ?_
    refine g_if_ne (t := 68) dX7_token_58 (by decide) rfl (fun h58 => ?_) (fun h58 => ?_)
    · skip
      refine g_aload_n dX7_token_68 rfl rfl ?_
      refine g_get f_X7_85 dX7_token_69 rfl 0 rfl rfl ?_
      refine g_iconst (v := nI 1) dX7_token_72 rfl (by decide) ?_
      refine g_icmp_eqN (t := 84) dX7_token_73 (by decide) rfl (by omega) (by omega) (fun h73 => ?_) (fun h73 => ?_)
      · skip
        refine g_aload_n dX7_token_84 rfl rfl ?_
        refine g_aload_n dX7_token_85 rfl rfl ?_
        refine g_get f_X7_72 dX7_token_86 rfl 0 rfl rfl ?_
        refine g_callV (c_X7_byteAt sk (i := i) hlen htx (by omega)) m_X7_75 a_X7_byteAt dX7_token_89 rfl [0, 1] rfl rfl 0 rfl rfl rfl (by decide) (by decide) (by decide) (by decide) (Nat.le_of_ble_eq_true rfl) (fun r w hK => ?_)
        obtain ⟨rfl, rfl⟩ := hK
        refine ⟨rfl, ?_⟩
        dsimp only [puts, List.set, Option.toList, List.cons_append, List.nil_append, List.append_nil]
        refine g_callS (c_sortOf sk (fun q => (htx i q).2)) m_X7_82 a_X7_sortOf dX7_token_92 rfl [] rfl rfl rfl rfl (by decide) (by decide) (by decide) (by decide) (Nat.le_of_ble_eq_true rfl) (fun r w hK => ?_)
        obtain ⟨rfl, rfl⟩ := hK
        refine ⟨rfl, ?_⟩
        dsimp only [puts, List.set, Option.toList, List.cons_append, List.nil_append, List.append_nil]
        refine g_aload_n dX7_token_95 rfl rfl ?_
        refine g_get f_X7_85 dX7_token_96 rfl 0 rfl rfl ?_
        refine g_icmp_neN (t := 125) dX7_token_99 (by decide) rfl (by omega) (by omega) (fun h99 => ?_) (fun h99 => ?_)
        · rw [runTo_f (show i < len by omega) (Bool.eq_false_iff.mpr (fun q => h99 (soN_1.mpr ⟨by omega, q⟩)))] at hK2
          exact g_vret dX7_token_125 rfl (Nat.le_refl _) (Nat.le_refl _) (hK2)
        · have hb := soN_1.mp h99
          rw [runTo_t hb.1 hb.2] at hK2
          refine g_aload_n dX7_token_102 rfl rfl ?_
          refine g_dup dX7_token_103 rfl rfl ?_
          refine g_get f_X7_72 dX7_token_104 rfl 0 rfl rfl ?_
          refine g_iconst (v := nI 1) dX7_token_107 rfl (by decide) ?_
          refine g_iadd dX7_token_108 rfl (nI_add _ _) ?_
          refine g_putI f_X7_72 dX7_token_109 rfl 0 rfl (Nat.le_of_ble_eq_true rfl) rfl ?_
          dsimp only [List.set]
          refine g_aload_n dX7_token_112 rfl rfl ?_
          refine g_dup dX7_token_113 rfl rfl ?_
          refine g_get f_X7_88 dX7_token_114 rfl 0 rfl rfl ?_
          refine g_iconst (v := nI 1) dX7_token_117 rfl (by decide) ?_
          refine g_iadd dX7_token_118 rfl ((nI_add _ _).trans (congrArg nI (show i - p1 + 1 = i + 1 - p1 by omega))) ?_
          refine g_putI f_X7_88 dX7_token_119 rfl 0 rfl (Nat.le_of_ble_eq_true rfl) rfl ?_
          dsimp only [List.set]
          refine g_goto (q := 54) dX7_token_122 (by decide) ?_
          exact ih (i + 1) (by omega) (by omega) (by omega) hK2
      · exact absurd rfl h73
    · exact absurd h58 (nI_ne0 (by omega) (by omega))
set_option maxRecDepth 20000 in
theorem lp_tok54_2 (sk : Nat → Nat) {h mt mo md ms mn mi mz mk mw mf mr mb mu : Nat} {li se fAt fl ru : Int32} {iha isn : Bool} {len : Nat} {tx : Nat → Nat} {fx : Nat → Int32} {p1 : Nat} {Ψ : PS} (hlen : len ≤ 400) (htx : ∀ j, j < len → fx j = nI (tx j) ∧ tx j < 256) : ∀ (n i : Nat), p1 < i → i ≤ len → len - i = n → Ψ none [oMod h mt (nI len) mo md ms mn mi mz mk mw mf li se fAt (nI (runTo isD tx len i)) (nI 2) (nI p1) (nI (runTo isD tx len i - p1)) fl iha isn ru mr mb mu, cI mt 400 fx] → GG sk RX7 yX7_token cX7_token 1 none 2 0 0 Ψ 0 0 54 [some (.ref h)] [] [oMod h mt (nI len) mo md ms mn mi mz mk mw mf li se fAt (nI i) (nI 2) (nI p1) (nI (i - p1)) fl iha isn ru mr mb mu, cI mt 400 fx] := by
  intro n
  induction n with
  | zero =>
    intro i hi hl hn hK2
    rw [runTo_end isD tx (by omega)] at hK2
    have e0 : soN tx len i = 0 := soN_0.mpr (by omega)
    refine g_aload_n dX7_token_54 rfl rfl ?_
    refine g_get f_X7_88 dX7_token_55 rfl 0 rfl rfl ?_
    refine g_if_ne (t := 68) dX7_token_58 (by decide) rfl (fun h58 => ?_) (fun h58 => ?_)
    · skip
      refine g_aload_n dX7_token_68 rfl rfl ?_
      refine g_get f_X7_85 dX7_token_69 rfl 0 rfl rfl ?_
      refine g_iconst (v := nI 1) dX7_token_72 rfl (by decide) ?_
      refine g_icmp_eqN (t := 84) dX7_token_73 (by decide) rfl (by omega) (by omega) (fun h73 => ?_) (fun h73 => ?_)
      · exact absurd h73 (by decide)
      · skip
        refine g_aload_n dX7_token_76 rfl rfl ?_
        refine g_get f_X7_85 dX7_token_77 rfl 0 rfl rfl ?_
        refine g_iconst (v := nI 2) dX7_token_80 rfl (by decide) ?_
        refine g_icmp_neN (t := 125) dX7_token_81 (by decide) rfl (by omega) (by omega) (fun h81 => ?_) (fun h81 => ?_)
        · exact absurd rfl h81
        · skip
          refine g_aload_n dX7_token_84 rfl rfl ?_
          refine g_aload_n dX7_token_85 rfl rfl ?_
          refine g_get f_X7_72 dX7_token_86 rfl 0 rfl rfl ?_
          refine g_callV (c_X7_byteAt sk (i := i) hlen htx (by omega)) m_X7_75 a_X7_byteAt dX7_token_89 rfl [0, 1] rfl rfl 0 rfl rfl rfl (by decide) (by decide) (by decide) (by decide) (Nat.le_of_ble_eq_true rfl) (fun r w hK => ?_)
          obtain ⟨rfl, rfl⟩ := hK
          refine ⟨rfl, ?_⟩
          dsimp only [puts, List.set, Option.toList, List.cons_append, List.nil_append, List.append_nil]
          refine g_callS (c_sortOf sk (fun q => (htx i q).2)) m_X7_82 a_X7_sortOf dX7_token_92 rfl [] rfl rfl rfl rfl (by decide) (by decide) (by decide) (by decide) (Nat.le_of_ble_eq_true rfl) (fun r w hK => ?_)
          obtain ⟨rfl, rfl⟩ := hK
          refine ⟨rfl, ?_⟩
          rw [e0]
          dsimp only [puts, List.set, Option.toList, List.cons_append, List.nil_append, List.append_nil]
          refine g_aload_n dX7_token_95 rfl rfl ?_
          refine g_get f_X7_85 dX7_token_96 rfl 0 rfl rfl ?_
          refine g_icmp_neN (t := 125) dX7_token_99 (by decide) rfl (by omega) (by omega) (fun h99 => ?_) (fun h99 => ?_)
          · skip
            exact g_vret dX7_token_125 rfl (Nat.le_refl _) (Nat.le_refl _) (hK2)
          · exact absurd h99 (by decide)
    · exact absurd h58 (nI_ne0 (by omega) (by omega))
  | succ n ih =>
    intro i hi hl hn hK2
    have hle := soN_le tx len i
    refine g_aload_n dX7_token_54 rfl rfl ?_
    refine g_get f_X7_88 dX7_token_55 rfl 0 rfl rfl ?_
    refine g_if_ne (t := 68) dX7_token_58 (by decide) rfl (fun h58 => ?_) (fun h58 => ?_)
    · skip
      refine g_aload_n dX7_token_68 rfl rfl ?_
      refine g_get f_X7_85 dX7_token_69 rfl 0 rfl rfl ?_
      refine g_iconst (v := nI 1) dX7_token_72 rfl (by decide) ?_
      refine g_icmp_eqN (t := 84) dX7_token_73 (by decide) rfl (by omega) (by omega) (fun h73 => ?_) (fun h73 => ?_)
      · exact absurd h73 (by decide)
      · skip
        refine g_aload_n dX7_token_76 rfl rfl ?_
        refine g_get f_X7_85 dX7_token_77 rfl 0 rfl rfl ?_
        refine g_iconst (v := nI 2) dX7_token_80 rfl (by decide) ?_
        refine g_icmp_neN (t := 125) dX7_token_81 (by decide) rfl (by omega) (by omega) (fun h81 => ?_) (fun h81 => ?_)
        · exact absurd rfl h81
        · skip
          refine g_aload_n dX7_token_84 rfl rfl ?_
          refine g_aload_n dX7_token_85 rfl rfl ?_
          refine g_get f_X7_72 dX7_token_86 rfl 0 rfl rfl ?_
          refine g_callV (c_X7_byteAt sk (i := i) hlen htx (by omega)) m_X7_75 a_X7_byteAt dX7_token_89 rfl [0, 1] rfl rfl 0 rfl rfl rfl (by decide) (by decide) (by decide) (by decide) (Nat.le_of_ble_eq_true rfl) (fun r w hK => ?_)
          obtain ⟨rfl, rfl⟩ := hK
          refine ⟨rfl, ?_⟩
          dsimp only [puts, List.set, Option.toList, List.cons_append, List.nil_append, List.append_nil]
          refine g_callS (c_sortOf sk (fun q => (htx i q).2)) m_X7_82 a_X7_sortOf dX7_token_92 rfl [] rfl rfl rfl rfl (by decide) (by decide) (by decide) (by decide) (Nat.le_of_ble_eq_true rfl) (fun r w hK => ?_)
          obtain ⟨rfl, rfl⟩ := hK
          refine ⟨rfl, ?_⟩
          dsimp only [puts, List.set, Option.toList, List.cons_append, List.nil_append, List.append_nil]
          refine g_aload_n dX7_token_95 rfl rfl ?_
          refine g_get f_X7_85 dX7_token_96 rfl 0 rfl rfl ?_
          refine g_icmp_neN (t := 125) dX7_token_99 (by decide) rfl (by omega) (by omega) (fun h99 => ?_) (fun h99 => ?_)
          · rw [runTo_f (show i < len by omega) (Bool.eq_false_iff.mpr (fun q => h99 (soN_2.mpr ⟨by omega, q⟩)))] at hK2
            exact g_vret dX7_token_125 rfl (Nat.le_refl _) (Nat.le_refl _) (hK2)
          · have hb := soN_2.mp h99
            rw [runTo_t hb.1 hb.2] at hK2
            refine g_aload_n dX7_token_102 rfl rfl ?_
            refine g_dup dX7_token_103 rfl rfl ?_
            refine g_get f_X7_72 dX7_token_104 rfl 0 rfl rfl ?_
            refine g_iconst (v := nI 1) dX7_token_107 rfl (by decide) ?_
            refine g_iadd dX7_token_108 rfl (nI_add _ _) ?_
            refine g_putI f_X7_72 dX7_token_109 rfl 0 rfl (Nat.le_of_ble_eq_true rfl) rfl ?_
            dsimp only [List.set]
            refine g_aload_n dX7_token_112 rfl rfl ?_
            refine g_dup dX7_token_113 rfl rfl ?_
            refine g_get f_X7_88 dX7_token_114 rfl 0 rfl rfl ?_
            refine g_iconst (v := nI 1) dX7_token_117 rfl (by decide) ?_
            refine g_iadd dX7_token_118 rfl ((nI_add _ _).trans (congrArg nI (show i - p1 + 1 = i + 1 - p1 by omega))) ?_
            refine g_putI f_X7_88 dX7_token_119 rfl 0 rfl (Nat.le_of_ble_eq_true rfl) rfl ?_
            dsimp only [List.set]
            refine g_goto (q := 54) dX7_token_122 (by decide) ?_
            exact ih (i + 1) (by omega) (by omega) (by omega) hK2
    · exact absurd h58 (nI_ne0 (by omega) (by omega))
set_option maxRecDepth 20000 in
theorem lp_tok26 (sk : Nat → Nat) {h mt mo md ms mn mi mz mk mw mf mr mb mu : Nat} {li se fAt so sta sz fl ru : Int32} {iha isn : Bool} {len : Nat} {tx : Nat → Nat} {fx : Nat → Int32} {p1 : Nat} {Ψ : PS} (hlen : len ≤ 400) (htx : ∀ j, j < len → fx j = nI (tx j) ∧ tx j < 256) (hp1 : p1 ≤ len) (hK2 : Ψ none [oMod h mt (nI len) mo md ms mn mi mz mk mw mf li se fAt (nI (tokE tx len p1)) (nI (soN tx len p1)) (nI p1) (nI (tokE tx len p1 - p1)) fl iha isn ru mr mb mu, cI mt 400 fx]) : GG sk RX7 yX7_token cX7_token 1 none 2 0 0 Ψ 0 0 26 [some (.ref h)] [] [oMod h mt (nI len) mo md ms mn mi mz mk mw mf li se fAt (nI p1) so sta sz fl iha isn ru mr mb mu, cI mt 400 fx] := by
  refine g_aload_n dX7_token_26 rfl rfl ?_
  refine g_aload_n dX7_token_27 rfl rfl ?_
  refine g_get f_X7_72 dX7_token_28 rfl 0 rfl rfl ?_
  refine g_putI f_X7_79 dX7_token_31 rfl 0 rfl (Nat.le_of_ble_eq_true rfl) rfl ?_
  dsimp only [List.set]
  refine g_aload_n dX7_token_34 rfl rfl ?_
  refine g_aload_n dX7_token_35 rfl rfl ?_
  refine g_aload_n dX7_token_36 rfl rfl ?_
  refine g_get f_X7_72 dX7_token_37 rfl 0 rfl rfl ?_
  refine g_callV (c_X7_byteAt sk (i := p1) hlen htx (by omega)) m_X7_75 a_X7_byteAt dX7_token_40 rfl [0, 1] rfl rfl 0 rfl rfl rfl (by decide) (by decide) (by decide) (by decide) (Nat.le_of_ble_eq_true rfl) (fun r w hK => ?_)
  obtain ⟨rfl, rfl⟩ := hK
  refine ⟨rfl, ?_⟩
  dsimp only [puts, List.set, Option.toList, List.cons_append, List.nil_append, List.append_nil]
  refine g_callS (c_sortOf sk (fun q => (htx p1 q).2)) m_X7_82 a_X7_sortOf dX7_token_43 rfl [] rfl rfl rfl rfl (by decide) (by decide) (by decide) (by decide) (Nat.le_of_ble_eq_true rfl) (fun r w hK => ?_)
  obtain ⟨rfl, rfl⟩ := hK
  refine ⟨rfl, ?_⟩
  dsimp only [puts, List.set, Option.toList, List.cons_append, List.nil_append, List.append_nil]
  refine g_putI f_X7_85 dX7_token_46 rfl 0 rfl (Nat.le_of_ble_eq_true rfl) rfl ?_
  dsimp only [List.set]
  refine g_aload_n dX7_token_49 rfl rfl ?_
  refine g_iconst (v := nI 0) dX7_token_50 rfl (by decide) ?_
  refine g_putI f_X7_88 dX7_token_51 rfl 0 rfl (Nat.le_of_ble_eq_true rfl) rfl ?_
  dsimp only [List.set]
  have hle := soN_le tx len p1
  rcases (show soN tx len p1 = 0 ∨ soN tx len p1 = 1 ∨ soN tx len p1 = 2 ∨ soN tx len p1 = 3 ∨ soN tx len p1 = 4 by omega) with e0 | e0 | e0 | e0 | e0
  · have eE : tokE tx len p1 = p1 := by unfold tokE; rw [e0]; rfl
    rw [eE, e0] at hK2
    rw [e0]
    rw [Nat.sub_self] at hK2
    refine g_aload_n dX7_token_54 rfl rfl ?_
    refine g_get f_X7_88 dX7_token_55 rfl 0 rfl rfl ?_
    refine g_if_ne (t := 68) dX7_token_58 (by decide) rfl (fun h58 => ?_) (fun h58 => ?_)
    · exact absurd rfl h58
    · skip
      refine g_aload_n dX7_token_61 rfl rfl ?_
      refine g_get f_X7_85 dX7_token_62 rfl 0 rfl rfl ?_
      refine g_if_ne (t := 102) dX7_token_65 (by decide) rfl (fun h65 => ?_) (fun h65 => ?_)
      · exact absurd rfl h65
      · skip
        refine g_aload_n dX7_token_68 rfl rfl ?_
        refine g_get f_X7_85 dX7_token_69 rfl 0 rfl rfl ?_
        refine g_iconst (v := nI 1) dX7_token_72 rfl (by decide) ?_
        refine g_icmp_eqN (t := 84) dX7_token_73 (by decide) rfl (by omega) (by omega) (fun h73 => ?_) (fun h73 => ?_)
        · exact absurd h73 (by decide)
        · skip
          refine g_aload_n dX7_token_76 rfl rfl ?_
          refine g_get f_X7_85 dX7_token_77 rfl 0 rfl rfl ?_
          refine g_iconst (v := nI 2) dX7_token_80 rfl (by decide) ?_
          refine g_icmp_neN (t := 125) dX7_token_81 (by decide) rfl (by omega) (by omega) (fun h81 => ?_) (fun h81 => ?_)
          · skip
            exact g_vret dX7_token_125 rfl (Nat.le_refl _) (Nat.le_refl _) (hK2)
          · exact absurd h81 (by decide)
  · have eE : tokE tx len p1 = runTo isL tx len p1 := by unfold tokE; rw [e0]; rfl
    rw [eE, e0] at hK2
    rw [e0]
    have hb := soN_1.mp e0
    rw [runTo_t hb.1 hb.2] at hK2
    refine g_aload_n dX7_token_54 rfl rfl ?_
    refine g_get f_X7_88 dX7_token_55 rfl 0 rfl rfl ?_
    refine g_if_ne (t := 68) dX7_token_58 (by decide) rfl (fun h58 => ?_) (fun h58 => ?_)
    · exact absurd rfl h58
    · skip
      refine g_aload_n dX7_token_61 rfl rfl ?_
      refine g_get f_X7_85 dX7_token_62 rfl 0 rfl rfl ?_
      refine g_if_ne (t := 102) dX7_token_65 (by decide) rfl (fun h65 => ?_) (fun h65 => ?_)
      · skip
        refine g_aload_n dX7_token_102 rfl rfl ?_
        refine g_dup dX7_token_103 rfl rfl ?_
        refine g_get f_X7_72 dX7_token_104 rfl 0 rfl rfl ?_
        refine g_iconst (v := nI 1) dX7_token_107 rfl (by decide) ?_
        refine g_iadd dX7_token_108 rfl (nI_add _ _) ?_
        refine g_putI f_X7_72 dX7_token_109 rfl 0 rfl (Nat.le_of_ble_eq_true rfl) rfl ?_
        dsimp only [List.set]
        refine g_aload_n dX7_token_112 rfl rfl ?_
        refine g_dup dX7_token_113 rfl rfl ?_
        refine g_get f_X7_88 dX7_token_114 rfl 0 rfl rfl ?_
        refine g_iconst (v := nI 1) dX7_token_117 rfl (by decide) ?_
        refine g_iadd dX7_token_118 rfl (nI_add _ _) ?_
        refine g_putI f_X7_88 dX7_token_119 rfl 0 rfl (Nat.le_of_ble_eq_true rfl) rfl ?_
        dsimp only [List.set]
        refine g_goto (q := 54) dX7_token_122 (by decide) ?_
        rw [show 0 + 1 = p1 + 1 - p1 by omega]
        exact lp_tok54_1 sk hlen htx _ (p1 + 1) (by omega) (by omega) rfl hK2
      · exact absurd h65 (by decide)
  · have eE : tokE tx len p1 = runTo isD tx len p1 := by unfold tokE; rw [e0]; rfl
    rw [eE, e0] at hK2
    rw [e0]
    have hb := soN_2.mp e0
    rw [runTo_t hb.1 hb.2] at hK2
    refine g_aload_n dX7_token_54 rfl rfl ?_
    refine g_get f_X7_88 dX7_token_55 rfl 0 rfl rfl ?_
    refine g_if_ne (t := 68) dX7_token_58 (by decide) rfl (fun h58 => ?_) (fun h58 => ?_)
    · exact absurd rfl h58
    · skip
      refine g_aload_n dX7_token_61 rfl rfl ?_
      refine g_get f_X7_85 dX7_token_62 rfl 0 rfl rfl ?_
      refine g_if_ne (t := 102) dX7_token_65 (by decide) rfl (fun h65 => ?_) (fun h65 => ?_)
      · skip
        refine g_aload_n dX7_token_102 rfl rfl ?_
        refine g_dup dX7_token_103 rfl rfl ?_
        refine g_get f_X7_72 dX7_token_104 rfl 0 rfl rfl ?_
        refine g_iconst (v := nI 1) dX7_token_107 rfl (by decide) ?_
        refine g_iadd dX7_token_108 rfl (nI_add _ _) ?_
        refine g_putI f_X7_72 dX7_token_109 rfl 0 rfl (Nat.le_of_ble_eq_true rfl) rfl ?_
        dsimp only [List.set]
        refine g_aload_n dX7_token_112 rfl rfl ?_
        refine g_dup dX7_token_113 rfl rfl ?_
        refine g_get f_X7_88 dX7_token_114 rfl 0 rfl rfl ?_
        refine g_iconst (v := nI 1) dX7_token_117 rfl (by decide) ?_
        refine g_iadd dX7_token_118 rfl (nI_add _ _) ?_
        refine g_putI f_X7_88 dX7_token_119 rfl 0 rfl (Nat.le_of_ble_eq_true rfl) rfl ?_
        dsimp only [List.set]
        refine g_goto (q := 54) dX7_token_122 (by decide) ?_
        rw [show 0 + 1 = p1 + 1 - p1 by omega]
        exact lp_tok54_2 sk hlen htx _ (p1 + 1) (by omega) (by omega) rfl hK2
      · exact absurd h65 (by decide)
  · have eE : tokE tx len p1 = p1 + 1 := by unfold tokE; rw [e0]; rfl
    rw [eE, e0] at hK2
    rw [e0]
    rw [show p1 + 1 - p1 = 0 + 1 by omega] at hK2
    have hlt : p1 < len := Nat.not_le.mp (fun q => absurd (soN_0.mpr q) (by rw [e0]; decide))
    refine g_aload_n dX7_token_54 rfl rfl ?_
    refine g_get f_X7_88 dX7_token_55 rfl 0 rfl rfl ?_
    refine g_if_ne (t := 68) dX7_token_58 (by decide) rfl (fun h58 => ?_) (fun h58 => ?_)
    · exact absurd rfl h58
    · skip
      refine g_aload_n dX7_token_61 rfl rfl ?_
      refine g_get f_X7_85 dX7_token_62 rfl 0 rfl rfl ?_
      refine g_if_ne (t := 102) dX7_token_65 (by decide) rfl (fun h65 => ?_) (fun h65 => ?_)
      · skip
        refine g_aload_n dX7_token_102 rfl rfl ?_
        refine g_dup dX7_token_103 rfl rfl ?_
        refine g_get f_X7_72 dX7_token_104 rfl 0 rfl rfl ?_
        refine g_iconst (v := nI 1) dX7_token_107 rfl (by decide) ?_
        refine g_iadd dX7_token_108 rfl (nI_add _ _) ?_
        refine g_putI f_X7_72 dX7_token_109 rfl 0 rfl (Nat.le_of_ble_eq_true rfl) rfl ?_
        dsimp only [List.set]
        refine g_aload_n dX7_token_112 rfl rfl ?_
        refine g_dup dX7_token_113 rfl rfl ?_
        refine g_get f_X7_88 dX7_token_114 rfl 0 rfl rfl ?_
        refine g_iconst (v := nI 1) dX7_token_117 rfl (by decide) ?_
        refine g_iadd dX7_token_118 rfl (nI_add _ _) ?_
        refine g_putI f_X7_88 dX7_token_119 rfl 0 rfl (Nat.le_of_ble_eq_true rfl) rfl ?_
        dsimp only [List.set]
        refine g_goto (q := 54) dX7_token_122 (by decide) ?_
        refine g_aload_n dX7_token_54 rfl rfl ?_
        refine g_get f_X7_88 dX7_token_55 rfl 0 rfl rfl ?_
        refine g_if_ne (t := 68) dX7_token_58 (by decide) rfl (fun h58 => ?_) (fun h58 => ?_)
        · skip
          refine g_aload_n dX7_token_68 rfl rfl ?_
          refine g_get f_X7_85 dX7_token_69 rfl 0 rfl rfl ?_
          refine g_iconst (v := nI 1) dX7_token_72 rfl (by decide) ?_
          refine g_icmp_eqN (t := 84) dX7_token_73 (by decide) rfl (by omega) (by omega) (fun h73 => ?_) (fun h73 => ?_)
          · exact absurd h73 (by decide)
          · skip
            refine g_aload_n dX7_token_76 rfl rfl ?_
            refine g_get f_X7_85 dX7_token_77 rfl 0 rfl rfl ?_
            refine g_iconst (v := nI 2) dX7_token_80 rfl (by decide) ?_
            refine g_icmp_neN (t := 125) dX7_token_81 (by decide) rfl (by omega) (by omega) (fun h81 => ?_) (fun h81 => ?_)
            · skip
              exact g_vret dX7_token_125 rfl (Nat.le_refl _) (Nat.le_refl _) (hK2)
            · exact absurd h81 (by decide)
        · exact absurd h58 (by decide)
      · exact absurd h65 (by decide)
  · have eE : tokE tx len p1 = p1 + 1 := by unfold tokE; rw [e0]; rfl
    rw [eE, e0] at hK2
    rw [e0]
    rw [show p1 + 1 - p1 = 0 + 1 by omega] at hK2
    have hlt : p1 < len := Nat.not_le.mp (fun q => absurd (soN_0.mpr q) (by rw [e0]; decide))
    refine g_aload_n dX7_token_54 rfl rfl ?_
    refine g_get f_X7_88 dX7_token_55 rfl 0 rfl rfl ?_
    refine g_if_ne (t := 68) dX7_token_58 (by decide) rfl (fun h58 => ?_) (fun h58 => ?_)
    · exact absurd rfl h58
    · skip
      refine g_aload_n dX7_token_61 rfl rfl ?_
      refine g_get f_X7_85 dX7_token_62 rfl 0 rfl rfl ?_
      refine g_if_ne (t := 102) dX7_token_65 (by decide) rfl (fun h65 => ?_) (fun h65 => ?_)
      · skip
        refine g_aload_n dX7_token_102 rfl rfl ?_
        refine g_dup dX7_token_103 rfl rfl ?_
        refine g_get f_X7_72 dX7_token_104 rfl 0 rfl rfl ?_
        refine g_iconst (v := nI 1) dX7_token_107 rfl (by decide) ?_
        refine g_iadd dX7_token_108 rfl (nI_add _ _) ?_
        refine g_putI f_X7_72 dX7_token_109 rfl 0 rfl (Nat.le_of_ble_eq_true rfl) rfl ?_
        dsimp only [List.set]
        refine g_aload_n dX7_token_112 rfl rfl ?_
        refine g_dup dX7_token_113 rfl rfl ?_
        refine g_get f_X7_88 dX7_token_114 rfl 0 rfl rfl ?_
        refine g_iconst (v := nI 1) dX7_token_117 rfl (by decide) ?_
        refine g_iadd dX7_token_118 rfl (nI_add _ _) ?_
        refine g_putI f_X7_88 dX7_token_119 rfl 0 rfl (Nat.le_of_ble_eq_true rfl) rfl ?_
        dsimp only [List.set]
        refine g_goto (q := 54) dX7_token_122 (by decide) ?_
        refine g_aload_n dX7_token_54 rfl rfl ?_
        refine g_get f_X7_88 dX7_token_55 rfl 0 rfl rfl ?_
        refine g_if_ne (t := 68) dX7_token_58 (by decide) rfl (fun h58 => ?_) (fun h58 => ?_)
        · skip
          refine g_aload_n dX7_token_68 rfl rfl ?_
          refine g_get f_X7_85 dX7_token_69 rfl 0 rfl rfl ?_
          refine g_iconst (v := nI 1) dX7_token_72 rfl (by decide) ?_
          refine g_icmp_eqN (t := 84) dX7_token_73 (by decide) rfl (by omega) (by omega) (fun h73 => ?_) (fun h73 => ?_)
          · exact absurd h73 (by decide)
          · skip
            refine g_aload_n dX7_token_76 rfl rfl ?_
            refine g_get f_X7_85 dX7_token_77 rfl 0 rfl rfl ?_
            refine g_iconst (v := nI 2) dX7_token_80 rfl (by decide) ?_
            refine g_icmp_neN (t := 125) dX7_token_81 (by decide) rfl (by omega) (by omega) (fun h81 => ?_) (fun h81 => ?_)
            · skip
              exact g_vret dX7_token_125 rfl (Nat.le_refl _) (Nat.le_refl _) (hK2)
            · exact absurd h81 (by decide)
        · exact absurd h58 (by decide)
      · exact absurd h65 (by decide)
set_option maxRecDepth 20000 in
theorem c_X7_token (sk : Nat → Nat) {h mt mo md ms mn mi mz mk mw mf mr mb mu : Nat} {li se fAt so sta sz fl ru : Int32} {iha isn : Bool} {len : Nat} {tx : Nat → Nat} {fx : Nat → Int32} {p : Nat} (hlen : len ≤ 400) (htx : ∀ j, j < len → fx j = nI (tx j) ∧ tx j < 256) (hp : p ≤ len) : Ct sk yX7_token cX7_token 1 none 2 0 0 [oMod h mt (nI len) mo md ms mn mi mz mk mw mf li se fAt (nI p) so sta sz fl iha isn ru mr mb mu, cI mt 400 fx] [.ref h] (zD none [oMod h mt (nI len) mo md ms mn mi mz mk mw mf li se fAt (nI (tokE tx len (runTo isB tx len p))) (nI (soN tx len (runTo isB tx len p))) (nI (runTo isB tx len p)) (nI (tokE tx len (runTo isB tx len p) - (runTo isB tx len p))) fl iha isn ru mr mb mu, cI mt 400 fx]) := by
  refine Ct.of (own := RX7) (l := [some (.ref h)]) (by decide) rfl (Nat.le_of_ble_eq_true rfl) rfl ?_
  refine lp_tok0 sk hlen htx (len - p) p hp rfl ?_
  exact lp_tok26 sk hlen htx (runTo_le isB tx hp).2 ⟨rfl, rfl⟩
