
/-! the reference: ORDER -/
/-- all orders of those that are not in u, m of them, the smallest first -/
def lexU (n : Nat) : Nat → Int32 → List (List Nat)
  | 0, _ => [[]]
  | m + 1, u => (List.range n).flatMap (fun c => if okc true u c = true then (lexU n m (u ||| (nI 1 <<< (nI c &&& 31)))).map (fun l => c :: l) else [])
def gl (l : List Nat) : Nat → Nat := fun j => l.getD j 0
def chB (n : Nat) : List Nat → List (List Nat) → Bool
  | l, [] => (nxP (gl l) n).isNone
  | l, l2 :: L => (match nxP (gl l) n with
    | none => false
    | some q => (List.range n).all (fun j => q j == gl l2 j)) && chB n l2 L
def chA (n : Nat) : Bool := match lexU n n (nI 0) with
  | [] => false
  | l :: L => (l == List.range n) && chB n l L
theorem chA_1 : chA 1 = true := by decide +kernel
theorem chA_2 : chA 2 = true := by decide +kernel
theorem chA_3 : chA 3 = true := by decide +kernel
theorem chA_4 : chA 4 = true := by decide +kernel
theorem chA_5 : chA 5 = true := by decide +kernel
theorem chA_6 : chA 6 = true := by decide +kernel
theorem chA_n {n : Nat} (h1 : 1 ≤ n) (h6 : n ≤ 6) : chA n = true := by
  rcases (show n = 1 ∨ n = 2 ∨ n = 3 ∨ n = 4 ∨ n = 5 ∨ n = 6 by omega) with rfl | rfl | rfl | rfl | rfl | rfl
  · exact chA_1
  · exact chA_2
  · exact chA_3
  · exact chA_4
  · exact chA_5
  · exact chA_6
theorem lex_0 {n : Nat} (h1 : 1 ≤ n) (h6 : n ≤ 6) : ∃ L, lexU n n (nI 0) = List.range n :: L ∧ chB n (List.range n) L = true := by
  have h := chA_n h1 h6
  unfold chA at h
  cases hL : lexU n n (nI 0) with
  | nil => rw [hL] at h; cases h
  | cons l L =>
    rw [hL] at h
    dsimp only at h
    rw [Bool.and_eq_true] at h
    have e : l = List.range n := eq_of_beq h.1
    subst e
    exact ⟨L, rfl, h.2⟩
/-- alike below n -/
def LN (n : Nat) (p q : Nat → Nat) : Prop := ∀ j, j < n → p j = q j
theorem nxK_LN {n : Nat} {p q : Nat → Nat} (h : LN n p q) : ∀ m, m < n → nxK p m = nxK q m
  | 0, _ => rfl
  | m + 1, hm => by rw [nxK, nxK, h m (by omega), h (m + 1) hm, nxK_LN h m (by omega)]
theorem nxQ_LN {n : Nat} {p q : Nat → Nat} (h : LN n p q) {k : Nat} (hk : k < n) : ∀ m, m < n → nxQ p k m = nxQ q k m
  | 0, _ => rfl
  | m + 1, hm => by rw [nxQ, nxQ, h k hk, h (m + 1) hm, nxQ_LN h hk m (by omega)]
theorem swR_LN {n : Nat} {p q : Nat → Nat} (h : LN n p q) {x y : Nat} (hx : x < n) (hy : y < n) : LN n (swR p x y) (swR q x y) := fun j hj => by
  unfold swR nup
  rw [h x hx, h y hy, h j hj]
theorem rvR_LN {n : Nat} : ∀ (m : Nat) {p q : Nat → Nat} (lo hi : Nat), LN n p q → hi < n → LN n (rvR m p lo hi) (rvR m q lo hi)
  | 0, _, _, _, _, h, _ => h
  | m + 1, p, q, lo, hi, h, hh => by
    rw [rvR, rvR]
    by_cases e : lo < hi
    · rw [if_pos e, if_pos e]
      exact rvR_LN m _ _ (swR_LN h (by omega) hh) (by omega)
    · rw [if_neg e, if_neg e]
      exact h
theorem nxP_LN {n : Nat} {p q : Nat → Nat} (h1 : 1 ≤ n) (h : LN n p q) : (nxP p n = none ∧ nxP q n = none) ∨ ∃ p2 q2, nxP p n = some p2 ∧ nxP q n = some q2 ∧ LN n p2 q2 := by
  have e := nxK_LN h (n - 1) (by omega)
  unfold nxP
  rw [e]
  cases hK : nxK q (n - 1) with
  | none => exact Or.inl ⟨rfl, rfl⟩
  | some k =>
    right
    obtain ⟨h2, h3⟩ := nxK_lt hK
    have h4 := nxQ_lt h3 (n - 1) h2
    refine ⟨_, _, rfl, rfl, ?_⟩
    rw [nxQ_LN h (by omega) (n - 1) (by omega)]
    exact rvR_LN n _ _ (swR_LN h (by omega) (by omega)) (by omega)
theorem rvR_P6 : ∀ (m : Nat) {p : Nat → Nat} (lo hi : Nat), P6 p → hi < 6 → P6 (rvR m p lo hi)
  | 0, _, _, _, h, _ => h
  | m + 1, p, lo, hi, h, hh => by
    rw [rvR]
    by_cases e : lo < hi
    · rw [if_pos e]
      exact rvR_P6 m _ _ (swR_P6 h (by omega) hh) (by omega)
    · rw [if_neg e]
      exact h
theorem nxP_P6 {n : Nat} {p q : Nat → Nat} (h1 : 1 ≤ n) (h6 : n ≤ 6) (h : P6 p) (hq : nxP p n = some q) : P6 q := by
  unfold nxP at hq
  cases hK : nxK p (n - 1) with
  | none => rw [hK] at hq; cases hq
  | some k =>
    rw [hK] at hq
    cases hq
    obtain ⟨h2, h3⟩ := nxK_lt hK
    have h4 := nxQ_lt h3 (n - 1) h2
    exact rvR_P6 n _ _ (swR_P6 h (by omega) (by omega)) (by omega)
/-- the next of the rows, by the array -/
theorem chB_none {n : Nat} {l : List Nat} {p : Nat → Nat} (h1 : 1 ≤ n) (hc : chB n l [] = true) (hp : LN n p (gl l)) : nxP p n = none := by
  rcases nxP_LN h1 hp with ⟨e, -⟩ | ⟨p2, q2, e1, e2, -⟩
  · exact e
  · rw [chB, e2] at hc; cases hc
theorem chB_some {n : Nat} {l l2 : List Nat} {L : List (List Nat)} {p : Nat → Nat} (h1 : 1 ≤ n) (hc : chB n l (l2 :: L) = true) (hp : LN n p (gl l)) : chB n l2 L = true ∧ ∃ q, nxP p n = some q ∧ LN n q (gl l2) := by
  rw [chB, Bool.and_eq_true] at hc
  refine ⟨hc.2, ?_⟩
  rcases nxP_LN h1 hp with ⟨-, e⟩ | ⟨p2, q2, e1, e2, h⟩
  · rw [e] at hc; cases hc.1
  · rw [e2] at hc
    refine ⟨p2, e1, fun j hj => ?_⟩
    rw [h j hj]
    exact eq_of_beq (List.all_eq_true.mp hc.1 j (List.mem_range.mpr hj))
theorem hbR_LN {F N S : Nat} {w a r : Nat → Nat} {n : Nat} {p q : Nat → Nat} (h : LN n p q) : ∀ (m k : Nat) (t : PSt), k + m ≤ n → hbR F N S w a r p m k t = hbR F N S w a r q m k t
  | 0, _, _, _ => rfl
  | m + 1, k, t, hk => by rw [hbR, hbR, h k (by omega), hbR_LN h m (k + 1) _ (by omega)]
theorem hbR_ge {F N S : Nat} {w a r : Nat → Nat} {p : Nat → Nat} : ∀ (m k : Nat) (t : PSt), k ≤ hbR F N S w a r p m k t
  | 0, k, t => by rw [hbR]; split <;> omega
  | m + 1, k, t => by
    rw [hbR]
    split
    · exact Nat.le_trans (Nat.le_succ k) (hbR_ge m (k + 1) _)
    · exact Nat.le_refl _
theorem hbR_1 {F N S : Nat} {w a r : Nat → Nat} {p : Nat → Nat} {t : PSt} (h : t.2.2 = -1) : ∀ (m k : Nat), k + 1 ≤ hbR F N S w a r p m k t
  | 0, k => by rw [hbR, if_pos h]; omega
  | m + 1, k => by rw [hbR, if_pos h]; exact hbR_ge m (k + 1) _
def foR (hb : List Nat → Nat) : List (List Nat) → Nat → List Nat → Nat × List Nat
  | [], f, b => (f, b)
  | l :: L, f, b => if hb l < f then foR hb L (hb l) l else foR hb L f b
def ordA (n : Nat) (R : Nat × List Nat) (x : Int32) : Int32 := if n < R.1 then -1 else if x = -1 then nI R.1 else if x = -2 then nI (gl R.2 (R.1 - 1)) else nI (gl R.2 x.toNatClampNeg)
theorem rg_get {n j : Nat} (h : j < n) : gl (List.range n) j = j := by
  unfold gl
  rw [List.getD_eq_getElem?_getD, List.getElem?_range h]
  rfl
theorem ord_x {x : Int32} {n : Nat} (hx : x = -1 ∨ x = -2 ∨ ∃ j, j < n ∧ x = nI j) (h6 : n ≤ 6) : (¬ x < -2) ∧ (0 < n → x < nI n) := by
  rcases hx with rfl | rfl | ⟨j, hj, rfl⟩
  · exact ⟨by decide, fun h => by rw [Int32.lt_iff_toInt_lt, nI_toInt (by omega), show (-1 : Int32).toInt = -1 from rfl]; omega⟩
  · exact ⟨by decide, fun h => by rw [Int32.lt_iff_toInt_lt, nI_toInt (by omega), show (-2 : Int32).toInt = -2 from rfl]; omega⟩
  · exact ⟨by rw [Int32.lt_iff_toInt_lt, nI_toInt (by omega), show (-2 : Int32).toInt = -2 from rfl]; omega, fun _ => nI_lt hj (by omega)⟩
theorem lexU_lt {n : Nat} : ∀ (m : Nat) (u : Int32) (z : List Nat), z ∈ lexU n m u → ∀ j, j < m → gl z j < n
  | 0, _, _, _, j, hj => by omega
  | m + 1, u, z, hz, j, hj => by
    rw [lexU, List.mem_flatMap] at hz
    obtain ⟨c, hc, hz⟩ := hz
    by_cases e : okc true u c = true
    · rw [if_pos e, List.mem_map] at hz
      obtain ⟨l, hl, rfl⟩ := hz
      cases j with
      | zero => exact List.mem_range.mp hc
      | succ j => exact lexU_lt m _ l hl j (by omega)
    · rw [if_neg e] at hz; cases hz
set_option maxRecDepth 20000 in
theorem lp_ord133 (sk : Nat → Nat) {ru : Int32} {h mt mo md ms mn mi mz mk mw mf mr mb mu : Nat} {ty li se fAt at_ so sta sz fl : Int32} {iha isn : Bool} {T : Nat → Nat} {s : PSt} {x : Int32} {f : Nat} {b : List Nat} {fn fr fb : Nat → Int32} {l4 l5 l6 : Option Value} {Z : Int32} (hC6 : T 1 ≤ 6) (hx : x = -1 ∨ x = -2 ∨ ∃ j, j < T 1 ∧ x = nI j) (hf : f ≤ T 1 + 1) (hf1 : 1 ≤ f) (hb : f ≤ T 1 → ∀ j, j < T 1 → fb j = nI (gl b j)) (hZ : ordA (T 1) (f, b) x = Z) : GG sk RX7 yX7_order cX7_order 7 (some .int) 3 0 0 (fun q w1 => q = some (.int (Z)) ∧ ∃ (ru2 : Int32) (fn2 fr2 fb2 : Nat → Int32), w1 = [oMod h mt ty mo md ms mn mi mz mk mw mf li se fAt at_ so sta sz fl iha isn ru2 mr mb mu, cI mo 56 (fI T), cI ms 32 (fS s), cI mn 32 fn2, cI mr 6 fr2, cI mb 6 fb2]) 0 0 133 [some (.ref h), some (.int x), some (.int (nI (T 1))), some (.int (nI f)), l4, l5, l6] [] [oMod h mt ty mo md ms mn mi mz mk mw mf li se fAt at_ so sta sz fl iha isn ru mr mb mu, cI mo 56 (fI T), cI ms 32 (fS s), cI mn 32 fn, cI mr 6 fr, cI mb 6 fb] := by
  unfold ordA at hZ
  dsimp only at hZ
  refine g_iload_n dX7_order_133 rfl rfl ?_
  refine g_iload_n dX7_order_134 rfl rfl ?_
  refine g_icmp_leN (t := 140) dX7_order_135 (by decide) rfl (by omega) (by omega) (fun h135 => ?_) (fun h135 => ?_)
  · rw [if_neg (by omega)] at hZ
    refine g_iload_n dX7_order_140 rfl rfl ?_
    refine g_iconst (v := -1) dX7_order_141 rfl (by decide) ?_
    refine g_icmp_ne (t := 149) dX7_order_142 (by decide) rfl (fun h142 => ?_) (fun h142 => ?_)
    · rw [if_neg h142] at hZ
      refine g_aload_n dX7_order_149 rfl rfl ?_
      refine g_get f_X7_48 dX7_order_150 rfl 0 rfl rfl ?_
      refine g_iload_n dX7_order_153 rfl rfl ?_
      refine g_bipush (v := -2) dX7_order_154 rfl (by decide) ?_
      refine g_icmp_ne (t := 165) dX7_order_156 (by decide) rfl (fun h156 => ?_) (fun h156 => ?_)
      · rw [if_neg h156] at hZ
        obtain ⟨j, hj, rfl⟩ := (hx.resolve_left h142).resolve_left h156
        rw [nI_clamp (by omega)] at hZ
        subst hZ
        refine g_iload_n dX7_order_165 rfl rfl ?_
        refine g_ialdN (v := nI (gl b j)) dX7_order_166 rfl 5 rfl (by omega) (by decide) (hb (by omega) j hj) ?_
        exact g_iret dX7_order_167 rfl (Nat.le_refl _) (Nat.le_refl _) (⟨rfl, _, _, _, _, rfl⟩)
      · rw [if_pos h156] at hZ
        subst hZ
        refine g_iload_n dX7_order_159 rfl rfl ?_
        refine g_iconst (v := nI 1) dX7_order_160 rfl (by decide) ?_
        refine g_isub dX7_order_161 rfl (pk_sub (by omega)) ?_
        refine g_goto (q := 166) dX7_order_162 (by decide) ?_
        refine g_ialdN (v := nI (gl b (f - 1))) dX7_order_166 rfl 5 rfl (by omega) (by decide) (hb (by omega) (f - 1) (by omega)) ?_
        exact g_iret dX7_order_167 rfl (Nat.le_refl _) (Nat.le_refl _) (⟨rfl, _, _, _, _, rfl⟩)
    · rw [if_pos h142] at hZ
      subst hZ
      refine g_iload_n dX7_order_145 rfl rfl ?_
      refine g_goto (q := 167) dX7_order_146 (by decide) ?_
      exact g_iret dX7_order_167 rfl (Nat.le_refl _) (Nat.le_refl _) (⟨rfl, _, _, _, _, rfl⟩)
  · rw [if_pos (by omega)] at hZ
    subst hZ
    refine g_iconst (v := -1) dX7_order_138 rfl (by decide) ?_
    exact g_iret dX7_order_139 rfl (Nat.le_refl _) (Nat.le_refl _) (⟨rfl, _, _, _, _, rfl⟩)
set_option maxRecDepth 20000 in
theorem lp_ord78 (sk : Nat → Nat) {ru : Int32} {h mt mo md ms mn mi mz mk mw mf mr mb mu : Nat} {ty li se fAt at_ so sta sz fl : Int32} {iha isn : Bool} {T : Nat → Nat} {s : PSt} {x : Int32} {f m0 : Nat} {p : Nat → Nat} {fn fb : Nat → Int32} {Z : Int32} (hC6 : T 1 ≤ 6) (hm : m0 < f) (hf : f ≤ T 1 + 1) (hK : ∀ l6 : Option Value, GG sk RX7 yX7_order cX7_order 7 (some .int) 3 0 0 (fun q w1 => q = some (.int (Z)) ∧ ∃ (ru2 : Int32) (fn2 fr2 fb2 : Nat → Int32), w1 = [oMod h mt ty mo md ms mn mi mz mk mw mf li se fAt at_ so sta sz fl iha isn ru2 mr mb mu, cI mo 56 (fI T), cI ms 32 (fS s), cI mn 32 fn2, cI mr 6 fr2, cI mb 6 fb2]) 0 0 110 [some (.ref h), some (.int x), some (.int (nI (T 1))), some (.int (nI f)), some (.int (zb true)), some (.int (nI m0)), l6] [] [oMod h mt ty mo md ms mn mi mz mk mw mf li se fAt at_ so sta sz fl iha isn ru mr mb mu, cI mo 56 (fI T), cI ms 32 (fS s), cI mn 32 fn, cI mr 6 (fI p), cI mb 6 (cpF_lays (T 1) (fI p) fb)]) : ∀ (n k : Nat), k + n = T 1 → GG sk RX7 yX7_order cX7_order 7 (some .int) 3 0 0 (fun q w1 => q = some (.int (Z)) ∧ ∃ (ru2 : Int32) (fn2 fr2 fb2 : Nat → Int32), w1 = [oMod h mt ty mo md ms mn mi mz mk mw mf li se fAt at_ so sta sz fl iha isn ru2 mr mb mu, cI mo 56 (fI T), cI ms 32 (fS s), cI mn 32 fn2, cI mr 6 fr2, cI mb 6 fb2]) 0 0 78 [some (.ref h), some (.int x), some (.int (nI (T 1))), some (.int (nI f)), some (.int (zb true)), some (.int (nI m0)), some (.int (nI k))] [] [oMod h mt ty mo md ms mn mi mz mk mw mf li se fAt at_ so sta sz fl iha isn ru mr mb mu, cI mo 56 (fI T), cI ms 32 (fS s), cI mn 32 fn, cI mr 6 (fI p), cI mb 6 (cpF_lays k (fI p) fb)] := by
  intro n
  induction n with
  | zero =>
    intro k hk
    have e : k = T 1 := by omega
    subst e
    refine g_iload dX7_order_78 rfl rfl ?_
    refine g_iload_n dX7_order_80 rfl rfl ?_
    refine g_icmp_geN (t := 110) dX7_order_81 (by decide) rfl (by omega) (by omega) (fun h81 => ?_) (fun h81 => ?_)
    · skip
      exact hK _
    · exact absurd h81 (by omega)
  | succ n ih =>
    intro k hk
    refine g_iload dX7_order_78 rfl rfl ?_
    refine g_iload_n dX7_order_80 rfl rfl ?_
    refine g_icmp_geN (t := 110) dX7_order_81 (by decide) rfl (by omega) (by omega) (fun h81 => ?_) (fun h81 => ?_)
    · exact absurd h81 (by omega)
    · skip
      refine g_iload dX7_order_84 rfl rfl ?_
      refine g_iload_n dX7_order_86 rfl rfl ?_
      refine g_icmp_geN (t := 110) dX7_order_87 (by decide) rfl (by omega) (by omega) (fun h87 => ?_) (fun h87 => ?_)
      · exact absurd h87 (by omega)
      · skip
        refine g_aload_n dX7_order_90 rfl rfl ?_
        refine g_get f_X7_48 dX7_order_91 rfl 0 rfl rfl ?_
        refine g_iload dX7_order_94 rfl rfl ?_
        refine g_aload_n dX7_order_96 rfl rfl ?_
        refine g_get f_X7_45 dX7_order_97 rfl 0 rfl rfl ?_
        refine g_iload dX7_order_100 rfl rfl ?_
        refine g_ialdN (v := fI p k) dX7_order_102 rfl 4 rfl (by omega) (by decide) (rfl) ?_
        refine g_iastN dX7_order_103 rfl 5 rfl (by omega) (by decide) (cpF_up k (fI p) fb) rfl ?_
        refine g_iinc dX7_order_104 rfl rfl (nI_1 _) (by decide) rfl rfl ?_
        refine g_goto (q := 78) dX7_order_107 (by decide) ?_
        exact ih (k + 1) (by omega)
set_option maxRecDepth 20000 in
theorem lp_ord63f (sk : Nat → Nat) {ru : Int32} {h mt mo md ms mn mi mz mk mw mf mr mb mu : Nat} {ty li se fAt at_ so sta sz fl : Int32} {iha isn : Bool} {T : Nat → Nat} {s : PSt} {x : Int32} {f : Nat} {b : List Nat} {p : Nat → Nat} {fn fb : Nat → Int32} {l5 l6 : Option Value} {Z : Int32} (hC6 : T 1 ≤ 6) (hx : x = -1 ∨ x = -2 ∨ ∃ j, j < T 1 ∧ x = nI j) (hf : f ≤ T 1 + 1) (hf1 : 1 ≤ f) (hb : f ≤ T 1 → ∀ j, j < T 1 → fb j = nI (gl b j)) (hZ : ordA (T 1) (f, b) x = Z) : GG sk RX7 yX7_order cX7_order 7 (some .int) 3 0 0 (fun q w1 => q = some (.int (Z)) ∧ ∃ (ru2 : Int32) (fn2 fr2 fb2 : Nat → Int32), w1 = [oMod h mt ty mo md ms mn mi mz mk mw mf li se fAt at_ so sta sz fl iha isn ru2 mr mb mu, cI mo 56 (fI T), cI ms 32 (fS s), cI mn 32 fn2, cI mr 6 fr2, cI mb 6 fb2]) 0 0 63 [some (.ref h), some (.int x), some (.int (nI (T 1))), some (.int (nI f)), some (.int (zb (none : Option (Nat → Nat)).isSome)), l5, l6] [] [oMod h mt ty mo md ms mn mi mz mk mw mf li se fAt at_ so sta sz fl iha isn ru mr mb mu, cI mo 56 (fI T), cI ms 32 (fS s), cI mn 32 fn, cI mr 6 (fI p), cI mb 6 fb] := by
  refine g_iload dX7_order_63 rfl rfl ?_
  refine g_if_eqB (t := 133) dX7_order_65 (by decide) rfl (fun h65 => ?_) (fun h65 => ?_)
  · skip
    exact lp_ord133 sk hC6 hx hf hf1 hb hZ
  · exact absurd h65 (by decide)
set_option maxRecDepth 20000 in
theorem lp_ord63 (sk : Nat → Nat) {h mt mo md ms mn mi mz mk mw mf mr mb mu : Nat} {ty li se fAt at_ so sta sz fl : Int32} {iha isn : Bool} {T : Nat → Nat} {w a r : Nat → Nat} {s : PSt} {x : Int32} {Z : Int32} (hB : PB (T 0) (T 1) (T 4) (T 5) w a r) (hW : TWR T w a r) (hs0 : SB s.1) (hC1 : 1 ≤ T 1) (hx : x = -1 ∨ x = -2 ∨ ∃ j, j < T 1 ∧ x = nI j) (hh : s.2.2 = -1) : ∀ (N0 : Nat) (L : List (List Nat)), L.length = N0 → ∀ (l : List Nat) (p : Nat → Nat) (f : Nat) (b : List Nat) (ru : Int32) (fn fb : Nat → Int32) (l5 l6 : Option Value), f ≤ T 1 + 1 → 1 ≤ f → (f ≤ T 1 → ∀ j, j < T 1 → fb j = nI (gl b j)) → chB (T 1) l L = true → LN (T 1) p (gl l) → P6 p → (∀ z, z ∈ l :: L → ∀ j, j < T 1 → gl z j < T 1) → ordA (T 1) (foR (fun l => hbR (T 0) (T 4) (T 5) w a r (gl l) (T 1) 0 s) (l :: L) f b) x = Z → GG sk RX7 yX7_order cX7_order 7 (some .int) 3 0 0 (fun q w1 => q = some (.int (Z)) ∧ ∃ (ru2 : Int32) (fn2 fr2 fb2 : Nat → Int32), w1 = [oMod h mt ty mo md ms mn mi mz mk mw mf li se fAt at_ so sta sz fl iha isn ru2 mr mb mu, cI mo 56 (fI T), cI ms 32 (fS s), cI mn 32 fn2, cI mr 6 fr2, cI mb 6 fb2]) 0 0 63 [some (.ref h), some (.int x), some (.int (nI (T 1))), some (.int (nI f)), some (.int (zb true)), l5, l6] [] [oMod h mt ty mo md ms mn mi mz mk mw mf li se fAt at_ so sta sz fl iha isn ru mr mb mu, cI mo 56 (fI T), cI ms 32 (fS s), cI mn 32 fn, cI mr 6 (fI p), cI mb 6 fb] := by
  have hC6 := hB.2.1
  intro N0
  induction N0 using Nat.strongRecOn with
  | ind N0 ih0 =>
    intro L hN l p f b ru fn fb l5 l6 hf hf1 hb hc hR hP hA hZ
    have ih := fun (L2 : List (List Nat)) (h : L2.length < L.length) => ih0 L2.length (by rw [← hN]; exact h) L2 rfl
    have hpT : ∀ j, j < T 1 → p j < T 1 := fun j hj => by rw [hR j hj]; exact hA l List.mem_cons_self j hj
    have eh : hbR (T 0) (T 4) (T 5) w a r p (T 1) 0 s = hbR (T 0) (T 4) (T 5) w a r (gl l) (T 1) 0 s := hbR_LN hR (T 1) 0 s (by omega)
    have hm1 : 1 ≤ hbR (T 0) (T 4) (T 5) w a r (gl l) (T 1) 0 s := hbR_1 hh (T 1) 0
    have hm2 : hbR (T 0) (T 4) (T 5) w a r (gl l) (T 1) 0 s ≤ 0 + T 1 + 1 := hbR_le _ _ _ _ _ _ _ (T 1) 0 s
    rw [foR] at hZ
    refine g_iload dX7_order_63 rfl rfl ?_
    refine g_if_eqB (t := 133) dX7_order_65 (by decide) rfl (fun h65 => ?_) (fun h65 => ?_)
    · exact absurd h65 (by decide)
    · skip
      refine g_aload_n dX7_order_68 rfl rfl ?_
      refine g_iload_n dX7_order_69 rfl rfl ?_
      refine g_callV (c_X7_hadBy sk hB hW hC6 hpT hs0) m_X7_200 a_X7_hadBy dX7_order_70 rfl [0, 1, 2, 3, 4] rfl rfl 0 rfl rfl rfl (by decide) (by decide) (by decide) (by decide) (Nat.le_of_ble_eq_true rfl) (fun r w hK => ?_)
      obtain ⟨rfl, ru2, fn2, rfl⟩ := hK
      refine ⟨rfl, ?_⟩
      rw [eh]
      generalize hbR (T 0) (T 4) (T 5) w a r (gl l) (T 1) 0 s = m0 at hZ hm1 hm2 ⊢
      dsimp only [puts, List.set, Option.toList, List.cons_append, List.nil_append, List.append_nil]
      refine g_istore dX7_order_73 rfl (by decide) rfl rfl ?_
      refine g_iconst (v := nI 0) dX7_order_75 rfl (by decide) ?_
      refine g_istore dX7_order_76 rfl (by decide) rfl rfl ?_
      by_cases hlt : m0 < f
      · rw [if_pos hlt] at hZ
        have hK78 := fun hK => lp_ord78 sk (x := x) (s := s) (Z := Z) (ru := ru2) (fn := fn2) (fb := fb) (p := p) (T := T) (f := f) (m0 := m0) (h := h) (mt := mt) (mo := mo) (md := md) (ms := ms) (mn := mn) (mi := mi) (mz := mz) (mk := mk) (mw := mw) (mf := mf) (mr := mr) (mb := mb) (mu := mu) (ty := ty) (li := li) (se := se) (fAt := fAt) (at_ := at_) (so := so) (sta := sta) (sz := sz) (fl := fl) (iha := iha) (isn := isn) hC6 hlt hf hK (T 1) 0 (by omega)
        rw [cpF_0] at hK78
        refine hK78 (fun l6 => ?_)
        refine g_iload dX7_order_110 rfl rfl ?_
        refine g_iload_n dX7_order_112 rfl rfl ?_
        refine g_icmp_geN (t := 121) dX7_order_113 (by decide) rfl (by omega) (by omega) (fun h113 => ?_) (fun h113 => ?_)
        · exact absurd h113 (by omega)
        · skip
          refine g_iload dX7_order_116 rfl rfl ?_
          refine g_goto (q := 122) dX7_order_118 (by decide) ?_
          refine g_istore_n dX7_order_122 rfl (by decide) rfl rfl ?_
          refine g_aload_n dX7_order_123 rfl rfl ?_
          refine g_iload_n dX7_order_124 rfl rfl ?_
          refine g_callV (c_X7_nextOrder sk hC6 hC1 hP) m_X7_203 a_X7_nextOrder dX7_order_125 rfl [0, 4] rfl rfl 0 rfl rfl rfl (by decide) (by decide) (by decide) (by decide) (Nat.le_of_ble_eq_true rfl) (fun r w hK => ?_)
          obtain ⟨rfl, rfl⟩ := hK
          refine ⟨rfl, ?_⟩
          dsimp only [puts, List.set, Option.toList, List.cons_append, List.nil_append, List.append_nil]
          refine g_istore dX7_order_128 rfl (by decide) rfl rfl ?_
          refine g_goto (q := 63) dX7_order_130 (by decide) ?_
          cases L with
          | nil =>
            rw [chB_none hC1 hc hR]
            rw [foR] at hZ
            refine lp_ord63f sk hC6 hx (by omega) hm1 (fun _ j hj => (if_pos hj).trans (congrArg nI (hR j hj))) hZ
          | cons l2 L =>
            obtain ⟨hc2, q, hq, hR2⟩ := chB_some hC1 hc hR
            rw [hq]
            exact ih L (Nat.lt_succ_self _) l2 q m0 l _ _ _ _ _ (by omega) hm1 (fun _ j hj => (if_pos hj).trans (congrArg nI (hR j hj))) hc2 hR2 (nxP_P6 hC1 hC6 hP hq) (fun z hz => hA z (List.mem_cons_of_mem _ hz)) hZ
      · rw [if_neg hlt] at hZ
        refine g_iload dX7_order_78 rfl rfl ?_
        refine g_iload_n dX7_order_80 rfl rfl ?_
        refine g_icmp_geN (t := 110) dX7_order_81 (by decide) rfl (by omega) (by omega) (fun h81 => ?_) (fun h81 => ?_)
        · exact absurd h81 (by omega)
        · skip
          refine g_iload dX7_order_84 rfl rfl ?_
          refine g_iload_n dX7_order_86 rfl rfl ?_
          refine g_icmp_geN (t := 110) dX7_order_87 (by decide) rfl (by omega) (by omega) (fun h87 => ?_) (fun h87 => ?_)
          · skip
            refine g_iload dX7_order_110 rfl rfl ?_
            refine g_iload_n dX7_order_112 rfl rfl ?_
            refine g_icmp_geN (t := 121) dX7_order_113 (by decide) rfl (by omega) (by omega) (fun h113 => ?_) (fun h113 => ?_)
            · skip
              refine g_iload_n dX7_order_121 rfl rfl ?_
              refine g_istore_n dX7_order_122 rfl (by decide) rfl rfl ?_
              refine g_aload_n dX7_order_123 rfl rfl ?_
              refine g_iload_n dX7_order_124 rfl rfl ?_
              refine g_callV (c_X7_nextOrder sk hC6 hC1 hP) m_X7_203 a_X7_nextOrder dX7_order_125 rfl [0, 4] rfl rfl 0 rfl rfl rfl (by decide) (by decide) (by decide) (by decide) (Nat.le_of_ble_eq_true rfl) (fun r w hK => ?_)
              obtain ⟨rfl, rfl⟩ := hK
              refine ⟨rfl, ?_⟩
              dsimp only [puts, List.set, Option.toList, List.cons_append, List.nil_append, List.append_nil]
              refine g_istore dX7_order_128 rfl (by decide) rfl rfl ?_
              refine g_goto (q := 63) dX7_order_130 (by decide) ?_
              cases L with
              | nil =>
                rw [chB_none hC1 hc hR]
                rw [foR] at hZ
                refine lp_ord63f sk hC6 hx hf hf1 hb hZ
              | cons l2 L =>
                obtain ⟨hc2, q, hq, hR2⟩ := chB_some hC1 hc hR
                rw [hq]
                exact ih L (Nat.lt_succ_self _) l2 q f b _ _ _ _ _ hf hf1 hb hc2 hR2 (nxP_P6 hC1 hC6 hP hq) (fun z hz => hA z (List.mem_cons_of_mem _ hz)) hZ
            · exact absurd h113 hlt
          · exact absurd h87 (by omega)
set_option maxRecDepth 20000 in
theorem c_X7_orderN (sk : Nat → Nat) {h mt mo md ms mn mi mz mk mw mf mr mb mu : Nat} {ty li se fAt at_ so sta sz fl ru : Int32} {iha isn : Bool} {T : Nat → Nat} {s : PSt} {x : Int32} (hC6 : T 1 ≤ 6) (hx : ¬ s.2.2 = -1 ∨ T 1 = 0 ∨ x < -2 ∨ nI (T 1) ≤ x) : Ct sk yX7_order cX7_order 7 (some .int) 3 0 0 [oMod h mt ty mo md ms mn mi mz mk mw mf li se fAt at_ so sta sz fl iha isn ru mr mb mu, cI mo 56 (fI T), cI ms 32 (fS s)] [.ref h, .int x] (zD (some (.int (-1))) [oMod h mt ty mo md ms mn mi mz mk mw mf li se fAt at_ so sta sz fl iha isn ru mr mb mu, cI mo 56 (fI T), cI ms 32 (fS s)]) := by
  refine Ct.of (own := RX7) (l := [some (.ref h), some (.int x), none, none, none, none, none]) (by decide) rfl (Nat.le_of_ble_eq_true rfl) rfl ?_
  refine g_aload_n dX7_order_0 rfl rfl ?_
  refine g_get f_X7_13 dX7_order_1 rfl 0 rfl rfl ?_
  refine g_iconst (v := nI 1) dX7_order_4 rfl (by decide) ?_
  refine g_ialdN (v := nI _) dX7_order_5 rfl 1 rfl (by omega) (by decide) (rfl) ?_
  refine g_istore_n dX7_order_6 rfl (by decide) rfl rfl ?_
  refine g_aload_n dX7_order_7 rfl rfl ?_
  refine g_get f_X7_19 dX7_order_8 rfl 0 rfl rfl ?_
  refine g_bipush (v := nI 31) dX7_order_11 rfl (by decide) ?_
  refine g_ialdN (v := s.2.2) dX7_order_13 rfl 2 rfl (by omega) (by decide) (rfl) ?_
  refine g_iconst (v := -1) dX7_order_14 rfl (by decide) ?_
  refine g_icmp_ne (t := 33) dX7_order_15 (by decide) rfl (fun h15 => ?_) (fun h15 => ?_)
  · skip
    refine g_iconst (v := -1) dX7_order_33 rfl (by decide) ?_
    exact g_iret dX7_order_34 rfl (Nat.le_refl _) (Nat.le_refl _) (⟨rfl, rfl⟩)
  · skip
    refine g_iload_n dX7_order_18 rfl rfl ?_
    refine g_if_eq (t := 33) dX7_order_19 (by decide) rfl (fun h19 => ?_) (fun h19 => ?_)
    · skip
      refine g_iconst (v := -1) dX7_order_33 rfl (by decide) ?_
      exact g_iret dX7_order_34 rfl (Nat.le_refl _) (Nat.le_refl _) (⟨rfl, rfl⟩)
    · skip
      refine g_iload_n dX7_order_22 rfl rfl ?_
      refine g_bipush (v := -2) dX7_order_23 rfl (by decide) ?_
      refine g_icmp_lt (t := 33) dX7_order_25 (by decide) rfl (fun h25 => ?_) (fun h25 => ?_)
      · skip
        refine g_iconst (v := -1) dX7_order_33 rfl (by decide) ?_
        exact g_iret dX7_order_34 rfl (Nat.le_refl _) (Nat.le_refl _) (⟨rfl, rfl⟩)
      · skip
        refine g_iload_n dX7_order_28 rfl rfl ?_
        refine g_iload_n dX7_order_29 rfl rfl ?_
        refine g_icmp_lt (t := 35) dX7_order_30 (by decide) rfl (fun h30 => ?_) (fun h30 => ?_)
        · exact absurd hx (fun q => q.elim (fun q => q h15) (fun q => q.elim (fun q => h19 (by rw [q]; rfl)) (fun q => q.elim (fun q => h25 q) (fun q => Int32.not_le.mpr h30 q))))
        · skip
          refine g_iconst (v := -1) dX7_order_33 rfl (by decide) ?_
          exact g_iret dX7_order_34 rfl (Nat.le_refl _) (Nat.le_refl _) (⟨rfl, rfl⟩)
set_option maxRecDepth 20000 in
theorem lp_ord37 (sk : Nat → Nat) {ru : Int32} {h mt mo md ms mn mi mz mk mw mf mr mb mu : Nat} {ty li se fAt at_ so sta sz fl : Int32} {iha isn : Bool} {T : Nat → Nat} {w a r : Nat → Nat} {s : PSt} {x : Int32} {fn fr fb : Nat → Int32} {Z : Int32} (hB : PB (T 0) (T 1) (T 4) (T 5) w a r) (hW : TWR T w a r) (hs0 : SB s.1) (hC1 : 1 ≤ T 1) (hx : x = -1 ∨ x = -2 ∨ ∃ j, j < T 1 ∧ x = nI j) (hh : s.2.2 = -1) (hZ : ordA (T 1) (foR (fun l => hbR (T 0) (T 4) (T 5) w a r (gl l) (T 1) 0 s) (lexU (T 1) (T 1) (nI 0)) (T 1 + 1) []) x = Z) : ∀ (n i : Nat), i + n = 6 → GG sk RX7 yX7_order cX7_order 7 (some .int) 3 0 0 (fun q w1 => q = some (.int (Z)) ∧ ∃ (ru2 : Int32) (fn2 fr2 fb2 : Nat → Int32), w1 = [oMod h mt ty mo md ms mn mi mz mk mw mf li se fAt at_ so sta sz fl iha isn ru2 mr mb mu, cI mo 56 (fI T), cI ms 32 (fS s), cI mn 32 fn2, cI mr 6 fr2, cI mb 6 fb2]) 0 0 37 [some (.ref h), some (.int x), some (.int (nI (T 1))), some (.int (nI i)), none, none, none] [] [oMod h mt ty mo md ms mn mi mz mk mw mf li se fAt at_ so sta sz fl iha isn ru mr mb mu, cI mo 56 (fI T), cI ms 32 (fS s), cI mn 32 fn, cI mr 6 (cpF_lays i (fI (fun j => j)) fr), cI mb 6 fb] := by
  have hC6 := hB.2.1
  obtain ⟨L, hL, hc⟩ := lex_0 hC1 hC6
  rw [hL] at hZ
  intro n
  induction n with
  | zero =>
    intro i hi
    have e : i = 6 := by omega
    subst e
    refine g_cong (g := fI (fun j => j)) 4 rfl (fun j hj => if_pos hj) rfl ?_
    dsimp only [List.set]
    refine g_iload_n dX7_order_37 rfl rfl ?_
    refine g_bipush (v := nI 6) dX7_order_38 rfl (by decide) ?_
    refine g_icmp_geN (t := 56) dX7_order_40 (by decide) rfl (by omega) (by omega) (fun h40 => ?_) (fun h40 => ?_)
    · skip
      refine g_iload_n dX7_order_56 rfl rfl ?_
      refine g_iconst (v := nI 1) dX7_order_57 rfl (by decide) ?_
      refine g_iadd dX7_order_58 rfl (nI_add _ _) ?_
      refine g_istore_n dX7_order_59 rfl (by decide) rfl rfl ?_
      refine g_iconst (v := nI 1) dX7_order_60 rfl (by decide) ?_
      refine g_istore dX7_order_61 rfl (by decide) rfl rfl ?_
      exact lp_ord63 sk hB hW hs0 hC1 hx hh L.length L rfl (List.range (T 1)) _ (T 1 + 1) [] _ _ _ _ _ (Nat.le_refl _) (by omega) (fun q => absurd q (by omega)) hc (fun j hj => (rg_get hj).symm) (fun j hj => hj) (fun z hz => by rw [← hL] at hz; exact lexU_lt (T 1) (nI 0) z hz) hZ
    · exact absurd h40 (by decide)
  | succ n ih =>
    intro i hi
    refine g_iload_n dX7_order_37 rfl rfl ?_
    refine g_bipush (v := nI 6) dX7_order_38 rfl (by decide) ?_
    refine g_icmp_geN (t := 56) dX7_order_40 (by decide) rfl (by omega) (by omega) (fun h40 => ?_) (fun h40 => ?_)
    · exact absurd h40 (by omega)
    · skip
      refine g_aload_n dX7_order_43 rfl rfl ?_
      refine g_get f_X7_45 dX7_order_44 rfl 0 rfl rfl ?_
      refine g_iload_n dX7_order_47 rfl rfl ?_
      refine g_iload_n dX7_order_48 rfl rfl ?_
      refine g_iastN dX7_order_49 rfl 4 rfl (by omega) (by decide) (cpF_up i (fI (fun j => j)) fr) rfl ?_
      refine g_iinc dX7_order_50 rfl rfl (nI_1 _) (by decide) rfl rfl ?_
      refine g_goto (q := 37) dX7_order_53 (by decide) ?_
      exact ih (i + 1) (by omega)
set_option maxRecDepth 20000 in
theorem c_X7_order (sk : Nat → Nat) {h mt mo md ms mn mi mz mk mw mf mr mb mu : Nat} {ty li se fAt at_ so sta sz fl ru : Int32} {iha isn : Bool} {T : Nat → Nat} {w a r : Nat → Nat} {s : PSt} {x : Int32} {fn fr fb : Nat → Int32} (hB : PB (T 0) (T 1) (T 4) (T 5) w a r) (hW : TWR T w a r) (hs0 : SB s.1) (hC1 : 1 ≤ T 1) (hx : x = -1 ∨ x = -2 ∨ ∃ j, j < T 1 ∧ x = nI j) (hh : s.2.2 = -1) : Ct sk yX7_order cX7_order 7 (some .int) 3 0 0 [oMod h mt ty mo md ms mn mi mz mk mw mf li se fAt at_ so sta sz fl iha isn ru mr mb mu, cI mo 56 (fI T), cI ms 32 (fS s), cI mn 32 fn, cI mr 6 fr, cI mb 6 fb] [.ref h, .int x] ((fun q w1 => q = some (.int (ordA (T 1) (foR (fun l => hbR (T 0) (T 4) (T 5) w a r (gl l) (T 1) 0 s) (lexU (T 1) (T 1) (nI 0)) (T 1 + 1) []) x)) ∧ ∃ (ru2 : Int32) (fn2 fr2 fb2 : Nat → Int32), w1 = [oMod h mt ty mo md ms mn mi mz mk mw mf li se fAt at_ so sta sz fl iha isn ru2 mr mb mu, cI mo 56 (fI T), cI ms 32 (fS s), cI mn 32 fn2, cI mr 6 fr2, cI mb 6 fb2])) := by
  have hC6 := hB.2.1
  refine Ct.of (own := RX7) (l := [some (.ref h), some (.int x), none, none, none, none, none]) (by decide) rfl (Nat.le_of_ble_eq_true rfl) rfl ?_
  refine g_aload_n dX7_order_0 rfl rfl ?_
  refine g_get f_X7_13 dX7_order_1 rfl 0 rfl rfl ?_
  refine g_iconst (v := nI 1) dX7_order_4 rfl (by decide) ?_
  refine g_ialdN (v := nI _) dX7_order_5 rfl 1 rfl (by omega) (by decide) (rfl) ?_
  refine g_istore_n dX7_order_6 rfl (by decide) rfl rfl ?_
  refine g_aload_n dX7_order_7 rfl rfl ?_
  refine g_get f_X7_19 dX7_order_8 rfl 0 rfl rfl ?_
  refine g_bipush (v := nI 31) dX7_order_11 rfl (by decide) ?_
  refine g_ialdN (v := s.2.2) dX7_order_13 rfl 2 rfl (by omega) (by decide) (rfl) ?_
  refine g_iconst (v := -1) dX7_order_14 rfl (by decide) ?_
  refine g_icmp_ne (t := 33) dX7_order_15 (by decide) rfl (fun h15 => ?_) (fun h15 => ?_)
  · exact absurd hh h15
  · skip
    refine g_iload_n dX7_order_18 rfl rfl ?_
    refine g_if_eq (t := 33) dX7_order_19 (by decide) rfl (fun h19 => ?_) (fun h19 => ?_)
    · exact absurd h19 (nI_ne0 (by omega) (by omega))
    · skip
      refine g_iload_n dX7_order_22 rfl rfl ?_
      refine g_bipush (v := -2) dX7_order_23 rfl (by decide) ?_
      refine g_icmp_lt (t := 33) dX7_order_25 (by decide) rfl (fun h25 => ?_) (fun h25 => ?_)
      · exact absurd h25 (ord_x hx hC6).1
      · skip
        refine g_iload_n dX7_order_28 rfl rfl ?_
        refine g_iload_n dX7_order_29 rfl rfl ?_
        refine g_icmp_lt (t := 35) dX7_order_30 (by decide) rfl (fun h30 => ?_) (fun h30 => ?_)
        · skip
          refine g_iconst (v := nI 0) dX7_order_35 rfl (by decide) ?_
          refine g_istore_n dX7_order_36 rfl (by decide) rfl rfl ?_
          have h0 := lp_ord37 sk (h := h) (mt := mt) (mo := mo) (md := md) (ms := ms) (mn := mn) (mi := mi) (mz := mz) (mk := mk) (mw := mw) (mf := mf) (mr := mr) (mb := mb) (mu := mu) (ty := ty) (li := li) (se := se) (fAt := fAt) (at_ := at_) (so := so) (sta := sta) (sz := sz) (fl := fl) (ru := ru) (iha := iha) (isn := isn) (T := T) (w := w) (a := a) (r := r) (s := s) (x := x) (fn := fn) (fr := fr) (fb := fb) hB hW hs0 hC1 hx hh rfl 6 0 (by decide)
          rw [cpF_0] at h0
          exact h0
        · exact absurd ((ord_x hx hC6).2 (by omega)) h30
