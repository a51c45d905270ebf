/-! more rows of G, numbers, and the cells' names -/
section BASE
variable {sk : Nat → Nat} {own : String} {y : MethodName} {cc : ByteArray} {nL : Nat} {rt : Option FieldType} {d mc ms : Nat} {Ψ : PS} {k n pc q : Nat} {l : LV} {st : List Value} {ws : AW}
/-- a local that isn't needed any more -/
theorem g_drop (i : Nat) {l' : LV} (hl' : l.set i none = l') (kk : GG sk own y cc nL rt d mc ms Ψ k n pc l' st ws) : GG sk own y cc nL rt d mc ms Ψ k n pc l st ws := by
  subst hl'
  intro p la e s m args below meth c G ca A H locs ls C hl hP hD hS
  refine kk p la e s m args below meth c G ca A H locs ls C ⟨hl.1, hl.2.1, fun j v hj => hl.2.2 j v ?_⟩ hP hD hS
  by_cases hij : i = j
  · subst hij
    rw [List.getElem?_set] at hj
    simp only [if_true] at hj
    split at hj <;> cases hj
  · rwa [List.getElem?_set_ne hij] at hj
theorem zmaxN {a b : Nat} (ha : a < 2 ^ 31) (hb : b < 2 ^ 31) : (if nI a < nI b then nI b else nI a) = nI (max a b) := by
  by_cases h : a < b
  · rw [if_pos ((nI_ltI ha hb).mpr h), Nat.max_eq_right (Nat.le_of_lt h)]
  · rw [if_neg (fun z => h ((nI_ltI ha hb).mp z)), Nat.max_eq_left (by omega)]
theorem zminN {a b : Nat} (ha : a < 2 ^ 31) (hb : b < 2 ^ 31) : (if nI b < nI a then nI b else nI a) = nI (min a b) := by
  by_cases h : b < a
  · rw [if_pos ((nI_ltI hb ha).mpr h), Nat.min_eq_right (Nat.le_of_lt h)]
  · rw [if_neg (fun z => h ((nI_ltI hb ha).mp z)), Nat.min_eq_left (by omega)]
theorem zsub_ge {a b : Nat} (ha : a < 2 ^ 30) (hb : b < 2 ^ 30) : 0 ≤ nI a - nI b ↔ b ≤ a := by
  rw [Int32.le_iff_toInt_le, pk_sub_toInt ha hb, Int32.toInt_zero]
  omega
theorem zsub_lt {a b : Nat} (ha : a < 2 ^ 30) (hb : b < 2 ^ 30) : nI a - nI b < 0 ↔ a < b := by
  rw [Int32.lt_iff_toInt_lt, pk_sub_toInt ha hb, Int32.toInt_zero]
  omega
theorem nI_0le {a : Nat} (ha : a < 2 ^ 31) : 0 ≤ nI a := nI_pos' ha
theorem nI_nlt0 {a : Nat} (ha : a < 2 ^ 31) : ¬ nI a < 0 := nI_pos ha
end BASE
theorem m_X6_216 : Cond.methodLink RX6 216 arraycopyName ∈ T0 := T0_at 510 (by decide +kernel) (by decide +kernel)
theorem t_acN : Cond.native arraycopyName ∈ T0 := T0_at 512 (by decide +kernel) (by decide +kernel)
theorem t_acS : Cond.static arraycopyName ∈ T0 := T0_at 511 (by decide +kernel) (by decide +kernel)
theorem t_acI : Cond.initialized "java/lang/System" ∈ T0 := T0_at 71 (by decide +kernel) (by decide +kernel)
theorem m_X6_1 : Cond.methodLink RX6 1 objectInit ∈ T0 := T0_at 77 (by decide +kernel) (by decide +kernel)
theorem m_X2_3 : Cond.methodLink RX2 3 objectInit ∈ T0 := T0_at 85 (by decide +kernel) (by decide +kernel)
theorem m_X0_3 : Cond.methodLink RX0 3 objectInit ∈ T0 := T0_at 130 (by decide +kernel) (by decide +kernel)
theorem m_X1_3 : Cond.methodLink RX1 3 objectInit ∈ T0 := T0_at 192 (by decide +kernel) (by decide +kernel)
theorem m_X5_3 : Cond.methodLink RX5 3 objectInit ∈ T0 := T0_at 218 (by decide +kernel) (by decide +kernel)
theorem m_X4_3 : Cond.methodLink RX4 3 objectInit ∈ T0 := T0_at 240 (by decide +kernel) (by decide +kernel)
theorem m_X3_3 : Cond.methodLink RX3 3 objectInit ∈ T0 := T0_at 287 (by decide +kernel) (by decide +kernel)
theorem m_X7_1 : Cond.methodLink RX7 1 objectInit ∈ T0 := T0_at 785 (by decide +kernel) (by decide +kernel)
theorem t_oiI : Cond.instanceMethod objectInit ∈ T0 := T0_at 78 (by decide +kernel) (by decide +kernel)
theorem t_oiC : Cond.code objectInit ⟨#[0xb1]⟩ 1 none ∈ T0 := T0_at 79 (by decide +kernel) (by decide +kernel)
section BASE2
variable {sk : Nat → Nat} {own : String} {y : MethodName} {cc : ByteArray} {nL : Nat} {rt : Option FieldType} {d mc ms : Nat} {Ψ : PS} {k n pc q : Nat} {l : LV} {st : List Value} {ws : AW}
/-- System.arraycopy of a whole row of ints -/
theorem g_copyI {i a0 a nn : Nat} {f g : Nat → Int32} (M : Cond.methodLink own i arraycopyName ∈ T0) (hd : decode cc pc = .ok (.invokestatic i, 3)) (hq : pc + 3 = q) (q0 q1 : Nat) (he0 : ws[q0]? = some (a0, .inl (0, nn, .inl f))) (he1 : ws[q1]? = some (a, .inl (0, nn, .inl g))) (hn : nn < 2 ^ 31) (h1 : 1 ≤ d) (hl2 : (st.map fun v => v.category).sum + (nativeFrameWords "java/lang/System" "arraycopy" 5 + 11) ≤ 64 * d) {ws' : AW} (hw : ws.set q1 (a, .inl (0, nn, .inl f)) = ws') (kk : GG sk own y cc nL rt d mc ms Ψ k n q l st ws') : GG sk own y cc nL rt d mc ms Ψ k n pc l (.int (nI nn) :: .int (nI 0) :: .ref a :: .int (nI 0) :: .ref a0 :: st) ws := by
  subst hq; subst hw
  intro p la e s m args below meth c G ca A H locs ls C hl hP hD hS
  have hts := C.2.2.2.2.2.2.2.1
  have z0 : (nI 0).toNatClampNeg = 0 := nI_clamp (by decide)
  have zn : (nI nn).toNatClampNeg = nn := nI_clamp hn
  refine va_copyi C.1 C.2.1 (C.2.2.2.2.1.trans hl.1.symm) C.2.2.2.2.2.1 (hts _ M) (hts _ t_acN) (hts _ t_acS) (hts _ t_acI) C.2.2.2.2.2.2.2.2.1 hP hD hS q0 q1 0 0 (zW_get ca he0) (zW_get ca he1) rfl rfl rfl (nI_pos (by decide)) (nI_pos (by decide)) (nI_pos hn) (by rw [z0, zn]; omega) (by rw [z0, zn]; omega) (fun i _ => rfl) h1 hl2 hd (fun H1 locs1 hP1 hD1 hS1 => ?_)
  rw [z0, zn] at hP1 hD1
  have e1 := zW_set ca ws q1 a (.inl (0, nn, .inl (va_cpy f g 0 0 nn)))
  have hP2 : va_P G vwCl (zW ca (ws.set q1 (a, .inl (0, nn, .inl (va_cpy f g 0 0 nn))))) H1 := e1 ▸ hP1
  have hD2 : va_D A (zW ca (ws.set q1 (a, .inl (0, nn, .inl (va_cpy f g 0 0 nn))))) := e1 ▸ hD1
  have hlt : q1 < ws.length := (List.getElem?_eq_some_iff.mp he1).1
  refine g_cong (ws := ws.set q1 (a, .inl (0, nn, .inl (va_cpy f g 0 0 nn)))) q1 (List.getElem?_set_self hlt) (g := f) (fun j hj => ?_) (by rw [List.set_set]) kk p la e s m args below meth c G ca A H1 locs1 ls C hl hP2 hD2 hS1
  show (if 0 ≤ j ∧ j < 0 + nn then f (0 + (j - 0)) else g j) = f j
  rw [if_pos ⟨Nat.zero_le _, by omega⟩]
  simp
theorem g_obj {i a : Nat} (hd : decode cc pc = .ok (.invokespecial i, 3)) (hq : pc + 3 = q) (M : Cond.methodLink own i objectInit ∈ T0) (h1 : 1 ≤ d) (hr : (st.map fun v => v.category).sum ≤ 8) (kk : GG sk own y cc nL rt d mc ms Ψ k n q l st ws) : GG sk own y cc nL rt d mc ms Ψ k n pc l (.ref a :: st) ws := by
  subst hq
  intro p la e s m args below meth c G ca A H locs ls C hl hP hD hS
  have hts := C.2.2.2.2.2.2.2.1
  refine W.objInit C.1 C.2.1 C.2.2.2.2.2.1 (hts _ M) (hts _ t_oiI) (hts _ t_oiC) rfl (hl.1.trans C.2.2.2.2.1.symm) rfl hd h1 ?_ ?_
  · have := lv_room (m := m) (pc := pc) (ls := ls) (rest := .ref a :: st) hr
    show _ ≤ 64 * d
    omega
  · exact kk p la e s m args below meth c G ca A H locs ls C hl hP hD hS
end BASE2
/-- an array of ints that holds these numbers -/
def fI (f : Nat → Nat) : Nat → Int32 := fun j => nI (f j)
def nup (f : Nat → Nat) (k v : Nat) : Nat → Nat := fun j => if j = k then v else f j
theorem fI_up (f : Nat → Nat) (k v : Nat) : upd (fI f) k (nI v) = fI (nup f k v) := by
  funext j
  unfold upd fI nup
  split <;> rfl
theorem fI_up2 {f g : Nat → Nat} {k v : Nat} (h : nup f k v = g) : upd (fI f) k (nI v) = fI g := by rw [fI_up, h]
theorem nup_s (f : Nat → Nat) (k v : Nat) : nup f k v k = v := if_pos rfl
theorem nup_n (f : Nat → Nat) {j k : Nat} (h : j ≠ k) (v : Nat) : nup f k v j = f j := if_neg h
-- the cells
abbrev cI (h n : Nat) (f : Nat → Int32) : Nat × AE := (h, .inl (0, n, .inl f))
abbrev cB (h n : Nat) (f : Nat → Int32) : Nat × AE := (h, .inl (1, n, .inl f))
abbrev cZ (h n : Nat) (f : Nat → Int32) : Nat × AE := (h, .inl (2, n, .inl f))
abbrev cP (h n : Nat) (f : Nat → Option Nat) : Nat × AE := (h, .inl (3, n, .inr (.inr (.inr (.inr f)))))
abbrev cA (h n : Nat) (f : Nat → Option Nat) : Nat × AE := (h, .inl (4, n, .inr (.inr (.inr (.inr f)))))
abbrev oPlan (h s w a r : Nat) (F C V E N S : Int32) : Nat × AE := (h, .inr (0, [.ref s, .ref w, .ref a, .ref r, .int F, .int C, .int V, .int E, .int N, .int S]))
abbrev oPole (h s : Nat) (g o d : Int32) : Nat × AE := (h, .inr (1, [.ref s, .int g, .int o, .int d]))
abbrev oReader (h t f u : Nat) (n a fa fp fc : Int32) (p hm sn : Bool) : Nat × AE := (h, .inr (2, [.ref t, .ref f, .ref u, .int n, .int a, .int fa, .int fp, .int fc, .int (zb p), .int (zb hm), .int (zb sn)]))
abbrev oRests (h t p : Nat) (r : Int32) (f : Bool) : Nat × AE := (h, .inr (3, [.ref t, .ref p, .int r, .int (zb f)]))
abbrev oRows (h s r : Nat) (g lo : Int32) (o : Bool) (ar : Nat) (ag : Int32) (af : Bool) (r1 g1 f1 : Nat) : Nat × AE := (h, .inr (4, [.ref s, .ref r, .int g, .int lo, .int (zb o), .ref ar, .int ag, .int (zb af), .ref r1, .ref g1, .ref f1]))
abbrev oTale (h c f t : Nat) (n : Int32) : Nat × AE := (h, .inr (5, [.ref c, .ref f, .ref t, .int n]))
abbrev oMain (h rd pl sp nw im kp tl ro rs ak : Nat) (st : Bool) (fp : Int32) : Nat × AE := (h, .inr (6, [.ref rd, .ref pl, .ref sp, .ref nw, .ref im, .ref kp, .ref tl, .ref ro, .ref rs, .ref ak, .int (zb st), .int fp]))
/-- what a foot takes of the arms, with sand or without -/
def tk (sand : Bool) (s w : Nat) : Nat := match sand with
  | false => s * w / 50 + 1
  | true => max 1 ((s * w / 50 + 1) / 2)
/-- how far one comes from foot i on, n feet left, with so much of his arms -/
def farR (w : Nat) (sand : Bool) (sl : Nat → Nat) : Nat → Nat → Nat → Nat
  | 0, i, _ => i
  | n + 1, i, left => if left < tk sand (sl i) w then i else farR w sand sl n (i + 1) (left - tk sand (sl i) w)
theorem farR_stop {w : Nat} {sand : Bool} {sl : Nat → Nat} {n i left : Nat} (h : left < tk sand (sl i) w) : farR w sand sl (n + 1) i left = i := if_pos h
theorem farR_on {w : Nat} {sand : Bool} {sl : Nat → Nat} {n i left : Nat} (h : ¬ left < tk sand (sl i) w) : farR w sand sl (n + 1) i left = farR w sand sl n (i + 1) (left - tk sand (sl i) w) := if_neg h
theorem farR_le (w : Nat) (sand : Bool) (sl : Nat → Nat) : ∀ (n i left : Nat), i ≤ farR w sand sl n i left ∧ farR w sand sl n i left ≤ i + n
  | 0, i, _ => ⟨Nat.le_refl _, Nat.le_refl _⟩
  | n + 1, i, left => by
    by_cases h : left < tk sand (sl i) w
    · rw [farR_stop h]; omega
    · rw [farR_on h]
      have := farR_le w sand sl n (i + 1) (left - tk sand (sl i) w)
      omega
theorem zmax0 {a : Nat} (ha : a < 2 ^ 31) : (if nI a < nI 0 then nI 0 else nI a) = nI a := if_neg (fun z => absurd ((nI_ltI ha (by decide)).mp z) (Nat.not_lt_zero _))
/-- whether an answer of the caller's names one of n -/
def inR (x : Int32) (n : Nat) : Bool := decide (¬ x < 0) && decide (x < nI n)
theorem inR_t {x : Int32} {n : Nat} (hn : n < 2 ^ 31) (h : inR x n = true) : ∃ j : Nat, j < n ∧ x = nI j := by
  unfold inR at h
  simp only [Bool.and_eq_true, decide_eq_true_eq] at h
  obtain ⟨j, hj, rfl⟩ := nI_of h.1
  exact ⟨j, (nI_ltI hj hn).mp h.2, rfl⟩
theorem inR_N {j n : Nat} (hj : j < n) (hn : n < 2 ^ 31) : inR (nI j) n = true := by
  unfold inR
  simp only [Bool.and_eq_true, decide_eq_true_eq]
  exact ⟨nI_pos (by omega), (nI_ltI (by omega) hn).mpr hj⟩
/-- what one rubs off the feet below far -/
def rubS (far most : Nat) (sl : Nat → Nat) : Nat → Nat := fun j => if j < far then sl j - min most (sl j) else sl j
def rubT (most : Nat) (sl : Nat → Nat) : Nat → Nat
  | 0 => 0
  | n + 1 => rubT most sl n + min most (sl n)
theorem rubS_0 (most : Nat) (sl : Nat → Nat) : rubS 0 most sl = sl := by funext j; simp [rubS]
theorem rubS_at (i most : Nat) (sl : Nat → Nat) : rubS i most sl i = sl i := by simp [rubS]
theorem rubS_up (i most : Nat) (sl : Nat → Nat) : nup (rubS i most sl) i (sl i - min most (sl i)) = rubS (i + 1) most sl := by
  funext j
  unfold nup rubS
  by_cases h : j = i
  · subst h; simp
  · by_cases h2 : j < i
    · simp [h, h2, show j < i + 1 by omega]
    · simp [h, h2, show ¬ j < i + 1 by omega]
theorem rubT_le (most : Nat) (sl : Nat → Nat) (hm : most ≤ 20) : ∀ n, rubT most sl n ≤ 20 * n
  | 0 => Nat.le_refl _
  | n + 1 => by have := rubT_le most sl hm n; rw [rubT]; omega
/-- what he smears on the feet below far -/
def smS (far q : Nat) (sl : Nat → Nat) (i : Nat) : Nat → Nat := fun j => if j < i then min 99 (sl j + (if j < q % far then q / far + 1 else q / far)) else sl j
theorem smS_0 (far q : Nat) (sl : Nat → Nat) : smS far q sl 0 = sl := by funext j; simp [smS]
theorem smS_at (far q : Nat) (sl : Nat → Nat) (i : Nat) : smS far q sl i i = sl i := by simp [smS]
theorem smS_up (far q : Nat) (sl : Nat → Nat) (i : Nat) : nup (smS far q sl i) i (min 99 (sl i + (if i < q % far then q / far + 1 else q / far))) = smS far q sl (i + 1) := by
  funext j
  unfold nup smS
  by_cases h : j = i
  · subst h; simp
  · by_cases h2 : j < i
    · simp [h, h2, show j < i + 1 by omega]
    · simp [h, h2, show ¬ j < i + 1 by omega]
/-- so much more on the feet from a on, below e -/
def adS (a e n : Nat) (sl : Nat → Nat) : Nat → Nat := fun j => if a ≤ j ∧ j < e then min 99 (sl j + n) else sl j
theorem adS_0 (a n : Nat) (sl : Nat → Nat) : adS a a n sl = sl := by funext j; unfold adS; rw [if_neg (by omega)]
theorem adS_at (a i n : Nat) (sl : Nat → Nat) : adS a i n sl i = sl i := by unfold adS; rw [if_neg (by omega)]
theorem adS_up (a i n : Nat) (sl : Nat → Nat) (h : a ≤ i) : nup (adS a i n sl) i (min 99 (sl i + n)) = adS a (i + 1) n sl := by
  funext j
  unfold nup adS
  by_cases h1 : j = i
  · subst h1; rw [if_pos rfl, if_pos ⟨h, by omega⟩]
  · by_cases h2 : a ≤ j ∧ j < i
    · rw [if_neg h1, if_pos h2, if_pos ⟨h2.1, by omega⟩]
    · rw [if_neg h1, if_neg h2, if_neg (by omega)]
/-- the sum of n feet from i on -/
def sumR (sl : Nat → Nat) : Nat → Nat → Nat
  | 0, _ => 0
  | n + 1, i => sl i + sumR sl n (i + 1)
theorem sumR_le (sl : Nat → Nat) (h : ∀ j, j < 30 → sl j ≤ 99) : ∀ (n i : Nat), i + n ≤ 30 → sumR sl n i ≤ 99 * n
  | 0, _, _ => Nat.le_refl _
  | n + 1, i, hi => by
    have h1 := h i (by omega)
    have h2 := sumR_le sl h n (i + 1) (by omega)
    rw [sumR]
    omega
def coS (v : Nat) (sl : Nat → Nat) (i : Nat) : Nat → Nat := fun j => if j < i then v else sl j
theorem coS_0 (v : Nat) (sl : Nat → Nat) : coS v sl 0 = sl := by funext j; simp [coS]
theorem coS_up (v : Nat) (sl : Nat → Nat) (i : Nat) : nup (coS v sl i) i v = coS v sl (i + 1) := by
  funext j
  unfold nup coS
  by_cases h : j = i
  · subst h; simp
  · by_cases h2 : j < i
    · simp [h, h2, show j < i + 1 by omega]
    · simp [h, h2, show ¬ j < i + 1 by omega]
/-- what n feet from i on take at the least, if so much less is on each -/
def lessR (w less : Nat) (sl : Nat → Nat) : Nat → Nat → Nat
  | 0, _ => 0
  | n + 1, i => (sl i - less) * w / 50 + lessR w less sl n (i + 1)
def maxR (r : Nat → Nat) : Nat → Nat
  | 0 => 0
  | n + 1 => max (maxR r n) (r n)
/-- a go: how far -/
def goF (F W A : Nat) (sand : Bool) (sl : Nat → Nat) : Nat := farR W sand sl F 0 A
/-- the slips behind it, ahead of the sun -/
def goS1 (e R : Nat) (sl : Nat → Nat) : Nat → Nat := smS e (rubT R sl e / 4) (rubS e R sl) e
def sunB (g : Int32) (N : Nat) : Bool := decide (g - g / nI N * nI N = 0)
def goS (F N S e R : Nat) (sl : Nat → Nat) (g : Int32) : Nat → Nat := match sunB g N with
  | true => adS 0 F S (goS1 e R sl)
  | false => goS1 e R sl
def goH (F e : Nat) (o : Int32) (c : Nat) : Int32 := if e = F ∧ o = -1 then nI c else o
theorem nI_0lt {a : Nat} (ha : a < 2 ^ 31) : 0 < nI a ↔ 0 < a := nI_ltI (a := 0) (by decide) ha
theorem zmaxsub {a b : Nat} (ha : a < 2 ^ 30) (hb : b < 2 ^ 30) : (if nI 0 < nI a - nI b then nI a - nI b else nI 0) = nI (a - b) := by
  by_cases h : b ≤ a
  · rw [pk_sub h]
    by_cases h2 : 0 < a - b
    · rw [if_pos ((nI_ltI (by decide) (by omega)).mpr h2)]
    · rw [if_neg (fun z => h2 ((nI_ltI (by decide) (by omega)).mp z)), show a - b = 0 by omega]
  · rw [if_neg, show a - b = 0 by omega]
    intro z
    have z1 : 0 ≤ nI a - nI b := by
      have : nI 0 < nI a - nI b := z
      rw [Int32.lt_iff_toInt_lt] at this
      rw [Int32.le_iff_toInt_le]
      have e0 : (nI 0).toInt = 0 := nI_toInt (by decide)
      rw [e0] at this
      rw [Int32.toInt_zero]
      omega
    exact h ((zsub_ge ha hb).mp z1)
theorem nI_lt_pred {i e : Nat} (hi : i < 2 ^ 30) (he : e < 2 ^ 30) : nI e - nI 1 < nI i ↔ e ≤ i := by
  rw [Int32.lt_iff_toInt_lt, pk_sub_toInt he (by decide), nI_toInt (by omega)]
  omega
theorem sub_sub32 (a b c : Int32) : a - b - c = a - (b + c) := by
  apply Int32.toBitVec_inj.mp
  simp only [Int32.toBitVec_sub, Int32.toBitVec_add]
  apply BitVec.eq_of_toNat_eq
  simp only [BitVec.toNat_sub, BitVec.toNat_add]
  have h1 := a.toBitVec.isLt
  have h2 := b.toBitVec.isLt
  have h3 := c.toBitVec.isLt
  omega
def eqR (f g : Nat → Nat) : Nat → Nat → Bool
  | 0, _ => true
  | n + 1, i => decide (f i = g i) && eqR f g n (i + 1)
def likeB (g o g2 o2 : Int32) (sl sl2 : Nat → Nat) : Bool := decide (g = g2) && (decide (o = o2) && eqR sl sl2 30 0)
def nxI (s : Int32) : Int32 := (s * 1103515245 + nI 12345) &&& 2147483647
def pkI (s : Int32) (C : Nat) : Int32 := s / 65536 - s / 65536 / nI C * nI C
theorem goF_le (F W A : Nat) (sand : Bool) (sl : Nat → Nat) : goF F W A sand sl ≤ F := by
  have := (farR_le W sand sl F 0 A).2
  unfold goF
  omega
theorem rubS_le (e R : Nat) (sl : Nat → Nat) (h : ∀ j, j < 30 → sl j ≤ 99) : ∀ j, j < 30 → rubS e R sl j ≤ 99 := fun j hj => by
  have := h j hj
  unfold rubS
  split <;> omega
theorem smS_le (f q : Nat) (sl : Nat → Nat) (i : Nat) (h : ∀ j, j < 30 → sl j ≤ 99) : ∀ j, j < 30 → smS f q sl i j ≤ 99 := fun j hj => by
  have := h j hj
  unfold smS
  split <;> omega
theorem adS_le (a e n : Nat) (sl : Nat → Nat) (h : ∀ j, j < 30 → sl j ≤ 99) : ∀ j, j < 30 → adS a e n sl j ≤ 99 := fun j hj => by
  have := h j hj
  unfold adS
  split <;> omega
theorem goS1_le (e R : Nat) (sl : Nat → Nat) (h : ∀ j, j < 30 → sl j ≤ 99) : ∀ j, j < 30 → goS1 e R sl j ≤ 99 := smS_le _ _ _ _ (rubS_le e R sl h)
theorem goS_le (F N S e R : Nat) (sl : Nat → Nat) (g : Int32) (h : ∀ j, j < 30 → sl j ≤ 99) : ∀ j, j < 30 → goS F N S e R sl g j ≤ 99 := fun j hj => by
  unfold goS
  cases sunB g N with
  | true => exact adS_le _ _ _ _ (goS1_le e R sl h) j hj
  | false => exact goS1_le e R sl h j hj
/-- the feet of a pole as it is told -/
def stF (F v i : Nat) (f : Nat → Int32) : Nat → Int32 := fun j => if j < i then nI (if j < F then v else 0) else f j
theorem stF_0 (F v : Nat) (f : Nat → Int32) : stF F v 0 f = f := by funext j; simp [stF]
theorem stF_up (F v i : Nat) (f : Nat → Int32) : upd (stF F v i f) i (nI (if i < F then v else 0)) = stF F v (i + 1) f := by
  funext j
  unfold upd stF
  by_cases h : j = i
  · subst h; simp
  · by_cases h2 : j < i
    · simp [h, h2, show j < i + 1 by omega]
    · simp [h, h2, show ¬ j < i + 1 by omega]
