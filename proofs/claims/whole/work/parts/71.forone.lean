/-! FOR ONE: the class's search and the reference's counting -/
section PONE
variable {F C N S : Nat} {w a r : Nat → Nat}
/-- who comes over the last foot has the strength for it -/
theorem far_full {wv : Nat} {sl : Nat → Nat} : ∀ (n i left : Nat), farR wv false sl n i left = i + n → n + lessR wv 0 sl n i ≤ left
  | 0, i, left, _ => by rw [lessR]; omega
  | n + 1, i, left, h => by
    by_cases q : left < tk false (sl i) wv
    · rw [farR_stop q] at h; omega
    · rw [farR_on q] at h
      have h1 := far_full n (i + 1) _ (by rw [h]; omega)
      have e : tk false (sl i) wv = sl i * wv / 50 + 1 := rfl
      rw [lessR, Nat.sub_zero]
      omega
theorem lessR_mono {wv x y : Nat} {sl sl2 : Nat → Nat} : ∀ (n i : Nat), (∀ j, i ≤ j → j < i + n → sl j - x ≤ sl2 j - y) → lessR wv x sl n i ≤ lessR wv y sl2 n i
  | 0, _, _ => Nat.le_refl _
  | n + 1, i, h => by
    rw [lessR, lessR]
    have h1 := lessR_mono (wv := wv) (x := x) (y := y) (sl := sl) (sl2 := sl2) n (i + 1) (fun j h1 h2 => h j (by omega) (by omega))
    have h2 := Nat.div_le_div_right (c := 50) (Nat.mul_le_mul_right wv (h i (Nat.le_refl _) (by omega)))
    omega
theorem maxR_ge {q : Nat → Nat} : ∀ (n c : Nat), c < n → q c ≤ maxR q n
  | 0, _, h => by omega
  | n + 1, c, h => by
    rw [maxR]
    by_cases e : c = n
    · subst e; omega
    · have := maxR_ge (q := q) n c (by omega); omega
/-- a go takes at most what he rubs off -/
theorem go_low {s : PSt} {d : Nat} {sand : Bool} (hs : SB s.1) (hd : d < C) {j : Nat} (hj : j < 30) : s.1 j - maxR r C ≤ (go1 F N S w a r sand s d).1 j := by
  have hR := maxR_ge (q := r) C d hd
  have h1 := hs j hj
  show _ ≤ goS F N S (far1 F w a sand s d) (r d) s.1 (s.2.1 + nI 1) j
  generalize far1 F w a sand s d = e
  have h2 : s.1 j - r d ≤ goS1 e (r d) s.1 j := by
    unfold goS1 smS rubS
    by_cases q : j < e
    · rw [if_pos q, if_pos q]; omega
    · rw [if_neg q, if_neg q]; omega
  have h3 : goS1 e (r d) s.1 j ≤ goS F N S e (r d) s.1 (s.2.1 + nI 1) j := by
    have h4 := goS1_le e (r d) s.1 hs j hj
    unfold goS
    cases sunB (s.2.1 + nI 1) N with
    | false => exact Nat.le_refl _
    | true =>
      show _ ≤ adS 0 F S (goS1 e (r d) s.1) j
      unfold adS
      split <;> omega
  omega
theorem less_go {s : PSt} {d m wv : Nat} {sand : Bool} (hF : F ≤ 30) (hs : SB s.1) (hd : d < C) : lessR wv ((m + 1) * maxR r C) s.1 F 0 ≤ lessR wv (m * maxR r C) (go1 F N S w a r sand s d).1 F 0 := by
  refine lessR_mono F 0 (fun j _ h2 => ?_)
  have := go_low (F := F) (C := C) (N := N) (S := S) (w := w) (a := a) (r := r) (sand := sand) hs hd (j := j) (by omega)
  rw [Nat.succ_mul]
  omega
theorem hope_in {last : Int32} {m : Nat} {s : PSt} {c : Nat} (h1 : lastB last c = true) (h2 : F + lessR (w c) (m * maxR r C) s.1 F 0 ≤ a c) : ∀ (n i : Nat), i ≤ c → c < i + n → hopeR F C N S w a r last m s n i = true
  | 0, i, h3, h4 => by omega
  | n + 1, i, h3, h4 => by
    rw [hopeR, Bool.or_eq_true]
    by_cases e : i = c
    · subst e
      exact Or.inl (by rw [h1, decide_eq_true h2]; rfl)
    · exact Or.inr (hope_in h1 h2 n (i + 1) (by omega) (by omega))
theorem ham_c {s : PSt} {c : Nat} {sand : Bool} (hc : c < 2 ^ 31) (hs : s.2.2 = -1) : (go1 F N S w a r sand s c).2.2 = nI c ↔ far1 F w a sand s c = F := by
  show goH F (far1 F w a sand s c) s.2.2 c = nI c ↔ _
  unfold goH
  by_cases e : far1 F w a sand s c = F
  · rw [if_pos ⟨e, hs⟩]; exact ⟨fun _ => e, fun _ => rfl⟩
  · rw [if_neg (fun q => e q.1), hs]
    exact ⟨fun q => absurd q.symm (nI_m1 hc), fun q => absurd q e⟩
theorem far_less {s : PSt} {c : Nat} (h : far1 F w a false s c = F) : F + lessR (w c) 0 s.1 F 0 ≤ a c := far_full F 0 (a c) (by rw [Nat.zero_add]; exact h)
/-! rows as numbers -/
theorem fig_0 {d K x : Nat} (hK : K = C ^ x) (hd : d < C) {q : Nat} (hq : q < K) : figR (d * K + q) C (x + 1) 0 = d := by
  subst hK
  unfold figR
  rw [show x + 1 - 1 - 0 = x by omega, Nat.add_comm, Nat.mul_comm d, Nat.add_mul_div_left _ _ (by omega), Nat.div_eq_of_lt hq, Nat.zero_add, Nat.mod_eq_of_lt hd]
theorem fig_s {d x q k : Nat} (hC : 0 < C) (hk : k < x) : figR (d * C ^ x + q) C (x + 1) (k + 1) = figR q C x k := by
  unfold figR
  rw [show x + 1 - 1 - (k + 1) = x - 1 - k by omega]
  have e : C ^ x = C ^ (x - 1 - k) * C ^ (k + 1) := by rw [← Nat.pow_add, show x - 1 - k + (k + 1) = x by omega]
  rw [e, show d * (C ^ (x - 1 - k) * C ^ (k + 1)) + q = q + C ^ (x - 1 - k) * (d * C ^ (k + 1)) by rw [Nat.add_comm, Nat.mul_left_comm], Nat.add_mul_div_left _ _ (Nat.pow_pos hC), Nat.pow_succ, ← Nat.mul_assoc, Nat.add_mul_mod_self_right]
theorem his_s {n d q c : Nat} (hC : 0 < C) : ∀ (m k : Nat) (t : PSt), k + m = n → hisR F C N S w a r (n + 1) (d * C ^ n + q) c m (k + 1) t = hisR F C N S w a r n q c m k t
  | 0, _, _, _ => rfl
  | m + 1, k, t, h => by rw [hisR, hisR, fig_s hC (by omega), his_s hC m (k + 1) _ (by omega)]
theorem his_x {n row c m k : Nat} {t : PSt} (h : ¬ t.2.2 = -1) : hisR F C N S w a r n row c m k t = false := by
  cases m with
  | zero => rw [hisR, if_neg h]
  | succ m => rw [hisR, if_neg h]
theorem frw_split {s : PSt} {n c : Nat} : ∀ (m1 m2 row : Nat), frwR F C N S w a r s n c (m1 + m2) row = (frwR F C N S w a r s n c m1 row).or (frwR F C N S w a r s n c m2 (row + m1))
  | 0, m2, row => by rw [Nat.zero_add]; rfl
  | m1 + 1, m2, row => by
    rw [show m1 + 1 + m2 = (m1 + m2) + 1 by omega, frwR, frwR]
    split
    · rfl
    · rw [frw_split m1 m2 (row + 1), show row + 1 + m1 = row + (m1 + 1) by omega]
theorem frw_lt {s : PSt} {n c : Nat} : ∀ (m row x : Nat), frwR F C N S w a r s n c m row = some x → row ≤ x ∧ x < row + m ∧ hisR F C N S w a r n x c n 0 s = true
  | 0, _, _, h => by cases h
  | m + 1, row, x, h => by
    rw [frwR] at h
    split at h
    · rename_i q; cases h; exact ⟨Nat.le_refl _, by omega, q⟩
    · have := frw_lt m (row + 1) x h; exact ⟨by omega, by omega, this.2.2⟩
theorem frw_go {s : PSt} {n c d K : Nat} (hK : K = C ^ n) (hd : d < C) (hs : s.2.2 = -1) : ∀ (m q : Nat), q + m = K → frwR F C N S w a r s (n + 1) c m (d * K + q) = if (go1 F N S w a r false s d).2.2 = -1 then (frwR F C N S w a r (go1 F N S w a r false s d) n c m q).map (fun x => d * K + x) else none
  | 0, q, _ => by
    rw [frwR, frwR]
    split <;> rfl
  | m + 1, q, h => by
    rw [frwR, frwR, hisR, if_pos hs, fig_0 hK hd (by omega)]
    have e1 : hisR F C N S w a r (n + 1) (d * K + q) c n (0 + 1) (go1 F N S w a r false s d) = hisR F C N S w a r n q c n 0 (go1 F N S w a r false s d) := by
      rw [hK]; exact his_s (by omega) n 0 _ (by omega)
    rw [e1]
    by_cases hg : (go1 F N S w a r false s d).2.2 = -1
    · rw [if_pos hg]
      split
      · rfl
      · have := frw_go (c := c) hK hd hs m (q + 1) (by omega)
        rw [if_pos hg] at this
        rw [← this]; rfl
    · rw [if_neg hg, his_x hg, if_neg (by decide)]
      have := frw_go (c := c) hK hd hs m (q + 1) (by omega)
      rw [if_neg hg] at this
      exact this
/-- the row of a number -/
def dgR (C c : Nat) : Nat → Nat → List Nat
  | 0, _ => [c]
  | n + 1, row => (row / C ^ n) :: dgR C c n (row % C ^ n)
theorem dg_len (C c : Nat) : ∀ (n row : Nat), (dgR C c n row).length = n + 1
  | 0, _ => rfl
  | n + 1, row => by rw [dgR, List.length_cons, dg_len C c n]
theorem dg_get {c : Nat} (hC : 0 < C) : ∀ (n row : Nat), row < C ^ n → (∀ i, i < n → (dgR C c n row).getD i 0 = figR row C n i) ∧ (dgR C c n row).getD n 0 = c
  | 0, _, _ => ⟨fun i hi => by omega, rfl⟩
  | n + 1, row, h => by
    have hp : 0 < C ^ n := Nat.pow_pos hC
    have h1 := dg_get (c := c) hC n (row % C ^ n) (Nat.mod_lt _ hp)
    have e : row / C ^ n * C ^ n + row % C ^ n = row := by rw [Nat.mul_comm]; exact Nat.div_add_mod row (C ^ n)
    have hd : row / C ^ n < C := by
      rw [Nat.div_lt_iff_lt_mul hp, Nat.mul_comm, ← Nat.pow_succ]
      exact h
    refine ⟨fun i hi => ?_, h1.2⟩
    cases i with
    | zero =>
      show row / C ^ n = _
      have := fig_0 (x := n) rfl hd (Nat.mod_lt row hp)
      rw [e] at this
      exact this.symm
    | succ i =>
      show (dgR C c n (row % C ^ n)).getD i 0 = _
      have := fig_s (d := row / C ^ n) (x := n) (q := row % C ^ n) (k := i) hC (by omega)
      rw [e] at this
      rw [this]
      exact h1.1 i (by omega)
theorem last_c {c x : Nat} (hc : c < 2 ^ 31) (hx : x < 2 ^ 31) : lastB (nI c) x = decide (x = c) := by
  unfold lastB
  rw [decide_eq_false (nI_m1 hc), Bool.false_or]
  exact decide_eq_decide.mpr (nI_eq hx hc)
theorem fE_c {s : PSt} {u : Int32} {c : Nat} (hc : c < C) (hC : C ≤ 6) : ∀ (n i : Nat), i + n = C → i ≤ c + 1 → fsome (fE F w a false (nI c) u s) n i = if i ≤ c ∧ far1 F w a false s c = F then some [c] else none
  | 0, i, h1, h2 => by rw [fsome, if_neg (fun q => by omega)]
  | n + 1, i, h1, h2 => by
    rw [fsome]
    unfold fE
    rw [last_c (by omega) (by omega)]
    by_cases e : i = c
    · subst e
      by_cases q : far1 F w a false s i = F
      · rw [if_pos ⟨rfl, decide_eq_true rfl, q⟩, if_pos ⟨Nat.le_refl _, q⟩]
      · rw [if_neg (fun z => q z.2.2), if_neg (fun z => q z.2)]
        have := fE_c (s := s) (u := u) hc hC n (i + 1) (by omega) (by omega)
        rw [if_neg (fun z => by omega)] at this
        exact this
    · rw [if_neg (fun z => by rw [decide_eq_false e] at z; exact absurd z.2.1 (by decide))]
      by_cases h3 : i ≤ c
      · have := fE_c (s := s) (u := u) hc hC n (i + 1) (by omega) (by omega)
        by_cases q : far1 F w a false s c = F
        · rw [if_pos ⟨by omega, q⟩] at this
          rw [if_pos ⟨h3, q⟩]
          exact this
        · rw [if_neg (fun z => q z.2)] at this
          rw [if_neg (fun z => q z.2)]
          exact this
      · have hic : i = c + 1 := by omega
        rw [if_neg (fun z => h3 z.1)]
        dsimp only
        exact fE_off hc hC n (i + 1) (by omega) (by omega)
where fE_off {s : PSt} {u : Int32} {c : Nat} (hc : c < C) (hC : C ≤ 6) : ∀ (n i : Nat), i + n = C → c < i → fsome (fE F w a false (nI c) u s) n i = none
  | 0, _, _, _ => rfl
  | n + 1, i, h1, h2 => by
    rw [fsome]
    unfold fE
    rw [last_c (by omega) (by omega), if_neg (fun z => by rw [decide_eq_false (show ¬ i = c by omega)] at z; exact absurd z.2.1 (by decide))]
    exact fE_off hc hC n (i + 1) (by omega) (by omega)
theorem his_hope {n row c : Nat} (hF : F ≤ 30) (hC : C ≤ 6) (hc : c < C) : ∀ (m k : Nat) (t : PSt), SB t.1 → hisR F C N S w a r n row c m k t = true → F + lessR (w c) (m * maxR r C) t.1 F 0 ≤ a c
  | 0, k, t, ht, h => by
    rw [hisR] at h
    by_cases hh : t.2.2 = -1
    · rw [if_pos hh] at h
      have h1 := (ham_c (by omega) hh).mp (of_decide_eq_true h)
      rw [Nat.zero_mul]
      exact far_less h1
    · rw [if_neg hh] at h; cases h
  | m + 1, k, t, ht, h => by
    rw [hisR] at h
    by_cases hh : t.2.2 = -1
    · rw [if_pos hh] at h
      have hd : figR row C n k < C := Nat.mod_lt _ (by omega)
      have h1 := his_hope hF hC hc m (k + 1) _ (go1_SB ht) h
      have h2 := less_go (F := F) (C := C) (N := N) (S := S) (w := w) (a := a) (r := r) (sand := false) (m := m) (wv := w c) hF ht hd
      omega
    · rw [if_neg hh] at h; cases h
theorem dfs_one {c : Nat} (hF : F ≤ 30) (hC : C ≤ 6) (hc : c < C) : ∀ (n : Nat) (u : Int32) (t : PSt), t.2.2 = -1 → SB t.1 → dfs F C N S w a r false (nI c) n u t = (frwR F C N S w a r t n c (C ^ n) 0).map (dgR C c n)
  | 0, u, t, hh, ht => by
    have e1 : frwR F C N S w a r t 0 c (C ^ 0) 0 = if far1 F w a false t c = F then some 0 else none := by
      rw [Nat.pow_zero, frwR, hisR, if_pos hh]
      by_cases q : far1 F w a false t c = F
      · rw [if_pos (decide_eq_true ((ham_c (by omega) hh).mpr q)), if_pos q]
      · rw [if_neg (fun z => q ((ham_c (by omega) hh).mp (of_decide_eq_true z))), if_neg q]; rfl
    rw [dfs, e1, fE_c hc hC C 0 (by omega) (by omega)]
    by_cases q : far1 F w a false t c = F
    · have := far_less q
      have hL : lastB (nI c) c = true := by rw [last_c (show c < 2 ^ 31 by omega) (show c < 2 ^ 31 by omega)]; exact decide_eq_true rfl
      rw [if_pos (hope_in (C := C) (r := r) (m := 0) hL (by rw [Nat.zero_mul]; exact this) C 0 (by omega) (by omega)), if_pos (show 0 ≤ c ∧ far1 F w a false t c = F from ⟨by omega, q⟩), if_pos q]
      rfl
    · rw [if_neg (show ¬ (0 ≤ c ∧ far1 F w a false t c = F) from fun z => q z.2), if_neg q]
      split <;> rfl
  | n + 1, u, t, hh, ht => by
    rw [dfs]
    split
    · have hb : ∀ (m d : Nat), d + m = C → (frwR F C N S w a r t (n + 1) c (m * C ^ n) (d * C ^ n)).map (dgR C c (n + 1)) = fsome (fN F N S w a r false (dfs F C N S w a r false (nI c) n) u t) m d := by
        intro m
        induction m with
        | zero => intro d _; rw [Nat.zero_mul]; rfl
        | succ m ih =>
          intro d hd
          rw [Nat.succ_mul, Nat.add_comm (m * C ^ n), frw_split, show d * C ^ n + C ^ n = (d + 1) * C ^ n from (Nat.succ_mul d _).symm, fsome]
          have h1 := frw_go (F := F) (N := N) (S := S) (w := w) (a := a) (r := r) (s := t) (n := n) (c := c) rfl (show d < C by omega) hh (C ^ n) 0 (by omega)
          rw [show d * C ^ n + 0 = d * C ^ n from rfl] at h1
          rw [h1]
          unfold fN
          by_cases hg : (go1 F N S w a r false t d).2.2 = -1
          · rw [if_pos hg, if_pos ⟨rfl, hg⟩, dfs_one hF hC hc n _ _ hg (go1_SB ht)]
            cases hfr : frwR F C N S w a r (go1 F N S w a r false t d) n c (C ^ n) 0 with
            | none => exact ih (d + 1) (by omega)
            | some x =>
              have hx := frw_lt _ _ _ hfr
              rw [Nat.zero_add] at hx
              show some (dgR C c (n + 1) (d * C ^ n + x)) = some (d :: dgR C c n x)
              rw [dgR]
              have e2 : (d * C ^ n + x) / C ^ n = d := by rw [Nat.add_comm, Nat.mul_comm d, Nat.add_mul_div_left _ _ (by omega), Nat.div_eq_of_lt hx.2.1, Nat.zero_add]
              have e3 : (d * C ^ n + x) % C ^ n = x := by rw [Nat.add_comm, Nat.add_mul_mod_self_right, Nat.mod_eq_of_lt hx.2.1]
              rw [e2, e3]
          · rw [if_neg hg, if_neg (fun q => hg q.2)]
            exact ih (d + 1) (by omega)
      have := hb C 0 (by omega)
      rw [Nat.zero_mul, Nat.mul_comm, ← Nat.pow_succ] at this
      exact this.symm
    · rename_i hn
      cases hfr : frwR F C N S w a r t (n + 1) c (C ^ (n + 1)) 0 with
      | none => rfl
      | some x =>
        have hx := frw_lt _ _ _ hfr
        have hL : lastB (nI c) c = true := by rw [last_c (show c < 2 ^ 31 by omega) (show c < 2 ^ 31 by omega)]; exact decide_eq_true rfl
        exact absurd (hope_in (C := C) hL (his_hope hF hC hc (n + 1) 0 t ht hx.2.2) C 0 (by omega) (by omega)) hn
theorem few_one {c : Nat} {s : PSt} (hF : F ≤ 30) (hC : C ≤ 6) (hc : c < C) (hh : s.2.2 = -1) (hs : SB s.1) : ∀ (m n : Nat), fsome (fun i => dfs F C N S w a r false (nI c) i (nI 0) s) m n = (f1R F C N S w a r s c m n).map (fun v => dgR C c v.1 v.2) ∧ ∀ v, f1R F C N S w a r s c m n = some v → v.1 < n + m ∧ v.2 < C ^ v.1
  | 0, n => ⟨rfl, fun v h => by cases h⟩
  | m + 1, n => by
    have h1 := few_one hF hC hc hh hs m (n + 1)
    rw [fsome, f1R, dfs_one hF hC hc n (nI 0) s hh hs]
    cases hfr : frwR F C N S w a r s n c (C ^ n) 0 with
    | none => exact ⟨h1.1, fun v h => by have := h1.2 v h; exact ⟨by omega, this.2⟩⟩
    | some x =>
      refine ⟨rfl, fun v h => ?_⟩
      cases h
      have hx := frw_lt _ _ _ hfr
      exact ⟨by show n < n + (m + 1); omega, by show x < C ^ n; omega⟩
theorem one_eq {c : Nat} {s : PSt} {x : Int32} (hF : F ≤ 30) (hC : C ≤ 6) (hc : c < C) (hh : s.2.2 = -1) (hs : SB s.1) (hx : x = -1 ∨ ∃ j, j < 2 ^ 31 ∧ x = nI j) : ansOne (fewG F C N S w a r false (nI c) s 6) x = f1A C c (f1R F C N S w a r s c 6 0) x := by
  obtain ⟨h1, h2⟩ := few_one (N := N) (S := S) (w := w) (a := a) (r := r) hF hC hc hh hs 6 0
  unfold fewG
  rw [if_pos hh, h1]
  cases hv : f1R F C N S w a r s c 6 0 with
  | none =>
    rw [f1A_none]
    unfold ansOne
    rcases hx with rfl | ⟨j, hj, rfl⟩
    · rfl
    · rw [if_neg (nI_m1 hj)]
      refine if_neg (fun q => ?_)
      obtain ⟨i, hi, -⟩ := inR_t (n := 0) (by decide) q
      exact absurd hi (Nat.not_lt_zero i)
  | some v =>
    obtain ⟨n, row⟩ := v
    obtain ⟨hn, hr⟩ := h2 _ hv
    dsimp only at hn hr
    obtain ⟨g1, g2⟩ := dg_get (c := c) (show 0 < C by omega) n row hr
    have hl := dg_len C c n row
    rw [f1A_some]
    unfold ansOne
    rcases hx with rfl | ⟨j, hj, rfl⟩
    · rw [if_pos rfl, if_pos rfl]
      show nI (dgR C c n row).length = _
      rw [hl]
    · rw [if_neg (nI_m1 hj), if_neg (nI_m1 hj), nI_clamp hj]
      show (if inR (nI j) (dgR C c n row).length = true then nI ((dgR C c n row).getD j 0) else -1) = _
      rw [hl]
      by_cases q1 : j < n
      · rw [if_pos (inR_N (by omega) (by omega)), if_pos ((nI_ltI hj (by omega)).mpr q1), g1 j q1]
      · rw [if_neg (fun z => q1 ((nI_ltI hj (by omega)).mp z))]
        by_cases q2 : j = n
        · subst q2
          rw [if_pos (inR_N (by omega) (by omega)), if_pos rfl, g2]
        · rw [if_neg (fun z => q2 (nI_inj hj (by omega) z))]
          refine if_neg (fun z => ?_)
          obtain ⟨i, hi, e⟩ := inR_t (by omega) z
          have := nI_inj hj (by omega) e
          omega
end PONE
