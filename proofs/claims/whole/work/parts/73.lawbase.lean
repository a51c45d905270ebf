/-! THE LAW: reading its script, and what holds between the class and the reference -/
section LAWR
variable {sk : Nat → Nat} {own : String} {y : MethodName} {cc : ByteArray} {nL : Nat} {rt : Option FieldType} {d mc ms : Nat} {Ψ : PS} {k n pc q : Nat} {l : LV} {st : List Value} {ws : AW}
theorem g_sld {j : Nat} {x : Int32} (hd : decode cc pc = .ok (.iaload, 1)) (hq : pc + 1 = q) (hj : j < sk 11) (hL : sk 11 ≤ 256) (hx : nI (sk (12 + j)) = x) (kk : GG sk own y cc nL rt d mc ms Ψ k n q l (.int x :: st) ws) : GG sk own y cc nL rt d mc ms Ψ k n pc l (.int (nI j) :: .ref (sk 10) :: st) ws := by
  subst hq
  intro p la e s m args below meth c G ca A H locs ls C hl hP hD hS
  obtain ⟨cell, h1, h2, h3, h4, h5, h6, h7⟩ := va_T.kept C.2.2.2.2.2.2.2.2.2.2.1.2.2.2 hS.2.1
  have hcl : (nI j).toNatClampNeg = j := nI_clamp (by omega)
  refine W.iald C.1 C.2.1 h1 h2 h3 ?_ (v := .int x) (by rw [hcl, ← hx]; exact h6 j hj) rfl rfl hd (kk p la e s m args below meth c G ca A H locs ls C hl hP hD hS)
  rw [hcl]
  rintro (z | z)
  · exact nI_pos (by omega) z
  · omega
theorem g_slen (hd : decode cc pc = .ok (.arraylength, 1)) (hq : pc + 1 = q) (kk : GG sk own y cc nL rt d mc ms Ψ k n q l (.int (nI (sk 11)) :: st) ws) : GG sk own y cc nL rt d mc ms Ψ k n pc l (.ref (sk 10) :: st) ws := by
  subst hq
  intro p la e s m args below meth c G ca A H locs ls C hl hP hD hS
  obtain ⟨cell, h1, h2, h3, h4, h5, h6, h7⟩ := va_T.kept C.2.2.2.2.2.2.2.2.2.2.1.2.2.2 hS.2.1
  exact W.alen C.1 C.2.1 h1 h2 h5 rfl rfl hd (kk p la e s m args below meth c G ca A H locs ls C hl hP hD hS)
theorem g_lshl {a : Int64} {b : Int32} (hd : decode cc pc = .ok (.lshl, 1)) (hq : pc + 1 = q) {v : Int64} (hv : a <<< (b.toInt64 &&& 63) = v) (kk : GG sk own y cc nL rt d mc ms Ψ k n q l (.long v :: st) ws) : GG sk own y cc nL rt d mc ms Ψ k n pc l (.int b :: .long a :: st) ws := by
  subst hq
  intro p la e s m args below meth c G ca A H locs ls C hl hP hD hS
  exact lv_lshl C.1 C.2.1 hd hv (kk p la e s m args below meth c G ca A H locs ls C hl hP hD hS)
theorem g_lor {a b : Int64} (hd : decode cc pc = .ok (.lor, 1)) (hq : pc + 1 = q) {v : Int64} (hv : a ||| b = v) (kk : GG sk own y cc nL rt d mc ms Ψ k n q l (.long v :: st) ws) : GG sk own y cc nL rt d mc ms Ψ k n pc l (.long b :: .long a :: st) ws := by
  subst hq; subst hv
  intro p la e s m args below meth c G ca A H locs ls C hl hP hD hS
  exact lv_lor C.1 C.2.1 hd (kk p la e s m args below meth c G ca A H locs ls C hl hP hD hS)
end LAWR
/-- what is told by the text so far: the class's bytes, the reference's ints -/
def IText (len : Nat) (tx : Nat → Nat) (fb fx : Nat → Int32) : Prop := len ≤ 400 ∧ (∀ j, j < len → fb j = (nI (tx j)).toInt8.toInt32 ∧ tx j < 256) ∧ ∀ j, j < len → fx j = nI (tx j) ∧ tx j < 256
def IPlan (T w a r : Nat → Nat) (gs : Nat → Int32) : Prop := QB (T, (fun _ => false), 0, false, false) ∧ TWR T w a r ∧ (1 ≤ T 0 → ∀ j, j < 30 → gs j = nI (T (24 + j))) ∧ SlB gs
/-- a state of the class and the reference's -/
def ISt (F : Nat) (s t : PSt) : Prop := SB s.1 ∧ NS s ∧ SB t.1 ∧ NS t ∧ s.2 = t.2 ∧ (1 ≤ F → s = t)
def IImg (F i : Nat) (s : PSt) (d : Int32) (fk fkm fi fz : Nat → Int32) : Prop := SB s.1 ∧ NS s ∧ ∃ k : Bool, fk i = zb k ∧ fkm i = zb k ∧ (k = true → ∃ t : PSt, ISt F s t ∧ (∀ q, q < 32 → fi (32 * i + q) = fS t q) ∧ fz i = d)
def IList (C n : Nat) (who frs : Nat → Nat) (fc ff fwm ffm : Nat → Int32) : Prop := n ≤ 12 ∧ ∀ i, i < n → (fc i = nI (who i) ∧ fwm i = nI (who i) ∧ who i < C) ∧ ff i = nI (frs i) ∧ ffm i = nI (frs i) ∧ frs i ≤ 30
def ICache (T w a r : Nat → Nat) (st : Bool) (t : PSt) (ag : Int32) (af : Bool) (f9 fg ffn : Nat → Int32) (qf : Nat → Nat → Int32) (rx : Int32) (fo : Bool) (ftn : Nat → Int32) : Prop :=
  SB t.1 ∧ NS t ∧ (st = true → af = true → ag = lenI (fewG (T 0) (T 1) (T 4) (T 5) w a r true (-1) t (T 1)) ∧ RowP (allL (T 1) (fewG (T 0) (T 1) (T 4) (T 5) w a r true (-1) t (T 1))) f9) ∧
  (∀ c, c < 6 → ∃ b : Bool, ffn c = zb b ∧ (st = true → b = true → fg c = lenI (fewG (T 0) (T 1) (T 4) (T 5) w a r false (nI c) t 6) ∧ ∀ j, j < ((fewG (T 0) (T 1) (T 4) (T 5) w a r false (nI c) t 6).getD []).length → qf c j = nI (((fewG (T 0) (T 1) (T 4) (T 5) w a r false (nI c) t 6).getD []).getD j 0))) ∧
  (st = true → fo = true → ftn = (restsR (T 0) (T 1) (T 4) (T 5) w a r (nI (T 2)) (nI (T 3)) t).1 ∧ rx = (restsR (T 0) (T 1) (T 4) (T 5) w a r (nI (T 2)) (nI (T 3)) t).2)
def IFix (A : Nat → Nat) (fim stp far : Nat → Option Nat) : Prop := (fim 0 = some (A 18) ∧ fim 1 = some (A 20)) ∧ (stp 0 = some (A 30) ∧ stp 1 = some (A 32) ∧ stp 2 = some (A 34) ∧ stp 3 = some (A 36) ∧ stp 4 = some (A 38) ∧ stp 5 = some (A 40)) ∧ far 0 = some (A 45) ∧ far 1 = some (A 46) ∧ far 2 = some (A 47) ∧ far 3 = some (A 48) ∧ far 4 = some (A 49) ∧ far 5 = some (A 50)
theorem IPlan.PB {T w a r : Nat → Nat} {gs : Nat → Int32} (h : IPlan T w a r gs) : PB (T 0) (T 1) (T 4) (T 5) w a r := by
  obtain ⟨⟨h1, h2, h3, h4, h5, h6, h7, -⟩, hW, -⟩ := h
  refine ⟨h1, h2, h3, h4, h5, h6, fun c hc => ?_⟩
  have h8 := h7 c hc
  obtain ⟨e1, e2, e3⟩ := hW c hc
  dsimp only at h8
  rw [← e1, ← e2, ← e3]
  exact h8
theorem QB_T {u : QS} {T : Nat → Nat} (h : QB u) (hT : ∀ j, j < 54 → T j = u.1 j) : QB (T, (fun _ => false), 0, false, false) := by
  obtain ⟨h1, h2, h3, h4, h5, h6, h7, h8, h9⟩ := h
  have e0 := hT 0 (by decide); have e1 := hT 1 (by decide); have e4 := hT 4 (by decide); have e5 := hT 5 (by decide)
  refine ⟨by show T 0 ≤ 30; omega, by show T 1 ≤ 6; omega, by show 1 ≤ T 1 → 1 ≤ T 0; omega, by show T 4 ≤ 20; omega, by show 1 ≤ T 4; omega, by show T 5 ≤ 9; omega, fun c hc => ?_, fun j hj => ?_, Nat.zero_le _⟩
  · have hc : c < T 1 := hc
    show T (6 + c) ≤ 99 ∧ T (12 + c) ≤ 999 ∧ T (18 + c) ≤ 20
    rw [hT (6 + c) (by omega), hT (12 + c) (by omega), hT (18 + c) (by omega)]
    exact h7 c (by omega)
  · show T (24 + j) ≤ 99
    rw [hT (24 + j) (by omega)]
    exact h8 j hj
/-- the told slips, nothing above the thirtieth foot -/
def cutG (gs : Nat → Int32) : Nat → Nat := fun j => if j < 30 then (gs j).toBitVec.toNat else 0
def cutT (T : Nat → Nat) : Nat → Nat := fun j => if j < 30 then T (24 + j) else 0
theorem cutG_fI (gs : Nat → Int32) : ∀ j, j < 30 → gs j = fI (cutG gs) j := fun j hj => by
  show gs j = nI (cutG gs j)
  unfold cutG
  rw [if_pos hj]
  exact (congrFun (fI_of gs) j).symm
theorem cutT_fS (T : Nat → Nat) (y : Int32 × Int32) : ∀ j, j < 32 → fS (fun j => T (24 + j), y) j = fS (cutT T, y) j := fun j _ => by
  unfold fS cutT
  dsimp only
  by_cases h : j < 30
  · rw [if_pos h, if_pos h, if_pos h]
  · rw [if_neg h, if_neg h]
theorem IPlan.told {T w a r : Nat → Nat} {gs : Nat → Int32} (h : IPlan T w a r gs) : ISt (T 0) (cutG gs, nI 0, -1) (cutT T, nI 0, -1) := by
  obtain ⟨hQ, hW, hg, hb⟩ := h
  have h8 := hQ.2.2.2.2.2.2.2.1
  have e1 : SB (cutG gs) := fun j hj => by
    obtain ⟨v, hv, e⟩ := hb j hj
    unfold cutG
    rw [if_pos hj, e, pk_tn (by omega)]
    exact hv
  have e2 : SB (cutT T) := fun j hj => by
    unfold cutT
    rw [if_pos hj]
    exact h8 j hj
  refine ⟨e1, fun j hj => if_neg (by omega), e2, fun j hj => if_neg (by omega), rfl, fun hF => ?_⟩
  have : cutG gs = cutT T := by
    funext j
    unfold cutG cutT
    by_cases hj : j < 30
    · have h9 : T (24 + j) ≤ 99 := h8 j hj
      rw [if_pos hj, if_pos hj, hg hF j hj, pk_tn (by omega)]
    · rw [if_neg hj, if_neg hj]
  rw [this]
theorem go1_NS {F N S : Nat} {w a r : Nat → Nat} {sand : Bool} {s : PSt} {c : Nat} (hF : F ≤ 30) (h : NS s) : NS (go1 F N S w a r sand s c) := fun j hj => by
  show goS F N S (far1 F w a sand s c) (r c) s.1 (s.2.1 + nI 1) j = 0
  have hl := far1_le F w a sand s c
  have h1 : goS1 (far1 F w a sand s c) (r c) s.1 j = 0 := by
    unfold goS1 smS rubS
    rw [if_neg (show ¬ j < far1 F w a sand s c by omega), if_neg (show ¬ j < far1 F w a sand s c by omega)]
    exact h j hj
  unfold goS
  cases sunB (s.2.1 + nI 1) N with
  | false => exact h1
  | true =>
    show adS 0 F S _ j = 0
    unfold adS
    rw [if_neg (by omega)]
    exact h1
theorem drift_SB {F C N S : Nat} {w a r : Nat → Nat} (hF : F ≤ 30) : ∀ (n : Nat) (s : PSt) (sd : Int32), SB s.1 → NS s → SB (driftR F C N S w a r n s sd).1.1 ∧ NS (driftR F C N S w a r n s sd).1
  | 0, _, _, h1, h2 => ⟨h1, h2⟩
  | n + 1, s, sd, h1, h2 => by
    rw [driftR]
    split
    · exact drift_SB hF n _ _ (go1_SB h1) (go1_NS hF h2)
    · exact ⟨h1, h2⟩
theorem ISt.same {F : Nat} {s : PSt} (h1 : SB s.1) (h2 : NS s) : ISt F s s := ⟨h1, h2, h1, h2, rfl, fun _ => rfl⟩
theorem inR_0 (x : Int32) : inR x 0 = false := by
  cases h : inR x 0 with
  | false => rfl
  | true => obtain ⟨j, hj, -⟩ := inR_t (by decide) h; exact absurd hj (Nat.not_lt_zero j)
theorem inR_c {x : Int32} {n : Nat} (hn : n < 2 ^ 31) (h : ¬ inR x n = false) : ∃ j, j < n ∧ x = nI j := inR_t hn (by cases q : inR x n with | true => rfl | false => exact absurd q h)
theorem far1_T {T w a r : Nat → Nat} {b : Bool} {s : PSt} {c : Nat} (hW : TWR T w a r) (hc : c < T 1) : far1 (T 0) (fun c => T (6 + c)) (fun c => T (12 + c)) b s c = far1 (T 0) w a b s c := by
  obtain ⟨e1, e2, e3⟩ := hW c hc
  unfold far1
  dsimp only
  rw [e1, e2]
theorem go1_T {T w a r : Nat → Nat} {b : Bool} {s : PSt} {c : Nat} (hW : TWR T w a r) (hc : c < T 1) : go1 (T 0) (T 4) (T 5) (fun c => T (6 + c)) (fun c => T (12 + c)) (fun c => T (18 + c)) b s c = go1 (T 0) (T 4) (T 5) w a r b s c := by
  obtain ⟨e1, e2, e3⟩ := hW c hc
  unfold go1
  rw [far1_T hW hc]
  dsimp only
  rw [e3]
theorem towA_T {T w a r : Nat → Nat} {s : PSt} {c e : Nat} (hW : TWR T w a r) (hc : c < T 1) (he : e < T 1) : towA (T 0) (fun c => T (6 + c)) (fun c => T (12 + c)) s c e = towA (T 0) w a s c e := by
  obtain ⟨e1, e2, e3⟩ := hW c hc
  obtain ⟨f1, f2, f3⟩ := hW e he
  simp only [towA, e2, f1, f2]
theorem told_x (x : Int32) : (x.toInt < 0 ∨ 10 < x.toInt) ∨ x = nI 0 ∨ x = nI 1 ∨ x = nI 2 ∨ x = nI 3 ∨ x = nI 4 ∨ x = nI 5 ∨ x = nI 6 ∨ x = nI 7 ∨ x = nI 8 ∨ x = nI 9 ∨ x = nI 10 := by
  by_cases h : x.toInt < 0 ∨ 10 < x.toInt
  · exact Or.inl h
  · right
    obtain ⟨j, hj, rfl⟩ := nI_of (x := x) (by rw [Int32.lt_iff_toInt_lt, show (0 : Int32).toInt = 0 from rfl]; omega)
    rw [nI_toInt hj] at h
    rcases (show j = 0 ∨ j = 1 ∨ j = 2 ∨ j = 3 ∨ j = 4 ∨ j = 5 ∨ j = 6 ∨ j = 7 ∨ j = 8 ∨ j = 9 ∨ j = 10 by omega) with rfl | rfl | rfl | rfl | rfl | rfl | rfl | rfl | rfl | rfl | rfl
    all_goals simp
theorem clim_x (x : Int32) : (x.toInt < 0 ∨ 3 < x.toInt) ∨ x = nI 0 ∨ x = nI 1 ∨ x = nI 2 ∨ x = nI 3 := by
  by_cases h : x.toInt < 0 ∨ 3 < x.toInt
  · exact Or.inl h
  · right
    obtain ⟨j, hj, rfl⟩ := nI_of (x := x) (by rw [Int32.lt_iff_toInt_lt, show (0 : Int32).toInt = 0 from rfl]; omega)
    rw [nI_toInt hj] at h
    rcases (show j = 0 ∨ j = 1 ∨ j = 2 ∨ j = 3 by omega) with rfl | rfl | rfl | rfl
    all_goals simp
theorem list_x {C : Nat} {x z : Int32} (hC : C ≤ 6) (h : listC C x z = 0) : ∃ c v, c < C ∧ x = nI c ∧ v ≤ 30 ∧ z = nI v := by
  by_cases hx : inR x C = false
  · rw [listC, if_pos hx] at h; exact absurd h (by decide)
  · rw [listC, if_neg hx] at h
    by_cases hz : z < 0 ∨ nI 30 < z
    · rw [if_pos hz] at h; exact absurd h (by decide)
    · obtain ⟨c, hc, e⟩ := inR_c (by omega) hx
      obtain ⟨v, hv, -, h2⟩ := nI_rng (a := 0) (by decide) (by decide) (show ¬ (z < nI 0 ∨ nI 30 < z) from hz)
      exact ⟨c, v, hc, e, h2, hv⟩
theorem soap_x {F : Nat} {x y z : Int32} (hF : F ≤ 30) (h : soapC F x y z = 0) : ∃ i j v, i ≤ j ∧ j < F ∧ (1 ≤ v ∧ v ≤ 99) ∧ x = nI i ∧ y = nI j ∧ z = nI v := by
  by_cases hx : inR x F = false ∨ inR y F = false
  · rw [soapC, if_pos hx] at h; exact absurd h (by decide)
  · rw [soapC, if_neg hx] at h
    by_cases hz : y < x ∨ z < nI 1 ∨ nI 99 < z
    · rw [if_pos hz] at h; exact absurd h (by decide)
    · obtain ⟨i, hi, rfl⟩ := inR_c (x := x) (by omega) (fun q => hx (Or.inl q))
      obtain ⟨j, hj, rfl⟩ := inR_c (x := y) (by omega) (fun q => hx (Or.inr q))
      obtain ⟨v, hv, h1, h2⟩ := nI_rng (a := 1) (b := 99) (by decide) (by decide) (fun q => hz (Or.inr q))
      refine ⟨i, j, v, ?_, hj, ⟨h1, h2⟩, rfl, rfl, hv⟩
      exact Nat.not_lt.mp (fun q => hz (Or.inl ((nI_ltI (by omega) (by omega)).mpr q)))
theorem drift_x {C : Nat} {x : Int32} (h : drfC C x = 0) : ∃ j, (1 ≤ j ∧ j ≤ 99) ∧ x = nI j ∧ 1 ≤ C := by
  by_cases hx : x < nI 1 ∨ nI 99 < x
  · rw [drfC, if_pos hx] at h; exact absurd h (by decide)
  · rw [drfC, if_neg hx] at h
    by_cases hC : C = 0
    · rw [if_pos hC] at h; exact absurd h (by decide)
    · obtain ⟨v, hv, h1, h2⟩ := nI_rng (a := 1) (b := 99) (by decide) (by decide) hx
      exact ⟨v, ⟨h1, h2⟩, hv, by omega⟩
theorem IList.up {C n c v : Nat} {who frs : Nat → Nat} {fc ff fwm ffm : Nat → Int32} (h : IList C n who frs fc ff fwm ffm) (hn : n < 12) (hc : c < C) (hv : v ≤ 30) : IList C (n + 1) (nup who n c) (nup frs n v) (upd fc n (nI c)) (upd ff n (nI v)) (upd fwm n (nI c)) (upd ffm n (nI v)) := by
  refine ⟨by omega, fun i hi => ?_⟩
  by_cases e : i = n
  · subst e
    rw [pk_us, pk_us, pk_us, pk_us, nup_s, nup_s]
    exact ⟨⟨rfl, rfl, hc⟩, rfl, rfl, hv⟩
  · rw [pk_un e, pk_un e, pk_un e, pk_un e, nup_n _ e, nup_n _ e]
    exact h.2 i (by omega)
theorem IImg.set {F i : Nat} {s t : PSt} {d : Int32} {fk fkm fi fz : Nat → Int32} (h : ISt F s t) : IImg F i s d (upd fk i (zb true)) (upd fkm i (zb true)) (cpI i 32 (fS t) fi) (upd fz i d) := by
  refine ⟨h.1, h.2.1, true, pk_us, pk_us, fun _ => ⟨t, h, fun q hq => ?_, pk_us⟩⟩
  unfold cpI
  rw [if_pos (by omega), show 32 * i + q - 32 * i = q by omega]
theorem IImg.other {F i j : Nat} {s : PSt} {d d2 : Int32} {f fk fkm fi fz : Nat → Int32} (hij : i ≠ j) (h : IImg F i s d fk fkm fi fz) : IImg F i s d (upd fk j (zb true)) (upd fkm j (zb true)) (cpI j 32 f fi) (upd fz j d2) := by
  obtain ⟨h1, h2, k, h3, h4, h5⟩ := h
  refine ⟨h1, h2, k, by rw [pk_un hij]; exact h3, by rw [pk_un hij]; exact h4, fun hk => ?_⟩
  obtain ⟨t, h6, h7, h8⟩ := h5 hk
  refine ⟨t, h6, fun q hq => ?_, by rw [pk_un hij]; exact h8⟩
  unfold cpI
  rw [if_neg (by omega)]
  exact h7 q hq
theorem IList.z {C n : Nat} {who frs : Nat → Nat} {fc ff fwm ffm : Nat → Int32} (h : IList C n who frs fc ff fwm ffm) (hC : C = 0) : n = 0 := by
  cases n with
  | zero => rfl
  | succ n => have := (h.2 0 (by omega)).1.2.2; omega
theorem few_0 {F N S : Nat} {w a r : Nat → Nat} {s : PSt} : fewG F 0 N S w a r true (-1) s 0 = none := by
  unfold fewG
  split <;> rfl
theorem few_h {F C N S : Nat} {w a r : Nat → Nat} {once : Bool} {last : Int32} {s : PSt} {k : Nat} (h : ¬ s.2.2 = -1) : fewG F C N S w a r once last s k = none := by
  unfold fewG
  rw [if_neg h]
theorem ansAll_none {C : Nat} {f : Nat → Int32} {x : Int32} : ansAll (lenI none) C f x = -1 := if_pos (Or.inr rfl)
theorem ansAll_x {v : Option (List Nat)} {C : Nat} {f : Nat → Int32} {x : Int32} (hC : C ≤ 6) (h : x < -2 ∨ nI C ≤ x) : ansAll (lenI v) C f x = -1 := by
  unfold ansAll
  have h1 : ¬ x = -1 := fun q => by subst q; rcases h with h | h; exact absurd h (by decide); rw [Int32.le_iff_toInt_le, nI_toInt (by omega), show (-1 : Int32).toInt = -1 from rfl] at h; omega
  have h2 : ¬ x = -2 := fun q => by subst q; rcases h with h | h; exact absurd h (by decide); rw [Int32.le_iff_toInt_le, nI_toInt (by omega), show (-2 : Int32).toInt = -2 from rfl] at h; omega
  have h3 : ¬ inR x C = true := fun q => by
    obtain ⟨j, hj, rfl⟩ := inR_t (by omega) q
    rcases h with h | h
    · rw [Int32.lt_iff_toInt_lt, nI_toInt (by omega), show (-2 : Int32).toInt = -2 from rfl] at h; omega
    · exact absurd ((nI_leI (by omega) (by omega)).mp h) (by omega)
  by_cases hl : lenI v = -1
  · rw [if_pos (Or.inr hl)]; exact hl
  · rw [if_neg (fun q => q.elim h1 hl), if_neg h2, if_neg h3]
theorem ord_cases (x : Int32) {C : Nat} (hC : C ≤ 6) : (x < -2 ∨ nI C ≤ x) ∨ (x = -1 ∨ x = -2 ∨ ∃ j, j < C ∧ x = nI j) := by
  rcases pk_ix x (n := C) (by omega) with h | h | ⟨j, hj, rfl⟩
  · rw [Int32.lt_iff_toInt_lt, show (0 : Int32).toInt = 0 from rfl] at h
    by_cases h1 : x.toInt < -2
    · exact Or.inl (Or.inl (by rw [Int32.lt_iff_toInt_lt, show (-2 : Int32).toInt = -2 from rfl]; exact h1))
    · right
      by_cases h2 : x.toInt = -1
      · exact Or.inl (Int32.toInt_inj.mp h2)
      · exact Or.inr (Or.inl (Int32.toInt_inj.mp (show x.toInt = -2 by omega)))
  · exact Or.inl (Or.inr h)
  · exact Or.inr (Or.inr (Or.inr ⟨j, hj, rfl⟩))
theorem one_cases (x : Int32) : x < -1 ∨ (x = -1 ∨ ∃ j, j < 2 ^ 31 ∧ x = nI j) := by
  by_cases h : x < 0
  · rw [Int32.lt_iff_toInt_lt, show (0 : Int32).toInt = 0 from rfl] at h
    by_cases h1 : x.toInt < -1
    · exact Or.inl (by rw [Int32.lt_iff_toInt_lt, show (-1 : Int32).toInt = -1 from rfl]; exact h1)
    · exact Or.inr (Or.inl (Int32.toInt_inj.mp (show x.toInt = -1 by omega)))
  · exact Or.inr (Or.inr (nI_of h))
theorem ansOne_none {x : Int32} : ansOne none x = -1 := by
  unfold ansOne
  split
  · rfl
  · rw [if_neg (fun q => by rw [show (Option.getD (none : Option (List Nat)) []).length = 0 from rfl, inR_0] at q; cases q)]
theorem ansOne_x {v : Option (List Nat)} {x : Int32} (h : x < -1) : ansOne v x = -1 := by
  unfold ansOne
  rw [if_neg (fun q => by rw [q] at h; exact absurd h (by decide))]
  refine if_neg (fun q => ?_)
  unfold inR at q
  rw [Bool.and_eq_true] at q
  refine of_decide_eq_true q.1 ?_
  rw [Int32.lt_iff_toInt_lt, show (-1 : Int32).toInt = -1 from rfl] at h
  rw [Int32.lt_iff_toInt_lt, show (0 : Int32).toInt = 0 from rfl]
  omega
theorem rests_0 {F N S : Nat} {w a r : Nat → Nat} {V E : Int32} {s t : PSt} (h : s.2 = t.2) : restsR F 0 N S w a r V E s = restsR F 0 N S w a r V E t := by
  unfold restsR
  rw [h]
  split <;> rfl
theorem slip_0 {F : Nat} {s : PSt} {x : Int32} (h : F = 0) : slipA F s x = -1000000001 := by
  subst h
  unfold slipA
  rw [if_neg (by rw [inR_0]; decide)]
theorem eno_0 {F N S : Nat} {w a r who : Nat → Nat} {n : Nat} {s t : PSt} {x : Int32} (h : n = 0) : enoA F N S w a r who n s x = enoA F N S w a r who n t x := by
  subst h
  unfold enoA
  split
  · rw [if_neg (fun q => absurd q.1 (Nat.not_lt_zero _)), if_neg (fun q => absurd q.1 (Nat.not_lt_zero _))]
  · rfl
