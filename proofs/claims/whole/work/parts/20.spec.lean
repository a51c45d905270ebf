/-! the picture of goes: a state is (slips, goes, who has the ham) -/
abbrev PSt : Type := (Nat → Nat) × Int32 × Int32
def SB (sl : Nat → Nat) : Prop := ∀ j, j < 30 → sl j ≤ 99
/-- the bounds of a pole as told: feet, climbers, the sun, weights, arms, rubs -/
def PB (F C N S : Nat) (w a r : Nat → Nat) : Prop := F ≤ 30 ∧ C ≤ 6 ∧ (1 ≤ C → 1 ≤ F) ∧ N ≤ 20 ∧ 1 ≤ N ∧ S ≤ 9 ∧ ∀ c, c < C → w c ≤ 99 ∧ a c ≤ 999 ∧ r c ≤ 20
def far1 (F : Nat) (w a : Nat → Nat) (sand : Bool) (s : PSt) (c : Nat) : Nat := goF F (w c) (a c) sand s.1
def go1 (F N S : Nat) (w a r : Nat → Nat) (sand : Bool) (s : PSt) (c : Nat) : PSt := (goS F N S (far1 F w a sand s c) (r c) s.1 (s.2.1 + nI 1), s.2.1 + nI 1, goH F (far1 F w a sand s c) s.2.2 c)
theorem go1_SB {F N S : Nat} {w a r : Nat → Nat} {sand : Bool} {s : PSt} {c : Nat} (h : SB s.1) : SB (go1 F N S w a r sand s c).1 := goS_le _ _ _ _ _ _ _ h
theorem far1_le (F : Nat) (w a : Nat → Nat) (sand : Bool) (s : PSt) (c : Nat) : far1 F w a sand s c ≤ F := goF_le _ _ _ _ _
abbrev oPoleS (h q : Nat) (s : PSt) (d : Int32) : Nat × AE := oPole h q s.2.1 s.2.2 d
/-- a go, in the picture -/
theorem c_climb (sk : Nat → Nat) {hp hs pl ps pw pa pr F C N S c : Nat} {sd V E : Int32} {s : PSt} {w a r : Nat → Nat} {sand : Bool} (hB : PB F C N S w a r) (hc : c < C) (hs0 : SB s.1) :
    Ct sk yX1_climb cX1_climb 6 (some .int) 2 0 0 [oPoleS hp hs s sd, cI hs 30 (fI s.1), oPlan pl ps pw pa pr (nI F) (nI C) V E (nI N) (nI S), cI pw 6 (fI w), cI pa 6 (fI a), cI pr 6 (fI r)] [.ref hp, .ref pl, .int (nI c), .int (zb sand)] (zD (some (.int (nI (far1 F w a sand s c)))) [oPoleS hp hs (go1 F N S w a r sand s c) sd, cI hs 30 (fI (go1 F N S w a r sand s c).1), oPlan pl ps pw pa pr (nI F) (nI C) V E (nI N) (nI S), cI pw 6 (fI w), cI pa 6 (fI a), cI pr 6 (fI r)]) :=
  c_X1_climb sk hB.1 (hB.2.2.1 (by omega)) hB.2.2.2.1 hB.2.2.2.2.1 hB.2.2.2.2.2.1 (by have := hB.2.1; omega) hs0 (hB.2.2.2.2.2.2 c hc).1 (hB.2.2.2.2.2.2 c hc).2.1 (hB.2.2.2.2.2.2 c hc).2.2
/-- THE LIST: the first go that is otherwise -/
def wrongR (F N S : Nat) (w a r who fr : Nat → Nat) (x : Int32) : Nat → Nat → PSt → Int32
  | 0, _, _ => -1
  | n + 1, i, t => if far1 F w a (decide (nI (who i) = x)) t (who i) = fr i then wrongR F N S w a r who fr x n (i + 1) (go1 F N S w a r (decide (nI (who i) = x)) t (who i)) else nI i
/-- the go of THE LIST by which the ham is had -/
def hasR (F N S : Nat) (w a r who : Nat → Nat) : Nat → Nat → PSt → Int32
  | 0, _, _ => -1
  | n + 1, i, t => if (go1 F N S w a r false t (who i)).2.2 = -1 then hasR F N S w a r who n (i + 1) (go1 F N S w a r false t (who i)) else nI i
def coat (v : Nat) (s : PSt) : PSt := (coS v s.1 30, s.2)
theorem coat_SB {v : Nat} {s : PSt} (hv : v ≤ 99) : SB (coat v s).1 := fun j hj => by
  show coS v s.1 30 j ≤ 99
  unfold coS
  rw [if_pos hj]
  exact hv
/-- the least slip by which it is go k -/
def leastR (F N S : Nat) (w a r who : Nat → Nat) (k : Nat) (s : PSt) : Nat → Nat → Int32
  | 0, _ => -1
  | n + 1, v => if hasR F N S w a r who (k + 1) 0 (coat v s) = nI k then nI v else leastR F N S w a r who k s n (v + 1)
