/-! THE TEXT: one reading, for the class and the reference -/
def isB (b : Nat) : Bool := decide (b = 32)
def isL (b : Nat) : Bool := decide (97 ≤ b) && decide (b ≤ 122)
def isD (b : Nat) : Bool := decide (48 ≤ b) && decide (b ≤ 57)
/-- the first place from i on, n left, that isn't so -/
def run (p : Nat → Bool) (tx : Nat → Nat) : Nat → Nat → Nat
  | 0, i => i
  | n + 1, i => match p (tx i) with
    | true => run p tx n (i + 1)
    | false => i
def runTo (p : Nat → Bool) (tx : Nat → Nat) (len i : Nat) : Nat := run p tx (len - i) i
theorem run_le (p : Nat → Bool) (tx : Nat → Nat) : ∀ (n i : Nat), i ≤ run p tx n i ∧ run p tx n i ≤ i + n
  | 0, i => ⟨Nat.le_refl _, Nat.le_refl _⟩
  | n + 1, i => by
    rw [run]
    cases p (tx i) with
    | true => have := run_le p tx n (i + 1); show i ≤ run p tx n (i + 1) ∧ run p tx n (i + 1) ≤ _; omega
    | false => exact ⟨Nat.le_refl _, Nat.le_add_right _ _⟩
theorem runTo_le (p : Nat → Bool) (tx : Nat → Nat) {len i : Nat} (h : i ≤ len) : i ≤ runTo p tx len i ∧ runTo p tx len i ≤ len := by
  have := run_le p tx (len - i) i
  unfold runTo
  omega
theorem runTo_end (p : Nat → Bool) (tx : Nat → Nat) {len i : Nat} (h : len ≤ i) : runTo p tx len i = i := by
  unfold runTo
  rw [show len - i = 0 by omega]
  rfl
theorem runTo_t {p : Nat → Bool} {tx : Nat → Nat} {len i : Nat} (h : i < len) (hp : p (tx i) = true) : runTo p tx len i = runTo p tx len (i + 1) := by
  unfold runTo
  rw [show len - i = (len - (i + 1)) + 1 by omega, run, hp]
theorem runTo_f {p : Nat → Bool} {tx : Nat → Nat} {len i : Nat} (h : i < len) (hp : p (tx i) = false) : runTo p tx len i = i := by
  unfold runTo
  rw [show len - i = (len - (i + 1)) + 1 by omega, run, hp]
/-- the byte at a place, -1 behind the end -/
def bN (tx : Nat → Nat) (len i : Nat) : Int32 := if i < len then nI (tx i) else -1
/-- the text from fr on is the i-th word, n signs from j on -/
def wmR (i : Nat) (tx : Nat → Nat) (fr : Nat) : Nat → Nat → Bool
  | 0, _ => true
  | n + 1, j => decide (nI (tx (fr + j)) = (zByt.getD i []).getD j 0) && wmR i tx fr n (j + 1)
def isW (i : Nat) (tx : Nat → Nat) (fr to : Nat) : Bool := decide (to - fr = zLen.getD i 0) && wmR i tx fr (zLen.getD i 0) 0
def kindN (tx : Nat → Nat) (fr to : Nat) : Nat := if isW 0 tx fr to = true then 1 else if isW 1 tx fr to = true then 2 else if isW 2 tx fr to = true then 3 else if isW 3 tx fr to = true then 4 else if isW 4 tx fr to = true then 5 else 0
theorem kindN_le (tx : Nat → Nat) (fr to : Nat) : kindN tx fr to ≤ 5 := by
  unfold kindN
  repeat (split; · omega)
  omega
/-- the number that n figures from p on make -/
def numV (tx : Nat → Nat) (p : Nat) : Nat → Nat
  | 0 => 0
  | n + 1 => numV tx p n * 10 + (tx (p + n) - 48)
def loN (k i : Nat) : Nat := match k with
  | 1 => if i = 0 then 1 else 0
  | 5 => if i = 0 then 1 else 0
  | 3 => if i < 2 then 1 else 0
  | _ => 0
def hiN (k i F : Nat) : Nat := match k with
  | 1 => if i = 0 then 30 else 99
  | 2 => if i = 0 then F - 1 else 99
  | 3 => if i = 0 then 99 else if i = 1 then 999 else 20
  | 4 => if i = 0 then 999 else 99
  | _ => if i = 0 then 20 else 9
/-- a number from pos on: a fault and its place, or the number and the place behind it -/
def numR (tx : Nat → Nat) (len k i F : Nat) (ft : Nat → Bool) (pos : Nat) : (Nat × Nat) ⊕ (Nat × Nat) :=
  if runTo isD tx len (runTo isB tx len pos) = runTo isB tx len pos then .inl (1, runTo isB tx len pos)
  else if 3 < runTo isD tx len (runTo isB tx len pos) - runTo isB tx len pos ∨ numV tx (runTo isB tx len pos) (runTo isD tx len (runTo isB tx len pos) - runTo isB tx len pos) < loN k i ∨ hiN k i F < numV tx (runTo isB tx len pos) (runTo isD tx len (runTo isB tx len pos) - runTo isB tx len pos) then .inl (2, runTo isB tx len pos)
  else if k = 2 ∧ i = 0 ∧ ft (numV tx (runTo isB tx len pos) (runTo isD tx len (runTo isB tx len pos) - runTo isB tx len pos)) = true then .inl (4, runTo isB tx len pos)
  else .inr (numV tx (runTo isB tx len pos) (runTo isD tx len (runTo isB tx len pos) - runTo isB tx len pos), runTo isD tx len (runTo isB tx len pos))
def endR (tx : Nat → Nat) (len pos : Nat) : (Nat × Nat) ⊕ Nat := if bN tx len (runTo isB tx len pos) = nI 59 then .inr (runTo isB tx len pos + 1) else .inl (1, runTo isB tx len pos)
/-- n numbers more, the i-th first; those read so far -/
def numsR (tx : Nat → Nat) (len k F : Nat) (ft : Nat → Bool) : Nat → Nat → Nat → (Nat → Nat) → (Nat × Nat) ⊕ ((Nat → Nat) × Nat)
  | 0, _, pos, x => match endR tx len pos with
    | .inl f => .inl f
    | .inr p => .inr (x, p)
  | n + 1, i, pos, x => match numR tx len k i F ft pos with
    | .inl f => .inl f
    | .inr (v, p) => numsR tx len k F ft n (i + 1) p (nup x i v)
/-- what is told so far: the numbers of the pole, which feet, how many foot clauses, ham, sun -/
abbrev QS : Type := (Nat → Nat) × (Nat → Bool) × Nat × Bool × Bool
def tooB (k : Nat) (q : QS) : Bool := match k with
  | 1 => decide (0 < q.1 0)
  | 2 => decide (20 ≤ q.2.2.1)
  | 3 => decide (6 ≤ q.1 1)
  | 4 => q.2.2.2.1
  | _ => q.2.2.2.2
def takeQ (k : Nat) (x : Nat → Nat) (q : QS) : QS := match k with
  | 1 => ((fun j => if j = 0 then x 0 else if 24 ≤ j then (if j - 24 < x 0 then x 1 else 0) else q.1 j), q.2)
  | 2 => (nup q.1 (24 + x 0) (x 1), (fun j => if j = x 0 then true else q.2.1 j), q.2.2.1 + 1, q.2.2.2)
  | 3 => (nup (nup (nup (nup q.1 (6 + q.1 1) (x 0)) (12 + q.1 1) (x 1)) (18 + q.1 1) (x 2)) 1 (q.1 1 + 1), q.2)
  | 4 => (nup (nup q.1 2 (x 0)) 3 (x 1), q.2.1, q.2.2.1, true, q.2.2.2.2)
  | _ => (nup (nup q.1 4 (x 0)) 5 (x 1), q.2.1, q.2.2.1, q.2.2.2.1, true)
/-- a clause from pos on -/
def clauseR (tx : Nat → Nat) (len : Nat) (q : QS) (pos : Nat) : (Nat × Nat) ⊕ (QS × Nat) :=
  if kindN tx pos (runTo isL tx len pos) = 0 ∨ (kindN tx pos (runTo isL tx len pos) ≠ 1 ∧ q.1 0 = 0) then .inl (1, pos)
  else if tooB (kindN tx pos (runTo isL tx len pos)) q = true then .inl (3, pos)
  else match numsR tx len (kindN tx pos (runTo isL tx len pos)) (q.1 0) q.2.1 (if kindN tx pos (runTo isL tx len pos) = 3 then 3 else 2) 0 (runTo isL tx len pos) (fun _ => 0) with
    | .inl f => .inl f
    | .inr (x, p) => .inr (takeQ (kindN tx pos (runTo isL tx len pos)) x q, p)
/-- clauses from pos on, n of them at the most -/
def parseR (tx : Nat → Nat) (len : Nat) : Nat → QS → Nat → (Nat × Nat) ⊕ QS
  | 0, q, _ => .inr q
  | n + 1, q, pos => if pos < len then (match clauseR tx len q pos with
      | .inl f => .inl f
      | .inr (q2, p) => parseR tx len n q2 (runTo isB tx len p)) else .inr q
def q0R : QS := ((fun j => if j = 2 then 100 else if j = 3 then 1 else if j = 4 then 1 else 0), (fun _ => false), 0, false, false)
def readR (tx : Nat → Nat) (len : Nat) : (Nat × Nat) ⊕ QS := parseR tx len len q0R (runTo isB tx len 0)
theorem sc_kb (n : Nat) (h : n < 256) : (nI n).toInt8.toInt32 &&& nI 255 = nI n := sc_k8 n h
