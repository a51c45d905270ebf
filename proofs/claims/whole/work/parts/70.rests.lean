/-! RESTS: the class's gains are the reference's worth -/
section PRESTS
variable {F C N S : Nat} {w a r : Nat → Nat} {V E : Int32}
theorem i0 (x : Int32) : x - nI 0 + nI 0 = x := by
  apply Int32.toBitVec_inj.mp
  show x.toBitVec - 0#32 + 0#32 = x.toBitVec
  simp
theorem i0E (x E : Int32) : nI 0 - E + x = x - E := by
  apply Int32.toBitVec_inj.mp
  show 0#32 - E.toBitVec + x.toBitVec = x.toBitVec - E.toBitVec
  rw [BitVec.zero_sub, BitVec.add_comm, BitVec.sub_eq_add_neg]
theorem woR_skip {tu : Nat → Int32} {c n k : Nat} {t : PSt} {x : Int32} (h : ¬ (k % 6 < C ∧ tu (k % 6) = nI (k / 6) ∧ t.2.2 = -1)) : woR F C N S w a r V E tu c (n + 1) k t x = woR F C N S w a r V E tu c n (k + 1) t x := by
  rw [woR, if_neg h]
theorem woR_dead {tu : Nat → Int32} {c : Nat} {t : PSt} (h : ¬ t.2.2 = -1) : ∀ (n k : Nat) (x : Int32), woR F C N S w a r V E tu c n k t x = x
  | 0, _, _ => rfl
  | n + 1, k, x => by rw [woR_skip (fun q => h q.2.2), woR_dead h n (k + 1) x]
theorem woR_gone {tu : Nat → Int32} {c : Nat} : ∀ (n k : Nat) (t : PSt) (x : Int32), (∀ j, k ≤ j → j < k + n → j % 6 = c → ¬ tu c = nI (j / 6)) → woR F C N S w a r V E tu c n k t x = x
  | 0, _, _, _, _ => rfl
  | n + 1, k, t, x, h => by
    rw [woR]
    split
    · rename_i q
      have hk : ¬ k % 6 = c := fun e => h k (Nat.le_refl _) (by omega) e (by rw [← e]; exact q.2.1)
      rw [if_neg hk, if_neg (fun z => hk z.1), i0]
      exact woR_gone n (k + 1) _ _ (fun j h1 h2 h3 => h j (by omega) (by omega) h3)
    · exact woR_gone n (k + 1) _ _ (fun j h1 h2 h3 => h j (by omega) (by omega) h3)
theorem woR_cols {tu : Nat → Int32} {c t : Nat} (ht : t ≤ 5) {u : PSt} {x : Int32} : ∀ (d k : Nat), C ≤ k → k + d = 6 → woR F C N S w a r V E tu c (36 - (6 * t + k)) (6 * t + k) u x = woR F C N S w a r V E tu c (36 - (6 * t + 6)) (6 * t + 6) u x
  | 0, k, _, h => by rw [show k = 6 by omega]
  | d + 1, k, hk, h => by
    rw [show 36 - (6 * t + k) = (36 - (6 * t + (k + 1))) + 1 by omega, woR_skip (by omega)]
    exact woR_cols ht d (k + 1) (by omega) (by omega)
/-- the class's turns and the reference's, c's own aside -/
def RT (C : Nat) (ft tu : Nat → Int32) (c t0 : Nat) : Prop := ∀ k, k < C → ∀ t, t ≤ 5 → (tu k = nI t ↔ hisI ft c t0 k = nI t)
theorem gk_woR {ft tu : Nat → Int32} {c t0 t : Nat} (hC : C ≤ 6) (ht : t ≤ 5) (h : RT C ft tu c t0) : ∀ (m k : Nat) (u : PSt), k + m = C → u.2.2 = -1 →
    match gainK F N S w a r V E ft c t0 t m k u with
    | .inl v => woR F C N S w a r V E tu c (36 - (6 * t + k)) (6 * t + k) u (nI 0) = v
    | .inr z => z.2.2 = -1 ∧ woR F C N S w a r V E tu c (36 - (6 * t + k)) (6 * t + k) u (nI 0) = woR F C N S w a r V E tu c (36 - (6 * t + 6)) (6 * t + 6) z (nI 0)
  | 0, k, u, hk, hu => by
    rw [gainK]
    exact ⟨hu, woR_cols ht (6 - k) k (by omega) (by omega)⟩
  | m + 1, k, u, hk, hu => by
    have e1 : (6 * t + k) % 6 = k := by omega
    have e2 : (6 * t + k) / 6 = t := by omega
    rw [gainK, show 36 - (6 * t + k) = (36 - (6 * t + (k + 1))) + 1 by omega]
    by_cases h1 : hisI ft c t0 k = nI t
    · have h2 : tu k = nI t := (h k (by omega) t ht).mpr h1
      have hstep : woR F C N S w a r V E tu c ((36 - (6 * t + (k + 1))) + 1) (6 * t + k) u (nI 0) = woR F C N S w a r V E tu c (36 - (6 * t + (k + 1))) (6 * t + k + 1) (go1 F N S w a r false u k) (nI 0 - (if k = c then E else nI 0) + (if k = c ∧ (go1 F N S w a r false u k).2.2 = nI c then V else nI 0)) := by
        rw [woR, e1, e2, if_pos (show k < C ∧ tu k = nI t ∧ u.2.2 = -1 from ⟨by omega, h2, hu⟩)]
      rw [if_pos h1, hstep]
      by_cases hkc : k = c
      · rw [if_pos hkc, if_pos hkc]
        dsimp only
        rw [woR_gone _ _ _ _ (fun j j1 j2 j3 j4 => by
          rw [← hkc, h2] at j4
          have := nI_inj (show t < 2 ^ 31 by omega) (show j / 6 < 2 ^ 31 by omega) j4
          omega), i0E]
        by_cases hg : (go1 F N S w a r false u k).2.2 = nI c
        · rw [if_pos ⟨hkc, hg⟩, if_pos hg]
        · rw [if_neg (fun q => hg q.2), if_neg hg]
      · rw [if_neg hkc, if_neg hkc, if_neg (show ¬ (k = c ∧ (go1 F N S w a r false u k).2.2 = nI c) from fun q => hkc q.1), i0]
        by_cases hg : (go1 F N S w a r false u k).2.2 = -1
        · rw [if_pos hg]
          exact gk_woR hC ht h m (k + 1) _ (by omega) hg
        · rw [if_neg hg]
          exact woR_dead hg _ _ _
    · rw [if_neg h1, woR_skip (by rw [e1, e2]; exact fun q => h1 ((h k (by omega) t ht).mp q.2.1))]
      exact gk_woR hC ht h m (k + 1) u (by omega) hu
theorem gt_woR {ft tu : Nat → Int32} {c t0 : Nat} (hC : C ≤ 6) (ht0 : t0 ≤ 5) (h : RT C ft tu c t0) (hc : tu c = nI t0) : ∀ (m t : Nat) (u : PSt), t + m = t0 + 1 → u.2.2 = -1 → gainT F C N S w a r V E ft c t0 m t u = woR F C N S w a r V E tu c (36 - 6 * t) (6 * t) u (nI 0)
  | 0, t, u, ht, hu => by
    rw [gainT, woR_gone _ _ _ _ (fun j j1 j2 j3 j4 => by
      rw [hc] at j4
      have := nI_inj (show t0 < 2 ^ 31 by omega) (show j / 6 < 2 ^ 31 by omega) j4
      omega)]
  | m + 1, t, u, ht, hu => by
    have h1 := gk_woR (F := F) (N := N) (S := S) (w := w) (a := a) (r := r) (V := V) (E := E) hC (show t ≤ 5 by omega) h C 0 u (by omega) hu
    rw [Nat.add_zero] at h1
    rw [gainT]
    cases hK : gainK F N S w a r V E ft c t0 t C 0 u with
    | inl v => rw [hK] at h1; exact h1.symm
    | inr z =>
      rw [hK] at h1
      dsimp only at h1 ⊢
      rw [h1.2, gt_woR hC ht0 h hc m (t + 1) z (by omega) h1.1, show 6 * (t + 1) = 6 * t + 6 by omega]
/-- never is -1 for the class and 6 for the reference -/
def cvT (x : Int32) : Int32 := if x = -1 then nI 6 else x
def okT (x : Int32) : Prop := x = -1 ∨ ∃ j, j < 6 ∧ x = nI j
theorem cvT_t {x : Int32} {t : Nat} (hx : okT x) (ht : t ≤ 5) : cvT x = nI t ↔ x = nI t := by
  unfold cvT
  rcases hx with rfl | ⟨j, hj, rfl⟩
  · rw [if_pos rfl]
    constructor
    · intro q; have := nI_inj (by omega) (by omega) q; omega
    · intro q; exact absurd q.symm (nI_m1 (by omega))
  · rw [if_neg (nI_m1 (by omega))]
theorem cvT_N {j : Nat} (hj : j < 6) : cvT (nI j) = nI j := if_neg (nI_m1 (by omega))
theorem cvT_inj {x y : Int32} (hx : okT x) (hy : okT y) : cvT x = cvT y ↔ x = y := by
  rcases hy with rfl | ⟨j, hj, rfl⟩
  · constructor
    · intro q
      rcases hx with rfl | ⟨i, hi, rfl⟩
      · rfl
      · rw [cvT_N hi, show cvT (-1) = nI 6 from rfl] at q
        have := nI_inj (by omega) (by omega) q; omega
    · intro q; rw [q]
  · rw [cvT_N hj]; exact cvT_t hx (by omega)
def okF (ft : Nat → Int32) : Prop := ∀ k, okT (ft k)
theorem RT_of {ft : Nat → Int32} {c t0 : Nat} (h : okF ft) : RT C ft (upd (fun k => cvT (ft k)) c (nI t0)) c t0 := fun k _ t ht => by
  unfold hisI
  by_cases e : k = c
  · subst e; rw [pk_us, if_pos rfl]
  · rw [pk_un e, if_neg e]; exact cvT_t (h k) ht
theorem bestR_ok {ft : Nat → Int32} {c : Nat} {s : PSt} : ∀ (n : Nat) (b g : Int32), n ≤ 6 → okT b → okT (bestR F C N S w a r V E ft c s n b g)
  | 0, _, _, _, h => h
  | n + 1, b, g, hn, h => by
    rw [bestR]
    split
    · exact bestR_ok n _ _ (by omega) (Or.inr ⟨n, by omega, rfl⟩)
    · exact bestR_ok n _ _ (by omega) h
theorem bt_best {ft : Nat → Int32} {c : Nat} {s : PSt} (hC : C ≤ 6) (hf : okF ft) (hs : s.2.2 = -1) : ∀ (n : Nat) (b g : Int32), n ≤ 6 → okT b → btR F C N S w a r V E (fun k => cvT (ft k)) c s n (cvT b) g = cvT (bestR F C N S w a r V E ft c s n b g)
  | 0, _, _, _, _ => rfl
  | n + 1, b, g, hn, hb => by
    have h1 := gt_woR (F := F) (N := N) (S := S) (w := w) (a := a) (r := r) (V := V) (E := E) hC (show n ≤ 5 by omega) (RT_of (C := C) (c := c) (t0 := n) hf) pk_us (n + 1) 0 s (by omega) hs
    rw [show 36 - 6 * 0 = 36 from rfl, show 6 * 0 = 0 from rfl] at h1
    rw [btR, bestR, ← h1]
    by_cases hg : g < gainT F C N S w a r V E ft c n (n + 1) 0 s
    · rw [if_pos (Or.inr (Int32.not_le.mpr hg)), if_pos hg, ← cvT_N (show n < 6 by omega)]
      have := bt_best (c := c) hC hf hs n (nI n) (gainT F C N S w a r V E ft c n (n + 1) 0 s) (by omega) (Or.inr ⟨n, by omega, rfl⟩)
      rw [cvT_N (show n < 6 by omega)] at this ⊢
      exact this
    · rw [if_neg (fun q => q.elim (fun q => by omega) (fun q => hg (Int32.not_le.mp q))), if_neg hg]
      exact bt_best hC hf hs n b g (by omega) hb
theorem bt_A {ft : Nat → Int32} {c : Nat} {s : PSt} (hC : C ≤ 6) (hf : okF ft) (hs : s.2.2 = -1) : btA F C N S w a r V E (fun k => cvT (ft k)) c s = cvT (bestR F C N S w a r V E ft c s 6 (-1) (nI 0)) := by
  unfold btA
  rw [btR, if_pos (Or.inl rfl), woR_gone _ _ _ _ (fun j j1 j2 j3 j4 => by
    rw [pk_us] at j4
    have := nI_inj (show 6 < 2 ^ 31 by omega) (show j / 6 < 2 ^ 31 by omega) j4
    omega)]
  exact bt_best hC hf hs 6 (-1) (nI 0) (by omega) (Or.inl rfl)
theorem cv_up (ft : Nat → Int32) (c : Nat) (x : Int32) : upd (fun k => cvT (ft k)) c (cvT x) = fun k => cvT (upd ft c x k) := by
  funext k
  unfold upd
  by_cases e : k = c
  · rw [if_pos e, if_pos e]
  · rw [if_neg e, if_neg e]
theorem mrd_round {s : PSt} (hC : C ≤ 6) (hs : s.2.2 = -1) : ∀ (n c : Nat) (ft : Nat → Int32) (ch : Bool), okF ft → mrdR F C N S w a r V E s n c (fun k => cvT (ft k)) ch = ((fun k => cvT ((roundR F C N S w a r V E s n c ft ch).1 k)), (roundR F C N S w a r V E s n c ft ch).2) ∧ okF (roundR F C N S w a r V E s n c ft ch).1
  | 0, _, _, _, h => ⟨rfl, h⟩
  | n + 1, c, ft, ch, h => by
    have hb := bestR_ok (F := F) (C := C) (N := N) (S := S) (w := w) (a := a) (r := r) (V := V) (E := E) (ft := ft) (c := c) (s := s) 6 (-1) (nI 0) (by omega) (Or.inl rfl)
    have hd : decide (¬ cvT (bestR F C N S w a r V E ft c s 6 (-1) (nI 0)) = cvT (ft c)) = decide (¬ bestR F C N S w a r V E ft c s 6 (-1) (nI 0) = ft c) := decide_eq_decide.mpr (not_congr (cvT_inj hb (h c)))
    have ho : okF (upd ft c (bestR F C N S w a r V E ft c s 6 (-1) (nI 0))) := fun k => by
      unfold upd
      split
      · exact hb
      · exact h k
    have h1 := mrd_round hC hs n (c + 1) _ (ch || decide (¬ bestR F C N S w a r V E ft c s 6 (-1) (nI 0) = ft c)) ho
    rw [mrdR, roundR, bt_A hC h hs, hd, cv_up]
    exact h1
theorem mfi_find {s : PSt} (hC : C ≤ 6) (hs : s.2.2 = -1) : ∀ (m : Nat) (ft : Nat → Int32) (q : Nat), okF ft → q + m = 20 → mfiR F C N S w a r V E s m (fun k => cvT (ft k)) q = ((fun k => cvT ((findR F C N S w a r V E s m ft q).1 k)), (findR F C N S w a r V E s m ft q).2, decide ((findR F C N S w a r V E s m ft q).2 = 20)) ∧ okF (findR F C N S w a r V E s m ft q).1 ∧ (findR F C N S w a r V E s m ft q).2 ≤ 20
  | 0, ft, q, h, hq => by
    have e : q = 20 := by omega
    subst e
    exact ⟨rfl, h, Nat.le_refl _⟩
  | m + 1, ft, q, h, hq => by
    obtain ⟨h1, h2⟩ := mrd_round (F := F) (N := N) (S := S) (w := w) (a := a) (r := r) (V := V) (E := E) hC hs C 0 ft false h
    rw [mfiR, findR, h1]
    dsimp only
    cases hR : (roundR F C N S w a r V E s C 0 ft false).2 with
    | true => exact mfi_find hC hs m _ (q + 1) h2 (by omega)
    | false =>
      dsimp only
      rw [decide_eq_false (show ¬ q = 20 by omega)]
      exact ⟨rfl, h2, by omega⟩
theorem rests_eq {s : PSt} {x : Int32} (hC : C ≤ 6) (hx : x = -1 ∨ ∃ j, j < C ∧ x = nI j) : rstA (restsR F C N S w a r V E s) x = mrsA (mrests F C N S w a r V E s) x := by
  unfold restsR mrests rstA mrsA
  by_cases hs : s.2.2 = -1
  · rw [if_pos hs, if_pos hs]
    obtain ⟨h1, h2, h3⟩ := mfi_find (F := F) (N := N) (S := S) (w := w) (a := a) (r := r) (V := V) (E := E) hC hs 20 (fun _ => -1) 0 (fun _ => Or.inl rfl) rfl
    rw [show (fun k => cvT ((fun _ => (-1 : Int32)) k)) = fun _ : Nat => nI 6 from rfl] at h1
    rw [h1]
    dsimp only
    generalize findR F C N S w a r V E s 20 (fun _ => -1) 0 = R at h2 h3 ⊢
    by_cases h20 : R.2 = 20
    · rw [if_pos h20, if_pos (Or.inr rfl), if_pos (decide_eq_true h20)]
    · rw [if_neg h20, if_neg (show ¬ decide (R.2 = 20) = true by rw [decide_eq_false h20]; decide)]
      rcases hx with rfl | ⟨j, hj, rfl⟩
      · rw [if_pos (Or.inl rfl), if_pos rfl]
      · have hm := nI_m1 (show j < 2 ^ 31 by omega)
        rw [if_neg (fun q => q.elim (fun q => hm q) (fun q => nI_m1 (by omega) q)), if_neg hm, nI_clamp (by omega)]
        show R.1 j = if cvT (R.1 j) = nI 6 then -1 else cvT (R.1 j)
        rcases h2 j with e | ⟨i, hi, e⟩
        · rw [e]; rfl
        · rw [e, cvT_N hi, if_neg (fun q => by have := nI_inj (by omega) (by omega) q; omega)]
  · rw [if_neg hs, if_neg hs]
    dsimp only
    rw [if_neg (show ¬ (false = true) by decide)]
    rcases hx with rfl | ⟨j, hj, rfl⟩
    · rw [if_pos (Or.inl rfl), if_pos rfl]
    · have hm := nI_m1 (show j < 2 ^ 31 by omega)
      rw [if_neg (fun q => q.elim (fun q => hm q) (fun q => absurd q (by decide))), if_neg hm, if_pos rfl]
end PRESTS
