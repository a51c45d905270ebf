/-! ORDER and FOR ONE of the class: the answers -/
/-- how many goes a row found has -/
def lenI (v : Option (List Nat)) : Int32 := match v with
  | some l => nI l.length
  | none => -1
/-- the first of the shortest rows of at most k goes -/
def fewG (F C N S : Nat) (w a r : Nat → Nat) (once : Bool) (last : Int32) (s : PSt) (k : Nat) : Option (List Nat) := if s.2.2 = -1 then fsome (fun i => dfs F C N S w a r once last i (nI 0) s) k 0 else none
/-- who went, as a set -/
def usedR (l : List Nat) : Nat → Int32
  | 0 => nI 0
  | n + 1 => usedR l n ||| (nI 1 <<< (nI (l.getD n 0) &&& 31))
/-- those who aren't in the set, of n from c on -/
def restL (u : Int32) : Nat → Nat → List Nat
  | 0, _ => []
  | n + 1, c => if (u >>> (nI c &&& 31)) &&& nI 1 = 0 then c :: restL u n (c + 1) else restL u n (c + 1)
/-- the row of all -/
def allL (C : Nat) (v : Option (List Nat)) : List Nat := v.getD [] ++ restL (usedR (v.getD []) (v.getD []).length) C 0
def RowP (l : List Nat) (f : Nat → Int32) : Prop := ∀ j, j < 6 → j < l.length → f j = nI (l.getD j 0)
def ansAll (g : Int32) (C : Nat) (f : Nat → Int32) (x : Int32) : Int32 := if x = -1 ∨ g = -1 then g else if inR (if x = -2 then g - nI 1 else x) C = true then f (if x = -2 then g - nI 1 else x).toNatClampNeg else -1
def ansOne (v : Option (List Nat)) (x : Int32) : Int32 := if x = -1 then lenI v else if inR x (v.getD []).length = true then nI ((v.getD []).getD x.toNatClampNeg 0) else -1
theorem fewG_len {F C N S : Nat} {w a r : Nat → Nat} {once : Bool} {last : Int32} {s : PSt} {k : Nat} {l : List Nat} (h : fewG F C N S w a r once last s k = some l) : 1 ≤ l.length ∧ l.length ≤ k := by
  unfold fewG at h
  split at h
  · have key : ∀ (n i : Nat) (l : List Nat), fsome (fun i => dfs F C N S w a r once last i (nI 0) s) n i = some l → i + 1 ≤ l.length ∧ l.length ≤ i + n := by
      intro n
      induction n with
      | zero => intro i l e; cases e
      | succ n ih =>
        intro i l e
        rw [fsome] at e
        cases hf : dfs F C N S w a r once last i (nI 0) s with
        | some l2 =>
          simp only [hf] at e
          cases e
          have := dfs_len F C N S w a r once last i (nI 0) s l hf
          omega
        | none =>
          simp only [hf] at e
          have := ih (i + 1) l e
          omega
    have := key k 0 l h
    omega
  · cases h
theorem upd_eq {f : Nat → Int32} {k : Nat} {x : Int32} (h : f k = x) : upd f k x = f := by
  funext j
  unfold upd
  split
  · rename_i e
    rw [e]
    exact h.symm
  · rfl
theorem zgetL {l m : List Nat} {j : Nat} (h : j < l.length) : (l ++ m).getD j 0 = l.getD j 0 := by
  show ((l ++ m)[j]?).getD 0 = (l[j]?).getD 0
  rw [List.getElem?_append_left h]
theorem zgetR {l : List Nat} {c j : Nat} (h : l.length = j) : (l ++ [c]).getD j 0 = c := by
  show ((l ++ [c])[j]?).getD 0 = c
  rw [List.getElem?_append_right (by omega), h, Nat.sub_self]
  rfl
theorem zext_up {f g : Nat → Int32} {i : Nat} (h : ∀ j, j < i → f j = g j) : ∀ j, j < i + 1 → upd f i (g i) j = g j := fun j hj => by
  unfold upd
  by_cases e : j = i
  · rw [if_pos e, e]
  · rw [if_neg e]
    exact h j (by omega)
theorem RowP_more {l m : List Nat} {f : Nat → Int32} (h : RowP l f) (hl : 6 ≤ l.length) : RowP (l ++ m) f := fun j hj _ => by
  rw [zgetL (by omega)]
  exact h j hj (by omega)
theorem RowP_push {l : List Nat} {f : Nat → Int32} {p c : Nat} (h : RowP l f) (hp : l.length = p) : RowP (l ++ [c]) (upd f p (nI c)) := fun j hj hl => by
  unfold upd
  by_cases hjp : j = p
  · subst hjp
    rw [if_pos rfl, zgetR hp]
  · rw [if_neg hjp]
    have h1 : j < l.length := by simp at hl; omega
    rw [zgetL h1]
    exact h j hj h1
set_option maxRecDepth 20000 in
theorem lp_X4_fewestGoes (sk : Nat → Nat) {rh rs rr ar yr yg yf pl ps pw pa pr hp hs p0 q0 p1 q1 p2 q2 p3 q3 p4 q4 p5 q5 most F C N S : Nat} {last ag V E sd : Int32} {once af : Bool} {st : Nat → Option Nat} {w a r : Nat → Nat} {s : PSt} {v : Option (List Nat)} (hB : PB F C N S w a r) (hs0 : SB s.1) (hmo : most ≤ 6) (hst0 : st 0 = some p0) (hst1 : st 1 = some p1) (hst2 : st 2 = some p2) (hst3 : st 3 = some p3) (hst4 : st 4 = some p4) (hst5 : st 5 = some p5) : ∀ (n i : Nat) (gI : Int32) (fr1 : Nat → Int32) (g0 o0 z0 g1 o1 z1 g2 o2 z2 g3 o3 z3 g4 o4 z4 g5 o5 z5 : Int32) (f0 f1 f2 f3 f4 f5 : Nat → Int32), i + n = most → fsome (fun i => dfs F C N S w a r once last i (nI 0) s) n i = v → GG sk RX4 yX4_fewestGoes cX4_fewestGoes 5 (some .int) 10 0 0 (fun q w1 => q = some (.int (lenI v)) ∧ ∃ (gI : Int32) (fr2 : Nat → Int32) (g0 o0 z0 g1 o1 z1 g2 o2 z2 g3 o3 z3 g4 o4 z4 g5 o5 z5 : Int32) (f0 f1 f2 f3 f4 f5 : Nat → Int32), w1 = [oRows rh rs rr gI last once ar ag af yr yg yf, cP rs 6 st, cI rr 6 fr2, oPlan pl ps pw pa pr (nI F) (nI C) V E (nI N) (nI S), cI pw 6 (fI w), cI pa 6 (fI a), cI pr 6 (fI r), oPole p0 q0 g0 o0 z0, cI q0 30 f0, oPole p1 q1 g1 o1 z1, cI q1 30 f1, oPole p2 q2 g2 o2 z2, cI q2 30 f2, oPole p3 q3 g3 o3 z3, cI q3 30 f3, oPole p4 q4 g4 o4 z4, cI q4 30 f4, oPole p5 q5 g5 o5 z5, cI q5 30 f5, oPoleS hp hs s sd, cI hs 30 (fI s.1)] ∧ ∀ l : List Nat, v = some l → ∀ j, j < l.length → fr2 j = nI (l.getD j 0)) 0 0 13 [some (.ref rh), some (.ref pl), some (.ref hp), some (.int (nI most)), some (.int (nI (i + 1)))] [] [oRows rh rs rr gI last once ar ag af yr yg yf, cP rs 6 st, cI rr 6 fr1, oPlan pl ps pw pa pr (nI F) (nI C) V E (nI N) (nI S), cI pw 6 (fI w), cI pa 6 (fI a), cI pr 6 (fI r), oPole p0 q0 g0 o0 z0, cI q0 30 f0, oPole p1 q1 g1 o1 z1, cI q1 30 f1, oPole p2 q2 g2 o2 z2, cI q2 30 f2, oPole p3 q3 g3 o3 z3, cI q3 30 f3, oPole p4 q4 g4 o4 z4, cI q4 30 f4, oPole p5 q5 g5 o5 z5, cI q5 30 f5, oPoleS hp hs s sd, cI hs 30 (fI s.1)] := by
  intro n
  induction n with
  | zero =>
    intro i gI fr1 g0 o0 z0 g1 o1 z1 g2 o2 z2 g3 o3 z3 g4 o4 z4 g5 o5 z5 f0 f1 f2 f3 f4 f5 hi hv
    rw [fsome] at hv
    subst hv
    refine g_iload dX4_fewestGoes_13 rfl rfl ?_
    refine g_iload_n dX4_fewestGoes_15 rfl rfl ?_
    refine g_icmp_gtN (t := 45) dX4_fewestGoes_16 (by decide) rfl (by omega) (by omega) (fun h16 => ?_) (fun h16 => ?_)
    · skip
      refine g_iconst (v := -1) dX4_fewestGoes_45 rfl (by decide) ?_
      exact g_iret dX4_fewestGoes_46 rfl (Nat.le_refl _) (Nat.le_refl _) (⟨rfl, _, _, _, _, _, _, _, _, _, _, _, _, _, _, _, _, _, _, _, _, _, _, _, _, _, _, rfl, fun l hl => by cases hl⟩)
    · exact absurd h16 (by omega)
  | succ n ih =>
    intro i gI fr1 g0 o0 z0 g1 o1 z1 g2 o2 z2 g3 o3 z3 g4 o4 z4 g5 o5 z5 f0 f1 f2 f3 f4 f5 hi hv
    rw [fsome] at hv
    refine g_iload dX4_fewestGoes_13 rfl rfl ?_
    refine g_iload_n dX4_fewestGoes_15 rfl rfl ?_
    refine g_icmp_gtN (t := 45) dX4_fewestGoes_16 (by decide) rfl (by omega) (by omega) (fun h16 => ?_) (fun h16 => ?_)
    · exact absurd h16 (by omega)
    · skip
      refine g_aload_n dX4_fewestGoes_19 rfl rfl ?_
      refine g_iload dX4_fewestGoes_20 rfl rfl ?_
      refine g_putI f_X4_77 dX4_fewestGoes_22 rfl 0 rfl (Nat.le_of_ble_eq_true rfl) rfl ?_
      dsimp only [List.set]
      refine g_aload_n dX4_fewestGoes_25 rfl rfl ?_
      refine g_aload_n dX4_fewestGoes_26 rfl rfl ?_
      refine g_aload_n dX4_fewestGoes_27 rfl rfl ?_
      refine g_iconst (v := nI 0) dX4_fewestGoes_28 rfl (by decide) ?_
      refine g_iconst (v := nI 0) dX4_fewestGoes_29 rfl (by decide) ?_
      refine g_callV (c_findFrom0 sk (gl := i + 1) (m := i) (u := nI 0) hB (by omega) (by omega) hs0 hst0 hst1 hst2 hst3 hst4 hst5) m_X4_80 a_X4_findFrom dX4_fewestGoes_30 rfl [0, 1, 2, 3, 4, 5, 6, 19, 20, 7, 8, 9, 10, 11, 12, 13, 14, 15, 16, 17, 18] rfl rfl 0 rfl rfl rfl (by decide) (by decide) (by decide) (by decide) (Nat.le_of_ble_eq_true rfl) (fun r w hK => ?_)
      obtain ⟨rfl, fr2, g0, o0, z0, g1, o1, z1, g2, o2, z2, g3, o3, z3, g4, o4, z4, g5, o5, z5, f0, f1, f2, f3, f4, f5, rfl, hfr2, hl2⟩ := hK
      refine ⟨rfl, ?_⟩
      dsimp only [puts, List.set, Option.toList, List.cons_append, List.nil_append, List.append_nil]
      refine g_if_eqB (t := 39) dX4_fewestGoes_33 (by decide) rfl (fun h33 => ?_) (fun h33 => ?_)
      · have hn : dfs F C N S w a r once last i (nI 0) s = none := by simpa using h33
        simp only [hn] at hv
        refine g_iinc dX4_fewestGoes_39 rfl rfl (nI_1 _) (by decide) rfl rfl ?_
        refine g_goto (q := 13) dX4_fewestGoes_42 (by decide) ?_
        exact ih (i + 1) _ _ _ _ _ _ _ _ _ _ _ _ _ _ _ _ _ _ _ _ _ _ _ _ _ _ (by omega) hv
      · obtain ⟨l0, hl0⟩ := Option.isSome_iff_exists.mp h33
        simp only [hl0] at hv
        subst hv
        have hlen := dfs_len F C N S w a r once last i (nI 0) s l0 hl0
        refine g_iload dX4_fewestGoes_36 rfl rfl ?_
        exact g_iret dX4_fewestGoes_38 rfl (Nat.le_refl _) (Nat.le_refl _) (⟨by rw [lenI, hlen], _, _, _, _, _, _, _, _, _, _, _, _, _, _, _, _, _, _, _, _, _, _, _, _, _, _, rfl, fun l hl j hj => by cases hl; have := hl2 l0 hl0 j hj; rw [Nat.zero_add] at this; exact this⟩)
set_option maxRecDepth 20000 in
theorem c_X4_fewestGoes (sk : Nat → Nat) {rh rs rr ar yr yg yf pl ps pw pa pr hp hs p0 q0 p1 q1 p2 q2 p3 q3 p4 q4 p5 q5 most F C N S : Nat} {last ag V E sd : Int32} {once af : Bool} {st : Nat → Option Nat} {w a r : Nat → Nat} {s : PSt} {gI : Int32} {fr : Nat → Int32} {g0 o0 z0 g1 o1 z1 g2 o2 z2 g3 o3 z3 g4 o4 z4 g5 o5 z5 : Int32} {f0 f1 f2 f3 f4 f5 : Nat → Int32} (hB : PB F C N S w a r) (hs0 : SB s.1) (hmo : most ≤ 6) (hst0 : st 0 = some p0) (hst1 : st 1 = some p1) (hst2 : st 2 = some p2) (hst3 : st 3 = some p3) (hst4 : st 4 = some p4) (hst5 : st 5 = some p5) : Ct sk yX4_fewestGoes cX4_fewestGoes 5 (some .int) 10 0 0 [oRows rh rs rr gI last once ar ag af yr yg yf, cP rs 6 st, cI rr 6 fr, oPlan pl ps pw pa pr (nI F) (nI C) V E (nI N) (nI S), cI pw 6 (fI w), cI pa 6 (fI a), cI pr 6 (fI r), oPole p0 q0 g0 o0 z0, cI q0 30 f0, oPole p1 q1 g1 o1 z1, cI q1 30 f1, oPole p2 q2 g2 o2 z2, cI q2 30 f2, oPole p3 q3 g3 o3 z3, cI q3 30 f3, oPole p4 q4 g4 o4 z4, cI q4 30 f4, oPole p5 q5 g5 o5 z5, cI q5 30 f5, oPoleS hp hs s sd, cI hs 30 (fI s.1)] [.ref rh, .ref pl, .ref hp, .int (nI most)] (fun q w1 => q = some (.int (lenI (fewG F C N S w a r once last s most))) ∧ ∃ (gI : Int32) (fr2 : Nat → Int32) (g0 o0 z0 g1 o1 z1 g2 o2 z2 g3 o3 z3 g4 o4 z4 g5 o5 z5 : Int32) (f0 f1 f2 f3 f4 f5 : Nat → Int32), w1 = [oRows rh rs rr gI last once ar ag af yr yg yf, cP rs 6 st, cI rr 6 fr2, oPlan pl ps pw pa pr (nI F) (nI C) V E (nI N) (nI S), cI pw 6 (fI w), cI pa 6 (fI a), cI pr 6 (fI r), oPole p0 q0 g0 o0 z0, cI q0 30 f0, oPole p1 q1 g1 o1 z1, cI q1 30 f1, oPole p2 q2 g2 o2 z2, cI q2 30 f2, oPole p3 q3 g3 o3 z3, cI q3 30 f3, oPole p4 q4 g4 o4 z4, cI q4 30 f4, oPole p5 q5 g5 o5 z5, cI q5 30 f5, oPoleS hp hs s sd, cI hs 30 (fI s.1)] ∧ ∀ l : List Nat, fewG F C N S w a r once last s most = some l → ∀ j, j < l.length → fr2 j = nI (l.getD j 0)) := by
  refine Ct.of (own := RX4) (l := [some (.ref rh), some (.ref pl), some (.ref hp), some (.int (nI most)), none]) (by decide) rfl (Nat.le_of_ble_eq_true rfl) rfl ?_
  refine g_aload_n dX4_fewestGoes_0 rfl rfl ?_
  refine g_get f_X4_74 dX4_fewestGoes_1 rfl 19 rfl rfl ?_
  refine g_iconst (v := -1) dX4_fewestGoes_4 rfl (by decide) ?_
  refine g_icmp_eq (t := 10) dX4_fewestGoes_5 (by decide) rfl (fun h5 => ?_) (fun h5 => ?_)
  · skip
    refine g_iconst (v := nI 1) dX4_fewestGoes_10 rfl (by decide) ?_
    refine g_istore dX4_fewestGoes_11 rfl (by decide) rfl rfl ?_
    rw [fewG, if_pos h5]
    exact lp_X4_fewestGoes sk hB hs0 hmo hst0 hst1 hst2 hst3 hst4 hst5 most 0 _ _ _ _ _ _ _ _ _ _ _ _ _ _ _ _ _ _ _ _ _ _ _ _ _ _ (by omega) rfl
  · skip
    refine g_iconst (v := -1) dX4_fewestGoes_8 rfl (by decide) ?_
    exact g_iret dX4_fewestGoes_9 rfl (Nat.le_refl _) (Nat.le_refl _) (⟨by rw [fewG, if_neg h5]; rfl, _, _, _, _, _, _, _, _, _, _, _, _, _, _, _, _, _, _, _, _, _, _, _, _, _, _, rfl, fun l hl => by rw [fewG, if_neg h5] at hl; cases hl⟩)
set_option maxRecDepth 20000 in
theorem lp_X4_rest (sk : Nat → Nat) {rh rs rr ar yr yg yf pl ps pw pa pr hp hs p0 q0 p1 q1 p2 q2 p3 q3 p4 q4 p5 q5 F C N S : Nat} {V E sd : Int32} {st : Nat → Option Nat} {w a r : Nat → Nat} {s : PSt} {gI ag : Int32} {fr2 : Nat → Int32} {g0 o0 z0 g1 o1 z1 g2 o2 z2 g3 o3 z3 g4 o4 z4 g5 o5 z5 : Int32} {f0 f1 f2 f3 f4 f5 : Nat → Int32} {u : Int32} {L : List Nat} {Ψ : PS} (hC : C ≤ 6) (hΨ : ∀ f9, RowP L f9 → Ψ none [oRows rh rs rr gI (-1) true ar ag true yr yg yf, cP rs 6 st, cI rr 6 fr2, oPlan pl ps pw pa pr (nI F) (nI C) V E (nI N) (nI S), cI pw 6 (fI w), cI pa 6 (fI a), cI pr 6 (fI r), oPole p0 q0 g0 o0 z0, cI q0 30 f0, oPole p1 q1 g1 o1 z1, cI q1 30 f1, oPole p2 q2 g2 o2 z2, cI q2 30 f2, oPole p3 q3 g3 o3 z3, cI q3 30 f3, oPole p4 q4 g4 o4 z4, cI q4 30 f4, oPole p5 q5 g5 o5 z5, cI q5 30 f5, oPoleS hp hs s sd, cI hs 30 (fI s.1), cI ar 6 f9]) : ∀ (n c p : Nat) (l0 : List Nat) (f9 : Nat → Int32), c + n = C → l0 ++ restL u n c = L → l0.length = p → p ≤ 6 → RowP l0 f9 → GG sk RX4 yX4_findAll cX4_findAll 6 none 11 0 0 Ψ 0 0 108 [some (.ref rh), some (.ref pl), some (.ref hp), some (.int u), some (.int (nI p)), some (.int (nI c))] [] [oRows rh rs rr gI (-1) true ar ag true yr yg yf, cP rs 6 st, cI rr 6 fr2, oPlan pl ps pw pa pr (nI F) (nI C) V E (nI N) (nI S), cI pw 6 (fI w), cI pa 6 (fI a), cI pr 6 (fI r), oPole p0 q0 g0 o0 z0, cI q0 30 f0, oPole p1 q1 g1 o1 z1, cI q1 30 f1, oPole p2 q2 g2 o2 z2, cI q2 30 f2, oPole p3 q3 g3 o3 z3, cI q3 30 f3, oPole p4 q4 g4 o4 z4, cI q4 30 f4, oPole p5 q5 g5 o5 z5, cI q5 30 f5, oPoleS hp hs s sd, cI hs 30 (fI s.1), cI ar 6 f9] := by
  intro n
  induction n with
  | zero =>
    intro c p l0 f9 hc hL hp hp6 hR
    rw [restL, List.append_nil] at hL
    subst hL
    refine g_iload dX4_findAll_108 rfl rfl ?_
    refine g_aload_n dX4_findAll_110 rfl rfl ?_
    refine g_get f_X4_55 dX4_findAll_111 rfl 3 rfl rfl ?_
    refine g_icmp_geN (t := 154) dX4_findAll_114 (by decide) rfl (by omega) (by omega) (fun h114 => ?_) (fun h114 => ?_)
    · skip
      exact g_vret dX4_findAll_154 rfl (Nat.le_refl _) (Nat.le_refl _) (hΨ _ hR)
    · exact absurd h114 (by omega)
  | succ n ih =>
    intro c p l0 f9 hc hL hp hp6 hR
    rw [restL] at hL
    refine g_iload dX4_findAll_108 rfl rfl ?_
    refine g_aload_n dX4_findAll_110 rfl rfl ?_
    refine g_get f_X4_55 dX4_findAll_111 rfl 3 rfl rfl ?_
    refine g_icmp_geN (t := 154) dX4_findAll_114 (by decide) rfl (by omega) (by omega) (fun h114 => ?_) (fun h114 => ?_)
    · exact absurd h114 (by omega)
    · skip
      refine g_iload dX4_findAll_117 rfl rfl ?_
      refine g_aload_n dX4_findAll_119 rfl rfl ?_
      refine g_get f_X4_28 dX4_findAll_120 rfl 0 rfl rfl ?_
      refine g_alen dX4_findAll_123 rfl 21 rfl (Nat.le_of_ble_eq_true rfl) rfl ?_
      refine g_icmp_geN (t := 154) dX4_findAll_124 (by decide) rfl (by omega) (by omega) (fun h124 => ?_) (fun h124 => ?_)
      · skip
        exact g_vret dX4_findAll_154 rfl (Nat.le_refl _) (Nat.le_refl _) (hΨ _ (by have : 6 ≤ p := h124; rw [← hL]; exact RowP_more hR (by omega)))
      · skip
        refine g_iload_n dX4_findAll_127 rfl rfl ?_
        refine g_iload dX4_findAll_128 rfl rfl ?_
        refine g_ishr dX4_findAll_130 rfl rfl ?_
        refine g_iconst (v := nI 1) dX4_findAll_131 rfl (by decide) ?_
        refine g_iand dX4_findAll_132 rfl rfl ?_
        refine g_if_ne (t := 148) dX4_findAll_133 (by decide) rfl (fun h133 => ?_) (fun h133 => ?_)
        · rw [if_neg h133] at hL
          refine g_iinc dX4_findAll_148 rfl rfl (nI_1 _) (by decide) rfl rfl ?_
          refine g_goto (q := 108) dX4_findAll_151 (by decide) ?_
          exact ih (c + 1) p l0 f9 (by omega) hL hp hp6 hR
        · rw [if_pos h133] at hL
          refine g_aload_n dX4_findAll_136 rfl rfl ?_
          refine g_get f_X4_28 dX4_findAll_137 rfl 0 rfl rfl ?_
          refine g_iload dX4_findAll_140 rfl rfl ?_
          refine g_iload dX4_findAll_142 rfl rfl ?_
          refine g_iastN dX4_findAll_144 rfl 21 rfl (h124) (by decide) (rfl) rfl ?_
          refine g_iinc dX4_findAll_145 rfl rfl (nI_1 _) (by decide) rfl rfl ?_
          refine g_iinc dX4_findAll_148 rfl rfl (nI_1 _) (by decide) rfl rfl ?_
          refine g_goto (q := 108) dX4_findAll_151 (by decide) ?_
          exact ih (c + 1) (p + 1) (l0 ++ [c]) _ (by omega) (by rw [List.append_assoc]; exact hL) (by simp [hp]) (by omega) (RowP_push hR hp)
set_option maxRecDepth 20000 in
theorem lp_X4_mark (sk : Nat → Nat) {rh rs rr ar yr yg yf pl ps pw pa pr hp hs p0 q0 p1 q1 p2 q2 p3 q3 p4 q4 p5 q5 F C N S : Nat} {V E sd : Int32} {st : Nat → Option Nat} {w a r : Nat → Nat} {s : PSt} {gI : Int32} {fr2 : Nat → Int32} {g0 o0 z0 g1 o1 z1 g2 o2 z2 g3 o3 z3 g4 o4 z4 g5 o5 z5 : Int32} {f0 f1 f2 f3 f4 f5 : Nat → Int32} {v : Option (List Nat)} {l0 : List Nat} {Ψ : PS} (hv : v = some l0 ∨ v = none ∧ l0 = []) (hl6 : l0.length ≤ 6) (hfr : ∀ j, j < l0.length → fr2 j = nI (l0.getD j 0)) (hx : ∀ f9, RowP l0 f9 → GG sk RX4 yX4_findAll cX4_findAll 6 none 11 0 0 Ψ 0 0 95 [some (.ref rh), some (.ref pl), some (.ref hp), some (.int (usedR l0 l0.length)), none, none] [] [oRows rh rs rr gI (-1) true ar (lenI v) true yr yg yf, cP rs 6 st, cI rr 6 fr2, oPlan pl ps pw pa pr (nI F) (nI C) V E (nI N) (nI S), cI pw 6 (fI w), cI pa 6 (fI a), cI pr 6 (fI r), oPole p0 q0 g0 o0 z0, cI q0 30 f0, oPole p1 q1 g1 o1 z1, cI q1 30 f1, oPole p2 q2 g2 o2 z2, cI q2 30 f2, oPole p3 q3 g3 o3 z3, cI q3 30 f3, oPole p4 q4 g4 o4 z4, cI q4 30 f4, oPole p5 q5 g5 o5 z5, cI q5 30 f5, oPoleS hp hs s sd, cI hs 30 (fI s.1), cI ar 6 f9]) : ∀ (n i : Nat) (f9 : Nat → Int32), i + n = l0.length → (∀ j, j < i → f9 j = nI (l0.getD j 0)) → GG sk RX4 yX4_findAll cX4_findAll 6 none 11 0 0 Ψ 0 0 34 [some (.ref rh), some (.ref pl), some (.ref hp), some (.int (usedR l0 i)), some (.int (nI i)), none] [] [oRows rh rs rr gI (-1) true ar (lenI v) true yr yg yf, cP rs 6 st, cI rr 6 fr2, oPlan pl ps pw pa pr (nI F) (nI C) V E (nI N) (nI S), cI pw 6 (fI w), cI pa 6 (fI a), cI pr 6 (fI r), oPole p0 q0 g0 o0 z0, cI q0 30 f0, oPole p1 q1 g1 o1 z1, cI q1 30 f1, oPole p2 q2 g2 o2 z2, cI q2 30 f2, oPole p3 q3 g3 o3 z3, cI q3 30 f3, oPole p4 q4 g4 o4 z4, cI q4 30 f4, oPole p5 q5 g5 o5 z5, cI q5 30 f5, oPoleS hp hs s sd, cI hs 30 (fI s.1), cI ar 6 f9] := by
  intro n
  induction n with
  | zero =>
    intro i f9 hi hR
    have e : i = l0.length := by omega
    subst e
    refine g_iload dX4_findAll_34 rfl rfl ?_
    refine g_aload_n dX4_findAll_36 rfl rfl ?_
    refine g_get f_X4_51 dX4_findAll_37 rfl 0 rfl rfl ?_
    refine g_icmp_ge (t := 95) dX4_findAll_40 (by decide) rfl (fun h40 => ?_) (fun h40 => ?_)
    · skip
      refine g_drop 4 rfl ?_
      exact hx f9 (fun j _ hj => hR j hj)
    · exfalso
      rcases hv with rfl | ⟨rfl, rfl⟩
      · exact h40 (nI_le (Nat.le_refl _) (by omega))
      · exact h40 (by decide)
  | succ n ih =>
    intro i f9 hi hR
    have hvs : v = some l0 := hv.resolve_right (fun z => by rw [z.2] at hi; simp at hi)
    subst hvs
    have hfi := hfr i (by omega)
    refine g_iload dX4_findAll_34 rfl rfl ?_
    refine g_aload_n dX4_findAll_36 rfl rfl ?_
    refine g_get f_X4_51 dX4_findAll_37 rfl 0 rfl rfl ?_
    refine g_icmp_ge (t := 95) dX4_findAll_40 (by decide) rfl (fun h40 => ?_) (fun h40 => ?_)
    · exact absurd h40 (nI_ge (by omega) (by omega))
    · skip
      refine g_iload dX4_findAll_43 rfl rfl ?_
      refine g_aload_n dX4_findAll_45 rfl rfl ?_
      refine g_get f_X4_28 dX4_findAll_46 rfl 0 rfl rfl ?_
      refine g_alen dX4_findAll_49 rfl 21 rfl (Nat.le_of_ble_eq_true rfl) rfl ?_
      refine g_icmp_geN (t := 95) dX4_findAll_50 (by decide) rfl (by omega) (by omega) (fun h50 => ?_) (fun h50 => ?_)
      · exact absurd h50 (by omega)
      · skip
        refine g_iload dX4_findAll_53 rfl rfl ?_
        refine g_aload_n dX4_findAll_55 rfl rfl ?_
        refine g_get f_X4_24 dX4_findAll_56 rfl 0 rfl rfl ?_
        refine g_alen dX4_findAll_59 rfl 2 rfl (Nat.le_of_ble_eq_true rfl) rfl ?_
        refine g_icmp_geN (t := 95) dX4_findAll_60 (by decide) rfl (by omega) (by omega) (fun h60 => ?_) (fun h60 => ?_)
        · exact absurd h60 (by omega)
        · skip
          refine g_aload_n dX4_findAll_63 rfl rfl ?_
          refine g_get f_X4_28 dX4_findAll_64 rfl 0 rfl rfl ?_
          refine g_iload dX4_findAll_67 rfl rfl ?_
          refine g_aload_n dX4_findAll_69 rfl rfl ?_
          refine g_get f_X4_24 dX4_findAll_70 rfl 0 rfl rfl ?_
          refine g_iload dX4_findAll_73 rfl rfl ?_
          refine g_ialdN (v := nI (l0.getD i 0)) dX4_findAll_75 rfl 2 rfl (by omega) (by decide) (hfi) ?_
          refine g_iastN dX4_findAll_76 rfl 21 rfl (by omega) (by decide) (rfl) rfl ?_
          refine g_iload_n dX4_findAll_77 rfl rfl ?_
          refine g_iconst (v := nI 1) dX4_findAll_78 rfl (by decide) ?_
          refine g_aload_n dX4_findAll_79 rfl rfl ?_
          refine g_get f_X4_24 dX4_findAll_80 rfl 0 rfl rfl ?_
          refine g_iload dX4_findAll_83 rfl rfl ?_
          refine g_ialdN (v := nI (l0.getD i 0)) dX4_findAll_85 rfl 2 rfl (by omega) (by decide) (hfi) ?_
          refine g_ishl dX4_findAll_86 rfl rfl ?_
          refine g_ior dX4_findAll_87 rfl rfl ?_
          refine g_istore_n dX4_findAll_88 rfl (by decide) rfl rfl ?_
          refine g_iinc dX4_findAll_89 rfl rfl (nI_1 _) (by decide) rfl rfl ?_
          refine g_goto (q := 34) dX4_findAll_92 (by decide) ?_
          exact ih (i + 1) _ (by omega) (zext_up (g := fun j => nI (l0.getD j 0)) hR)
set_option maxRecDepth 20000 in
theorem c_X4_findAll (sk : Nat → Nat) {rh rs rr ar yr yg yf pl ps pw pa pr hp hs p0 q0 p1 q1 p2 q2 p3 q3 p4 q4 p5 q5 F C N S : Nat} {V E sd : Int32} {st : Nat → Option Nat} {w a r : Nat → Nat} {s : PSt} {gI last ag : Int32} {once af : Bool} {fr f9 : Nat → Int32} {g0 o0 z0 g1 o1 z1 g2 o2 z2 g3 o3 z3 g4 o4 z4 g5 o5 z5 : Int32} {f0 f1 f2 f3 f4 f5 : Nat → Int32} (hB : PB F C N S w a r) (hs0 : SB s.1) (hst0 : st 0 = some p0) (hst1 : st 1 = some p1) (hst2 : st 2 = some p2) (hst3 : st 3 = some p3) (hst4 : st 4 = some p4) (hst5 : st 5 = some p5) : Ct sk yX4_findAll cX4_findAll 6 none 11 0 0 [oRows rh rs rr gI last once ar ag af yr yg yf, cP rs 6 st, cI rr 6 fr, oPlan pl ps pw pa pr (nI F) (nI C) V E (nI N) (nI S), cI pw 6 (fI w), cI pa 6 (fI a), cI pr 6 (fI r), oPole p0 q0 g0 o0 z0, cI q0 30 f0, oPole p1 q1 g1 o1 z1, cI q1 30 f1, oPole p2 q2 g2 o2 z2, cI q2 30 f2, oPole p3 q3 g3 o3 z3, cI q3 30 f3, oPole p4 q4 g4 o4 z4, cI q4 30 f4, oPole p5 q5 g5 o5 z5, cI q5 30 f5, oPoleS hp hs s sd, cI hs 30 (fI s.1), cI ar 6 f9] [.ref rh, .ref pl, .ref hp] (fun q w1 => q = none ∧ ∃ (gI : Int32) (fr2 f9 : Nat → Int32) (g0 o0 z0 g1 o1 z1 g2 o2 z2 g3 o3 z3 g4 o4 z4 g5 o5 z5 : Int32) (f0 f1 f2 f3 f4 f5 : Nat → Int32), w1 = [oRows rh rs rr gI (-1) true ar (lenI (fewG F C N S w a r true (-1) s C)) true yr yg yf, cP rs 6 st, cI rr 6 fr2, oPlan pl ps pw pa pr (nI F) (nI C) V E (nI N) (nI S), cI pw 6 (fI w), cI pa 6 (fI a), cI pr 6 (fI r), oPole p0 q0 g0 o0 z0, cI q0 30 f0, oPole p1 q1 g1 o1 z1, cI q1 30 f1, oPole p2 q2 g2 o2 z2, cI q2 30 f2, oPole p3 q3 g3 o3 z3, cI q3 30 f3, oPole p4 q4 g4 o4 z4, cI q4 30 f4, oPole p5 q5 g5 o5 z5, cI q5 30 f5, oPoleS hp hs s sd, cI hs 30 (fI s.1), cI ar 6 f9] ∧ RowP (allL C (fewG F C N S w a r true (-1) s C)) f9) := by
  refine Ct.of (own := RX4) (l := [some (.ref rh), some (.ref pl), some (.ref hp), none, none, none]) (by decide) rfl (Nat.le_of_ble_eq_true rfl) rfl ?_
  refine g_aload_n dX4_findAll_0 rfl rfl ?_
  refine g_iconst (v := nI 1) dX4_findAll_1 rfl (by decide) ?_
  refine g_putZ (b := true) f_X4_60 dX4_findAll_2 rfl 0 rfl (Nat.le_of_ble_eq_true rfl) rfl ?_
  dsimp only [List.set]
  refine g_aload_n dX4_findAll_5 rfl rfl ?_
  refine g_iconst (v := -1) dX4_findAll_6 rfl (by decide) ?_
  refine g_putI f_X4_63 dX4_findAll_7 rfl 0 rfl (Nat.le_of_ble_eq_true rfl) rfl ?_
  dsimp only [List.set]
  refine g_aload_n dX4_findAll_10 rfl rfl ?_
  refine g_aload_n dX4_findAll_11 rfl rfl ?_
  refine g_aload_n dX4_findAll_12 rfl rfl ?_
  refine g_aload_n dX4_findAll_13 rfl rfl ?_
  refine g_aload_n dX4_findAll_14 rfl rfl ?_
  refine g_get f_X4_55 dX4_findAll_15 rfl 3 rfl rfl ?_
  refine g_callV (c_X4_fewestGoes sk (once := true) (last := -1) hB hs0 hB.2.1 hst0 hst1 hst2 hst3 hst4 hst5) m_X4_66 a_X4_fewestGoes dX4_findAll_18 rfl [0, 1, 2, 3, 4, 5, 6, 7, 8, 9, 10, 11, 12, 13, 14, 15, 16, 17, 18, 19, 20] rfl rfl 0 rfl rfl rfl (by decide) (by decide) (by decide) (by decide) (Nat.le_of_ble_eq_true rfl) (fun r w hK => ?_)
  obtain ⟨rfl, gI, fr2, g0, o0, z0, g1, o1, z1, g2, o2, z2, g3, o3, z3, g4, o4, z4, g5, o5, z5, f0, f1, f2, f3, f4, f5, rfl, hl2⟩ := hK
  refine ⟨rfl, ?_⟩
  dsimp only [puts, List.set, Option.toList, List.cons_append, List.nil_append, List.append_nil]
  refine g_putI f_X4_51 dX4_findAll_21 rfl 0 rfl (Nat.le_of_ble_eq_true rfl) rfl ?_
  dsimp only [List.set]
  refine g_aload_n dX4_findAll_24 rfl rfl ?_
  refine g_iconst (v := nI 1) dX4_findAll_25 rfl (by decide) ?_
  refine g_putZ (b := true) f_X4_43 dX4_findAll_26 rfl 0 rfl (Nat.le_of_ble_eq_true rfl) rfl ?_
  dsimp only [List.set]
  refine g_iconst (v := nI 0) dX4_findAll_29 rfl (by decide) ?_
  refine g_istore_n dX4_findAll_30 rfl (by decide) rfl rfl ?_
  refine g_iconst (v := nI 0) dX4_findAll_31 rfl (by decide) ?_
  refine g_istore dX4_findAll_32 rfl (by decide) rfl rfl ?_
  have hV : fewG F C N S w a r true (-1) s C = some ((fewG F C N S w a r true (-1) s C).getD []) ∨ fewG F C N S w a r true (-1) s C = none ∧ (fewG F C N S w a r true (-1) s C).getD [] = [] := by cases fewG F C N S w a r true (-1) s C with | none => exact Or.inr ⟨rfl, rfl⟩ | some l => exact Or.inl rfl
  have hl6 : ((fewG F C N S w a r true (-1) s C).getD []).length ≤ 6 := by
    rcases hV with h | h
    · have := (fewG_len h).2; have := hB.2.1; omega
    · rw [h.2]; exact Nat.zero_le _
  have hmx : (if lenI (fewG F C N S w a r true (-1) s C) < nI 0 then nI 0 else lenI (fewG F C N S w a r true (-1) s C)) = nI ((fewG F C N S w a r true (-1) s C).getD []).length := by
    rcases hV with h | h
    · rw [h]; exact if_neg (nI_nlt (Nat.zero_le _) (by have := (fewG_len h).2; have := hB.2.1; omega))
    · rw [h.1]; rfl
  generalize hl0 : (fewG F C N S w a r true (-1) s C).getD [] = l0 at hV hl6 hmx
  have hRL : allL C (fewG F C N S w a r true (-1) s C) = l0 ++ restL (usedR l0 l0.length) C 0 := by unfold allL; rw [hl0]
  rw [hRL]
  refine lp_X4_mark sk (l0 := l0) hV hl6 (fun j hj => ?_) (fun f9 hR => ?_) l0.length 0 _ (by omega) (fun j hj => absurd hj (Nat.not_lt_zero j))
  · rcases hV with h | h
    · exact hl2 _ h j hj
    · rw [h.2] at hj; exact absurd hj (Nat.not_lt_zero j)
  · skip
    refine g_aload_n dX4_findAll_95 rfl rfl ?_
    refine g_get f_X4_51 dX4_findAll_96 rfl 0 rfl rfl ?_
    refine g_iconst (v := nI 0) dX4_findAll_99 rfl (by decide) ?_
    refine g_max m_X4_9 dX4_findAll_100 rfl (by decide) (Nat.le_refl _) (Nat.le_refl _) (Nat.le_of_ble_eq_true rfl) (hmx) ?_
    refine g_istore dX4_findAll_103 rfl (by decide) rfl rfl ?_
    refine g_iconst (v := nI 0) dX4_findAll_105 rfl (by decide) ?_
    refine g_istore dX4_findAll_106 rfl (by decide) rfl rfl ?_
    exact lp_X4_rest sk (L := l0 ++ restL (usedR l0 l0.length) C 0) hB.2.1 (fun f9 hR => ⟨rfl, _, _, _, _, _, _, _, _, _, _, _, _, _, _, _, _, _, _, _, _, _, _, _, _, _, _, _, rfl, hR⟩) C 0 l0.length l0 f9 (by omega) rfl rfl hl6 hR
set_option maxRecDepth 20000 in
theorem lp_X4_ofAll (sk : Nat → Nat) {rh rs rr ar yr yg yf pl ps pw pa pr hp hs p0 q0 p1 q1 p2 q2 p3 q3 p4 q4 p5 q5 F C N S : Nat} {V E sd : Int32} {st : Nat → Option Nat} {w a r : Nat → Nat} {s : PSt} {x : Int32} {gI last : Int32} {once : Bool} {fr f9 : Nat → Int32} {g0 o0 z0 g1 o1 z1 g2 o2 z2 g3 o3 z3 g4 o4 z4 g5 o5 z5 : Int32} {f0 f1 f2 f3 f4 f5 : Nat → Int32} (hC6 : C ≤ 6) (hR : RowP (allL C (fewG F C N S w a r true (-1) s C)) f9) : GG sk RX4 yX4_ofAll cX4_ofAll 5 (some .int) 12 0 0 (fun q w1 => ∃ (gI : Int32) (once : Bool) (last : Int32) (fr2 f9 : Nat → Int32) (g0 o0 z0 g1 o1 z1 g2 o2 z2 g3 o3 z3 g4 o4 z4 g5 o5 z5 : Int32) (f0 f1 f2 f3 f4 f5 : Nat → Int32), q = some (.int (ansAll (lenI (fewG F C N S w a r true (-1) s C)) C f9 x)) ∧ w1 = [oRows rh rs rr gI last once ar (lenI (fewG F C N S w a r true (-1) s C)) true yr yg yf, cP rs 6 st, cI rr 6 fr2, oPlan pl ps pw pa pr (nI F) (nI C) V E (nI N) (nI S), cI pw 6 (fI w), cI pa 6 (fI a), cI pr 6 (fI r), oPole p0 q0 g0 o0 z0, cI q0 30 f0, oPole p1 q1 g1 o1 z1, cI q1 30 f1, oPole p2 q2 g2 o2 z2, cI q2 30 f2, oPole p3 q3 g3 o3 z3, cI q3 30 f3, oPole p4 q4 g4 o4 z4, cI q4 30 f4, oPole p5 q5 g5 o5 z5, cI q5 30 f5, oPoleS hp hs s sd, cI hs 30 (fI s.1), cI ar 6 f9] ∧ RowP (allL C (fewG F C N S w a r true (-1) s C)) f9) 0 0 13 [some (.ref rh), some (.ref pl), some (.ref hp), some (.int x), none] [] [oRows rh rs rr gI last once ar (lenI (fewG F C N S w a r true (-1) s C)) true yr yg yf, cP rs 6 st, cI rr 6 fr, oPlan pl ps pw pa pr (nI F) (nI C) V E (nI N) (nI S), cI pw 6 (fI w), cI pa 6 (fI a), cI pr 6 (fI r), oPole p0 q0 g0 o0 z0, cI q0 30 f0, oPole p1 q1 g1 o1 z1, cI q1 30 f1, oPole p2 q2 g2 o2 z2, cI q2 30 f2, oPole p3 q3 g3 o3 z3, cI q3 30 f3, oPole p4 q4 g4 o4 z4, cI q4 30 f4, oPole p5 q5 g5 o5 z5, cI q5 30 f5, oPoleS hp hs s sd, cI hs 30 (fI s.1), cI ar 6 f9] := by
  refine g_iload_n dX4_ofAll_13 rfl rfl ?_
  refine g_iconst (v := -1) dX4_ofAll_14 rfl (by decide) ?_
  refine g_icmp_eq (t := 26) dX4_ofAll_15 (by decide) rfl (fun h15 => ?_) (fun h15 => ?_)
  · skip
    refine g_aload_n dX4_ofAll_26 rfl rfl ?_
    refine g_get f_X4_51 dX4_ofAll_27 rfl 0 rfl rfl ?_
    exact g_iret dX4_ofAll_30 rfl (Nat.le_refl _) (Nat.le_refl _) (⟨_, _, _, _, _, _, _, _, _, _, _, _, _, _, _, _, _, _, _, _, _, _, _, _, _, _, _, _, _, by rw [ansAll, if_pos (Or.inl h15)], rfl, hR⟩)
  · skip
    refine g_aload_n dX4_ofAll_18 rfl rfl ?_
    refine g_get f_X4_51 dX4_ofAll_19 rfl 0 rfl rfl ?_
    refine g_iconst (v := -1) dX4_ofAll_22 rfl (by decide) ?_
    refine g_icmp_ne (t := 31) dX4_ofAll_23 (by decide) rfl (fun h23 => ?_) (fun h23 => ?_)
    · have h0 : ¬ (x = -1 ∨ lenI (fewG F C N S w a r true (-1) s C) = -1) := fun z => z.elim h15 h23
      refine g_iload_n dX4_ofAll_31 rfl rfl ?_
      refine g_bipush (v := -2) dX4_ofAll_32 rfl (by decide) ?_
      refine g_icmp_ne (t := 46) dX4_ofAll_34 (by decide) rfl (fun h34 => ?_) (fun h34 => ?_)
      · skip
        refine g_iload_n dX4_ofAll_46 rfl rfl ?_
        refine g_istore dX4_ofAll_47 rfl (by decide) rfl rfl ?_
        refine g_iload dX4_ofAll_49 rfl rfl ?_
        refine g_if_lt (t := 83) dX4_ofAll_51 (by decide) rfl (fun h51 => ?_) (fun h51 => ?_)
        · skip
          refine g_iconst (v := -1) dX4_ofAll_83 rfl (by decide) ?_
          exact g_iret dX4_ofAll_84 rfl (Nat.le_refl _) (Nat.le_refl _) (⟨_, _, _, _, _, _, _, _, _, _, _, _, _, _, _, _, _, _, _, _, _, _, _, _, _, _, _, _, _, by rw [ansAll, if_neg h0, if_neg h34, if_neg (by unfold inR; rw [decide_eq_false (fun z => z h51)]; simp)], rfl, hR⟩)
        · skip
          refine g_iload dX4_ofAll_54 rfl rfl ?_
          refine g_aload_n dX4_ofAll_56 rfl rfl ?_
          refine g_get f_X4_55 dX4_ofAll_57 rfl 3 rfl rfl ?_
          refine g_icmp_ge (t := 83) dX4_ofAll_60 (by decide) rfl (fun h60 => ?_) (fun h60 => ?_)
          · skip
            refine g_iconst (v := -1) dX4_ofAll_83 rfl (by decide) ?_
            exact g_iret dX4_ofAll_84 rfl (Nat.le_refl _) (Nat.le_refl _) (⟨_, _, _, _, _, _, _, _, _, _, _, _, _, _, _, _, _, _, _, _, _, _, _, _, _, _, _, _, _, by rw [ansAll, if_neg h0, if_neg h34, if_neg (by unfold inR; rw [decide_eq_false (fun z => Int32.not_lt.mpr h60 z), Bool.and_false]; simp)], rfl, hR⟩)
          · have hin : inR x C = true := by unfold inR; rw [decide_eq_true h51, decide_eq_true (Int32.not_le.mp h60)]; rfl
            obtain ⟨j, hj, hxj⟩ := inR_t (by omega) hin
            subst hxj
            refine g_iload dX4_ofAll_63 rfl rfl ?_
            refine g_aload_n dX4_ofAll_65 rfl rfl ?_
            refine g_get f_X4_28 dX4_ofAll_66 rfl 0 rfl rfl ?_
            refine g_alen dX4_ofAll_69 rfl 21 rfl (Nat.le_of_ble_eq_true rfl) rfl ?_
            refine g_icmp_geN (t := 83) dX4_ofAll_70 (by decide) rfl (by omega) (by omega) (fun h70 => ?_) (fun h70 => ?_)
            · exact absurd h70 (by omega)
            · skip
              refine g_aload_n dX4_ofAll_73 rfl rfl ?_
              refine g_get f_X4_28 dX4_ofAll_74 rfl 0 rfl rfl ?_
              refine g_iload dX4_ofAll_77 rfl rfl ?_
              refine g_ialdN dX4_ofAll_79 rfl 21 rfl (by omega) (by decide) (rfl) ?_
              refine g_goto (q := 84) dX4_ofAll_80 (by decide) ?_
              exact g_iret dX4_ofAll_84 rfl (Nat.le_refl _) (Nat.le_refl _) (⟨_, _, _, _, _, _, _, _, _, _, _, _, _, _, _, _, _, _, _, _, _, _, _, _, _, _, _, _, _, by rw [ansAll, if_neg h0, if_neg h34, if_pos hin, nI_clamp (by omega)], rfl, hR⟩)
      · skip
        refine g_aload_n dX4_ofAll_37 rfl rfl ?_
        refine g_get f_X4_51 dX4_ofAll_38 rfl 0 rfl rfl ?_
        refine g_iconst (v := nI 1) dX4_ofAll_41 rfl (by decide) ?_
        refine g_isub dX4_ofAll_42 rfl rfl ?_
        refine g_goto (q := 47) dX4_ofAll_43 (by decide) ?_
        refine g_istore dX4_ofAll_47 rfl (by decide) rfl rfl ?_
        refine g_iload dX4_ofAll_49 rfl rfl ?_
        refine g_if_lt (t := 83) dX4_ofAll_51 (by decide) rfl (fun h51 => ?_) (fun h51 => ?_)
        · skip
          refine g_iconst (v := -1) dX4_ofAll_83 rfl (by decide) ?_
          exact g_iret dX4_ofAll_84 rfl (Nat.le_refl _) (Nat.le_refl _) (⟨_, _, _, _, _, _, _, _, _, _, _, _, _, _, _, _, _, _, _, _, _, _, _, _, _, _, _, _, _, by rw [ansAll, if_neg h0, if_pos h34, if_neg (by unfold inR; rw [decide_eq_false (fun z => z h51)]; simp)], rfl, hR⟩)
        · skip
          refine g_iload dX4_ofAll_54 rfl rfl ?_
          refine g_aload_n dX4_ofAll_56 rfl rfl ?_
          refine g_get f_X4_55 dX4_ofAll_57 rfl 3 rfl rfl ?_
          refine g_icmp_ge (t := 83) dX4_ofAll_60 (by decide) rfl (fun h60 => ?_) (fun h60 => ?_)
          · skip
            refine g_iconst (v := -1) dX4_ofAll_83 rfl (by decide) ?_
            exact g_iret dX4_ofAll_84 rfl (Nat.le_refl _) (Nat.le_refl _) (⟨_, _, _, _, _, _, _, _, _, _, _, _, _, _, _, _, _, _, _, _, _, _, _, _, _, _, _, _, _, by rw [ansAll, if_neg h0, if_pos h34, if_neg (by unfold inR; rw [decide_eq_false (fun z => Int32.not_lt.mpr h60 z), Bool.and_false]; simp)], rfl, hR⟩)
          · have hin : inR (lenI (fewG F C N S w a r true (-1) s C) - nI 1) C = true := by unfold inR; rw [decide_eq_true h51, decide_eq_true (Int32.not_le.mp h60)]; rfl
            obtain ⟨j, hj, hxj⟩ := inR_t (by omega) hin
            rw [hxj]
            refine g_iload dX4_ofAll_63 rfl rfl ?_
            refine g_aload_n dX4_ofAll_65 rfl rfl ?_
            refine g_get f_X4_28 dX4_ofAll_66 rfl 0 rfl rfl ?_
            refine g_alen dX4_ofAll_69 rfl 21 rfl (Nat.le_of_ble_eq_true rfl) rfl ?_
            refine g_icmp_geN (t := 83) dX4_ofAll_70 (by decide) rfl (by omega) (by omega) (fun h70 => ?_) (fun h70 => ?_)
            · exact absurd h70 (by omega)
            · skip
              refine g_aload_n dX4_ofAll_73 rfl rfl ?_
              refine g_get f_X4_28 dX4_ofAll_74 rfl 0 rfl rfl ?_
              refine g_iload dX4_ofAll_77 rfl rfl ?_
              refine g_ialdN dX4_ofAll_79 rfl 21 rfl (by omega) (by decide) (rfl) ?_
              refine g_goto (q := 84) dX4_ofAll_80 (by decide) ?_
              exact g_iret dX4_ofAll_84 rfl (Nat.le_refl _) (Nat.le_refl _) (⟨_, _, _, _, _, _, _, _, _, _, _, _, _, _, _, _, _, _, _, _, _, _, _, _, _, _, _, _, _, by rw [ansAll, if_neg h0, if_pos h34, if_pos hin, hxj, nI_clamp (by omega)], rfl, hR⟩)
    · skip
      refine g_aload_n dX4_ofAll_26 rfl rfl ?_
      refine g_get f_X4_51 dX4_ofAll_27 rfl 0 rfl rfl ?_
      exact g_iret dX4_ofAll_30 rfl (Nat.le_refl _) (Nat.le_refl _) (⟨_, _, _, _, _, _, _, _, _, _, _, _, _, _, _, _, _, _, _, _, _, _, _, _, _, _, _, _, _, by rw [ansAll, if_pos (Or.inr h23)], rfl, hR⟩)
set_option maxRecDepth 20000 in
theorem c_X4_ofAll (sk : Nat → Nat) {rh rs rr ar yr yg yf pl ps pw pa pr hp hs p0 q0 p1 q1 p2 q2 p3 q3 p4 q4 p5 q5 F C N S : Nat} {V E sd : Int32} {st : Nat → Option Nat} {w a r : Nat → Nat} {s : PSt} {x : Int32} {gI last ag : Int32} {once af : Bool} {fr f9 : Nat → Int32} {g0 o0 z0 g1 o1 z1 g2 o2 z2 g3 o3 z3 g4 o4 z4 g5 o5 z5 : Int32} {f0 f1 f2 f3 f4 f5 : Nat → Int32} (hB : PB F C N S w a r) (hs0 : SB s.1) (hfo : af = true → ag = (lenI (fewG F C N S w a r true (-1) s C)) ∧ RowP (allL C (fewG F C N S w a r true (-1) s C)) f9) (hst0 : st 0 = some p0) (hst1 : st 1 = some p1) (hst2 : st 2 = some p2) (hst3 : st 3 = some p3) (hst4 : st 4 = some p4) (hst5 : st 5 = some p5) : Ct sk yX4_ofAll cX4_ofAll 5 (some .int) 12 0 0 [oRows rh rs rr gI last once ar ag af yr yg yf, cP rs 6 st, cI rr 6 fr, oPlan pl ps pw pa pr (nI F) (nI C) V E (nI N) (nI S), cI pw 6 (fI w), cI pa 6 (fI a), cI pr 6 (fI r), oPole p0 q0 g0 o0 z0, cI q0 30 f0, oPole p1 q1 g1 o1 z1, cI q1 30 f1, oPole p2 q2 g2 o2 z2, cI q2 30 f2, oPole p3 q3 g3 o3 z3, cI q3 30 f3, oPole p4 q4 g4 o4 z4, cI q4 30 f4, oPole p5 q5 g5 o5 z5, cI q5 30 f5, oPoleS hp hs s sd, cI hs 30 (fI s.1), cI ar 6 f9] [.ref rh, .ref pl, .ref hp, .int x] (fun q w1 => ∃ (gI : Int32) (once : Bool) (last : Int32) (fr2 f9 : Nat → Int32) (g0 o0 z0 g1 o1 z1 g2 o2 z2 g3 o3 z3 g4 o4 z4 g5 o5 z5 : Int32) (f0 f1 f2 f3 f4 f5 : Nat → Int32), q = some (.int (ansAll (lenI (fewG F C N S w a r true (-1) s C)) C f9 x)) ∧ w1 = [oRows rh rs rr gI last once ar (lenI (fewG F C N S w a r true (-1) s C)) true yr yg yf, cP rs 6 st, cI rr 6 fr2, oPlan pl ps pw pa pr (nI F) (nI C) V E (nI N) (nI S), cI pw 6 (fI w), cI pa 6 (fI a), cI pr 6 (fI r), oPole p0 q0 g0 o0 z0, cI q0 30 f0, oPole p1 q1 g1 o1 z1, cI q1 30 f1, oPole p2 q2 g2 o2 z2, cI q2 30 f2, oPole p3 q3 g3 o3 z3, cI q3 30 f3, oPole p4 q4 g4 o4 z4, cI q4 30 f4, oPole p5 q5 g5 o5 z5, cI q5 30 f5, oPoleS hp hs s sd, cI hs 30 (fI s.1), cI ar 6 f9] ∧ RowP (allL C (fewG F C N S w a r true (-1) s C)) f9) := by
  refine Ct.of (own := RX4) (l := [some (.ref rh), some (.ref pl), some (.ref hp), some (.int x), none]) (by decide) rfl (Nat.le_of_ble_eq_true rfl) rfl ?_
  refine g_aload_n dX4_ofAll_0 rfl rfl ?_
  refine g_get f_X4_43 dX4_ofAll_1 rfl 0 rfl rfl ?_
  refine g_if_neB (t := 13) dX4_ofAll_4 (by decide) rfl (fun h4 => ?_) (fun h4 => ?_)
  · subst h4
    obtain ⟨rfl, hR⟩ := hfo rfl
    exact lp_X4_ofAll sk hB.2.1 hR
  · subst h4
    refine g_aload_n dX4_ofAll_7 rfl rfl ?_
    refine g_aload_n dX4_ofAll_8 rfl rfl ?_
    refine g_aload_n dX4_ofAll_9 rfl rfl ?_
    refine g_callV (c_X4_findAll sk hB hs0 hst0 hst1 hst2 hst3 hst4 hst5) m_X4_47 a_X4_findAll dX4_ofAll_10 rfl [0, 1, 2, 3, 4, 5, 6, 7, 8, 9, 10, 11, 12, 13, 14, 15, 16, 17, 18, 19, 20, 21] rfl rfl 0 rfl rfl rfl (by decide) (by decide) (by decide) (by decide) (Nat.le_of_ble_eq_true rfl) (fun r w hK => ?_)
    obtain ⟨rfl, gI, fr2, f9, g0, o0, z0, g1, o1, z1, g2, o2, z2, g3, o3, z3, g4, o4, z4, g5, o5, z5, f0, f1, f2, f3, f4, f5, rfl, hR⟩ := hK
    refine ⟨rfl, ?_⟩
    dsimp only [puts, List.set, Option.toList, List.cons_append, List.nil_append, List.append_nil]
    exact lp_X4_ofAll sk hB.2.1 hR
/-- none found below i -/
def ffS (i : Nat) (f : Nat → Int32) : Nat → Int32 := fun j => if j < i then zb false else f j
theorem ffS_up (i : Nat) (f : Nat → Int32) : upd (ffS i f) i (zb false) = ffS (i + 1) f := by
  funext j
  unfold upd ffS
  by_cases h : j = i
  · subst h; simp
  · by_cases h2 : j < i
    · simp [h, h2, show j < i + 1 by omega]
    · simp [h, h2, show ¬ j < i + 1 by omega]
set_option maxRecDepth 20000 in
theorem lp_X4_forget (sk : Nat → Nat) {rh rs rr ar yr yg yf : Nat} {gI last ag : Int32} {once af : Bool} {ff : Nat → Int32} {Ψ : PS} (hΨ : Ψ none [oRows rh rs rr gI last once ar ag false yr yg yf, cZ yf 6 (fun _ => zb false)]) : ∀ (n i : Nat), i + n = 6 → GG sk RX4 yX4_forget cX4_forget 2 none 0 0 0 Ψ 0 0 7 [some (.ref rh), some (.int (nI i))] [] [oRows rh rs rr gI last once ar ag false yr yg yf, cZ yf 6 (ffS i ff)] := by
  intro n
  induction n with
  | zero =>
    intro i hi
    refine g_iload_n dX4_forget_7 rfl rfl ?_
    refine g_aload_n dX4_forget_8 rfl rfl ?_
    refine g_get f_X4_39 dX4_forget_9 rfl 0 rfl rfl ?_
    refine g_alen dX4_forget_12 rfl 1 rfl (Nat.le_of_ble_eq_true rfl) rfl ?_
    refine g_icmp_geN (t := 29) dX4_forget_13 (by decide) rfl (by omega) (by omega) (fun h13 => ?_) (fun h13 => ?_)
    · skip
      refine g_cong (g := fun _ => zb false) 1 rfl (fun j hj => if_pos (by omega)) rfl ?_
      exact g_vret dX4_forget_29 rfl (Nat.le_refl _) (Nat.le_refl _) hΨ
    · exact absurd h13 (by omega)
  | succ n ih =>
    intro i hi
    refine g_iload_n dX4_forget_7 rfl rfl ?_
    refine g_aload_n dX4_forget_8 rfl rfl ?_
    refine g_get f_X4_39 dX4_forget_9 rfl 0 rfl rfl ?_
    refine g_alen dX4_forget_12 rfl 1 rfl (Nat.le_of_ble_eq_true rfl) rfl ?_
    refine g_icmp_geN (t := 29) dX4_forget_13 (by decide) rfl (by omega) (by omega) (fun h13 => ?_) (fun h13 => ?_)
    · exact absurd h13 (by omega)
    · skip
      refine g_aload_n dX4_forget_16 rfl rfl ?_
      refine g_get f_X4_39 dX4_forget_17 rfl 0 rfl rfl ?_
      refine g_iload_n dX4_forget_20 rfl rfl ?_
      refine g_iconst (v := nI 0) dX4_forget_21 rfl (by decide) ?_
      refine g_zastN (b := false) dX4_forget_22 rfl 1 rfl (by omega) (by decide) (ffS_up i ff) rfl ?_
      refine g_iinc dX4_forget_23 rfl rfl (nI_1 _) (by decide) rfl rfl ?_
      refine g_goto (q := 7) dX4_forget_26 (by decide) ?_
      exact ih (i + 1) (by omega)
set_option maxRecDepth 20000 in
theorem c_X4_forget (sk : Nat → Nat) {rh rs rr ar yr yg yf : Nat} {gI last ag : Int32} {once af : Bool} {ff : Nat → Int32}  : Ct sk yX4_forget cX4_forget 2 none 0 0 0 [oRows rh rs rr gI last once ar ag af yr yg yf, cZ yf 6 ff] [.ref rh] (zD none [oRows rh rs rr gI last once ar ag false yr yg yf, cZ yf 6 (fun _ => zb false)]) := by
  refine Ct.of (own := RX4) (l := [some (.ref rh), none]) (by decide) rfl (Nat.le_of_ble_eq_true rfl) rfl ?_
  refine g_aload_n dX4_forget_0 rfl rfl ?_
  refine g_iconst (v := nI 0) dX4_forget_1 rfl (by decide) ?_
  refine g_putZ (b := false) f_X4_43 dX4_forget_2 rfl 0 rfl (Nat.le_of_ble_eq_true rfl) rfl ?_
  dsimp only [List.set]
  refine g_iconst (v := nI 0) dX4_forget_5 rfl (by decide) ?_
  refine g_istore_n dX4_forget_6 rfl (by decide) rfl rfl ?_
  have h0 := lp_X4_forget sk (rh := rh) (rs := rs) (rr := rr) (ar := ar) (yr := yr) (yg := yg) (yf := yf) (gI := gI) (last := last) (ag := ag) (once := once) (af := af) (ff := ff) (Ψ := zD none [oRows rh rs rr gI last once ar ag false yr yg yf, cZ yf 6 (fun _ => zb false)]) ⟨rfl, rfl⟩ 6 0 (by omega)
  rw [show ffS 0 ff = ff from funext (fun j => if_neg (Nat.not_lt_zero j))] at h0
  exact h0
