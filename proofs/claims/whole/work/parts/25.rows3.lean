/-! FOR ONE: the answer for a climber -/
section ALDA
variable {sk : Nat → Nat} {own : String} {y : MethodName} {cc : ByteArray} {nL : Nat} {rt : Option FieldType} {d mc ms : Nat} {Ψ : PS} {k n pc q : Nat} {l : LV} {st : List Value} {ws : AW}
theorem g_aldA {a nn j r : Nat} {f : Nat → Option Nat} (hd : decode cc pc = .ok (.aaload, 1)) (hq : pc + 1 = q) (q0 : Nat) (he : ws[q0]? = some (a, .inl (4, nn, .inr (.inr (.inr (.inr f)))))) (hj : j < nn) (hn : nn < 2 ^ 31) (hv : f j = some r) (kk : GG sk own y cc nL rt d mc ms Ψ k n q l (.ref r :: st) ws) : GG sk own y cc nL rt d mc ms Ψ k n pc l (.int (nI j) :: .ref a :: st) ws := by
  subst hq
  intro p la e s m args below meth c G ca A H locs ls C hl hP hD hS
  have hK := C.2.2.2.2.2.2.2.2.1
  have hcl : (nI j).toNatClampNeg = j := nI_clamp (by omega)
  refine W.aald (v := va_rf (f j)) (ty := .array .int) C.1 C.2.1 (hP q0 _ (zW_get ca he)) ((hK.2 4 _ rfl).1 nn (fun j => va_rf (f j))) rfl (fun q => by cases q) (by show ¬ (nI j < 0 ∨ (arrV _ _ _).slots.size ≤ _); rw [arrV_size]; exact vp_in_nI hj hn) (by show (arrV _ _ _).slots[_]? = _; rw [hcl, arrV_read _ _ hj]) rfl rfl hd ?_
  rw [hv]
  exact kk p la e s m args below meth c G ca A H locs ls C hl hP hD hS
end ALDA
theorem one_ge {v : Option (List Nat)} {x : Int32} (hv : ∀ l, v = some l → l.length ≤ 6) (h : lenI v ≤ x) : ¬ inR x (v.getD []).length = true := by
  intro z
  cases v with
  | none =>
    obtain ⟨j, hj, -⟩ := inR_t (by decide) z
    exact absurd hj (Nat.not_lt_zero j)
  | some l =>
    have hl := hv l rfl
    obtain ⟨j, hj, rfl⟩ := inR_t (show l.length < 2 ^ 31 by omega) z
    exact nI_ge hj (by omega) h
theorem one_lt {v : Option (List Nat)} {x : Int32} (hv : ∀ l, v = some l → l.length ≤ 6) (h : ¬ lenI v ≤ x) (h0 : ¬ x < 0) : ∃ j, j < (v.getD []).length ∧ j < 6 ∧ x = nI j := by
  cases v with
  | none =>
    have h1 := Int32.not_lt.mp h0
    have h2 : (-1 : Int32) < 0 := by decide
    exact absurd (Int32.le_of_lt (Int32.lt_of_lt_of_le h2 h1)) h
  | some l =>
    have hl := hv l rfl
    have hin : inR x l.length = true := by
      unfold inR
      rw [decide_eq_true h0, decide_eq_true (show x < nI l.length from Int32.not_le.mp h)]
      rfl
    obtain ⟨j, hj, e⟩ := inR_t (by omega) hin
    exact ⟨j, hj, by omega, e⟩
theorem row_get {v : Option (List Nat)} {f : Nat → Int32} (h : ∀ l : List Nat, v = some l → ∀ j, j < l.length → f j = nI (l.getD j 0)) : ∀ j, j < (v.getD []).length → f j = nI ((v.getD []).getD j 0) := fun j hj => by
  cases v with
  | none => exact absurd hj (Nat.not_lt_zero j)
  | some l => exact h l rfl j hj
theorem one_31 {v : Option (List Nat)} (hv : ∀ l, v = some l → l.length ≤ 6) : (v.getD []).length < 2 ^ 31 := by
  cases v with
  | none => decide
  | some l =>
    have := hv l rfl
    show l.length < 2 ^ 31
    omega
set_option maxRecDepth 20000 in
theorem lp_X4_ofOne (sk : Nat → Nat) {rh rs rr ar yr yg yf qc c pl ps pw pa pr hp hs p0 q0 p1 q1 p2 q2 p3 q3 p4 q4 p5 q5 F C N S : Nat} {V E sd ag : Int32} {af : Bool} {st : Nat → Option Nat} {w a r : Nat → Nat} {s : PSt} {x : Int32} {fa : Nat → Option Nat} {gI last : Int32} {once : Bool} {fr fg ff fq : Nat → Int32} {g0 o0 z0 g1 o1 z1 g2 o2 z2 g3 o3 z3 g4 o4 z4 g5 o5 z5 : Int32} {f0 f1 f2 f3 f4 f5 : Nat → Int32} (hc6 : c < 6) (hqc : fa c = some qc) (hQ : (∀ j, j < ((fewG F C N S w a r false (nI c) s 6).getD []).length → fq j = nI (((fewG F C N S w a r false (nI c) s 6).getD []).getD j 0))) : GG sk RX4 yX4_ofOne cX4_ofOne 5 (some .int) 12 0 0 (fun q w1 => q = some (.int (ansOne (fewG F C N S w a r false (nI c) s 6) x)) ∧ ∃ (gI last : Int32) (once : Bool) (fr2 fq : Nat → Int32) (g0 o0 z0 g1 o1 z1 g2 o2 z2 g3 o3 z3 g4 o4 z4 g5 o5 z5 : Int32) (f0 f1 f2 f3 f4 f5 : Nat → Int32), w1 = [oRows rh rs rr gI last once ar ag af yr yg yf, cP rs 6 st, cI rr 6 fr2, oPlan pl ps pw pa pr (nI F) (nI C) V E (nI N) (nI S), cI pw 6 (fI w), cI pa 6 (fI a), cI pr 6 (fI r), oPole p0 q0 g0 o0 z0, cI q0 30 f0, oPole p1 q1 g1 o1 z1, cI q1 30 f1, oPole p2 q2 g2 o2 z2, cI q2 30 f2, oPole p3 q3 g3 o3 z3, cI q3 30 f3, oPole p4 q4 g4 o4 z4, cI q4 30 f4, oPole p5 q5 g5 o5 z5, cI q5 30 f5, oPoleS hp hs s sd, cI hs 30 (fI s.1), cA yr 6 fa, cI yg 6 (upd fg c (lenI (fewG F C N S w a r false (nI c) s 6))), cZ yf 6 (upd ff c (zb true)), cI qc 6 fq] ∧ (∀ j, j < ((fewG F C N S w a r false (nI c) s 6).getD []).length → fq j = nI (((fewG F C N S w a r false (nI c) s 6).getD []).getD j 0))) 0 0 86 [some (.ref rh), some (.ref pl), some (.ref hp), some (.int (nI c)), some (.int x)] [] [oRows rh rs rr gI last once ar ag af yr yg yf, cP rs 6 st, cI rr 6 fr, oPlan pl ps pw pa pr (nI F) (nI C) V E (nI N) (nI S), cI pw 6 (fI w), cI pa 6 (fI a), cI pr 6 (fI r), oPole p0 q0 g0 o0 z0, cI q0 30 f0, oPole p1 q1 g1 o1 z1, cI q1 30 f1, oPole p2 q2 g2 o2 z2, cI q2 30 f2, oPole p3 q3 g3 o3 z3, cI q3 30 f3, oPole p4 q4 g4 o4 z4, cI q4 30 f4, oPole p5 q5 g5 o5 z5, cI q5 30 f5, oPoleS hp hs s sd, cI hs 30 (fI s.1), cA yr 6 fa, cI yg 6 (upd fg c (lenI (fewG F C N S w a r false (nI c) s 6))), cZ yf 6 (upd ff c (zb true)), cI qc 6 fq] := by
  have hV : ∀ l, fewG F C N S w a r false (nI c) s 6 = some l → l.length ≤ 6 := fun l h => (fewG_len h).2
  refine g_iload dX4_ofOne_86 rfl rfl ?_
  refine g_iconst (v := -1) dX4_ofOne_88 rfl (by decide) ?_
  refine g_icmp_ne (t := 99) dX4_ofOne_89 (by decide) rfl (fun h89 => ?_) (fun h89 => ?_)
  · skip
    refine g_iload dX4_ofOne_99 rfl rfl ?_
    refine g_if_lt (t := 139) dX4_ofOne_101 (by decide) rfl (fun h101 => ?_) (fun h101 => ?_)
    · skip
      refine g_iconst (v := -1) dX4_ofOne_139 rfl (by decide) ?_
      exact g_iret dX4_ofOne_140 rfl (Nat.le_refl _) (Nat.le_refl _) (⟨by rw [ansOne, if_neg h89, if_neg (fun z => by unfold inR at z; rw [decide_eq_false (fun y => y h101)] at z; cases z)], _, _, _, _, _, _, _, _, _, _, _, _, _, _, _, _, _, _, _, _, _, _, _, _, _, _, _, _, _, rfl, hQ⟩)
    · skip
      refine g_iload dX4_ofOne_104 rfl rfl ?_
      refine g_aload_n dX4_ofOne_106 rfl rfl ?_
      refine g_get f_X4_36 dX4_ofOne_107 rfl 0 rfl rfl ?_
      refine g_iload_n dX4_ofOne_110 rfl rfl ?_
      refine g_ialdN (v := lenI (fewG F C N S w a r false (nI c) s 6)) dX4_ofOne_111 rfl 22 rfl (by omega) (by decide) (if_pos rfl) ?_
      refine g_icmp_ge (t := 139) dX4_ofOne_112 (by decide) rfl (fun h112 => ?_) (fun h112 => ?_)
      · skip
        refine g_iconst (v := -1) dX4_ofOne_139 rfl (by decide) ?_
        exact g_iret dX4_ofOne_140 rfl (Nat.le_refl _) (Nat.le_refl _) (⟨by rw [ansOne, if_neg h89, if_neg (fun z => one_ge hV h112 z)], _, _, _, _, _, _, _, _, _, _, _, _, _, _, _, _, _, _, _, _, _, _, _, _, _, _, _, _, _, rfl, hQ⟩)
      · obtain ⟨j, hj, hj6, rfl⟩ := one_lt hV h112 h101
        have hL31 := one_31 hV
        refine g_iload dX4_ofOne_115 rfl rfl ?_
        refine g_aload_n dX4_ofOne_117 rfl rfl ?_
        refine g_get f_X4_33 dX4_ofOne_118 rfl 0 rfl rfl ?_
        refine g_iload_n dX4_ofOne_121 rfl rfl ?_
        refine g_aldA dX4_ofOne_122 rfl 21 rfl (by omega) (by decide) (hqc) ?_
        refine g_alen dX4_ofOne_123 rfl 24 rfl (Nat.le_of_ble_eq_true rfl) rfl ?_
        refine g_icmp_geN (t := 139) dX4_ofOne_124 (by decide) rfl (by omega) (by omega) (fun h124 => ?_) (fun h124 => ?_)
        · exact absurd h124 (by omega)
        · skip
          refine g_aload_n dX4_ofOne_127 rfl rfl ?_
          refine g_get f_X4_33 dX4_ofOne_128 rfl 0 rfl rfl ?_
          refine g_iload_n dX4_ofOne_131 rfl rfl ?_
          refine g_aldA dX4_ofOne_132 rfl 21 rfl (by omega) (by decide) (hqc) ?_
          refine g_iload dX4_ofOne_133 rfl rfl ?_
          refine g_ialdN (v := nI (((fewG F C N S w a r false (nI c) s 6).getD []).getD j 0)) dX4_ofOne_135 rfl 24 rfl (by omega) (by decide) (hQ j hj) ?_
          refine g_goto (q := 140) dX4_ofOne_136 (by decide) ?_
          exact g_iret dX4_ofOne_140 rfl (Nat.le_refl _) (Nat.le_refl _) (⟨by rw [ansOne, if_neg h89, if_pos (inR_N hj hL31), nI_clamp (by omega)], _, _, _, _, _, _, _, _, _, _, _, _, _, _, _, _, _, _, _, _, _, _, _, _, _, _, _, _, _, rfl, hQ⟩)
  · skip
    refine g_aload_n dX4_ofOne_92 rfl rfl ?_
    refine g_get f_X4_36 dX4_ofOne_93 rfl 0 rfl rfl ?_
    refine g_iload_n dX4_ofOne_96 rfl rfl ?_
    refine g_ialdN (v := lenI (fewG F C N S w a r false (nI c) s 6)) dX4_ofOne_97 rfl 22 rfl (by omega) (by decide) (if_pos rfl) ?_
    exact g_iret dX4_ofOne_98 rfl (Nat.le_refl _) (Nat.le_refl _) (⟨by rw [ansOne, if_pos h89], _, _, _, _, _, _, _, _, _, _, _, _, _, _, _, _, _, _, _, _, _, _, _, _, _, _, _, _, _, rfl, hQ⟩)
set_option maxRecDepth 20000 in
theorem c_X4_ofOne (sk : Nat → Nat) {rh rs rr ar yr yg yf qc c pl ps pw pa pr hp hs p0 q0 p1 q1 p2 q2 p3 q3 p4 q4 p5 q5 F C N S : Nat} {V E sd ag : Int32} {af : Bool} {st : Nat → Option Nat} {w a r : Nat → Nat} {s : PSt} {x : Int32} {fa : Nat → Option Nat} {gI last : Int32} {once b : Bool} {fr fg ff fq : Nat → Int32} {g0 o0 z0 g1 o1 z1 g2 o2 z2 g3 o3 z3 g4 o4 z4 g5 o5 z5 : Int32} {f0 f1 f2 f3 f4 f5 : Nat → Int32} (hB : PB F C N S w a r) (hs0 : SB s.1) (hc6 : c < 6) (hqc : fa c = some qc) (hff : ff c = zb b) (hfo : b = true → fg c = lenI (fewG F C N S w a r false (nI c) s 6) ∧ (∀ j, j < ((fewG F C N S w a r false (nI c) s 6).getD []).length → fq j = nI (((fewG F C N S w a r false (nI c) s 6).getD []).getD j 0))) (hst0 : st 0 = some p0) (hst1 : st 1 = some p1) (hst2 : st 2 = some p2) (hst3 : st 3 = some p3) (hst4 : st 4 = some p4) (hst5 : st 5 = some p5) : Ct sk yX4_ofOne cX4_ofOne 5 (some .int) 12 0 0 [oRows rh rs rr gI last once ar ag af yr yg yf, cP rs 6 st, cI rr 6 fr, oPlan pl ps pw pa pr (nI F) (nI C) V E (nI N) (nI S), cI pw 6 (fI w), cI pa 6 (fI a), cI pr 6 (fI r), oPole p0 q0 g0 o0 z0, cI q0 30 f0, oPole p1 q1 g1 o1 z1, cI q1 30 f1, oPole p2 q2 g2 o2 z2, cI q2 30 f2, oPole p3 q3 g3 o3 z3, cI q3 30 f3, oPole p4 q4 g4 o4 z4, cI q4 30 f4, oPole p5 q5 g5 o5 z5, cI q5 30 f5, oPoleS hp hs s sd, cI hs 30 (fI s.1), cA yr 6 fa, cI yg 6 fg, cZ yf 6 ff, cI qc 6 fq] [.ref rh, .ref pl, .ref hp, .int (nI c), .int x] (fun q w1 => q = some (.int (ansOne (fewG F C N S w a r false (nI c) s 6) x)) ∧ ∃ (gI last : Int32) (once : Bool) (fr2 fq : Nat → Int32) (g0 o0 z0 g1 o1 z1 g2 o2 z2 g3 o3 z3 g4 o4 z4 g5 o5 z5 : Int32) (f0 f1 f2 f3 f4 f5 : Nat → Int32), w1 = [oRows rh rs rr gI last once ar ag af yr yg yf, cP rs 6 st, cI rr 6 fr2, oPlan pl ps pw pa pr (nI F) (nI C) V E (nI N) (nI S), cI pw 6 (fI w), cI pa 6 (fI a), cI pr 6 (fI r), oPole p0 q0 g0 o0 z0, cI q0 30 f0, oPole p1 q1 g1 o1 z1, cI q1 30 f1, oPole p2 q2 g2 o2 z2, cI q2 30 f2, oPole p3 q3 g3 o3 z3, cI q3 30 f3, oPole p4 q4 g4 o4 z4, cI q4 30 f4, oPole p5 q5 g5 o5 z5, cI q5 30 f5, oPoleS hp hs s sd, cI hs 30 (fI s.1), cA yr 6 fa, cI yg 6 (upd fg c (lenI (fewG F C N S w a r false (nI c) s 6))), cZ yf 6 (upd ff c (zb true)), cI qc 6 fq] ∧ (∀ j, j < ((fewG F C N S w a r false (nI c) s 6).getD []).length → fq j = nI (((fewG F C N S w a r false (nI c) s 6).getD []).getD j 0))) := by
  refine Ct.of (own := RX4) (l := [some (.ref rh), some (.ref pl), some (.ref hp), some (.int (nI c)), some (.int x)]) (by decide) rfl (Nat.le_of_ble_eq_true rfl) rfl ?_
  refine g_iload_n dX4_ofOne_0 rfl rfl ?_
  refine g_if_lt (t := 31) dX4_ofOne_1 (by decide) rfl (fun h1 => ?_) (fun h1 => ?_)
  · exact absurd h1 (nI_nlt0 (by omega))
  · skip
    refine g_iload_n dX4_ofOne_4 rfl rfl ?_
    refine g_aload_n dX4_ofOne_5 rfl rfl ?_
    refine g_get f_X4_39 dX4_ofOne_6 rfl 0 rfl rfl ?_
    refine g_alen dX4_ofOne_9 rfl 23 rfl (Nat.le_of_ble_eq_true rfl) rfl ?_
    refine g_icmp_geN (t := 31) dX4_ofOne_10 (by decide) rfl (by omega) (by omega) (fun h10 => ?_) (fun h10 => ?_)
    · exact absurd h10 (by omega)
    · skip
      refine g_iload_n dX4_ofOne_13 rfl rfl ?_
      refine g_aload_n dX4_ofOne_14 rfl rfl ?_
      refine g_get f_X4_36 dX4_ofOne_15 rfl 0 rfl rfl ?_
      refine g_alen dX4_ofOne_18 rfl 22 rfl (Nat.le_of_ble_eq_true rfl) rfl ?_
      refine g_icmp_geN (t := 31) dX4_ofOne_19 (by decide) rfl (by omega) (by omega) (fun h19 => ?_) (fun h19 => ?_)
      · exact absurd h19 (by omega)
      · skip
        refine g_iload_n dX4_ofOne_22 rfl rfl ?_
        refine g_aload_n dX4_ofOne_23 rfl rfl ?_
        refine g_get f_X4_33 dX4_ofOne_24 rfl 0 rfl rfl ?_
        refine g_alen dX4_ofOne_27 rfl 21 rfl (Nat.le_of_ble_eq_true rfl) rfl ?_
        refine g_icmp_ltN (t := 33) dX4_ofOne_28 (by decide) rfl (by omega) (by omega) (fun h28 => ?_) (fun h28 => ?_)
        · skip
          refine g_aload_n dX4_ofOne_33 rfl rfl ?_
          refine g_get f_X4_39 dX4_ofOne_34 rfl 0 rfl rfl ?_
          refine g_iload_n dX4_ofOne_37 rfl rfl ?_
          refine g_zaldN (v := zb b) dX4_ofOne_38 rfl 23 rfl (by omega) (by decide) (hff) ?_
          refine g_if_neB (t := 86) dX4_ofOne_39 (by decide) rfl (fun h39 => ?_) (fun h39 => ?_)
          · obtain ⟨hg, hQ⟩ := hfo h39
            have e1 : upd fg c (lenI (fewG F C N S w a r false (nI c) s 6)) = fg := upd_eq hg
            have e2 : upd ff c (zb true) = ff := upd_eq (by rw [hff, h39])
            have h0 := lp_X4_ofOne sk (rh := rh) (rs := rs) (rr := rr) (ar := ar) (yr := yr) (yg := yg) (yf := yf) (pl := pl) (ps := ps) (pw := pw) (pa := pa) (pr := pr) (hp := hp) (hs := hs) (st := st) (V := V) (E := E) (ag := ag) (af := af) (sd := sd) (x := x) (gI := gI) (last := last) (once := once) (fr := fr) (ff := ff) (fg := fg) (p0 := p0) (q0 := q0) (p1 := p1) (q1 := q1) (p2 := p2) (q2 := q2) (p3 := p3) (q3 := q3) (p4 := p4) (q4 := q4) (p5 := p5) (q5 := q5) (g0 := g0) (o0 := o0) (z0 := z0) (f0 := f0) (g1 := g1) (o1 := o1) (z1 := z1) (f1 := f1) (g2 := g2) (o2 := o2) (z2 := z2) (f2 := f2) (g3 := g3) (o3 := o3) (z3 := z3) (f3 := f3) (g4 := g4) (o4 := o4) (z4 := z4) (f4 := f4) (g5 := g5) (o5 := o5) (z5 := z5) (f5 := f5) hc6 hqc hQ
            rw [e1, e2] at h0 ⊢
            exact h0
          · skip
            refine g_aload_n dX4_ofOne_42 rfl rfl ?_
            refine g_iconst (v := nI 0) dX4_ofOne_43 rfl (by decide) ?_
            refine g_putZ (b := false) f_X4_60 dX4_ofOne_44 rfl 0 rfl (Nat.le_of_ble_eq_true rfl) rfl ?_
            dsimp only [List.set]
            refine g_aload_n dX4_ofOne_47 rfl rfl ?_
            refine g_iload_n dX4_ofOne_48 rfl rfl ?_
            refine g_putI f_X4_63 dX4_ofOne_49 rfl 0 rfl (Nat.le_of_ble_eq_true rfl) rfl ?_
            dsimp only [List.set]
            refine g_aload_n dX4_ofOne_52 rfl rfl ?_
            refine g_get f_X4_36 dX4_ofOne_53 rfl 0 rfl rfl ?_
            refine g_iload_n dX4_ofOne_56 rfl rfl ?_
            refine g_aload_n dX4_ofOne_57 rfl rfl ?_
            refine g_aload_n dX4_ofOne_58 rfl rfl ?_
            refine g_aload_n dX4_ofOne_59 rfl rfl ?_
            refine g_bipush (v := nI 6) dX4_ofOne_60 rfl (by decide) ?_
            refine g_callV (c_X4_fewestGoes sk (once := false) (last := nI c) hB hs0 (by decide) hst0 hst1 hst2 hst3 hst4 hst5) m_X4_66 a_X4_fewestGoes dX4_ofOne_62 rfl [0, 1, 2, 3, 4, 5, 6, 7, 8, 9, 10, 11, 12, 13, 14, 15, 16, 17, 18, 19, 20] rfl rfl 0 rfl rfl rfl (by decide) (by decide) (by decide) (by decide) (Nat.le_of_ble_eq_true rfl) (fun r w hK => ?_)
            obtain ⟨rfl, gI, fr2, g0, o0, z0, g1, o1, z1, g2, o2, z2, g3, o3, z3, g4, o4, z4, g5, o5, z5, f0, f1, f2, f3, f4, f5, rfl, hl2⟩ := hK
            have hQ2 := row_get hl2
            refine ⟨rfl, ?_⟩
            dsimp only [puts, List.set, Option.toList, List.cons_append, List.nil_append, List.append_nil]
            refine g_iastN dX4_ofOne_65 rfl 22 rfl (by omega) (by decide) (rfl) rfl ?_
            refine g_aload_n dX4_ofOne_66 rfl rfl ?_
            refine g_get f_X4_39 dX4_ofOne_67 rfl 0 rfl rfl ?_
            refine g_iload_n dX4_ofOne_70 rfl rfl ?_
            refine g_iconst (v := nI 1) dX4_ofOne_71 rfl (by decide) ?_
            refine g_zastN (b := true) dX4_ofOne_72 rfl 23 rfl (by omega) (by decide) (rfl) rfl ?_
            refine g_aload_n dX4_ofOne_73 rfl rfl ?_
            refine g_get f_X4_24 dX4_ofOne_74 rfl 0 rfl rfl ?_
            refine g_aload_n dX4_ofOne_77 rfl rfl ?_
            refine g_get f_X4_33 dX4_ofOne_78 rfl 0 rfl rfl ?_
            refine g_iload_n dX4_ofOne_81 rfl rfl ?_
            refine g_aldA dX4_ofOne_82 rfl 21 rfl (by omega) (by decide) (hqc) ?_
            refine g_callN (c_X6_copyRow sk (by decide)) m_X4_70 a_X6_copyRow dX4_ofOne_83 rfl [2, 24] rfl rfl rfl rfl (by decide) (by decide) (by decide) (by decide) (Nat.le_of_ble_eq_true rfl) (fun r w hK => ?_)
            obtain ⟨rfl, rfl⟩ := hK
            refine ⟨rfl, ?_⟩
            dsimp only [puts, List.set, Option.toList, List.cons_append, List.nil_append, List.append_nil]
            exact lp_X4_ofOne sk hc6 hqc (by assumption)
        · exact absurd h28 (by omega)
