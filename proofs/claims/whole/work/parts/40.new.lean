/-! making: objects, arrays, arrays of references -/
section NEW
variable {sk : Nat → Nat} {own : String} {y : MethodName} {cc : ByteArray} {nL : Nat} {rt : Option FieldType} {d mc ms : Nat} {Ψ : PS} {k n pc q : Nat} {l : LV} {st : List Value} {ws : AW}
theorem zRA_eq {U : State} {ty : FieldType} {c1 c2 : ClassId} (h1 : va_RA U c1 ty) (h2 : va_RA U c2 ty) : c1 = c2 := by
  cases ty with
  | object C =>
    obtain ⟨_, _, _, _, _, e1⟩ := h1
    obtain ⟨_, _, _, _, _, e2⟩ := h2
    exact Option.some.inj (e1.symm.trans e2)
  | _ =>
    have e1 := h1.symm.trans h2
    exact Option.some.inj e1
theorem zCa {G : va_G} {ca : Nat → ClassId} {U : State} {t : Nat} {cA : ClassId} {ty : FieldType} (ht : (zTys ca)[t]? = some (ca t, ty)) (hK : va_K G vwCl (zTys ca ++ [(cA, ty)]) U) : cA = ca t := by
  have hl : t < (zTys ca).length := (List.getElem?_eq_some_iff.mp ht).1
  have h1 := hK.2 t (ca t, ty) (by rw [List.getElem?_append_left hl]; exact ht)
  have h2 := hK.2 (zTys ca).length (cA, ty) (by rw [List.getElem?_append_right (Nat.le_refl _), Nat.sub_self]; rfl)
  exact zRA_eq h2.2 h1.2
/-- new T[n] of ints, bytes, truths -/
theorem g_newarr {t nn : Nat} {atype : ArrayType} {ty : FieldType} (hat : newarray.typeOf atype = ty) (hc : Cond.arrayClass ty ∈ T0) (h0 : ∀ cA : ClassId, vp_cell cA (nn, .inl (fun _ => nI 0)) = arrV cA nn (fun _ => defaultValue ty)) (ht : ∀ ca : Nat → ClassId, (zTys ca)[t]? = some (ca t, ty)) (hb : nn * componentBytes ty ≤ 536870912) (hn : nn < 2 ^ 31) (hd : decode cc pc = .ok (.newarray atype, 2)) (hq : pc + 2 = q) (hk : k + 1 ≤ mc) (hs : n + nn ≤ ms) (kk : ∀ a : Nat, GG sk own y cc nL rt d mc ms Ψ (k + 1) (n + nn) q l (.ref a :: st) (ws ++ [(a, .inl (t, nn, .inl (fun _ => nI 0)))])) : GG sk own y cc nL rt d mc ms Ψ k n pc l (.int (nI nn) :: st) ws := by
  subst hq
  intro p la e s m args below meth c G ca A H locs ls C hl hP hD hS
  have hts := C.2.2.2.2.2.2.2.1
  refine va_newa C.1 C.2.1 (by rw [hat]; exact hts _ hc) hat C.2.2.2.2.2.2.2.2.1 hP hD hS C.2.2.2.2.2.2.2.2.2.1 (a0 := (nn, .inl (fun _ => nI 0))) h0 (nI_pos hn) (nI_clamp hn) hb hk hs hd (fun a cA H1 hK1 hP1 hD1 hS1 => ?_)
  have e := zCa (ht ca) hK1
  subst e
  have e1 : zW ca ws ++ [(a, .inl (ca t, nn, .inl (fun _ => nI 0)))] = zW ca (ws ++ [(a, .inl (t, nn, .inl (fun _ => nI 0)))]) := (zW_app ca ws [(a, .inl (t, nn, .inl (fun _ => nI 0)))]).symm
  exact kk a p la e s m args below meth c G ca A H1 locs ls C hl (e1 ▸ hP1) (e1 ▸ hD1) hS1
theorem t_acl0 : Cond.arrayClass .int ∈ T0 := T0_at 124 (by decide +kernel) (by decide +kernel)
theorem t_acl1 : Cond.arrayClass .byte ∈ T0 := T0_at 122 (by decide +kernel) (by decide +kernel)
theorem t_acl2 : Cond.arrayClass .boolean ∈ T0 := T0_at 123 (by decide +kernel) (by decide +kernel)
theorem g_newI {nn : Nat} (hb : nn * 4 ≤ 536870912) (hd : decode cc pc = .ok (.newarray .int, 2)) (hq : pc + 2 = q) (hk : k + 1 ≤ mc) (hs : n + nn ≤ ms) (kk : ∀ a : Nat, GG sk own y cc nL rt d mc ms Ψ (k + 1) (n + nn) q l (.ref a :: st) (ws ++ [cI a nn (fun _ => nI 0)])) : GG sk own y cc nL rt d mc ms Ψ k n pc l (.int (nI nn) :: st) ws :=
  g_newarr (t := 0) (ty := .int) rfl t_acl0 (fun _ => rfl) (fun _ => rfl) hb (by omega) hd hq hk hs kk
theorem g_newB {nn : Nat} (hb : nn * 4 ≤ 536870912) (hd : decode cc pc = .ok (.newarray .byte, 2)) (hq : pc + 2 = q) (hk : k + 1 ≤ mc) (hs : n + nn ≤ ms) (kk : ∀ a : Nat, GG sk own y cc nL rt d mc ms Ψ (k + 1) (n + nn) q l (.ref a :: st) (ws ++ [cB a nn (fun _ => nI 0)])) : GG sk own y cc nL rt d mc ms Ψ k n pc l (.int (nI nn) :: st) ws :=
  g_newarr (t := 1) (ty := .byte) rfl t_acl1 (fun _ => rfl) (fun _ => rfl) (by show nn * 1 ≤ _; omega) (by omega) hd hq hk hs kk
theorem g_newZ {nn : Nat} (hb : nn * 4 ≤ 536870912) (hd : decode cc pc = .ok (.newarray .boolean, 2)) (hq : pc + 2 = q) (hk : k + 1 ≤ mc) (hs : n + nn ≤ ms) (kk : ∀ a : Nat, GG sk own y cc nL rt d mc ms Ψ (k + 1) (n + nn) q l (.ref a :: st) (ws ++ [cZ a nn (fun _ => zb false)])) : GG sk own y cc nL rt d mc ms Ψ k n pc l (.int (nI nn) :: st) ws :=
  g_newarr (t := 2) (ty := .boolean) rfl t_acl2 (fun _ => rfl) (fun _ => rfl) (by show nn * 1 ≤ _; omega) (by omega) hd hq hk hs kk
/-- new of a class -/
theorem g_new {i ci N : Nat} {ty0 : Nat → FieldType} {fs : List Value} (F : NW own i ci N ty0) (hfs : ∀ j, j < N → defaultValue (ty0 j) = vp_V fs j) (hd : decode cc pc = .ok (.new i, 3)) (hq : pc + 3 = q) (hk : k + 1 ≤ mc) (hs : n + N ≤ ms) (kk : ∀ a : Nat, GG sk own y cc nL rt d mc ms Ψ (k + 1) (n + N) q l (.ref a :: st) (ws ++ [(a, .inr (ci, fs))])) : GG sk own y cc nL rt d mc ms Ψ k n pc l st ws := by
  subst hq
  intro p la e s m args below meth c G ca A H locs ls C hl hP hD hS
  have hts := C.2.2.2.2.2.2.2.1
  obtain ⟨C0, T, h1, h2, h3, h4, h5, h6⟩ := F
  refine va_new C.1 C.2.1 hts h5 ty0 h6 C.2.2.2.2.2.1 (hts _ h2) (hts _ h3) (hts _ h4) C.2.2.2.2.2.2.2.2.1 hP hD hS C.2.2.2.2.2.2.2.2.2.1 h1 hfs hk hs hd (fun a H1 hP1 hD1 hS1 => ?_)
  have e1 : zW ca ws ++ [(a, .inr (ci, fs))] = zW ca (ws ++ [(a, .inr (ci, fs))]) := (zW_app ca ws [(a, .inr (ci, fs))]).symm
  exact kk a p la e s m args below meth c G ca A H1 locs ls C hl (e1 ▸ hP1) (e1 ▸ hD1) hS1
/-- new Pole[n] -/
theorem g_newP {i nn : Nat} {ty0 : Nat → FieldType} (F : NW own i 1 4 ty0) (hb : nn * 4 ≤ 536870912) (hd : decode cc pc = .ok (.anewarray i, 3)) (hq : pc + 3 = q) (hk : k + 1 ≤ mc) (hs : n + nn ≤ ms) (kk : ∀ a : Nat, GG sk own y cc nL rt d mc ms Ψ (k + 1) (n + nn) q l (.ref a :: st) (ws ++ [cP a nn (fun _ => none)])) : GG sk own y cc nL rt d mc ms Ψ k n pc l (.int (nI nn) :: st) ws := by
  subst hq
  intro p la e s m args below meth c G ca A H locs ls C hl hP hD hS
  have hts := C.2.2.2.2.2.2.2.1
  obtain ⟨C0, T, h1, h2, h3, h4, h5, h6⟩ := F
  have e0 : C0 = "SoapPole$Pole" := by
    have : some (RX1, TX1, 4) = some (C0, T, 4) := h1
    cases this
    rfl
  subst e0
  refine va_newq C.1 C.2.1 C.2.2.2.2.2.1 (hts _ h2) C.2.2.2.2.2.2.2.2.2.2.2.2.2.2.2.2.2.1 C.2.2.2.2.2.2.2.2.1 hP hD hS C.2.2.2.2.2.2.2.2.2.1 (nI_pos (by omega)) (nI_clamp (by omega)) hb hk hs hd (fun a cA H1 hK1 hP1 hD1 hS1 => ?_)
  have e := zCa (t := 3) (ca := ca) rfl hK1
  subst e
  have e1 : zW ca ws ++ [(a, .inl (ca 3, nn, .inr (.inr (.inr (.inr (fun _ => none))))))] = zW ca (ws ++ [cP a nn (fun _ => none)]) := (zW_app ca ws [cP a nn (fun _ => none)]).symm
  exact kk a p la e s m args below meth c G ca A H1 locs ls C hl (e1 ▸ hP1) (e1 ▸ hD1) hS1
/-- an element of Pole[] -/
theorem g_astP {a nn j v : Nat} {f : Nat → Option Nat} {vs : List Value} (hd : decode cc pc = .ok (.aastore, 1)) (hq : pc + 1 = q) (q0 : Nat) (he : ws[q0]? = some (a, .inl (3, nn, .inr (.inr (.inr (.inr f)))))) (qk : Nat) (hv : ws[qk]? = some (v, .inr (1, vs))) (hj : j < nn) (hn : nn < 2 ^ 31) {ws' : AW} (hw : ws.set q0 (cP a nn (fun i => if i = j then some v else f i)) = ws') (kk : GG sk own y cc nL rt d mc ms Ψ k n q l st ws') : GG sk own y cc nL rt d mc ms Ψ k n pc l (.ref v :: .int (nI j) :: .ref a :: st) ws := by
  subst hq; subst hw
  intro p la e s m args below meth c G ca A H locs ls C hl hP hD hS
  have hin : vp_in (nI j) nn := by
    intro z
    rcases z with z | z
    · exact nI_pos (by omega) z
    · rw [nI_clamp (by omega)] at z; omega
  refine va_astq C.1 C.2.1 C.2.2.2.2.2.2.2.2.1 hP hD hS q0 3 qk 1 (r := (RX1, TX1, 4)) (zW_get ca he) rfl (zW_get ca hv) rfl hin hd (fun H1 locs1 hP1 hD1 hS1 => ?_)
  have e1 := zW_set ca ws q0 a (.inl (3, nn, .inr (.inr (.inr (.inr (fun i => if i = j then some v else f i))))))
  have e2 : va_up f (nI j).toNatClampNeg (some v) = fun i => if i = j then some v else f i := by
    rw [nI_clamp (by omega)]
    rfl
  rw [e2] at hP1 hD1
  exact kk p la e s m args below meth c G ca A H1 locs1 ls C hl (e1 ▸ hP1) (e1 ▸ hD1) hS1
theorem t_X4_31 : Cond.classLink RX4 31 "[[I" ∈ T0 := T0_at 246 (by decide +kernel) (by decide +kernel)
/-- new int[n][m] -/
theorem g_newII {N K : Nat} (ho : own = RX4) (hb : N * 4 ≤ 536870912) (hb2 : K * 4 ≤ 536870912) (hd : decode cc pc = .ok (.multianewarray 31 2, 4)) (hq : pc + 4 = q) (hk : k + (1 + N) ≤ mc) (hs : n + (N + N * K) ≤ ms) (kk : ∀ (a : Nat) (r : Nat → Nat), GG sk own y cc nL rt d mc ms Ψ (k + 1 + N) (n + N + N * K) q l (.ref a :: st) ((ws ++ [cA a N (fun i => if i < N then some (r i) else none)]) ++ (List.range N).map (fun i => cI (r i) K (fun _ => nI 0)))) : GG sk own y cc nL rt d mc ms Ψ k n pc l (.int (nI K) :: .int (nI N) :: st) ws := by
  subst hq; subst ho
  intro p la e s m args below meth c G ca A H locs ls C hl hP hD hS
  have hts := C.2.2.2.2.2.2.2.1
  have hK := C.2.2.2.2.2.2.2.2.1
  have hcy : s.vm.findClass (FieldType.array .int).toString = some (ca 0) := (hK.2 0 (ca 0, .int) rfl).2
  have hP0 : va_P G vwCl (zW ca ws ++ va_pl [] (fun _ => .inr (0, []))) H := by
    show va_P G vwCl (zW ca ws ++ []) H
    rw [List.append_nil]; exact hP
  have hD0 : va_D A (zW ca ws ++ va_pl [] (fun _ => .inr (0, []))) := by
    show va_D A (zW ca ws ++ [])
    rw [List.append_nil]; exact hD
  refine va_mna (X := zW ca ws) (L := []) (f := fun _ => .inr (0, [])) C.1 C.2.1 (ty := .int) C.2.2.2.2.2.1 (hts _ t_X4_31) C.2.2.2.2.2.2.2.2.2.2.2.2.2.2.2.2.2.2 (hts _ t_acl0) hcy hK hP0 hD0 hS C.2.2.2.2.2.2.2.2.2.1 (nI_pos (by omega)) (nI_pos (by omega)) (nI_clamp (by omega)) (nI_clamp (by omega)) hb hb2 (by omega) rfl rfl hk hs (z := (K, .inl (fun _ => nI 0))) (fun c => ?_) hd (fun a r cA H1 hinj _ hK1 hP1 hD1 hS1 => ?_)
  · exact arrV_new c K _
  · have e := zCa (t := 4) (ca := ca) rfl hK1
    subst e
    have e2 : va_pl ([] ++ (List.range N).map r) (vr_up (fun _ => (.inr (0, []) : va_E)) ((List.range N).map r) (.inl (ca 0, K, .inl (fun _ => nI 0)))) = zW ca ((List.range N).map (fun i => cI (r i) K (fun _ => nI 0))) := by
      unfold va_pl zW
      rw [List.nil_append, List.map_map, List.map_map]
      apply List.map_congr_left
      intro i hi
      show (r i, vr_up _ _ _ (r i)) = _
      rw [vr_up_in (List.mem_map.mpr ⟨i, hi, rfl⟩)]
      rfl
    have e1 : (zW ca ws ++ [(a, .inl (ca 4, N, .inr (.inr (.inr (.inr (fun i => if i < N then some (r i) else none))))))]) ++ zW ca ((List.range N).map (fun i => cI (r i) K (fun _ => nI 0))) = zW ca ((ws ++ [cA a N (fun i => if i < N then some (r i) else none)]) ++ (List.range N).map (fun i => cI (r i) K (fun _ => nI 0))) := by
      rw [zW_app, zW_app]
      rfl
    rw [e2, e1] at hP1 hD1
    exact kk a r p la e s m args below meth c G ca A H1 locs ls C hl hP1 hD1 hS1
theorem g_newII6 (ho : own = RX4) (hd : decode cc pc = .ok (.multianewarray 31 2, 4)) (hq : pc + 4 = q) (hk : k + 7 ≤ mc) (hs : n + 42 ≤ ms) (kk : ∀ (a : Nat) (r : Nat → Nat), GG sk own y cc nL rt d mc ms Ψ (k + 7) (n + 42) q l (.ref a :: st) ((ws ++ [cA a 6 (fun i => if i < 6 then some (r i) else none)]) ++ [cI (r 0) 6 (fun _ => nI 0), cI (r 1) 6 (fun _ => nI 0), cI (r 2) 6 (fun _ => nI 0), cI (r 3) 6 (fun _ => nI 0), cI (r 4) 6 (fun _ => nI 0), cI (r 5) 6 (fun _ => nI 0)])) : GG sk own y cc nL rt d mc ms Ψ k n pc l (.int (nI 6) :: .int (nI 6) :: st) ws :=
  g_newII (N := 6) (K := 6) ho (by decide) (by decide) hd hq hk hs kk
end NEW
theorem df_X0 : ∀ j, j < 10 → defaultValue (tyX0 j) = vp_V [.null, .null, .null, .null, .int 0, .int 0, .int 0, .int 0, .int 0, .int 0] j := fun j hj => match j, hj with
  | 0, _ => rfl
  | 1, _ => rfl
  | 2, _ => rfl
  | 3, _ => rfl
  | 4, _ => rfl
  | 5, _ => rfl
  | 6, _ => rfl
  | 7, _ => rfl
  | 8, _ => rfl
  | 9, _ => rfl
  | _ + 10, h => absurd h (by omega)
theorem df_X1 : ∀ j, j < 4 → defaultValue (tyX1 j) = vp_V [.null, .int 0, .int 0, .int 0] j := fun j hj => match j, hj with
  | 0, _ => rfl
  | 1, _ => rfl
  | 2, _ => rfl
  | 3, _ => rfl
  | _ + 4, h => absurd h (by omega)
theorem df_X2 : ∀ j, j < 11 → defaultValue (tyX2 j) = vp_V [.null, .null, .null, .int 0, .int 0, .int 0, .int 0, .int 0, .int 0, .int 0, .int 0] j := fun j hj => match j, hj with
  | 0, _ => rfl
  | 1, _ => rfl
  | 2, _ => rfl
  | 3, _ => rfl
  | 4, _ => rfl
  | 5, _ => rfl
  | 6, _ => rfl
  | 7, _ => rfl
  | 8, _ => rfl
  | 9, _ => rfl
  | 10, _ => rfl
  | _ + 11, h => absurd h (by omega)
theorem df_X3 : ∀ j, j < 4 → defaultValue (tyX3 j) = vp_V [.null, .null, .int 0, .int 0] j := fun j hj => match j, hj with
  | 0, _ => rfl
  | 1, _ => rfl
  | 2, _ => rfl
  | 3, _ => rfl
  | _ + 4, h => absurd h (by omega)
theorem df_X4 : ∀ j, j < 11 → defaultValue (tyX4 j) = vp_V [.null, .null, .int 0, .int 0, .int 0, .null, .int 0, .int 0, .null, .null, .null] j := fun j hj => match j, hj with
  | 0, _ => rfl
  | 1, _ => rfl
  | 2, _ => rfl
  | 3, _ => rfl
  | 4, _ => rfl
  | 5, _ => rfl
  | 6, _ => rfl
  | 7, _ => rfl
  | 8, _ => rfl
  | 9, _ => rfl
  | 10, _ => rfl
  | _ + 11, h => absurd h (by omega)
theorem df_X5 : ∀ j, j < 4 → defaultValue (tyX5 j) = vp_V [.null, .null, .null, .int 0] j := fun j hj => match j, hj with
  | 0, _ => rfl
  | 1, _ => rfl
  | 2, _ => rfl
  | 3, _ => rfl
  | _ + 4, h => absurd h (by omega)
theorem df_X6 : ∀ j, j < 12 → defaultValue (tyX6 j) = vp_V [.null, .null, .null, .null, .null, .null, .null, .null, .null, .null, .int 0, .int 0] j := fun j hj => match j, hj with
  | 0, _ => rfl
  | 1, _ => rfl
  | 2, _ => rfl
  | 3, _ => rfl
  | 4, _ => rfl
  | 5, _ => rfl
  | 6, _ => rfl
  | 7, _ => rfl
  | 8, _ => rfl
  | 9, _ => rfl
  | 10, _ => rfl
  | 11, _ => rfl
  | _ + 12, h => absurd h (by omega)
theorem df_X7 : ∀ j, j < 25 → defaultValue (tyX7 j) = vp_V [.null, .int 0, .null, .null, .null, .null, .null, .null, .null, .null, .null, .int 0, .int 0, .int 0, .int 0, .int 0, .int 0, .int 0, .int 0, .int 0, .int 0, .int 0, .null, .null, .null] j := fun j hj => match j, hj with
  | 0, _ => rfl
  | 1, _ => rfl
  | 2, _ => rfl
  | 3, _ => rfl
  | 4, _ => rfl
  | 5, _ => rfl
  | 6, _ => rfl
  | 7, _ => rfl
  | 8, _ => rfl
  | 9, _ => rfl
  | 10, _ => rfl
  | 11, _ => rfl
  | 12, _ => rfl
  | 13, _ => rfl
  | 14, _ => rfl
  | 15, _ => rfl
  | 16, _ => rfl
  | 17, _ => rfl
  | 18, _ => rfl
  | 19, _ => rfl
  | 20, _ => rfl
  | 21, _ => rfl
  | 22, _ => rfl
  | 23, _ => rfl
  | 24, _ => rfl
  | _ + 25, h => absurd h (by omega)
