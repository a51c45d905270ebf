/-! the JDK over the string constants: length, charAt -/
theorem n_sv : Cond.fieldLink "java/lang/String" 9 "java/lang/String" "value" "[B" ∈ T0 := T0_at 1098 (by decide +kernel) (by decide +kernel)
theorem n_sc : Cond.fieldLink "java/lang/String" 15 "java/lang/String" "coder" "B" ∈ T0 := T0_at 1099 (by decide +kernel) (by decide +kernel)
theorem n_cs : Cond.fieldLink "java/lang/String" 38 "java/lang/String" "COMPACT_STRINGS" "Z" ∈ T0 := T0_at 403 (by decide +kernel) (by decide +kernel)
theorem n_sf : Cond.fieldLink "java/lang/String" 1053 "jdk/internal/util/Preconditions" "SIOOBE_FORMATTER" "Ljava/util/function/BiFunction;" ∈ T0 := T0_at 419 (by decide +kernel) (by decide +kernel)
def MW (own : String) (idx : Nat) (y : MethodName) : Prop := Cond.methodLink own idx y ∈ T0 ∧ Cond.instanceMethod y ∈ T0 ∧ Cond.selects y.cls y y ∈ T0 ∧ y.cls = "java/lang/String"
theorem s_X2_104 : MW RX2 104 yJ0_length_8abf5 := ⟨T0_at 395 (by decide +kernel) (by decide +kernel), T0_at 396 (by decide +kernel) (by decide +kernel), T0_at 397 (by decide +kernel) (by decide +kernel), rfl⟩
theorem s_X2_113 : MW RX2 113 yJ0_charAt_5068e := ⟨T0_at 405 (by decide +kernel) (by decide +kernel), T0_at 406 (by decide +kernel) (by decide +kernel), T0_at 407 (by decide +kernel) (by decide +kernel), rfl⟩
theorem s_J0_335 : MW RJ0 335 yJ0_coder_7d493 := ⟨T0_at 399 (by decide +kernel) (by decide +kernel), T0_at 400 (by decide +kernel) (by decide +kernel), T0_at 401 (by decide +kernel) (by decide +kernel), rfl⟩
theorem s_J0_492 : MW RJ0 492 yJ0_isLatin1_aae02 := ⟨T0_at 409 (by decide +kernel) (by decide +kernel), T0_at 410 (by decide +kernel) (by decide +kernel), T0_at 411 (by decide +kernel) (by decide +kernel), rfl⟩
section STR
variable {sk : Nat → Nat} {own : String} {y : MethodName} {cc : ByteArray} {nL : Nat} {rt : Option FieldType} {d mc ms : Nat} {Ψ : PS} {k n pc q : Nat} {l : LV} {st : List Value} {ws : AW}
theorem g_ldcS {i : Nat} (hi : i < 5) (ho : own = "SoapPole$Reader") {idx : Nat} (hx : [90, 96, 98, 100, 102][i]? = some idx) (hd : decode cc pc = .ok (.ldc idx, 2)) (hq : pc + 2 = q) (kk : GG sk own y cc nL rt d mc ms Ψ k n q l (.ref (sk i) :: st) ws) : GG sk own y cc nL rt d mc ms Ψ k n pc l st ws := by
  subst hq
  intro p la e s m args below meth c G ca A H locs ls C hl hP hD hS
  have hown := C.2.2.2.2.2.1
  have hZ := C.2.2.2.2.2.2.2.2.2.2.2
  rw [ho] at hown
  have K := kk p la e s m args below meth c G ca A H locs ls C hl hP hD hS
  rcases (show i = 0 ∨ i = 1 ∨ i = 2 ∨ i = 3 ∨ i = 4 by omega) with rfl | rfl | rfl | rfl | rfl <;> cases hx
  · exact va_ldcS C.1 C.2.1 hown hZ.1 hd K
  · exact va_ldcS C.1 C.2.1 hown hZ.2.1 hd K
  · exact va_ldcS C.1 C.2.1 hown hZ.2.2.1 hd K
  · exact va_ldcS C.1 C.2.1 hown hZ.2.2.2.1 hd K
  · exact va_ldcS C.1 C.2.1 hown hZ.2.2.2.2.1 hd K
theorem g_strV {i idx : Nat} (hi : i < 5) (M : Cond.fieldLink own idx "java/lang/String" "value" "[B" ∈ T0) (hd : decode cc pc = .ok (.getfield idx, 3)) (hq : pc + 3 = q) (kk : GG sk own y cc nL rt d mc ms Ψ k n q l (.ref (sk (i + 5)) :: st) ws) : GG sk own y cc nL rt d mc ms Ψ k n pc l (.ref (sk i) :: st) ws := by
  subst hq
  intro p la e s m args below meth c G ca A H locs ls C hl hP hD hS
  exact vk_getf C.1 C.2.1 ((C.2.2.2.2.2.2.2.2.2.2.1.1.1 i hi).2.2.1) hS C.2.2.2.2.2.1 (C.2.2.2.2.2.2.2.1 _ M) (fun x hx => hx) hd (kk p la e s m args below meth c G ca A H locs ls C hl hP hD hS)
theorem g_strC {i idx : Nat} (hi : i < 5) (M : Cond.fieldLink own idx "java/lang/String" "coder" "B" ∈ T0) (hd : decode cc pc = .ok (.getfield idx, 3)) (hq : pc + 3 = q) (kk : GG sk own y cc nL rt d mc ms Ψ k n q l (.int 0 :: st) ws) : GG sk own y cc nL rt d mc ms Ψ k n pc l (.ref (sk i) :: st) ws := by
  subst hq
  intro p la e s m args below meth c G ca A H locs ls C hl hP hD hS
  exact vk_getf C.1 C.2.1 ((C.2.2.2.2.2.2.2.2.2.2.1.1.1 i hi).2.1) hS C.2.2.2.2.2.1 (C.2.2.2.2.2.2.2.1 _ M) (fun x hx => hx) hd (kk p la e s m args below meth c G ca A H locs ls C hl hP hD hS)
theorem g_strL {i : Nat} (hi : i < 5) (hd : decode cc pc = .ok (.arraylength, 1)) (hq : pc + 1 = q) (kk : GG sk own y cc nL rt d mc ms Ψ k n q l (.int (nI (zLen.getD i 0)) :: st) ws) : GG sk own y cc nL rt d mc ms Ψ k n pc l (.ref (sk (i + 5)) :: st) ws := by
  subst hq
  intro p la e s m args below meth c G ca A H locs ls C hl hP hD hS
  obtain ⟨cell, h1, h2, h3, h4, h5, h6, h7⟩ := (C.2.2.2.2.2.2.2.2.2.2.1.1.1 i hi).2.2.2.kept hS.2.1
  exact W.alen C.1 C.2.1 h1 h2 h5 rfl rfl hd (kk p la e s m args below meth c G ca A H locs ls C hl hP hD hS)
theorem g_strB {i j : Nat} (hi : i < 5) (hj : j < zLen.getD i 0) (hd : decode cc pc = .ok (.baload, 1)) (hq : pc + 1 = q) (kk : GG sk own y cc nL rt d mc ms Ψ k n q l (.int ((zByt.getD i []).getD j 0) :: st) ws) : GG sk own y cc nL rt d mc ms Ψ k n pc l (.int (nI j) :: .ref (sk (i + 5)) :: st) ws := by
  subst hq
  intro p la e s m args below meth c G ca A H locs ls C hl hP hD hS
  obtain ⟨cell, h1, h2, h3, h4, h5, h6, h7⟩ := (C.2.2.2.2.2.2.2.2.2.2.1.1.1 i hi).2.2.2.kept hS.2.1
  have h9 : zLen.getD i 0 ≤ 7 := by
    rcases (show i = 0 ∨ i = 1 ∨ i = 2 ∨ i = 3 ∨ i = 4 by omega) with rfl | rfl | rfl | rfl | rfl <;> decide
  have hcl : (nI j).toNatClampNeg = j := nI_clamp (by omega)
  refine W.bald C.1 C.2.1 h1 h2 h3 ?_ (v := .int ((zByt.getD i []).getD j 0)) (by rw [hcl]; exact h6 j hj) rfl rfl hd (kk p la e s m args below meth c G ca A H locs ls C hl hP hD hS)
  rw [hcl]
  rintro (z | z)
  · exact nI_pos (by omega) z
  · omega
theorem g_getC {idx : Nat} (M : Cond.fieldLink own idx "java/lang/String" "COMPACT_STRINGS" "Z" ∈ T0) (hd : decode cc pc = .ok (.getstatic idx, 3)) (hq : pc + 3 = q) (kk : GG sk own y cc nL rt d mc ms Ψ k n q l (.int 1 :: st) ws) : GG sk own y cc nL rt d mc ms Ψ k n pc l st ws := by
  subst hq
  intro p la e s m args below meth c G ca A H locs ls C hl hP hD hS
  exact va_gets C.1 C.2.1 C.2.2.2.2.2.2.2.2.2.2.1.2.1 hS C.2.2.2.2.2.1 (C.2.2.2.2.2.2.2.1 _ M) (fun x hx => hx) hd (kk p la e s m args below meth c G ca A H locs ls C hl hP hD hS)
theorem g_getF {idx : Nat} (M : Cond.fieldLink own idx "jdk/internal/util/Preconditions" "SIOOBE_FORMATTER" "Ljava/util/function/BiFunction;" ∈ T0) (hd : decode cc pc = .ok (.getstatic idx, 3)) (hq : pc + 3 = q) (kk : ∀ v : Value, v.category = 1 → GG sk own y cc nL rt d mc ms Ψ k n q l (v :: st) ws) : GG sk own y cc nL rt d mc ms Ψ k n pc l st ws := by
  subst hq
  intro p la e s m args below meth c G ca A H locs ls C hl hP hD hS
  rcases C.2.2.2.2.2.2.2.2.2.2.1.2.2.1 with h | ⟨t, h⟩
  · exact va_gets C.1 C.2.1 h hS C.2.2.2.2.2.1 (C.2.2.2.2.2.2.2.1 _ M) (fun x hx => hx) hd (kk _ rfl p la e s m args below meth c G ca A H locs ls C hl hP hD hS)
  · exact va_gets C.1 C.2.1 h hS C.2.2.2.2.2.1 (C.2.2.2.2.2.2.2.1 _ M) (fun x hx => hx) hd (kk _ rfl p la e s m args below meth c G ca A H locs ls C hl hP hD hS)
theorem g_i2c {a : Int32} (hd : decode cc pc = .ok (.i2c, 1)) (hq : pc + 1 = q) {v : Int32} (hv : (a.toUInt32 % 65536).toInt32 = v) (kk : GG sk own y cc nL rt d mc ms Ψ k n q l (.int v :: st) ws) : GG sk own y cc nL rt d mc ms Ψ k n pc l (.int a :: st) ws := by
  subst hq
  intro p la e s m args below meth c G ca A H locs ls C hl hP hD hS
  exact lv_i2c C.1 C.2.1 hd hv (kk p la e s m args below meth c G ca A H locs ls C hl hP hD hS)
theorem g_nret {ty : FieldType} {v : Int32} (hd : decode cc pc = .ok (.ireturn, 1)) (hr : rt = some ty) (hn0 : narrow ty (.int v) = .int v) (hk : k ≤ mc) (hn : n ≤ ms) (h : Ψ (some (.int v)) ws) : GG sk own y cc nL rt d mc ms Ψ k n pc l [.int v] ws := by
  intro p la e s m args below meth c G ca A H locs ls C hl hP hD hS
  refine W.widen hk hn ?_
  exact W.zret C.1 C.2.1 (C.2.2.1.trans hr) hn0 (fun t ht hW => ⟨⟨_, ws, rfl, h, by rw [ht]; exact hP, hD⟩, hS.F ht⟩) hS.2.2 hd C.2.2.2.1
theorem g_callW {i na d1 mc1 ms1 nL1 j : Nat} {y1 : MethodName} {cc1 : ByteArray} {rt1 : Option FieldType} {As rest : List Value} {Ψ1 : PS} (hj : j < 5) (K : Ct sk y1 cc1 nL1 rt1 d1 mc1 ms1 [] (.ref (sk j) :: As) Ψ1) (M : MW own i y1) (Ma : MA y1 cc1 nL1 rt1 na) (hd : decode cc pc = .ok (.invokevirtual i, 3)) (hq : pc + 3 = q)
    (hst : st = As.reverse ++ .ref (sk j) :: rest) (hna : As.length = na) (hd1 : d1 + 1 ≤ d) (hL : nL1 ≤ 45) (hk : k + mc1 ≤ mc) (hs : n + ms1 ≤ ms) (hr : (rest.map fun v => v.category).sum ≤ 8)
    (kk : ∀ (r : Option Value) (w1 : AW), Ψ1 r w1 → (adr w1).take 0 = adr [] ∧ GG sk own y cc nL rt d mc ms Ψ (k + mc1) (n + ms1) q l (r.toList ++ rest) (puts ws [] w1)) : GG sk own y cc nL rt d mc ms Ψ k n pc l st ws := by
  subst hq; subst hst
  intro p la e s m args below meth c G ca A H locs ls C hl hP hD hS
  have hts := C.2.2.2.2.2.2.2.1
  have hC : ([] : List Nat).map (fun i => ws[i]?) = ([] : AW).map some := rfl
  have hF := zW_free hC hD hS C.2.2.2.2.2.2.2.2.2.1
  have hrcv := vk_recv C.2.2.2.2.2.2.2.2.2.2.1.1 hj hS
  refine z_call (va_runV (As := As) (rest := rest) (n := na) ⟨C.1, C.2.1, C.2.2.2.2.1, C.2.2.2.2.2.1, hts⟩ (K la G ca H.size) ⟨⟨rfl, rfl, hd1, by show 8 + (nL1 + 11) + 64 * d1 ≤ 64 * d; omega, zT_cons hts Ma.1, List.mem_cons_self, hts _ Ma.1, hts _ Ma.2.1, Ma.2.2.1, fun sig h => by have h9 := Ma.2.2.2; rw [h] at h9; exact (Option.some.inj h9).symm, hts _ M.1⟩, hts _ M.2.1, hts _ M.2.2.1⟩ ⟨zB_blind, by rw [M.2.2.2]; exact hrcv, fun U hU hW => ⟨rfl, zB_at C hC rfl hP hD hS U hU hW⟩⟩ rfl hna hl.1 rfl (lv_room hr) hd ⟨hk, hs⟩) hS (fun q _ h => hF q h) hF (fun r w1 H1 locs1 hΨ hP1 hD1 hk1 hS1 => ?_)
  obtain ⟨ha, hg⟩ := kk r w1 hΨ
  obtain ⟨hP2, hD2⟩ := zPuts hP hD hC hk1 hF hP1 hD1 ha
  exact hg p la e s m args below meth c G ca A H1 locs1 ls C hl hP2 hD2 hS1
end STR
set_option maxRecDepth 20000 in
theorem c_coder (sk : Nat → Nat) {i : Nat} (hi : i < 5) : Ct sk yJ0_coder_7d493 cJ0_coder_7d493 1 (some .byte) 0 0 0 [] [.ref (sk i)] (zD (some (.int 0)) []) := by
  refine Ct.of (own := RJ0) (l := [some (.ref (sk i))]) (by decide) rfl (Nat.le_of_ble_eq_true rfl) rfl ?_
  refine g_getC n_cs dJ0_coder_7d493_0 rfl ?_
  refine g_if_eq (t := 13) dJ0_coder_7d493_3 (by decide) rfl (fun h => absurd h (by decide)) (fun _ => ?_)
  refine g_aload_n dJ0_coder_7d493_6 rfl rfl ?_
  refine g_strC hi n_sc dJ0_coder_7d493_7 rfl ?_
  refine g_goto (q := 14) dJ0_coder_7d493_10 (by decide) ?_
  exact g_nret dJ0_coder_7d493_14 rfl rfl (Nat.le_refl _) (Nat.le_refl _) ⟨rfl, rfl⟩
set_option maxRecDepth 20000 in
theorem c_isLatin1 (sk : Nat → Nat) {i : Nat} (hi : i < 5) : Ct sk yJ0_isLatin1_aae02 cJ0_isLatin1_aae02 1 (some .boolean) 0 0 0 [] [.ref (sk i)] (zD (some (.int (zb true))) []) := by
  refine Ct.of (own := RJ0) (l := [some (.ref (sk i))]) (by decide) rfl (Nat.le_of_ble_eq_true rfl) rfl ?_
  refine g_getC n_cs dJ0_isLatin1_aae02_0 rfl ?_
  refine g_if_eq (t := 17) dJ0_isLatin1_aae02_3 (by decide) rfl (fun h => absurd h (by decide)) (fun _ => ?_)
  refine g_aload_n dJ0_isLatin1_aae02_6 rfl rfl ?_
  refine g_strC hi n_sc dJ0_isLatin1_aae02_7 rfl ?_
  refine g_if_ne (t := 17) dJ0_isLatin1_aae02_10 (by decide) rfl (fun h => absurd rfl h) (fun _ => ?_)
  refine g_iconst (v := nI 1) dJ0_isLatin1_aae02_13 rfl (by decide) ?_
  refine g_goto (q := 18) dJ0_isLatin1_aae02_14 (by decide) ?_
  exact g_zret (b := true) dJ0_isLatin1_aae02_18 rfl (Nat.le_refl _) (Nat.le_refl _) ⟨rfl, rfl⟩
set_option maxRecDepth 20000 in
theorem c_length (sk : Nat → Nat) {i : Nat} (hi : i < 5) : Ct sk yJ0_length_8abf5 cJ0_length_8abf5 1 (some .int) 1 0 0 [] [.ref (sk i)] (zD (some (.int (nI (zLen.getD i 0)))) []) := by
  refine Ct.of (own := RJ0) (l := [some (.ref (sk i))]) (by decide) rfl (Nat.le_of_ble_eq_true rfl) rfl ?_
  refine g_aload_n dJ0_length_8abf5_0 rfl rfl ?_
  refine g_strV hi n_sv dJ0_length_8abf5_1 rfl ?_
  refine g_strL hi dJ0_length_8abf5_4 rfl ?_
  refine g_aload_n dJ0_length_8abf5_5 rfl rfl ?_
  refine g_callW (As := []) hi (c_coder sk hi) s_J0_335 a_J0_coder_7d493 dJ0_length_8abf5_6 rfl rfl rfl (by decide) (by decide) (by decide) (by decide) (Nat.le_of_ble_eq_true rfl) (fun r w hK => ?_)
  obtain ⟨rfl, rfl⟩ := hK
  refine ⟨rfl, ?_⟩
  dsimp only [puts, List.set, Option.toList, List.cons_append, List.nil_append, List.append_nil]
  refine g_ishr (v := nI (zLen.getD i 0)) dJ0_length_8abf5_9 rfl (sc_shr0 (by rcases (show i = 0 ∨ i = 1 ∨ i = 2 ∨ i = 3 ∨ i = 4 by omega) with rfl | rfl | rfl | rfl | rfl <;> decide)) ?_
  exact g_iret dJ0_length_8abf5_10 rfl (Nat.le_refl _) (Nat.le_refl _) ⟨rfl, rfl⟩
set_option maxRecDepth 20000 in
theorem c_checkIndex3 (sk : Nat → Nat) {k n : Nat} {v : Value} (hv : v.category = 1) (hk : k < n) (hn : n < 2 ^ 31) : Ct sk yJ3_checkIndex_8e157 cJ3_checkIndex_8e157 3 (some .int) 0 0 0 [] [.int (nI k), .int (nI n), v] (zD (some (.int (nI k))) []) := by
  refine Ct.of (own := RJ3) (l := [some (.int (nI k)), some (.int (nI n)), some v]) (by decide) rfl (by cases v <;> first | exact Nat.le_of_ble_eq_true rfl | cases hv) (by cases v <;> first | rfl | cases hv) ?_
  refine g_iload_n dJ3_checkIndex_8e157_0 rfl rfl ?_
  refine g_if_lt (t := 9) dJ3_checkIndex_8e157_1 (by decide) rfl (fun h => absurd h (nI_nlt0 (by omega))) (fun _ => ?_)
  refine g_iload_n dJ3_checkIndex_8e157_4 rfl rfl ?_
  refine g_iload_n dJ3_checkIndex_8e157_5 rfl rfl ?_
  refine g_icmp_ltN (t := 16) dJ3_checkIndex_8e157_6 (by decide) rfl (by omega) (by omega) (fun _ => ?_) (fun h => absurd h (by omega))
  refine g_iload_n dJ3_checkIndex_8e157_16 rfl rfl ?_
  exact g_iret dJ3_checkIndex_8e157_17 rfl (Nat.le_refl _) (Nat.le_refl _) ⟨rfl, rfl⟩
set_option maxRecDepth 20000 in
theorem c_checkIndex (sk : Nat → Nat) {k n : Nat} (hk : k < n) (hn : n < 2 ^ 31) : Ct sk yJ0_checkIndex_df160 cJ0_checkIndex_df160 2 none 1 0 0 [] [.int (nI k), .int (nI n)] (zD none []) := by
  refine Ct.of (own := RJ0) (l := [some (.int (nI k)), some (.int (nI n))]) (by decide) rfl (Nat.le_of_ble_eq_true rfl) rfl ?_
  refine g_iload_n dJ0_checkIndex_df160_0 rfl rfl ?_
  refine g_iload_n dJ0_checkIndex_df160_1 rfl rfl ?_
  refine g_getF n_sf dJ0_checkIndex_df160_2 rfl (fun v hv => ?_)
  refine g_callS (As := [.int (nI k), .int (nI n), v]) (c_checkIndex3 sk hv hk hn) m_J0_1059 a_J3_checkIndex_8e157 dJ0_checkIndex_df160_5 rfl [] rfl rfl rfl rfl (by decide) (by decide) (by decide) (by decide) (Nat.le_of_ble_eq_true rfl) (fun r w hK => ?_)
  obtain ⟨rfl, rfl⟩ := hK
  refine ⟨rfl, ?_⟩
  dsimp only [puts, List.set, Option.toList, List.cons_append, List.nil_append, List.append_nil]
  refine g_pop dJ0_checkIndex_df160_8 rfl rfl ?_
  exact g_vret dJ0_checkIndex_df160_9 rfl (Nat.le_refl _) (Nat.le_refl _) ⟨rfl, rfl⟩
/-- the char at j of the i-th constant -/
def zCh (i j : Nat) : Int32 := (((zByt.getD i []).getD j 0) &&& 255).toUInt32.toUInt16.toUInt32.toInt32
theorem zCh_all : ∀ i, i < 5 → ∀ j, j < zLen.getD i 0 → ((((((zByt.getD i []).getD j 0) &&& nI 255).toUInt32 % 65536).toInt32) = (zByt.getD i []).getD j 0 ∧ narrow .char (.int ((zByt.getD i []).getD j 0)) = .int ((zByt.getD i []).getD j 0)) := by decide +kernel
set_option maxRecDepth 20000 in
theorem c_charAt1 (sk : Nat → Nat) {i j : Nat} (hi : i < 5) (hj : j < zLen.getD i 0) : Ct sk yJ1_charAt_3b067 cJ1_charAt_3b067 2 (some .char) 2 0 0 [] [.ref (sk (i + 5)), .int (nI j)] (zD (some (.int ((zByt.getD i []).getD j 0))) []) := by
  refine Ct.of (own := RJ1) (l := [some (.ref (sk (i + 5))), some (.int (nI j))]) (by decide) rfl (Nat.le_of_ble_eq_true rfl) rfl ?_
  have h9 : zLen.getD i 0 < 2 ^ 31 := by
    rcases (show i = 0 ∨ i = 1 ∨ i = 2 ∨ i = 3 ∨ i = 4 by omega) with rfl | rfl | rfl | rfl | rfl <;> decide
  refine g_iload_n dJ1_charAt_3b067_0 rfl rfl ?_
  refine g_aload_n dJ1_charAt_3b067_1 rfl rfl ?_
  refine g_strL hi dJ1_charAt_3b067_2 rfl ?_
  refine g_callS (As := [.int (nI j), .int (nI (zLen.getD i 0))]) (c_checkIndex sk hj h9) m_J1_9 a_J0_checkIndex_df160 dJ1_charAt_3b067_3 rfl [] rfl rfl rfl rfl (by decide) (by decide) (by decide) (by decide) (Nat.le_of_ble_eq_true rfl) (fun r w hK => ?_)
  obtain ⟨rfl, rfl⟩ := hK
  refine ⟨rfl, ?_⟩
  dsimp only [puts, List.set, Option.toList, List.cons_append, List.nil_append, List.append_nil]
  refine g_aload_n dJ1_charAt_3b067_6 rfl rfl ?_
  refine g_iload_n dJ1_charAt_3b067_7 rfl rfl ?_
  refine g_strB hi hj dJ1_charAt_3b067_8 rfl ?_
  refine g_sipush (v := nI 255) dJ1_charAt_3b067_9 rfl (by decide) ?_
  refine g_iand dJ1_charAt_3b067_12 rfl rfl ?_
  refine g_i2c (v := (zByt.getD i []).getD j 0) dJ1_charAt_3b067_13 rfl (zCh_all i hi j hj).1 ?_
  exact g_nret dJ1_charAt_3b067_14 rfl (zCh_all i hi j hj).2 (Nat.le_refl _) (Nat.le_refl _) ⟨rfl, rfl⟩
set_option maxRecDepth 20000 in
theorem c_charAt (sk : Nat → Nat) {i j : Nat} (hi : i < 5) (hj : j < zLen.getD i 0) : Ct sk yJ0_charAt_5068e cJ0_charAt_5068e 2 (some .char) 3 0 0 [] [.ref (sk i), .int (nI j)] (zD (some (.int ((zByt.getD i []).getD j 0))) []) := by
  refine Ct.of (own := RJ0) (l := [some (.ref (sk i)), some (.int (nI j))]) (by decide) rfl (Nat.le_of_ble_eq_true rfl) rfl ?_
  refine g_aload_n dJ0_charAt_5068e_0 rfl rfl ?_
  refine g_callW (As := []) hi (c_isLatin1 sk hi) s_J0_492 a_J0_isLatin1_aae02 dJ0_charAt_5068e_1 rfl rfl rfl (by decide) (by decide) (by decide) (by decide) (Nat.le_of_ble_eq_true rfl) (fun r w hK => ?_)
  obtain ⟨rfl, rfl⟩ := hK
  refine ⟨rfl, ?_⟩
  dsimp only [puts, List.set, Option.toList, List.cons_append, List.nil_append, List.append_nil]
  refine g_if_eqB (t := 16) dJ0_charAt_5068e_4 (by decide) rfl (fun h => absurd h (by decide)) (fun _ => ?_)
  refine g_aload_n dJ0_charAt_5068e_7 rfl rfl ?_
  refine g_strV hi n_sv dJ0_charAt_5068e_8 rfl ?_
  refine g_iload_n dJ0_charAt_5068e_11 rfl rfl ?_
  refine g_callS (As := [.ref (sk (i + 5)), .int (nI j)]) (c_charAt1 sk hi hj) m_J0_495 a_J1_charAt_3b067 dJ0_charAt_5068e_12 rfl [] rfl rfl rfl rfl (by decide) (by decide) (by decide) (by decide) (Nat.le_of_ble_eq_true rfl) (fun r w hK => ?_)
  obtain ⟨rfl, rfl⟩ := hK
  refine ⟨rfl, ?_⟩
  dsimp only [puts, List.set, Option.toList, List.cons_append, List.nil_append, List.append_nil]
  exact g_nret dJ0_charAt_5068e_15 rfl (zCh_all i hi j hj).2 (Nat.le_refl _) (Nat.le_refl _) ⟨rfl, rfl⟩
