/-! calls in G: a contract of the callee on some of the world's cells; the others stay -/
def adr (X : AW) : List Nat := X.map Prod.fst
theorem adr_zW (ca : Nat → ClassId) (X : AW) : (zW ca X).map Prod.fst = adr X := by
  unfold zW adr
  rw [List.map_map]
  rfl
theorem vaD_iff {A : Nat → Prop} {X : va_W} : va_D A X ↔ (X.map Prod.fst).Nodup ∧ ∀ a ∈ X.map Prod.fst, A a := by
  constructor
  · intro h
    refine ⟨List.pairwise_iff_getElem.mpr (fun i j hi hj hij e => ?_), fun a ha => ?_⟩
    · rw [List.length_map] at hi hj
      rw [List.getElem_map, List.getElem_map] at e
      have := h.1 i j X[i] X[j] (List.getElem?_eq_getElem hi) (List.getElem?_eq_getElem hj) e
      omega
    · obtain ⟨q, hq, rfl⟩ := List.mem_map.mp ha
      obtain ⟨k, hk⟩ := List.getElem?_of_mem hq
      exact h.2 k q hk
  · intro h
    refine ⟨fun i j p q hi hj e => ?_, fun k q hk => h.2 q.1 (List.mem_map.mpr ⟨q, List.mem_of_getElem? hk, rfl⟩)⟩
    obtain ⟨li, rfl⟩ := List.getElem?_eq_some_iff.mp hi
    obtain ⟨lj, rfl⟩ := List.getElem?_eq_some_iff.mp hj
    have h1 := List.pairwise_iff_getElem.mp h.1
    rcases Nat.lt_trichotomy i j with q | q | q
    · exact absurd (by rw [List.getElem_map, List.getElem_map]; exact e) (h1 i j (by simpa using li) (by simpa using lj) q)
    · exact q
    · exact absurd (by rw [List.getElem_map, List.getElem_map]; exact e.symm) (h1 j i (by simpa using lj) (by simpa using li) q)
/-- the cells w1 in the places is of ws, what is over behind them -/
def puts : AW → List Nat → AW → AW
  | ws, [], w1 => ws ++ w1
  | ws, _ :: _, [] => ws
  | ws, i :: is, c :: w1 => puts (ws.set i c) is w1
theorem puts_mem : ∀ (is : List Nat) (ws w1 : AW) (q : Nat × AE), q ∈ puts ws is w1 → q ∈ w1 ∨ ∃ k : Nat, ws[k]? = some q ∧ (is.length ≤ w1.length → k ∉ is)
  | [], ws, w1, q, h => by
    rw [puts] at h
    rcases List.mem_append.mp h with h | h
    · obtain ⟨k, hk⟩ := List.getElem?_of_mem h
      exact Or.inr ⟨k, hk, fun _ => List.not_mem_nil⟩
    · exact Or.inl h
  | i :: is, ws, [], q, h => by
    rw [puts] at h
    obtain ⟨k, hk⟩ := List.getElem?_of_mem h
    exact Or.inr ⟨k, hk, fun z => absurd z (by simp)⟩
  | i :: is, ws, c :: w1, q, h => by
    rw [puts] at h
    rcases puts_mem is (ws.set i c) w1 q h with h1 | ⟨k, hk, hn⟩
    · exact Or.inl (List.mem_cons_of_mem _ h1)
    · by_cases hki : i = k
      · subst hki
        rw [List.getElem?_set] at hk
        simp only [if_true] at hk
        split at hk
        · cases hk; exact Or.inl List.mem_cons_self
        · cases hk
      · rw [List.getElem?_set_ne hki] at hk
        refine Or.inr ⟨k, hk, fun z hm => ?_⟩
        rcases List.mem_cons.mp hm with e | hm
        · exact hki e.symm
        · exact hn (by simpa using z) hm
theorem puts_adr : ∀ (is : List Nat) (ws w1 : AW), is.map (fun i => (adr ws)[i]?) = ((adr w1).take is.length).map some → is.length ≤ w1.length → adr (puts ws is w1) = adr ws ++ adr (w1.drop is.length)
  | [], ws, w1, _, _ => by rw [puts]; simp [adr]
  | i :: is, ws, [], _, h => absurd h (by simp)
  | i :: is, ws, c :: w1, h, hl => by
    rw [puts]
    have h1 : (adr ws)[i]? = some c.1 := by
      have := congrArg List.head? h
      simpa [adr] using this
    have h2 : adr (ws.set i c) = adr ws := by
      unfold adr
      rw [List.map_set]
      apply List.ext_getElem?
      intro j
      by_cases hj : i = j
      · subst hj
        rw [List.getElem?_set]
        simp only [if_true]
        unfold adr at h1
        split
        · exact h1.symm
        · rename_i z
          rw [List.getElem?_eq_none (by omega)]
      · rw [List.getElem?_set_ne hj]
    have h3 : is.map (fun i => (adr (ws.set i c))[i]?) = is.map (fun i => (adr (ws.set i c))[i]?) := rfl
    rw [puts_adr is (ws.set i c) w1 (by
      rw [h2]
      have := congrArg List.tail h
      simpa [adr] using this) (by simpa using hl), h2]
    rfl
theorem zPuts {G : va_G} {cl : List vw_C} {ca : Nat → ClassId} {A0 : Nat → Prop} {ws wc w1 : AW} {is : List Nat} {H H1 : Heap} (hP : va_P G cl (zW ca ws) H) (hD : va_D A0 (zW ca ws)) (hC : is.map (fun i => ws[i]?) = wc.map some)
    (hk : ∀ q : Nat, q < H.size → ¬ va_A (zW ca wc) H.size q → H1[q]? = H[q]?) (hF : ∀ q, va_A (zW ca wc) H.size q → A0 q) (hP1 : va_P G cl (zW ca w1) H1) (hD1 : va_D (va_A (zW ca wc) H.size) (zW ca w1)) (ha : (adr w1).take is.length = adr wc) :
    va_P G cl (zW ca (puts ws is w1)) H1 ∧ va_D A0 (zW ca (puts ws is w1)) := by
  have hlw : wc.length = is.length := by
    have := congrArg List.length hC
    simpa using this.symm
  have hlen : is.length ≤ w1.length := by
    have := congrArg List.length ha
    simp [adr] at this
    omega
  have inA : ∀ a, a ∈ adr wc ↔ ∃ (k : Nat) (e : va_E), (zW ca wc)[k]? = some (a, e) := by
    intro a
    rw [← adr_zW ca]
    constructor
    · intro h
      obtain ⟨q, hq, rfl⟩ := List.mem_map.mp h
      obtain ⟨k, hk⟩ := List.getElem?_of_mem hq
      exact ⟨k, q.2, hk⟩
    · rintro ⟨k, e, h⟩
      exact List.mem_map.mpr ⟨(a, e), List.mem_of_getElem? h, rfl⟩
  have hlt : ∀ a ∈ adr ws, a < H.size := by
    intro a h
    rw [← adr_zW ca] at h
    obtain ⟨q, hq, rfl⟩ := List.mem_map.mp h
    obtain ⟨k, hk⟩ := List.getElem?_of_mem hq
    exact (hP k q hk).lt
  have hsub : ∀ a ∈ adr wc, ∃ i ∈ is, (adr ws)[i]? = some a := by
    intro a h
    obtain ⟨q, hq, rfl⟩ := List.mem_map.mp h
    have h1 : some q ∈ wc.map some := List.mem_map.mpr ⟨q, hq, rfl⟩
    rw [← hC] at h1
    obtain ⟨i, hi, e⟩ := List.mem_map.mp h1
    refine ⟨i, hi, ?_⟩
    unfold adr
    rw [List.getElem?_map, e]
    rfl
  obtain ⟨hn, hA⟩ := vaD_iff.mp hD
  rw [adr_zW] at hn hA
  obtain ⟨hn1, hA1⟩ := vaD_iff.mp hD1
  rw [adr_zW] at hn1 hA1
  constructor
  · intro k q hq
    unfold zW at hq
    rw [List.getElem?_map] at hq
    obtain ⟨q0, hq0, rfl⟩ := Option.map_eq_some_iff.mp hq
    rcases puts_mem is ws w1 q0 (List.mem_of_getElem? hq0) with h | ⟨j, hj, hnj⟩
    · obtain ⟨j, hj⟩ := List.getElem?_of_mem h
      exact hP1 j _ (zW_get ca hj)
    · have h1 := hP j _ (zW_get ca (a := q0.1) (e := q0.2) hj)
      refine h1.kept (hk _ h1.lt (fun z => ?_))
      rcases z with z | z
      · have z1 := (inA q0.1).mpr z
        obtain ⟨i, hi, e⟩ := hsub _ z1
        have ej : (adr ws)[j]? = some q0.1 := by unfold adr; rw [List.getElem?_map, hj]; rfl
        have hij : i = j := by
          obtain ⟨li, e1⟩ := List.getElem?_eq_some_iff.mp e
          obtain ⟨lj, e2⟩ := List.getElem?_eq_some_iff.mp ej
          have hp := List.pairwise_iff_getElem.mp hn
          rcases Nat.lt_trichotomy i j with q | q | q
          · exact absurd (e1.trans e2.symm) (hp i j li lj q)
          · exact q
          · exact absurd (e2.trans e1.symm) (hp j i lj li q)
        exact hnj hlen (hij ▸ hi)
      · exact absurd h1.lt (Nat.not_lt.mpr z)
  · have hC2 : is.map (fun i => (adr ws)[i]?) = ((adr w1).take is.length).map some := by
      rw [ha]
      have e : is.map (fun i => (adr ws)[i]?) = (is.map (fun i => ws[i]?)).map (Option.map Prod.fst) := by
        rw [List.map_map]
        apply List.map_congr_left
        intro i _
        show (adr ws)[i]? = (ws[i]?).map _
        unfold adr
        rw [List.getElem?_map]
      rw [e, hC, List.map_map]
      unfold adr
      rw [List.map_map]
      rfl
    have hsplit : adr w1 = adr wc ++ adr (w1.drop is.length) := by
      rw [← ha]
      unfold adr
      rw [List.map_drop, List.take_append_drop]
    have hnew : ∀ a ∈ adr (w1.drop is.length), H.size ≤ a := by
      intro a h
      have h1 : a ∈ adr w1 := by rw [hsplit]; exact List.mem_append_right _ h
      rcases hA1 a h1 with z | z
      · have z1 := (inA a).mpr z
        rw [hsplit] at hn1
        exact absurd rfl ((List.nodup_append.mp hn1).2.2 a z1 a h)
      · exact z
    rw [vaD_iff, adr_zW, puts_adr is ws w1 hC2 hlen]
    constructor
    · refine List.nodup_append.mpr ⟨hn, ?_, fun a h1 b h2 => ?_⟩
      · rw [hsplit] at hn1
        exact (List.nodup_append.mp hn1).2.1
      · have := hlt a h1
        have := hnew b h2
        omega
    · intro a h
      rcases List.mem_append.mp h with h | h
      · exact hA a h
      · exact hF a (hA1 a (by rw [hsplit]; exact List.mem_append_right _ h))
section CALLS
variable {sk : Nat → Nat} {own : String} {y : MethodName} {cc : ByteArray} {nL : Nat} {rt : Option FieldType} {d mc ms : Nat} {Ψ : PS} {k n pc q : Nat} {l : LV} {st : List Value} {ws : AW}
variable {p : Program} {la : Launch} {e : Env} {R : Room} {s : State} {m : MethodId} {args : Array Value} {below : List Frame} {meth : Method} {c : Code} {H : Heap} {locs : List Loc} {Q : State → Prop}
theorem z_call {G : va_G} {ca : Nat → ClassId} {A0 A1 free : Nat → Prop} {Ψ1 : PS} {a : Array Value} {mc1 ms1 : Nat} {st0 rest : List Value} {ls : Array Slot} (hr : va_Run p la e R s m args below meth c H locs k n mc1 ms1 (F0 m pc ls st0) rest (zQ Ψ1 G ca A1 a) free)
    (hS : va_S A0 s.heap H locs) (hA : ∀ q, q < H.size → A1 q → A0 q) (hf : ∀ q, free q → A0 q)
    (kk : ∀ (r : Option Value) (w1 : AW) (H1 : Heap) (locs1 : List Loc), Ψ1 r w1 → va_P G vwCl (zW ca w1) H1 → va_D A1 (zW ca w1) → (∀ q : Nat, q < H.size → ¬ A1 q → H1[q]? = H[q]?) → va_S A0 s.heap H1 locs1 → W p la e R s m args below meth c H1 locs1 (k + mc1) (n + ms1) Q (F0 m (pc + 3) ls (r.toList ++ rest))) : W p la e R s m args below meth c H locs k n Q (F0 m pc ls st0) := by
  intro T hT X
  obtain ⟨v, st₀, t, T', L, h0, X', hL, e1, e2, ⟨⟨r, u, hv, hp, hb, hb2⟩, hz, hk⟩, stp⟩ := hr T hT X
  cases hv
  rw [h0] at hz hk
  obtain ⟨t2, a1, b1⟩ := kk v u T'.heap (locs ++ L) hp (by rw [e1]; exact hb) hb2 (fun q h1 h2 => by rw [e1]; exact hk q h1 h2)
    ⟨Nat.le_trans hS.1 (by rw [e1]; exact hz), fun q h1 h2 => by rw [e1, hk q (Nat.lt_of_lt_of_le h1 hS.1) (fun z => h2 (hA q (Nat.lt_of_lt_of_le h1 hS.1) z))]; exact hS.2.1 q h1 h2, fun q hq => by
      rcases List.mem_append.mp hq with h | h
      · exact hS.2.2 q h
      · exact hf _ (hL q h)⟩ T' rfl X'
  exact ⟨t2, stp t2 a1, b1⟩
theorem zB_blind {G : va_G} {ca : Nat → ClassId} {wc : AW} {sz : Nat} {av : List Value} : FrameBlind (va_Pc av (zB sk G ca wc sz)) := fun a U g mk h => by
  obtain ⟨q0, q1, qP, qK, qD, qZ, qR⟩ := h
  exact ⟨q0, q1, qP, va_K.moved (u := U) (U := U.calling g mk a) (Vm.Alike.refl U.vm) qK, qD, zStr.moved (u := U) (U := U.calling g mk a) (Vm.Alike.refl U.vm) qZ, zRef.same rfl qR⟩
theorem zW_free {ca : Nat → ClassId} {A0 : Nat → Prop} {ws wc : AW} {is : List Nat} (hC : is.map (fun i => ws[i]?) = wc.map some) (hD : va_D A0 (zW ca ws)) (hS : va_S A0 s.heap H locs) (hA : ∀ q, s.heap.size ≤ q → A0 q) : ∀ q, va_A (zW ca wc) H.size q → A0 q := va_free (wc := zW ca wc) hD hS hA is (zW_pick ca hC)
theorem zP_pick {G : va_G} {ca : Nat → ClassId} {ws wc : AW} {is : List Nat} (hC : is.map (fun i => ws[i]?) = wc.map some) (hP : va_P G vwCl (zW ca ws) H) : va_P G vwCl (zW ca wc) H := by
  intro j q hj
  have h1 := zW_pick ca hC
  have h2 : (is.map (fun i => (zW ca ws)[i]?))[j]? = some (some q) := by rw [h1, List.getElem?_map, hj]; rfl
  rw [List.getElem?_map] at h2
  obtain ⟨i, hi, e⟩ := Option.map_eq_some_iff.mp h2
  exact hP i q e
theorem zB_at {G : va_G} {ca : Nat → ClassId} {A : Nat → Prop} {wc : AW} {is : List Nat} (C : zC sk own y cc nL rt p s m args meth c G ca A) (hC : is.map (fun i => ws[i]?) = wc.map some) (hn : va_nd is = true) (hP : va_P G vwCl (zW ca ws) H) (hD : va_D A (zW ca ws)) (hS : va_S A s.heap H locs) (U : State) (hU : U.heap = H) (hW : s.WarmedH U.vm) : zB sk G ca wc H.size U := by
  have hP1 := zP_pick hC hP
  have hD1 := hD.sub (ws' := zW ca wc) is hn (zW_pick ca hC)
  refine ⟨by rw [hU], by rw [hU]; exact hP1, va_K.moved hW.alike C.2.2.2.2.2.2.2.2.1, hD1.weaken (fun _ _ _ _ => trivial), ?_, C.2.2.2.2.2.2.2.2.2.2.2.warm hW⟩
  have h1 := (C.2.2.2.2.2.2.2.2.2.2.1.kept hS.2.1).narrow (zW_free hC hD hS C.2.2.2.2.2.2.2.2.2.1)
  rw [hU]
  exact h1.moved hW.alike
theorem zT_warm (hts : ∀ w ∈ T0, w.before args s = true) {w : Cond} (h : w ∈ T0) (a' : Array Value) (U : State) (hW : s.WarmedH U.vm) : w.before a' U = true := word_at hW (good_of_word (List.all_eq_true.mp T0_good w h)) (hts w h)
theorem zT_cons {y1 : MethodName} {cc1 : ByteArray} {nL1 : Nat} {rt1 : Option FieldType} (hts : ∀ w ∈ T0, w.before args s = true) (h : Cond.code y1 cc1 nL1 rt1 ∈ T0) : ∀ w ∈ Cond.code y1 cc1 nL1 rt1 :: T0, ∀ (a' : Array Value) (U : State), s.WarmedH U.vm → w.before a' U = true := fun w hw a' U hW => by
  rcases List.mem_cons.mp hw with e | hw
  · rw [e]; exact zT_warm hts h a' U hW
  · exact zT_warm hts hw a' U hW
theorem g_callV {i ci na d1 mc1 ms1 nL1 b : Nat} {y1 : MethodName} {cc1 : ByteArray} {rt1 : Option FieldType} {wc : AW} {As rest : List Value} {Ψ1 : PS} {fs : List Value} (K : Ct sk y1 cc1 nL1 rt1 d1 mc1 ms1 wc (.ref b :: As) Ψ1) (M : MV own i ci y1) (Ma : MA y1 cc1 nL1 rt1 na) (hd : decode cc pc = .ok (.invokevirtual i, 3)) (hq : pc + 3 = q)
    (is : List Nat) (hC : is.map (fun i => ws[i]?) = wc.map some) (hn : va_nd is = true) (q0 : Nat) (he : wc[q0]? = some (b, .inr (ci, fs))) (hst : st = As.reverse ++ .ref b :: rest) (hna : As.length = na) (hd1 : d1 + 1 ≤ d) (hL : nL1 ≤ 45) (hk : k + mc1 ≤ mc) (hs : n + ms1 ≤ ms) (hr : (rest.map fun v => v.category).sum ≤ 8)
    (kk : ∀ (r : Option Value) (w1 : AW), Ψ1 r w1 → (adr w1).take is.length = adr wc ∧ GG sk own y cc nL rt d mc ms Ψ (k + mc1) (n + ms1) q l (r.toList ++ rest) (puts ws is w1)) : GG sk own y cc nL rt d mc ms Ψ k n pc l st ws := by
  subst hq; subst hst
  intro p la e s m args below meth c G ca A H locs ls C hl hP hD hS
  have hts := C.2.2.2.2.2.2.2.1
  have hF := zW_free hC hD hS C.2.2.2.2.2.2.2.2.2.1
  obtain ⟨T, N, hcl⟩ := M.2.2.2
  refine z_call (va_runV (As := As) (rest := rest) (n := na) ⟨C.1, C.2.1, C.2.2.2.2.1, C.2.2.2.2.2.1, hts⟩ (K la G ca H.size) ⟨⟨rfl, rfl, hd1, by show 8 + (nL1 + 11) + 64 * d1 ≤ 64 * d; omega, zT_cons hts Ma.1, List.mem_cons_self, hts _ Ma.1, hts _ Ma.2.1, Ma.2.2.1, fun sig h => by have h9 := Ma.2.2.2; rw [h] at h9; exact (Option.some.inj h9).symm, hts _ M.1⟩, hts _ M.2.1, hts _ M.2.2.1⟩ ⟨zB_blind, va_recv C.2.2.2.2.2.2.2.2.1 (zP_pick hC hP) hcl (zW_get ca he), fun U hU hW => ⟨rfl, zB_at C hC hn hP hD hS U hU hW⟩⟩ rfl hna hl.1 rfl (lv_room hr) hd ⟨hk, hs⟩) hS (fun q _ h => hF q h) hF (fun r w1 H1 locs1 hΨ hP1 hD1 hk1 hS1 => ?_)
  obtain ⟨ha, hg⟩ := kk r w1 hΨ
  obtain ⟨hP2, hD2⟩ := zPuts hP hD hC hk1 hF hP1 hD1 ha
  exact hg p la e s m args below meth c G ca A H1 locs1 ls C hl hP2 hD2 hS1
theorem g_callS {i na d1 mc1 ms1 nL1 : Nat} {y1 : MethodName} {cc1 : ByteArray} {rt1 : Option FieldType} {wc : AW} {As rest : List Value} {Ψ1 : PS} (K : Ct sk y1 cc1 nL1 rt1 d1 mc1 ms1 wc As Ψ1) (M : MS own i y1) (Ma : MA y1 cc1 nL1 rt1 na) (hd : decode cc pc = .ok (.invokestatic i, 3)) (hq : pc + 3 = q)
    (is : List Nat) (hC : is.map (fun i => ws[i]?) = wc.map some) (hn : va_nd is = true) (hst : st = As.reverse ++ rest) (hna : As.length = na) (hd1 : d1 + 1 ≤ d) (hL : nL1 ≤ 45) (hk : k + mc1 ≤ mc) (hs : n + ms1 ≤ ms) (hr : (rest.map fun v => v.category).sum ≤ 8)
    (kk : ∀ (r : Option Value) (w1 : AW), Ψ1 r w1 → (adr w1).take is.length = adr wc ∧ GG sk own y cc nL rt d mc ms Ψ (k + mc1) (n + ms1) q l (r.toList ++ rest) (puts ws is w1)) : GG sk own y cc nL rt d mc ms Ψ k n pc l st ws := by
  subst hq; subst hst
  intro p la e s m args below meth c G ca A H locs ls C hl hP hD hS
  have hts := C.2.2.2.2.2.2.2.1
  have hF := zW_free hC hD hS C.2.2.2.2.2.2.2.2.2.1
  refine z_call (va_runS (As := As) (rest := rest) (n := na) ⟨C.1, C.2.1, C.2.2.2.2.1, C.2.2.2.2.2.1, hts⟩ (K la G ca H.size) ⟨⟨rfl, rfl, hd1, by show 8 + (nL1 + 11) + 64 * d1 ≤ 64 * d; omega, zT_cons hts Ma.1, List.mem_cons_self, hts _ Ma.1, hts _ Ma.2.1, Ma.2.2.1, fun sig h => by have h9 := Ma.2.2.2; rw [h] at h9; exact (Option.some.inj h9).symm, hts _ M.1⟩, hts _ M.2⟩ ⟨zB_blind, fun U hU hW => ⟨rfl, zB_at C hC hn hP hD hS U hU hW⟩⟩ rfl hna hl.1 rfl (lv_room hr) hd ⟨hk, hs⟩) hS (fun q _ h => hF q h) hF (fun r w1 H1 locs1 hΨ hP1 hD1 hk1 hS1 => ?_)
  obtain ⟨ha, hg⟩ := kk r w1 hΨ
  obtain ⟨hP2, hD2⟩ := zPuts hP hD hC hk1 hF hP1 hD1 ha
  exact hg p la e s m args below meth c G ca A H1 locs1 ls C hl hP2 hD2 hS1
theorem g_callN {i na d1 mc1 ms1 nL1 : Nat} {host : String} {y1 : MethodName} {cc1 : ByteArray} {rt1 : Option FieldType} {wc : AW} {As rest : List Value} {Ψ1 : PS} (K : Ct sk y1 cc1 nL1 rt1 d1 mc1 ms1 wc As Ψ1) (M : MN own i y1 host) (Ma : MA y1 cc1 nL1 rt1 na) (hd : decode cc pc = .ok (.invokestatic i, 3)) (hq : pc + 3 = q)
    (is : List Nat) (hC : is.map (fun i => ws[i]?) = wc.map some) (hn : va_nd is = true) (hst : st = As.reverse ++ rest) (hna : As.length = na) (hd1 : d1 + 1 ≤ d) (hL : nL1 ≤ 45) (hk : k + mc1 ≤ mc) (hs : n + ms1 ≤ ms) (hr : (rest.map fun v => v.category).sum ≤ 8)
    (kk : ∀ (r : Option Value) (w1 : AW), Ψ1 r w1 → (adr w1).take is.length = adr wc ∧ GG sk own y cc nL rt d mc ms Ψ (k + mc1) (n + ms1) q l (r.toList ++ rest) (puts ws is w1)) : GG sk own y cc nL rt d mc ms Ψ k n pc l st ws := by
  subst hq; subst hst
  intro p la e s m args below meth c G ca A H locs ls C hl hP hD hS
  have hts := C.2.2.2.2.2.2.2.1
  have hF := zW_free hC hD hS C.2.2.2.2.2.2.2.2.2.1
  refine z_call (va_runSN (As := As) (rest := rest) (n := na) ⟨C.1, C.2.1, C.2.2.2.2.1, C.2.2.2.2.2.1, hts⟩ (K la G ca H.size) ⟨va_cnB na hts (fun w hw => ?_) rfl rfl rfl (C.2.2.2.2.2.2.2.2.2.2.2.2.2.2.2.2.1 _ M.2) (hts _ Ma.2.1) ⟨Ma.2.2.1.1, Ma.2.2.1.2, Ma.2.2.2⟩ ⟨hd1, by show 8 + (nL1 + 11) + 64 * d1 ≤ 64 * d; omega⟩, hts _ M.1, trivial⟩ ⟨zB_blind, fun U hU hW => ⟨rfl, zB_at C hC hn hP hD hS U hU hW⟩⟩ rfl hna hl.1 rfl (lv_room hr) hd ⟨hk, hs⟩) hS (fun q _ h => hF q h) hF (fun r w1 H1 locs1 hΨ hP1 hD1 hk1 hS1 => ?_)
  · rcases List.mem_cons.mp hw with e | hw
    · rw [e]; exact ⟨Ma.1, good_of_word (List.all_eq_true.mp T0_good _ Ma.1)⟩
    · exact ⟨hw, good_of_word (List.all_eq_true.mp T0_good _ hw)⟩
  obtain ⟨ha, hg⟩ := kk r w1 hΨ
  obtain ⟨hP2, hD2⟩ := zPuts hP hD hC hk1 hF hP1 hD1 ha
  exact hg p la e s m args below meth c G ca A H1 locs1 ls C hl hP2 hD2 hS1
theorem g_callI {i na d1 mc1 ms1 nL1 b : Nat} {y1 : MethodName} {cc1 : ByteArray} {wc : AW} {As rest : List Value} {Ψ1 : PS} (K : Ct sk y1 cc1 nL1 none d1 mc1 ms1 wc (.ref b :: As) Ψ1) (M : MI own i y1) (Ma : MA y1 cc1 nL1 none na) (hd : decode cc pc = .ok (.invokespecial i, 3)) (hq : pc + 3 = q)
    (is : List Nat) (hC : is.map (fun i => ws[i]?) = wc.map some) (hn : va_nd is = true) (hst : st = As.reverse ++ .ref b :: rest) (hna : As.length = na) (hd1 : d1 + 1 ≤ d) (hL : nL1 ≤ 45) (hk : k + mc1 ≤ mc) (hs : n + ms1 ≤ ms) (hr : (rest.map fun v => v.category).sum ≤ 8)
    (kk : ∀ (r : Option Value) (w1 : AW), Ψ1 r w1 → (adr w1).take is.length = adr wc ∧ GG sk own y cc nL rt d mc ms Ψ (k + mc1) (n + ms1) q l (r.toList ++ rest) (puts ws is w1)) : GG sk own y cc nL rt d mc ms Ψ k n pc l st ws := by
  subst hq; subst hst
  intro p la e s m args below meth c G ca A H locs ls C hl hP hD hS
  have hts := C.2.2.2.2.2.2.2.1
  have hF := zW_free hC hD hS C.2.2.2.2.2.2.2.2.2.1
  refine z_call (va_runI (As := As) (rest := rest) (n := na) ⟨C.1, C.2.1, C.2.2.2.2.1, C.2.2.2.2.2.1, hts⟩ (K la G ca H.size) ⟨⟨rfl, rfl, hd1, by show 8 + (nL1 + 11) + 64 * d1 ≤ 64 * d; omega, zT_cons hts Ma.1, List.mem_cons_self, hts _ Ma.1, hts _ Ma.2.1, Ma.2.2.1, fun sig h => by have h9 := Ma.2.2.2; rw [h] at h9; exact (Option.some.inj h9).symm, hts _ M.1⟩, M.2.2, hts _ M.2.1⟩ ⟨zB_blind, fun U hU hW => ⟨rfl, zB_at C hC hn hP hD hS U hU hW⟩⟩ rfl hna hl.1 rfl (lv_room hr) hd ⟨hk, hs⟩) hS (fun q _ h => hF q h) hF (fun r w1 H1 locs1 hΨ hP1 hD1 hk1 hS1 => ?_)
  obtain ⟨ha, hg⟩ := kk r w1 hΨ
  obtain ⟨hP2, hD2⟩ := zPuts hP hD hC hk1 hF hP1 hD1 ha
  exact hg p la e s m args below meth c G ca A H1 locs1 ls C hl hP2 hD2 hS1
end CALLS
/-- one answer, one world -/
abbrev zD (v : Option Value) (w : AW) : PS := fun r w1 => r = v ∧ w1 = w
