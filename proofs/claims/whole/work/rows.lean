section
/-! ===== BEGIN new T[n][m]: the outer array a place, the inner ones among the pooled ===== -/
/-- f, but v at every address of l -/
def vr_up {α : Type} (f : Nat → α) (l : List Nat) (v : α) : Nat → α := fun a => if a ∈ l then v else f a
theorem vr_up_in {α : Type} {f : Nat → α} {l : List Nat} {v : α} {a : Nat} (h : a ∈ l) : vr_up f l v a = v := if_pos h
theorem vr_up_ne {α : Type} {f : Nat → α} {l : List Nat} {v : α} {a : Nat} (h : a ∉ l) : vr_up f l v a = f a := if_neg h
theorem vr_rows {L l : List Nat} {f : Nat → va_E} {e : va_E} (h : ∀ a, a ∈ l → a ∉ L) : va_pl L f ++ l.map (fun a => (a, e)) = va_pl (L ++ l) (vr_up f l e) := by
  unfold va_pl
  rw [List.map_append]
  congr 1
  · apply List.map_congr_left
    intro a ha
    rw [vr_up_ne (fun q => h a q ha)]
  · apply List.map_congr_left
    intro a ha
    rw [vr_up_in ha]
theorem vr_lay {X rows : va_W} {x : Nat × va_E} {pl : va_W} {D : va_G} {cl : List vw_C} {H : Heap} (hP : va_P D cl (((X ++ pl) ++ [x]) ++ rows) H) : va_P D cl ((X ++ [x]) ++ (pl ++ rows)) H := by
  rw [List.append_assoc (X ++ pl)] at hP
  have h := va_P.swap hP
  rw [← List.append_assoc X] at h
  have h2 := va_P.swap h
  rw [List.append_assoc (X ++ [x])] at h2
  exact h2
theorem vr_layD {X rows : va_W} {x : Nat × va_E} {pl : va_W} {A : Nat → Prop} (hD : va_D A (((X ++ pl) ++ [x]) ++ rows)) : va_D A ((X ++ [x]) ++ (pl ++ rows)) := by
  rw [List.append_assoc (X ++ pl)] at hD
  have h := va_D.swap hD
  rw [← List.append_assoc X] at h
  have h2 := va_D.swap h
  rw [List.append_assoc (X ++ [x])] at h2
  exact h2
theorem vr_outer (c : ClassId) (N h0 : Nat) : ∀ i : Nat, Jvm.Free.Multi.outerC c N h0 i = arrV c N (fun j => va_rf (if j < i then some (h0 + 1 + j) else none))
  | 0 => by
    show ({ cls := c, slots := Array.replicate N .null, vm := .none } : Cell) = _
    rw [arrV_new]
    refine congrArg (arrV c N) (funext fun j => ?_)
    simp [va_rf]
  | i + 1 => by
    show (Jvm.Free.Multi.outerC c N h0 i).setSlot i (.ref (h0 + 1 + i)) = _
    rw [vr_outer c N h0 i, arrV_store]
    refine congrArg (arrV c N) (funext fun j => ?_)
    by_cases e : j = i
    · subst e
      simp [updV, va_rf]
    · by_cases h : j < i
      · simp [updV, e, h, Nat.lt_succ_of_lt h]
      · simp [updV, e, h, show ¬ j < i + 1 by omega]
section VGM
variable {p : Program} {l : Launch} {e : Env} {R : Room} {s : State} {m : MethodId} {args : Array Value} {below : List Frame} {meth : Method} {c : Code} {H : Heap} {locs : List Loc} {cells slots : Nat} {Q : State → Prop}
variable {cc : ByteArray} {pc : Nat} {ls : Array Slot} {rest : List Value} {D : va_G} {cl : List vw_C} {A : Nat → Prop} {a : Nat} {tys : List (ClassId × FieldType)} {ws : va_W} {H0 : Heap}
theorem va_mna {X : va_W} {L : List Nat} {f : Nat → va_E} {cc : ByteArray} (hexec : p.tables.exec = Jvm.exec) (hb : c.code = cc) {own : String} {index : Nat} {ty : FieldType} {cy : ClassId} (hown : s.vm.findClass own = some m.cls) (hclink : (Cond.classLink own index ("[" ++ (FieldType.array ty).toString)).before args s = true) (hover : (Cond.arrayOver (.array ty)).before #[] s = true) (harr : (Cond.arrayClass ty).before args s = true) (hcy : s.vm.findClass (FieldType.array ty).toString = some cy)
    (hK : va_K D cl tys s) (hP : va_P D cl (X ++ va_pl L f) H) (hD : va_D A (X ++ va_pl L f)) (hS : va_S A H0 H locs) (hA : ∀ q, H0.size ≤ q → A q) {n k : Int32} {N' K' : Nat} {z : vp_A} (hn : ¬ n < 0) (hk : ¬ k < 0) (hN : n.toNatClampNeg = N') (hM : k.toNatClampNeg = K')
    (hb1 : N' * 4 ≤ 536870912) (hb2 : K' * componentBytes ty ≤ 536870912) (hb3 : K' ≤ 536870912) (hdf : fits ty (defaultValue ty) = true) (hdd : (defaultValue ty).isDefault = true) (hcells : cells + (1 + N') ≤ R.cells) (hslots : slots + (N' + N' * K') ≤ R.slots) (hz : ∀ c : ClassId, Jvm.Free.Multi.innerC c K' (defaultValue ty) = vp_cell c z) (hdg : decode cc pc = .ok (.multianewarray index 2, 4))
    (kk : ∀ (q : Nat) (r : Nat → Nat) (cA : ClassId) (H1 : Heap), (∀ i j : Nat, i < N' → j < N' → r i = r j → i = j) → (∀ i : Nat, i < N' → r i ∉ L) → va_K D cl (tys ++ [(cA, .array ty)]) s →
      va_P D cl ((X ++ [(q, .inl (cA, N', .inr (.inr (.inr (.inr (fun i => if i < N' then some (r i) else none))))))]) ++ va_pl (L ++ (List.range N').map r) (vr_up f ((List.range N').map r) (.inl (cy, z)))) H1 → va_D A ((X ++ [(q, .inl (cA, N', .inr (.inr (.inr (.inr (fun i => if i < N' then some (r i) else none))))))]) ++ va_pl (L ++ (List.range N').map r) (vr_up f ((List.range N').map r) (.inl (cy, z)))) → va_S A H0 H1 locs →
      W p l e R s m args below meth c H1 locs (cells + 1 + N') (slots + N' + N' * K') Q (F0 m (pc + 4) ls (.ref q :: rest))) : W p l e R s m args below meth c H locs cells slots Q (F0 m pc ls (.int k :: .int n :: rest)) := by
  subst hN
  subst hM
  intro T hT Xs
  obtain ⟨vm₁, cA, comp, -, fA, fC, hO, -, X', step⟩ := Xs.multianewarray2F hexec hown hclink (show (Cond.arrayOver (.array ty)).before args s = true from hover) harr (g := F0 m pc ls (.int k :: .int n :: rest)) rfl (by rw [hb]; exact hdg) rfl hn hk hb1 hb2 hb3 hdf hdd hcells hslots
  have ec : some cy = some comp := hcy.symm.trans fC
  cases ec
  generalize hF : Jvm.Free.Multi.fill (T.setVm vm₁) cA cy n.toNatClampNeg k.toNatClampNeg (defaultValue ty) n.toNatClampNeg = F at X' step
  have hTh : (T.setVm vm₁).heap = H := hT
  obtain ⟨f1, f2, -, -⟩ := Jvm.Free.Multi.fill_facts (T.setVm vm₁) cA cy n.toNatClampNeg k.toNatClampNeg (defaultValue ty) n.toNatClampNeg
  rw [hF, hTh] at f1 f2
  have hold : ∀ x : Nat, x < H.size → F.heap[x]? = H[x]? := fun x hx => by
    have := Jvm.Free.Multi.fill_old (T.setVm vm₁) cA cy n.toNatClampNeg k.toNatClampNeg (defaultValue ty) (a := x) (by rw [hTh]; exact hx) n.toNatClampNeg
    rw [hF, hTh] at this
    exact this
  have hrow : ∀ j : Nat, j < n.toNatClampNeg → F.heap[H.size + 1 + j]? = some (vp_cell cy z) := fun j hj => by
    have := Jvm.Free.Multi.fill_inner (T.setVm vm₁) cA cy n.toNatClampNeg k.toNatClampNeg (defaultValue ty) n.toNatClampNeg j hj
    rw [hF, hTh, hz] at this
    exact this
  have hout : Jvm.Free.Multi.outerC cA n.toNatClampNeg H.size n.toNatClampNeg = vp_cell cA (n.toNatClampNeg, .inr (.inr (.inr (.inr (fun i => if i < n.toNatClampNeg then some (H.size + 1 + i) else none))))) := by
    rw [vp_cell_q]
    exact vr_outer cA n.toNatClampNeg H.size n.toNatClampNeg
  rw [hout] at f2
  have hlt : ∀ a, a ∈ L → a < H.size := fun a ha => by
    obtain ⟨k9, hk9⟩ := va_pl_get (X := X) (f := f) ha
    exact (hP k9 _ hk9).lt
  have hnl : ∀ i : Nat, i < n.toNatClampNeg → H.size + 1 + i ∉ L := fun i _ h => by
    have := hlt _ h
    omega
  have hnm : ∀ a, a ∈ (List.range n.toNatClampNeg).map (fun i => H.size + 1 + i) → a ∉ L := fun a ha h => by
    obtain ⟨i, -, rfl⟩ := List.mem_map.mp ha
    have := hlt _ h
    omega
  have hP0 : va_P D cl (X ++ va_pl L f) F.heap := hP.kept (fun k9 x hx => hold x.1 ((hP k9 x hx).lt))
  have hP1 : va_P D cl ((X ++ va_pl L f) ++ [(H.size, .inl (cA, n.toNatClampNeg, .inr (.inr (.inr (.inr (fun i => if i < n.toNatClampNeg then some (H.size + 1 + i) else none))))))]) F.heap := hP0.app (fun k9 x hx => by
    have h0 : k9 < 1 := (List.getElem?_eq_some_iff.mp hx).1
    rw [show k9 = 0 by omega] at hx
    cases hx
    exact f2)
  have hP2 : va_P D cl (((X ++ va_pl L f) ++ [(H.size, .inl (cA, n.toNatClampNeg, .inr (.inr (.inr (.inr (fun i => if i < n.toNatClampNeg then some (H.size + 1 + i) else none))))))]) ++ ((List.range n.toNatClampNeg).map (fun i => H.size + 1 + i)).map (fun a => (a, .inl (cy, z)))) F.heap := hP1.app (fun k9 x hx => by
    obtain ⟨a, ha, rfl⟩ := List.mem_map.mp (List.mem_of_getElem? hx)
    obtain ⟨i, hi, rfl⟩ := List.mem_map.mp ha
    exact hrow i (List.mem_range.mp hi))
  have hD2 : va_D A (((X ++ va_pl L f) ++ [(H.size, .inl (cA, n.toNatClampNeg, .inr (.inr (.inr (.inr (fun i => if i < n.toNatClampNeg then some (H.size + 1 + i) else none))))))]) ++ ((List.range n.toNatClampNeg).map (fun i => H.size + 1 + i)).map (fun a => (a, .inl (cy, z)))) := by
    have hD1 := hD.push (e := .inl (cA, n.toNatClampNeg, .inr (.inr (.inr (.inr (fun i => if i < n.toNatClampNeg then some (H.size + 1 + i) else none)))))) hP rfl (hA _ hS.1)
    generalize hW1 : (X ++ va_pl L f) ++ [(H.size, .inl (cA, n.toNatClampNeg, .inr (.inr (.inr (.inr (fun i => if i < n.toNatClampNeg then some (H.size + 1 + i) else none))))))] = W1 at hD1 hP1 ⊢
    have hle : ∀ (k9 : Nat) (x : Nat × va_E), W1[k9]? = some x → x.1 ≤ H.size := fun k9 x hx => by
      rw [← hW1] at hx
      by_cases hl : k9 < (X ++ va_pl L f).length
      · rw [List.getElem?_append_left hl] at hx
        exact Nat.le_of_lt ((hP k9 x hx).lt)
      · rw [List.getElem?_append_right (by omega)] at hx
        have h0 : k9 - (X ++ va_pl L f).length < 1 := (List.getElem?_eq_some_iff.mp hx).1
        rw [show k9 - (X ++ va_pl L f).length = 0 by omega] at hx
        cases hx
        exact Nat.le_refl _
    have hr : ∀ (k9 : Nat) (x : Nat × va_E), (((List.range n.toNatClampNeg).map (fun i => H.size + 1 + i)).map (fun a => ((a, .inl (cy, z)) : Nat × va_E)))[k9]? = some x → x.1 = H.size + 1 + k9 := fun k9 x hx => by
      rw [List.getElem?_map, List.getElem?_map] at hx
      by_cases h9 : k9 < n.toNatClampNeg
      · rw [List.getElem?_range h9] at hx
        cases hx
        rfl
      · have hn0 : (List.range n.toNatClampNeg)[k9]? = none := List.getElem?_eq_none (by rw [List.length_range]; omega)
        rw [hn0] at hx
        cases hx
    refine ⟨fun i j x y hi hj hxy => ?_, fun k9 x hx => ?_⟩
    · by_cases h1 : i < W1.length <;> by_cases h2 : j < W1.length
      · rw [List.getElem?_append_left h1] at hi
        rw [List.getElem?_append_left h2] at hj
        exact hD1.1 i j x y hi hj hxy
      · rw [List.getElem?_append_left h1] at hi
        rw [List.getElem?_append_right (by omega)] at hj
        have := hle _ _ hi
        have := hr _ _ hj
        omega
      · rw [List.getElem?_append_right (by omega)] at hi
        rw [List.getElem?_append_left h2] at hj
        have := hle _ _ hj
        have := hr _ _ hi
        omega
      · rw [List.getElem?_append_right (by omega)] at hi hj
        have := hr _ _ hi
        have := hr _ _ hj
        omega
    · by_cases h1 : k9 < W1.length
      · rw [List.getElem?_append_left h1] at hx
        exact hD1.2 k9 x hx
      · rw [List.getElem?_append_right (by omega)] at hx
        have := hr _ _ hx
        exact hA _ (by have := hS.1; omega)
  have hAr : ArrOfT s cA (.array ty) := fun N9 z9 => by
    obtain ⟨-, k9, hk9, cm9, hkk9⟩ := (hO 0 0 0).1
    exact ⟨(fun q hq => by cases hq), k9, hk9, cm9, hkk9⟩
  have hK2 : va_K D cl (tys ++ [(cA, .array ty)]) s := ⟨hK.1, fun k9 x hx => by
    by_cases hl : k9 < tys.length
    · rw [List.getElem?_append_left hl] at hx
      exact hK.2 k9 x hx
    · rw [List.getElem?_append_right (by omega)] at hx
      have h0 : k9 - tys.length < 1 := (List.getElem?_eq_some_iff.mp hx).1
      rw [show k9 - tys.length = 0 by omega] at hx
      cases hx
      exact ⟨hAr, fA⟩⟩
  obtain ⟨t, a1, b1⟩ := kk H.size (fun i => H.size + 1 + i) cA F.heap (fun i j _ _ h => by have h9 : H.size + 1 + i = H.size + 1 + j := h; omega) hnl hK2 (by rw [← vr_rows hnm]; exact vr_lay hP2) (by rw [← vr_rows hnm]; exact vr_layD hD2) ⟨by rw [f1]; have := hS.1; omega, fun x h1 h2 => (hold x (Nat.lt_of_lt_of_le h1 hS.1)).trans (hS.2.1 x h1 h2), hS.2.2⟩ F rfl X'
  refine ⟨t, step t ?_, b1⟩
  have e : T.heap.size = H.size := by rw [hT]
  rw [e]
  exact a1
end VGM
/-! ===== END ===== -/
end
section
-- ===== PART A: goes FIRST, ahead of the names: the tables' words, and 'selects' of the private methods out of them =====
/-- a private method of a class that the tables say can be made, by its rows of tables_1 -/
def lw_okq (q : MethodName × Nat) : Prop := (q.1.cls ≠ "java/lang/invoke/MethodHandle" ∧ q.1.cls ≠ "java/lang/invoke/VarHandle") ∧ Cond.instantiable q.1.cls q.2 ∈ tables_1 ∧ Cond.privateMethod q.1 ∈ tables_1 ∧ Cond.instanceMethod q.1 ∈ tables_1
theorem lw_p0 : lw_okq (⟨"SoapPole$Reader", "start", "()V"⟩, 11) := ⟨⟨by decide +kernel, by decide +kernel⟩, List.mem_of_getElem? (i := 24) (by decide +kernel), List.mem_of_getElem? (i := 306) (by decide +kernel), List.mem_of_getElem? (i := 307) (by decide +kernel)⟩
theorem lw_p1 : lw_okq (⟨"SoapPole$Reader", "skipBlanks", "()V"⟩, 11) := ⟨⟨by decide +kernel, by decide +kernel⟩, List.mem_of_getElem? (i := 24) (by decide +kernel), List.mem_of_getElem? (i := 311) (by decide +kernel), List.mem_of_getElem? (i := 312) (by decide +kernel)⟩
theorem lw_p2 : lw_okq (⟨"SoapPole$Reader", "byteAt", "(I)I"⟩, 11) := ⟨⟨by decide +kernel, by decide +kernel⟩, List.mem_of_getElem? (i := 24) (by decide +kernel), List.mem_of_getElem? (i := 315) (by decide +kernel), List.mem_of_getElem? (i := 316) (by decide +kernel)⟩
theorem lw_p3 : lw_okq (⟨"SoapPole$Reader", "readClause", "(LSoapPole$Plan;)V"⟩, 11) := ⟨⟨by decide +kernel, by decide +kernel⟩, List.mem_of_getElem? (i := 24) (by decide +kernel), List.mem_of_getElem? (i := 319) (by decide +kernel), List.mem_of_getElem? (i := 320) (by decide +kernel)⟩
theorem lw_p4 : lw_okq (⟨"SoapPole$Reader", "skipLetters", "()V"⟩, 11) := ⟨⟨by decide +kernel, by decide +kernel⟩, List.mem_of_getElem? (i := 24) (by decide +kernel), List.mem_of_getElem? (i := 323) (by decide +kernel), List.mem_of_getElem? (i := 324) (by decide +kernel)⟩
theorem lw_p5 : lw_okq (⟨"SoapPole$Reader", "kindOf", "(II)I"⟩, 11) := ⟨⟨by decide +kernel, by decide +kernel⟩, List.mem_of_getElem? (i := 24) (by decide +kernel), List.mem_of_getElem? (i := 330) (by decide +kernel), List.mem_of_getElem? (i := 331) (by decide +kernel)⟩
theorem lw_p6 : lw_okq (⟨"SoapPole$Reader", "isWord", "(Ljava/lang/String;II)Z"⟩, 11) := ⟨⟨by decide +kernel, by decide +kernel⟩, List.mem_of_getElem? (i := 24) (by decide +kernel), List.mem_of_getElem? (i := 335) (by decide +kernel), List.mem_of_getElem? (i := 336) (by decide +kernel)⟩
theorem lw_p7 : lw_okq (⟨"SoapPole$Reader", "fail", "(II)V"⟩, 11) := ⟨⟨by decide +kernel, by decide +kernel⟩, List.mem_of_getElem? (i := 24) (by decide +kernel), List.mem_of_getElem? (i := 391) (by decide +kernel), List.mem_of_getElem? (i := 392) (by decide +kernel)⟩
theorem lw_p8 : lw_okq (⟨"SoapPole$Reader", "isTooOften", "(ILSoapPole$Plan;)Z"⟩, 11) := ⟨⟨by decide +kernel, by decide +kernel⟩, List.mem_of_getElem? (i := 24) (by decide +kernel), List.mem_of_getElem? (i := 395) (by decide +kernel), List.mem_of_getElem? (i := 396) (by decide +kernel)⟩
theorem lw_p9 : lw_okq (⟨"SoapPole$Reader", "readNumber", "(IILSoapPole$Plan;)V"⟩, 11) := ⟨⟨by decide +kernel, by decide +kernel⟩, List.mem_of_getElem? (i := 24) (by decide +kernel), List.mem_of_getElem? (i := 399) (by decide +kernel), List.mem_of_getElem? (i := 400) (by decide +kernel)⟩
theorem lw_p10 : lw_okq (⟨"SoapPole$Reader", "isFootTold", "(I)Z"⟩, 11) := ⟨⟨by decide +kernel, by decide +kernel⟩, List.mem_of_getElem? (i := 24) (by decide +kernel), List.mem_of_getElem? (i := 412) (by decide +kernel), List.mem_of_getElem? (i := 413) (by decide +kernel)⟩
theorem lw_p11 : lw_okq (⟨"SoapPole$Reader", "readEnd", "()V"⟩, 11) := ⟨⟨by decide +kernel, by decide +kernel⟩, List.mem_of_getElem? (i := 24) (by decide +kernel), List.mem_of_getElem? (i := 416) (by decide +kernel), List.mem_of_getElem? (i := 417) (by decide +kernel)⟩
theorem lw_p12 : lw_okq (⟨"SoapPole$Reader", "take", "(ILSoapPole$Plan;)V"⟩, 11) := ⟨⟨by decide +kernel, by decide +kernel⟩, List.mem_of_getElem? (i := 24) (by decide +kernel), List.mem_of_getElem? (i := 420) (by decide +kernel), List.mem_of_getElem? (i := 421) (by decide +kernel)⟩
theorem lw_p13 : lw_okq (⟨"SoapPole$Pole", "rub", "(II)I"⟩, 4) := ⟨⟨by decide +kernel, by decide +kernel⟩, List.mem_of_getElem? (i := 131) (by decide +kernel), List.mem_of_getElem? (i := 525) (by decide +kernel), List.mem_of_getElem? (i := 526) (by decide +kernel)⟩
theorem lw_p14 : lw_okq (⟨"SoapPole$Pole", "smear", "(II)V"⟩, 4) := ⟨⟨by decide +kernel, by decide +kernel⟩, List.mem_of_getElem? (i := 131) (by decide +kernel), List.mem_of_getElem? (i := 530) (by decide +kernel), List.mem_of_getElem? (i := 531) (by decide +kernel)⟩
theorem lw_p15 : lw_okq (⟨"SoapPole", "lookAgain", "()V"⟩, 12) := ⟨⟨by decide +kernel, by decide +kernel⟩, List.mem_of_getElem? (i := 16) (by decide +kernel), List.mem_of_getElem? (i := 566) (by decide +kernel), List.mem_of_getElem? (i := 567) (by decide +kernel)⟩
def lw_privs_1 : List (MethodName × Nat) := [(⟨"SoapPole$Reader", "start", "()V"⟩, 11), (⟨"SoapPole$Reader", "skipBlanks", "()V"⟩, 11), (⟨"SoapPole$Reader", "byteAt", "(I)I"⟩, 11), (⟨"SoapPole$Reader", "readClause", "(LSoapPole$Plan;)V"⟩, 11), (⟨"SoapPole$Reader", "skipLetters", "()V"⟩, 11), (⟨"SoapPole$Reader", "kindOf", "(II)I"⟩, 11), (⟨"SoapPole$Reader", "isWord", "(Ljava/lang/String;II)Z"⟩, 11), (⟨"SoapPole$Reader", "fail", "(II)V"⟩, 11), (⟨"SoapPole$Reader", "isTooOften", "(ILSoapPole$Plan;)Z"⟩, 11), (⟨"SoapPole$Reader", "readNumber", "(IILSoapPole$Plan;)V"⟩, 11), (⟨"SoapPole$Reader", "isFootTold", "(I)Z"⟩, 11), (⟨"SoapPole$Reader", "readEnd", "()V"⟩, 11), (⟨"SoapPole$Reader", "take", "(ILSoapPole$Plan;)V"⟩, 11), (⟨"SoapPole$Pole", "rub", "(II)I"⟩, 4), (⟨"SoapPole$Pole", "smear", "(II)V"⟩, 4), (⟨"SoapPole", "lookAgain", "()V"⟩, 12)]
theorem lw_r1 : ∀ q ∈ lw_privs_1, lw_okq q := List.forall_mem_cons.mpr ⟨lw_p0, List.forall_mem_cons.mpr ⟨lw_p1, List.forall_mem_cons.mpr ⟨lw_p2, List.forall_mem_cons.mpr ⟨lw_p3, List.forall_mem_cons.mpr ⟨lw_p4, List.forall_mem_cons.mpr ⟨lw_p5, List.forall_mem_cons.mpr ⟨lw_p6, List.forall_mem_cons.mpr ⟨lw_p7, List.forall_mem_cons.mpr ⟨lw_p8, List.forall_mem_cons.mpr ⟨lw_p9, List.forall_mem_cons.mpr ⟨lw_p10, List.forall_mem_cons.mpr ⟨lw_p11, List.forall_mem_cons.mpr ⟨lw_p12, List.forall_mem_cons.mpr ⟨lw_p13, List.forall_mem_cons.mpr ⟨lw_p14, List.forall_mem_cons.mpr ⟨lw_p15, fun _ h => absurd h List.not_mem_nil⟩⟩⟩⟩⟩⟩⟩⟩⟩⟩⟩⟩⟩⟩⟩⟩
theorem lw_p16 : lw_okq (⟨"SoapPole$Rows", "findAll", "(LSoapPole$Plan;LSoapPole$Pole;)V"⟩, 11) := ⟨⟨by decide +kernel, by decide +kernel⟩, List.mem_of_getElem? (i := 179) (by decide +kernel), List.mem_of_getElem? (i := 590) (by decide +kernel), List.mem_of_getElem? (i := 591) (by decide +kernel)⟩
theorem lw_p17 : lw_okq (⟨"SoapPole$Rows", "fewestGoes", "(LSoapPole$Plan;LSoapPole$Pole;I)I"⟩, 11) := ⟨⟨by decide +kernel, by decide +kernel⟩, List.mem_of_getElem? (i := 179) (by decide +kernel), List.mem_of_getElem? (i := 594) (by decide +kernel), List.mem_of_getElem? (i := 595) (by decide +kernel)⟩
theorem lw_p18 : lw_okq (⟨"SoapPole$Rows", "findFrom", "(LSoapPole$Plan;II)Z"⟩, 11) := ⟨⟨by decide +kernel, by decide +kernel⟩, List.mem_of_getElem? (i := 179) (by decide +kernel), List.mem_of_getElem? (i := 599) (by decide +kernel), List.mem_of_getElem? (i := 600) (by decide +kernel)⟩
theorem lw_p19 : lw_okq (⟨"SoapPole$Rows", "isHopeless", "(LSoapPole$Plan;I)Z"⟩, 11) := ⟨⟨by decide +kernel, by decide +kernel⟩, List.mem_of_getElem? (i := 179) (by decide +kernel), List.mem_of_getElem? (i := 603) (by decide +kernel), List.mem_of_getElem? (i := 604) (by decide +kernel)⟩
theorem lw_p20 : lw_okq (⟨"SoapPole$Rests", "find", "(LSoapPole$Plan;LSoapPole$Pole;)V"⟩, 4) := ⟨⟨by decide +kernel, by decide +kernel⟩, List.mem_of_getElem? (i := 226) (by decide +kernel), List.mem_of_getElem? (i := 635) (by decide +kernel), List.mem_of_getElem? (i := 636) (by decide +kernel)⟩
theorem lw_p21 : lw_okq (⟨"SoapPole$Rests", "bestTurn", "(LSoapPole$Plan;LSoapPole$Pole;I)I"⟩, 4) := ⟨⟨by decide +kernel, by decide +kernel⟩, List.mem_of_getElem? (i := 226) (by decide +kernel), List.mem_of_getElem? (i := 639) (by decide +kernel), List.mem_of_getElem? (i := 640) (by decide +kernel)⟩
theorem lw_p22 : lw_okq (⟨"SoapPole$Rests", "gainAt", "(LSoapPole$Plan;LSoapPole$Pole;II)I"⟩, 4) := ⟨⟨by decide +kernel, by decide +kernel⟩, List.mem_of_getElem? (i := 226) (by decide +kernel), List.mem_of_getElem? (i := 643) (by decide +kernel), List.mem_of_getElem? (i := 644) (by decide +kernel)⟩
theorem lw_p23 : lw_okq (⟨"SoapPole$Rests", "turnOf", "(I)I"⟩, 4) := ⟨⟨by decide +kernel, by decide +kernel⟩, List.mem_of_getElem? (i := 226) (by decide +kernel), List.mem_of_getElem? (i := 648) (by decide +kernel), List.mem_of_getElem? (i := 649) (by decide +kernel)⟩
theorem lw_p24 : lw_okq (⟨"SoapPole$Tale", "goThatHasIt", "(LSoapPole$Plan;I)I"⟩, 4) := ⟨⟨by decide +kernel, by decide +kernel⟩, List.mem_of_getElem? (i := 157) (by decide +kernel), List.mem_of_getElem? (i := 683) (by decide +kernel), List.mem_of_getElem? (i := 684) (by decide +kernel)⟩
theorem lw_p25 : lw_okq (⟨"SoapPole$Tale", "climberOf", "(I)I"⟩, 4) := ⟨⟨by decide +kernel, by decide +kernel⟩, List.mem_of_getElem? (i := 157) (by decide +kernel), List.mem_of_getElem? (i := 687) (by decide +kernel), List.mem_of_getElem? (i := 688) (by decide +kernel)⟩
theorem lw_p26 : lw_okq (⟨"SoapPole", "isImage", "(I)Z"⟩, 12) := ⟨⟨by decide +kernel, by decide +kernel⟩, List.mem_of_getElem? (i := 16) (by decide +kernel), List.mem_of_getElem? (i := 712) (by decide +kernel), List.mem_of_getElem? (i := 713) (by decide +kernel)⟩
theorem lw_p27 : lw_okq (⟨"SoapPoleModel", "reads", "()Z"⟩, 25) := ⟨⟨by decide +kernel, by decide +kernel⟩, List.mem_of_getElem? (i := 720) (by decide +kernel), List.mem_of_getElem? (i := 726) (by decide +kernel), List.mem_of_getElem? (i := 727) (by decide +kernel)⟩
theorem lw_p28 : lw_okq (⟨"SoapPoleModel", "token", "()V"⟩, 25) := ⟨⟨by decide +kernel, by decide +kernel⟩, List.mem_of_getElem? (i := 720) (by decide +kernel), List.mem_of_getElem? (i := 730) (by decide +kernel), List.mem_of_getElem? (i := 731) (by decide +kernel)⟩
theorem lw_p29 : lw_okq (⟨"SoapPoleModel", "byteAt", "(I)I"⟩, 25) := ⟨⟨by decide +kernel, by decide +kernel⟩, List.mem_of_getElem? (i := 720) (by decide +kernel), List.mem_of_getElem? (i := 734) (by decide +kernel), List.mem_of_getElem? (i := 735) (by decide +kernel)⟩
theorem lw_p30 : lw_okq (⟨"SoapPoleModel", "readsClause", "()Z"⟩, 25) := ⟨⟨by decide +kernel, by decide +kernel⟩, List.mem_of_getElem? (i := 720) (by decide +kernel), List.mem_of_getElem? (i := 744) (by decide +kernel), List.mem_of_getElem? (i := 745) (by decide +kernel)⟩
theorem lw_p31 : lw_okq (⟨"SoapPoleModel", "word", "()J"⟩, 25) := ⟨⟨by decide +kernel, by decide +kernel⟩, List.mem_of_getElem? (i := 720) (by decide +kernel), List.mem_of_getElem? (i := 748) (by decide +kernel), List.mem_of_getElem? (i := 749) (by decide +kernel)⟩
def lw_privs_2 : List (MethodName × Nat) := [(⟨"SoapPole$Rows", "findAll", "(LSoapPole$Plan;LSoapPole$Pole;)V"⟩, 11), (⟨"SoapPole$Rows", "fewestGoes", "(LSoapPole$Plan;LSoapPole$Pole;I)I"⟩, 11), (⟨"SoapPole$Rows", "findFrom", "(LSoapPole$Plan;II)Z"⟩, 11), (⟨"SoapPole$Rows", "isHopeless", "(LSoapPole$Plan;I)Z"⟩, 11), (⟨"SoapPole$Rests", "find", "(LSoapPole$Plan;LSoapPole$Pole;)V"⟩, 4), (⟨"SoapPole$Rests", "bestTurn", "(LSoapPole$Plan;LSoapPole$Pole;I)I"⟩, 4), (⟨"SoapPole$Rests", "gainAt", "(LSoapPole$Plan;LSoapPole$Pole;II)I"⟩, 4), (⟨"SoapPole$Rests", "turnOf", "(I)I"⟩, 4), (⟨"SoapPole$Tale", "goThatHasIt", "(LSoapPole$Plan;I)I"⟩, 4), (⟨"SoapPole$Tale", "climberOf", "(I)I"⟩, 4), (⟨"SoapPole", "isImage", "(I)Z"⟩, 12), (⟨"SoapPoleModel", "reads", "()Z"⟩, 25), (⟨"SoapPoleModel", "token", "()V"⟩, 25), (⟨"SoapPoleModel", "byteAt", "(I)I"⟩, 25), (⟨"SoapPoleModel", "readsClause", "()Z"⟩, 25), (⟨"SoapPoleModel", "word", "()J"⟩, 25)]
theorem lw_r2 : ∀ q ∈ lw_privs_2, lw_okq q := List.forall_mem_cons.mpr ⟨lw_p16, List.forall_mem_cons.mpr ⟨lw_p17, List.forall_mem_cons.mpr ⟨lw_p18, List.forall_mem_cons.mpr ⟨lw_p19, List.forall_mem_cons.mpr ⟨lw_p20, List.forall_mem_cons.mpr ⟨lw_p21, List.forall_mem_cons.mpr ⟨lw_p22, List.forall_mem_cons.mpr ⟨lw_p23, List.forall_mem_cons.mpr ⟨lw_p24, List.forall_mem_cons.mpr ⟨lw_p25, List.forall_mem_cons.mpr ⟨lw_p26, List.forall_mem_cons.mpr ⟨lw_p27, List.forall_mem_cons.mpr ⟨lw_p28, List.forall_mem_cons.mpr ⟨lw_p29, List.forall_mem_cons.mpr ⟨lw_p30, List.forall_mem_cons.mpr ⟨lw_p31, fun _ h => absurd h List.not_mem_nil⟩⟩⟩⟩⟩⟩⟩⟩⟩⟩⟩⟩⟩⟩⟩⟩
theorem lw_p32 : lw_okq (⟨"SoapPoleModel", "readsPole", "()Z"⟩, 25) := ⟨⟨by decide +kernel, by decide +kernel⟩, List.mem_of_getElem? (i := 720) (by decide +kernel), List.mem_of_getElem? (i := 754) (by decide +kernel), List.mem_of_getElem? (i := 755) (by decide +kernel)⟩
theorem lw_p33 : lw_okq (⟨"SoapPoleModel", "wrong", "(I)Z"⟩, 25) := ⟨⟨by decide +kernel, by decide +kernel⟩, List.mem_of_getElem? (i := 720) (by decide +kernel), List.mem_of_getElem? (i := 758) (by decide +kernel), List.mem_of_getElem? (i := 759) (by decide +kernel)⟩
theorem lw_p34 : lw_okq (⟨"SoapPoleModel", "number", "(III)Z"⟩, 25) := ⟨⟨by decide +kernel, by decide +kernel⟩, List.mem_of_getElem? (i := 720) (by decide +kernel), List.mem_of_getElem? (i := 762) (by decide +kernel), List.mem_of_getElem? (i := 763) (by decide +kernel)⟩
theorem lw_p35 : lw_okq (⟨"SoapPoleModel", "stops", "()Z"⟩, 25) := ⟨⟨by decide +kernel, by decide +kernel⟩, List.mem_of_getElem? (i := 720) (by decide +kernel), List.mem_of_getElem? (i := 766) (by decide +kernel), List.mem_of_getElem? (i := 767) (by decide +kernel)⟩
theorem lw_p36 : lw_okq (⟨"SoapPoleModel", "readsFoot", "()Z"⟩, 25) := ⟨⟨by decide +kernel, by decide +kernel⟩, List.mem_of_getElem? (i := 720) (by decide +kernel), List.mem_of_getElem? (i := 771) (by decide +kernel), List.mem_of_getElem? (i := 772) (by decide +kernel)⟩
theorem lw_p37 : lw_okq (⟨"SoapPoleModel", "readsClimber", "()Z"⟩, 25) := ⟨⟨by decide +kernel, by decide +kernel⟩, List.mem_of_getElem? (i := 720) (by decide +kernel), List.mem_of_getElem? (i := 776) (by decide +kernel), List.mem_of_getElem? (i := 777) (by decide +kernel)⟩
theorem lw_p38 : lw_okq (⟨"SoapPoleModel", "readsHam", "()Z"⟩, 25) := ⟨⟨by decide +kernel, by decide +kernel⟩, List.mem_of_getElem? (i := 720) (by decide +kernel), List.mem_of_getElem? (i := 781) (by decide +kernel), List.mem_of_getElem? (i := 782) (by decide +kernel)⟩
theorem lw_p39 : lw_okq (⟨"SoapPoleModel", "readsSun", "()Z"⟩, 25) := ⟨⟨by decide +kernel, by decide +kernel⟩, List.mem_of_getElem? (i := 720) (by decide +kernel), List.mem_of_getElem? (i := 786) (by decide +kernel), List.mem_of_getElem? (i := 787) (by decide +kernel)⟩
theorem lw_p40 : lw_okq (⟨"SoapPoleModel", "tells", "()V"⟩, 25) := ⟨⟨by decide +kernel, by decide +kernel⟩, List.mem_of_getElem? (i := 720) (by decide +kernel), List.mem_of_getElem? (i := 790) (by decide +kernel), List.mem_of_getElem? (i := 791) (by decide +kernel)⟩
theorem lw_p41 : lw_okq (⟨"SoapPoleModel", "begins", "()V"⟩, 25) := ⟨⟨by decide +kernel, by decide +kernel⟩, List.mem_of_getElem? (i := 720) (by decide +kernel), List.mem_of_getElem? (i := 794) (by decide +kernel), List.mem_of_getElem? (i := 795) (by decide +kernel)⟩
theorem lw_p42 : lw_okq (⟨"SoapPoleModel", "together", "(II)I"⟩, 25) := ⟨⟨by decide +kernel, by decide +kernel⟩, List.mem_of_getElem? (i := 720) (by decide +kernel), List.mem_of_getElem? (i := 893) (by decide +kernel), List.mem_of_getElem? (i := 894) (by decide +kernel)⟩
theorem lw_p43 : lw_okq (⟨"SoapPoleModel", "isFoot", "(I)Z"⟩, 25) := ⟨⟨by decide +kernel, by decide +kernel⟩, List.mem_of_getElem? (i := 720) (by decide +kernel), List.mem_of_getElem? (i := 901) (by decide +kernel), List.mem_of_getElem? (i := 902) (by decide +kernel)⟩
theorem lw_p44 : lw_okq (⟨"SoapPoleModel", "isClimber", "(I)Z"⟩, 25) := ⟨⟨by decide +kernel, by decide +kernel⟩, List.mem_of_getElem? (i := 720) (by decide +kernel), List.mem_of_getElem? (i := 910) (by decide +kernel), List.mem_of_getElem? (i := 911) (by decide +kernel)⟩
theorem lw_p45 : lw_okq (⟨"SoapPoleModel", "lays", "()V"⟩, 25) := ⟨⟨by decide +kernel, by decide +kernel⟩, List.mem_of_getElem? (i := 720) (by decide +kernel), List.mem_of_getElem? (i := 914) (by decide +kernel), List.mem_of_getElem? (i := 915) (by decide +kernel)⟩
theorem lw_p46 : lw_okq (⟨"SoapPoleModel", "climbs", "(IIZ)I"⟩, 25) := ⟨⟨by decide +kernel, by decide +kernel⟩, List.mem_of_getElem? (i := 720) (by decide +kernel), List.mem_of_getElem? (i := 918) (by decide +kernel), List.mem_of_getElem? (i := 919) (by decide +kernel)⟩
theorem lw_p47 : lw_okq (⟨"SoapPoleModel", "goes", "(IZ)I"⟩, 25) := ⟨⟨by decide +kernel, by decide +kernel⟩, List.mem_of_getElem? (i := 720) (by decide +kernel), List.mem_of_getElem? (i := 927) (by decide +kernel), List.mem_of_getElem? (i := 928) (by decide +kernel)⟩
def lw_privs_3 : List (MethodName × Nat) := [(⟨"SoapPoleModel", "readsPole", "()Z"⟩, 25), (⟨"SoapPoleModel", "wrong", "(I)Z"⟩, 25), (⟨"SoapPoleModel", "number", "(III)Z"⟩, 25), (⟨"SoapPoleModel", "stops", "()Z"⟩, 25), (⟨"SoapPoleModel", "readsFoot", "()Z"⟩, 25), (⟨"SoapPoleModel", "readsClimber", "()Z"⟩, 25), (⟨"SoapPoleModel", "readsHam", "()Z"⟩, 25), (⟨"SoapPoleModel", "readsSun", "()Z"⟩, 25), (⟨"SoapPoleModel", "tells", "()V"⟩, 25), (⟨"SoapPoleModel", "begins", "()V"⟩, 25), (⟨"SoapPoleModel", "together", "(II)I"⟩, 25), (⟨"SoapPoleModel", "isFoot", "(I)Z"⟩, 25), (⟨"SoapPoleModel", "isClimber", "(I)Z"⟩, 25), (⟨"SoapPoleModel", "lays", "()V"⟩, 25), (⟨"SoapPoleModel", "climbs", "(IIZ)I"⟩, 25), (⟨"SoapPoleModel", "goes", "(IZ)I"⟩, 25)]
theorem lw_r3 : ∀ q ∈ lw_privs_3, lw_okq q := List.forall_mem_cons.mpr ⟨lw_p32, List.forall_mem_cons.mpr ⟨lw_p33, List.forall_mem_cons.mpr ⟨lw_p34, List.forall_mem_cons.mpr ⟨lw_p35, List.forall_mem_cons.mpr ⟨lw_p36, List.forall_mem_cons.mpr ⟨lw_p37, List.forall_mem_cons.mpr ⟨lw_p38, List.forall_mem_cons.mpr ⟨lw_p39, List.forall_mem_cons.mpr ⟨lw_p40, List.forall_mem_cons.mpr ⟨lw_p41, List.forall_mem_cons.mpr ⟨lw_p42, List.forall_mem_cons.mpr ⟨lw_p43, List.forall_mem_cons.mpr ⟨lw_p44, List.forall_mem_cons.mpr ⟨lw_p45, List.forall_mem_cons.mpr ⟨lw_p46, List.forall_mem_cons.mpr ⟨lw_p47, fun _ h => absurd h List.not_mem_nil⟩⟩⟩⟩⟩⟩⟩⟩⟩⟩⟩⟩⟩⟩⟩⟩
theorem lw_p48 : lw_okq (⟨"SoapPoleModel", "takes", "()V"⟩, 25) := ⟨⟨by decide +kernel, by decide +kernel⟩, List.mem_of_getElem? (i := 720) (by decide +kernel), List.mem_of_getElem? (i := 931) (by decide +kernel), List.mem_of_getElem? (i := 932) (by decide +kernel)⟩
theorem lw_p49 : lw_okq (⟨"SoapPoleModel", "hadBy", "(I)I"⟩, 25) := ⟨⟨by decide +kernel, by decide +kernel⟩, List.mem_of_getElem? (i := 720) (by decide +kernel), List.mem_of_getElem? (i := 959) (by decide +kernel), List.mem_of_getElem? (i := 960) (by decide +kernel)⟩
theorem lw_p50 : lw_okq (⟨"SoapPoleModel", "nextOrder", "(I)Z"⟩, 25) := ⟨⟨by decide +kernel, by decide +kernel⟩, List.mem_of_getElem? (i := 720) (by decide +kernel), List.mem_of_getElem? (i := 963) (by decide +kernel), List.mem_of_getElem? (i := 964) (by decide +kernel)⟩
theorem lw_p51 : lw_okq (⟨"SoapPoleModel", "swaps", "(II)V"⟩, 25) := ⟨⟨by decide +kernel, by decide +kernel⟩, List.mem_of_getElem? (i := 720) (by decide +kernel), List.mem_of_getElem? (i := 967) (by decide +kernel), List.mem_of_getElem? (i := 968) (by decide +kernel)⟩
theorem lw_p52 : lw_okq (⟨"SoapPoleModel", "isHis", "(III)Z"⟩, 25) := ⟨⟨by decide +kernel, by decide +kernel⟩, List.mem_of_getElem? (i := 720) (by decide +kernel), List.mem_of_getElem? (i := 978) (by decide +kernel), List.mem_of_getElem? (i := 979) (by decide +kernel)⟩
theorem lw_p53 : lw_okq (⟨"SoapPoleModel", "bestTurn", "(I)I"⟩, 25) := ⟨⟨by decide +kernel, by decide +kernel⟩, List.mem_of_getElem? (i := 720) (by decide +kernel), List.mem_of_getElem? (i := 989) (by decide +kernel), List.mem_of_getElem? (i := 990) (by decide +kernel)⟩
theorem lw_p54 : lw_okq (⟨"SoapPoleModel", "worthOf", "(I)I"⟩, 25) := ⟨⟨by decide +kernel, by decide +kernel⟩, List.mem_of_getElem? (i := 720) (by decide +kernel), List.mem_of_getElem? (i := 993) (by decide +kernel), List.mem_of_getElem? (i := 994) (by decide +kernel)⟩
theorem lw_p55 : lw_okq (⟨"SoapPoleModel", "wrongOf", "(I)I"⟩, 25) := ⟨⟨by decide +kernel, by decide +kernel⟩, List.mem_of_getElem? (i := 720) (by decide +kernel), List.mem_of_getElem? (i := 1017) (by decide +kernel), List.mem_of_getElem? (i := 1018) (by decide +kernel)⟩
def lw_privs_4 : List (MethodName × Nat) := [(⟨"SoapPoleModel", "takes", "()V"⟩, 25), (⟨"SoapPoleModel", "hadBy", "(I)I"⟩, 25), (⟨"SoapPoleModel", "nextOrder", "(I)Z"⟩, 25), (⟨"SoapPoleModel", "swaps", "(II)V"⟩, 25), (⟨"SoapPoleModel", "isHis", "(III)Z"⟩, 25), (⟨"SoapPoleModel", "bestTurn", "(I)I"⟩, 25), (⟨"SoapPoleModel", "worthOf", "(I)I"⟩, 25), (⟨"SoapPoleModel", "wrongOf", "(I)I"⟩, 25)]
theorem lw_r4 : ∀ q ∈ lw_privs_4, lw_okq q := List.forall_mem_cons.mpr ⟨lw_p48, List.forall_mem_cons.mpr ⟨lw_p49, List.forall_mem_cons.mpr ⟨lw_p50, List.forall_mem_cons.mpr ⟨lw_p51, List.forall_mem_cons.mpr ⟨lw_p52, List.forall_mem_cons.mpr ⟨lw_p53, List.forall_mem_cons.mpr ⟨lw_p54, List.forall_mem_cons.mpr ⟨lw_p55, fun _ h => absurd h List.not_mem_nil⟩⟩⟩⟩⟩⟩⟩⟩
def lw_privs : List (MethodName × Nat) := lw_privs_1 ++ (lw_privs_2 ++ (lw_privs_3 ++ (lw_privs_4)))
def lw_tbl : List Cond := k2_sels lw_privs ++ tables_1
theorem lw_privs_ok : ∀ q ∈ lw_privs, lw_okq q := by
  show ∀ q ∈ lw_privs_1 ++ (lw_privs_2 ++ (lw_privs_3 ++ (lw_privs_4))), lw_okq q
  exact List.forall_mem_append.mpr ⟨lw_r1, List.forall_mem_append.mpr ⟨lw_r2, List.forall_mem_append.mpr ⟨lw_r3, lw_r4⟩⟩⟩
end
section
def RX0 : String := "SoapPole$Plan"
def TX0 : u_T := fun k => match k with
  | 0 => ("SoapPole$Plan", "slips", "[I", true)
  | 1 => ("SoapPole$Plan", "weights", "[I", true)
  | 2 => ("SoapPole$Plan", "arms", "[I", true)
  | 3 => ("SoapPole$Plan", "rubs", "[I", true)
  | 4 => ("SoapPole$Plan", "feet", "I", false)
  | 5 => ("SoapPole$Plan", "climbers", "I", false)
  | 6 => ("SoapPole$Plan", "worth", "I", false)
  | 7 => ("SoapPole$Plan", "price", "I", false)
  | 8 => ("SoapPole$Plan", "sunEvery", "I", false)
  | _ => ("SoapPole$Plan", "sunMore", "I", false)
def tyX0 : Nat → FieldType := fun k => match k with
  | 0 => .array .int
  | 1 => .array .int
  | 2 => .array .int
  | 3 => .array .int
  | 4 => .int
  | 5 => .int
  | 6 => .int
  | 7 => .int
  | 8 => .int
  | _ => .int
theorem nmX0 : ∀ a, a < 10 → ∀ b, b < 10 → a ≠ b → (TX0 a).2.1 ≠ (TX0 b).2.1 := by decide +kernel
theorem tyX0_ok : ∀ k, k < 10 → parseFieldDescriptor (TX0 k).2.2.1 = some (tyX0 k) := by decide +kernel
abbrev cX0_init : ByteArray := prog_2_method_1_code
def yX0_init : MethodName := ⟨RX0, "<init>", "()V"⟩
abbrev cX0_empty : ByteArray := prog_2_method_2_code
def yX0_empty : MethodName := ⟨RX0, "empty", "()V"⟩
abbrev cX0_become : ByteArray := prog_2_method_3_code
def yX0_become : MethodName := ⟨RX0, "become", "(LSoapPole$Plan;)V"⟩
abbrev cX0_setFeet : ByteArray := prog_2_method_4_code
def yX0_setFeet : MethodName := ⟨RX0, "setFeet", "(II)V"⟩
abbrev cX0_setSlip : ByteArray := prog_2_method_5_code
def yX0_setSlip : MethodName := ⟨RX0, "setSlip", "(II)V"⟩
abbrev cX0_addClimber : ByteArray := prog_2_method_6_code
def yX0_addClimber : MethodName := ⟨RX0, "addClimber", "(III)V"⟩
abbrev cX0_hasFoot : ByteArray := prog_2_method_7_code
def yX0_hasFoot : MethodName := ⟨RX0, "hasFoot", "(I)Z"⟩
abbrev cX0_hasClimber : ByteArray := prog_2_method_8_code
def yX0_hasClimber : MethodName := ⟨RX0, "hasClimber", "(I)Z"⟩
abbrev cX0_weightOf : ByteArray := prog_2_method_9_code
def yX0_weightOf : MethodName := ⟨RX0, "weightOf", "(I)I"⟩
abbrev cX0_armsOf : ByteArray := prog_2_method_10_code
def yX0_armsOf : MethodName := ⟨RX0, "armsOf", "(I)I"⟩
abbrev cX0_rubsOf : ByteArray := prog_2_method_11_code
def yX0_rubsOf : MethodName := ⟨RX0, "rubsOf", "(I)I"⟩
abbrev cX0_mostRub : ByteArray := prog_2_method_12_code
def yX0_mostRub : MethodName := ⟨RX0, "mostRub", "()I"⟩
def RX1 : String := "SoapPole$Pole"
def TX1 : u_T := fun k => match k with
  | 0 => ("SoapPole$Pole", "slips", "[I", true)
  | 1 => ("SoapPole$Pole", "goes", "I", false)
  | 2 => ("SoapPole$Pole", "holder", "I", false)
  | _ => ("SoapPole$Pole", "seed", "I", false)
def tyX1 : Nat → FieldType := fun k => match k with
  | 0 => .array .int
  | 1 => .int
  | 2 => .int
  | _ => .int
theorem nmX1 : ∀ a, a < 4 → ∀ b, b < 4 → a ≠ b → (TX1 a).2.1 ≠ (TX1 b).2.1 := by decide +kernel
theorem tyX1_ok : ∀ k, k < 4 → parseFieldDescriptor (TX1 k).2.2.1 = some (tyX1 k) := by decide +kernel
abbrev cX1_init : ByteArray := prog_3_method_1_code
def yX1_init : MethodName := ⟨RX1, "<init>", "()V"⟩
abbrev cX1_become : ByteArray := prog_3_method_2_code
def yX1_become : MethodName := ⟨RX1, "become", "(LSoapPole$Pole;)V"⟩
abbrev cX1_becomeAsTold : ByteArray := prog_3_method_3_code
def yX1_becomeAsTold : MethodName := ⟨RX1, "becomeAsTold", "(LSoapPole$Plan;)V"⟩
abbrev cX1_isLike : ByteArray := prog_3_method_4_code
def yX1_isLike : MethodName := ⟨RX1, "isLike", "(LSoapPole$Pole;)Z"⟩
abbrev cX1_slipOn : ByteArray := prog_3_method_5_code
def yX1_slipOn : MethodName := ⟨RX1, "slipOn", "(I)I"⟩
abbrev cX1_slipTogether : ByteArray := prog_3_method_6_code
def yX1_slipTogether : MethodName := ⟨RX1, "slipTogether", "(II)I"⟩
abbrev cX1_addSlip : ByteArray := prog_3_method_7_code
def yX1_addSlip : MethodName := ⟨RX1, "addSlip", "(III)V"⟩
abbrev cX1_coat : ByteArray := prog_3_method_8_code
def yX1_coat : MethodName := ⟨RX1, "coat", "(I)V"⟩
abbrev cX1_reach : ByteArray := prog_3_method_9_code
def yX1_reach : MethodName := ⟨RX1, "reach", "(LSoapPole$Plan;IIZ)I"⟩
abbrev cX1_mayReach : ByteArray := prog_3_method_10_code
def yX1_mayReach : MethodName := ⟨RX1, "mayReach", "(LSoapPole$Plan;II)Z"⟩
abbrev cX1_climb : ByteArray := prog_3_method_11_code
def yX1_climb : MethodName := ⟨RX1, "climb", "(LSoapPole$Plan;IZ)I"⟩
abbrev cX1_rub : ByteArray := prog_3_method_12_code
def yX1_rub : MethodName := ⟨RX1, "rub", "(II)I"⟩
abbrev cX1_smear : ByteArray := prog_3_method_13_code
def yX1_smear : MethodName := ⟨RX1, "smear", "(II)V"⟩
abbrev cX1_draw : ByteArray := prog_3_method_14_code
def yX1_draw : MethodName := ⟨RX1, "draw", "(I)I"⟩
def RX2 : String := "SoapPole$Reader"
def TX2 : u_T := fun k => match k with
  | 0 => ("SoapPole$Reader", "text", "[B", true)
  | 1 => ("SoapPole$Reader", "footTold", "[Z", true)
  | 2 => ("SoapPole$Reader", "numbers", "[I", true)
  | 3 => ("SoapPole$Reader", "length", "I", false)
  | 4 => ("SoapPole$Reader", "at", "I", false)
  | 5 => ("SoapPole$Reader", "fault", "I", false)
  | 6 => ("SoapPole$Reader", "faultAt", "I", false)
  | 7 => ("SoapPole$Reader", "footClauses", "I", false)
  | 8 => ("SoapPole$Reader", "poleTold", "Z", false)
  | 9 => ("SoapPole$Reader", "hamTold", "Z", false)
  | _ => ("SoapPole$Reader", "sunTold", "Z", false)
def tyX2 : Nat → FieldType := fun k => match k with
  | 0 => .array .byte
  | 1 => .array .boolean
  | 2 => .array .int
  | 3 => .int
  | 4 => .int
  | 5 => .int
  | 6 => .int
  | 7 => .int
  | 8 => .boolean
  | 9 => .boolean
  | _ => .boolean
theorem nmX2 : ∀ a, a < 11 → ∀ b, b < 11 → a ≠ b → (TX2 a).2.1 ≠ (TX2 b).2.1 := by decide +kernel
theorem tyX2_ok : ∀ k, k < 11 → parseFieldDescriptor (TX2 k).2.2.1 = some (tyX2 k) := by decide +kernel
abbrev cX2_init : ByteArray := prog_4_method_1_code
def yX2_init : MethodName := ⟨RX2, "<init>", "()V"⟩
abbrev cX2_room : ByteArray := prog_4_method_2_code
def yX2_room : MethodName := ⟨RX2, "room", "()I"⟩
abbrev cX2_append : ByteArray := prog_4_method_3_code
def yX2_append : MethodName := ⟨RX2, "append", "(IJ)I"⟩
abbrev cX2_empty : ByteArray := prog_4_method_4_code
def yX2_empty : MethodName := ⟨RX2, "empty", "()V"⟩
abbrev cX2_read : ByteArray := prog_4_method_5_code
def yX2_read : MethodName := ⟨RX2, "read", "(LSoapPole$Plan;)I"⟩
abbrev cX2_start : ByteArray := prog_4_method_6_code
def yX2_start : MethodName := ⟨RX2, "start", "()V"⟩
abbrev cX2_fail : ByteArray := prog_4_method_7_code
def yX2_fail : MethodName := ⟨RX2, "fail", "(II)V"⟩
abbrev cX2_readClause : ByteArray := prog_4_method_8_code
def yX2_readClause : MethodName := ⟨RX2, "readClause", "(LSoapPole$Plan;)V"⟩
abbrev cX2_kindOf : ByteArray := prog_4_method_9_code
def yX2_kindOf : MethodName := ⟨RX2, "kindOf", "(II)I"⟩
abbrev cX2_isWord : ByteArray := prog_4_method_10_code
def yX2_isWord : MethodName := ⟨RX2, "isWord", "(Ljava/lang/String;II)Z"⟩
abbrev cX2_isTooOften : ByteArray := prog_4_method_11_code
def yX2_isTooOften : MethodName := ⟨RX2, "isTooOften", "(ILSoapPole$Plan;)Z"⟩
abbrev cX2_readNumber : ByteArray := prog_4_method_12_code
def yX2_readNumber : MethodName := ⟨RX2, "readNumber", "(IILSoapPole$Plan;)V"⟩
abbrev cX2_least : ByteArray := prog_4_method_13_code
def yX2_least : MethodName := ⟨RX2, "least", "(II)I"⟩
abbrev cX2_most : ByteArray := prog_4_method_14_code
def yX2_most : MethodName := ⟨RX2, "most", "(IILSoapPole$Plan;)I"⟩
abbrev cX2_isFootTold : ByteArray := prog_4_method_15_code
def yX2_isFootTold : MethodName := ⟨RX2, "isFootTold", "(I)Z"⟩
abbrev cX2_readEnd : ByteArray := prog_4_method_16_code
def yX2_readEnd : MethodName := ⟨RX2, "readEnd", "()V"⟩
abbrev cX2_take : ByteArray := prog_4_method_17_code
def yX2_take : MethodName := ⟨RX2, "take", "(ILSoapPole$Plan;)V"⟩
abbrev cX2_skipBlanks : ByteArray := prog_4_method_18_code
def yX2_skipBlanks : MethodName := ⟨RX2, "skipBlanks", "()V"⟩
abbrev cX2_skipLetters : ByteArray := prog_4_method_19_code
def yX2_skipLetters : MethodName := ⟨RX2, "skipLetters", "()V"⟩
abbrev cX2_byteAt : ByteArray := prog_4_method_20_code
def yX2_byteAt : MethodName := ⟨RX2, "byteAt", "(I)I"⟩
abbrev cX2_isLetter : ByteArray := prog_4_method_21_code
def yX2_isLetter : MethodName := ⟨RX2, "isLetter", "(I)Z"⟩
abbrev cX2_isFigure : ByteArray := prog_4_method_22_code
def yX2_isFigure : MethodName := ⟨RX2, "isFigure", "(I)Z"⟩
def RX3 : String := "SoapPole$Rests"
def TX3 : u_T := fun k => match k with
  | 0 => ("SoapPole$Rests", "turns", "[I", true)
  | 1 => ("SoapPole$Rests", "trial", "LSoapPole$Pole;", true)
  | 2 => ("SoapPole$Rests", "rounds", "I", false)
  | _ => ("SoapPole$Rests", "found", "Z", false)
def tyX3 : Nat → FieldType := fun k => match k with
  | 0 => .array .int
  | 1 => .object "SoapPole$Pole"
  | 2 => .int
  | _ => .boolean
theorem nmX3 : ∀ a, a < 4 → ∀ b, b < 4 → a ≠ b → (TX3 a).2.1 ≠ (TX3 b).2.1 := by decide +kernel
theorem tyX3_ok : ∀ k, k < 4 → parseFieldDescriptor (TX3 k).2.2.1 = some (tyX3 k) := by decide +kernel
abbrev cX3_init : ByteArray := prog_5_method_1_code
def yX3_init : MethodName := ⟨RX3, "<init>", "()V"⟩
abbrev cX3_forget : ByteArray := prog_5_method_2_code
def yX3_forget : MethodName := ⟨RX3, "forget", "()V"⟩
abbrev cX3_answer : ByteArray := prog_5_method_3_code
def yX3_answer : MethodName := ⟨RX3, "answer", "(LSoapPole$Plan;LSoapPole$Pole;I)I"⟩
abbrev cX3_turnOf : ByteArray := prog_5_method_4_code
def yX3_turnOf : MethodName := ⟨RX3, "turnOf", "(I)I"⟩
abbrev cX3_find : ByteArray := prog_5_method_5_code
def yX3_find : MethodName := ⟨RX3, "find", "(LSoapPole$Plan;LSoapPole$Pole;)V"⟩
abbrev cX3_bestTurn : ByteArray := prog_5_method_6_code
def yX3_bestTurn : MethodName := ⟨RX3, "bestTurn", "(LSoapPole$Plan;LSoapPole$Pole;I)I"⟩
abbrev cX3_gainAt : ByteArray := prog_5_method_7_code
def yX3_gainAt : MethodName := ⟨RX3, "gainAt", "(LSoapPole$Plan;LSoapPole$Pole;II)I"⟩
def RX4 : String := "SoapPole$Rows"
def TX4 : u_T := fun k => match k with
  | 0 => ("SoapPole$Rows", "steps", "[LSoapPole$Pole;", true)
  | 1 => ("SoapPole$Rows", "row", "[I", true)
  | 2 => ("SoapPole$Rows", "goal", "I", false)
  | 3 => ("SoapPole$Rows", "lastOne", "I", false)
  | 4 => ("SoapPole$Rows", "onceEach", "Z", false)
  | 5 => ("SoapPole$Rows", "allRow", "[I", true)
  | 6 => ("SoapPole$Rows", "allGoes", "I", false)
  | 7 => ("SoapPole$Rows", "allFound", "Z", false)
  | 8 => ("SoapPole$Rows", "oneRows", "[[I", true)
  | 9 => ("SoapPole$Rows", "oneGoes", "[I", true)
  | _ => ("SoapPole$Rows", "oneFound", "[Z", true)
def tyX4 : Nat → FieldType := fun k => match k with
  | 0 => .array (.object "SoapPole$Pole")
  | 1 => .array .int
  | 2 => .int
  | 3 => .int
  | 4 => .boolean
  | 5 => .array .int
  | 6 => .int
  | 7 => .boolean
  | 8 => .array (.array .int)
  | 9 => .array .int
  | _ => .array .boolean
theorem nmX4 : ∀ a, a < 11 → ∀ b, b < 11 → a ≠ b → (TX4 a).2.1 ≠ (TX4 b).2.1 := by decide +kernel
theorem tyX4_ok : ∀ k, k < 11 → parseFieldDescriptor (TX4 k).2.2.1 = some (tyX4 k) := by decide +kernel
abbrev cX4_init : ByteArray := prog_6_method_1_code
def yX4_init : MethodName := ⟨RX4, "<init>", "()V"⟩
abbrev cX4_forget : ByteArray := prog_6_method_2_code
def yX4_forget : MethodName := ⟨RX4, "forget", "()V"⟩
abbrev cX4_ofAll : ByteArray := prog_6_method_3_code
def yX4_ofAll : MethodName := ⟨RX4, "ofAll", "(LSoapPole$Plan;LSoapPole$Pole;I)I"⟩
abbrev cX4_findAll : ByteArray := prog_6_method_4_code
def yX4_findAll : MethodName := ⟨RX4, "findAll", "(LSoapPole$Plan;LSoapPole$Pole;)V"⟩
abbrev cX4_ofOne : ByteArray := prog_6_method_5_code
def yX4_ofOne : MethodName := ⟨RX4, "ofOne", "(LSoapPole$Plan;LSoapPole$Pole;II)I"⟩
abbrev cX4_fewestGoes : ByteArray := prog_6_method_6_code
def yX4_fewestGoes : MethodName := ⟨RX4, "fewestGoes", "(LSoapPole$Plan;LSoapPole$Pole;I)I"⟩
abbrev cX4_findFrom : ByteArray := prog_6_method_7_code
def yX4_findFrom : MethodName := ⟨RX4, "findFrom", "(LSoapPole$Plan;II)Z"⟩
abbrev cX4_isHopeless : ByteArray := prog_6_method_8_code
def yX4_isHopeless : MethodName := ⟨RX4, "isHopeless", "(LSoapPole$Plan;I)Z"⟩
def RX5 : String := "SoapPole$Tale"
def TX5 : u_T := fun k => match k with
  | 0 => ("SoapPole$Tale", "climbers", "[I", true)
  | 1 => ("SoapPole$Tale", "fars", "[I", true)
  | 2 => ("SoapPole$Tale", "trial", "LSoapPole$Pole;", true)
  | _ => ("SoapPole$Tale", "size", "I", false)
def tyX5 : Nat → FieldType := fun k => match k with
  | 0 => .array .int
  | 1 => .array .int
  | 2 => .object "SoapPole$Pole"
  | _ => .int
theorem nmX5 : ∀ a, a < 4 → ∀ b, b < 4 → a ≠ b → (TX5 a).2.1 ≠ (TX5 b).2.1 := by decide +kernel
theorem tyX5_ok : ∀ k, k < 4 → parseFieldDescriptor (TX5 k).2.2.1 = some (tyX5 k) := by decide +kernel
abbrev cX5_init : ByteArray := prog_7_method_1_code
def yX5_init : MethodName := ⟨RX5, "<init>", "()V"⟩
abbrev cX5_empty : ByteArray := prog_7_method_2_code
def yX5_empty : MethodName := ⟨RX5, "empty", "()V"⟩
abbrev cX5_append : ByteArray := prog_7_method_3_code
def yX5_append : MethodName := ⟨RX5, "append", "(II)I"⟩
abbrev cX5_climberOf : ByteArray := prog_7_method_4_code
def yX5_climberOf : MethodName := ⟨RX5, "climberOf", "(I)I"⟩
abbrev cX5_firstOtherwise : ByteArray := prog_7_method_5_code
def yX5_firstOtherwise : MethodName := ⟨RX5, "firstOtherwise", "(LSoapPole$Plan;LSoapPole$Pole;I)I"⟩
abbrev cX5_leastSlipFor : ByteArray := prog_7_method_6_code
def yX5_leastSlipFor : MethodName := ⟨RX5, "leastSlipFor", "(LSoapPole$Plan;LSoapPole$Pole;I)I"⟩
abbrev cX5_goThatHasIt : ByteArray := prog_7_method_7_code
def yX5_goThatHasIt : MethodName := ⟨RX5, "goThatHasIt", "(LSoapPole$Plan;I)I"⟩
def RX6 : String := "SoapPole"
def TX6 : u_T := fun k => match k with
  | 0 => ("SoapPole", "reader", "LSoapPole$Reader;", true)
  | 1 => ("SoapPole", "plan", "LSoapPole$Plan;", true)
  | 2 => ("SoapPole", "spare", "LSoapPole$Plan;", true)
  | 3 => ("SoapPole", "now", "LSoapPole$Pole;", true)
  | 4 => ("SoapPole", "images", "[LSoapPole$Pole;", true)
  | 5 => ("SoapPole", "kept", "[Z", true)
  | 6 => ("SoapPole", "tale", "LSoapPole$Tale;", true)
  | 7 => ("SoapPole", "rows", "LSoapPole$Rows;", true)
  | 8 => ("SoapPole", "resting", "LSoapPole$Rests;", true)
  | 9 => ("SoapPole", "asked", "LSoapPole$Pole;", true)
  | 10 => ("SoapPole", "askedStands", "Z", false)
  | _ => ("SoapPole", "faultPlace", "I", false)
def tyX6 : Nat → FieldType := fun k => match k with
  | 0 => .object "SoapPole$Reader"
  | 1 => .object "SoapPole$Plan"
  | 2 => .object "SoapPole$Plan"
  | 3 => .object "SoapPole$Pole"
  | 4 => .array (.object "SoapPole$Pole")
  | 5 => .array .boolean
  | 6 => .object "SoapPole$Tale"
  | 7 => .object "SoapPole$Rows"
  | 8 => .object "SoapPole$Rests"
  | 9 => .object "SoapPole$Pole"
  | 10 => .boolean
  | _ => .int
theorem nmX6 : ∀ a, a < 12 → ∀ b, b < 12 → a ≠ b → (TX6 a).2.1 ≠ (TX6 b).2.1 := by decide +kernel
theorem tyX6_ok : ∀ k, k < 12 → parseFieldDescriptor (TX6 k).2.2.1 = some (tyX6 k) := by decide +kernel
abbrev cX6_init : ByteArray := prog_1_method_1_code
def yX6_init : MethodName := ⟨RX6, "<init>", "()V"⟩
abbrev cX6_feed : ByteArray := prog_1_method_2_code
def yX6_feed : MethodName := ⟨RX6, "feed", "(IJ)I"⟩
abbrev cX6_pole : ByteArray := prog_1_method_3_code
def yX6_pole : MethodName := ⟨RX6, "pole", "()I"⟩
abbrev cX6_fault : ByteArray := prog_1_method_4_code
def yX6_fault : MethodName := ⟨RX6, "fault", "()I"⟩
abbrev cX6_told : ByteArray := prog_1_method_5_code
def yX6_told : MethodName := ⟨RX6, "told", "(I)I"⟩
abbrev cX6_slip : ByteArray := prog_1_method_6_code
def yX6_slip : MethodName := ⟨RX6, "slip", "(I)I"⟩
abbrev cX6_climber : ByteArray := prog_1_method_7_code
def yX6_climber : MethodName := ⟨RX6, "climber", "(II)I"⟩
abbrev cX6_go : ByteArray := prog_1_method_8_code
def yX6_go : MethodName := ⟨RX6, "go", "(I)I"⟩
abbrev cX6_soap : ByteArray := prog_1_method_9_code
def yX6_soap : MethodName := ⟨RX6, "soap", "(III)I"⟩
abbrev cX6_hang : ByteArray := prog_1_method_10_code
def yX6_hang : MethodName := ⟨RX6, "hang", "()I"⟩
abbrev cX6_begin : ByteArray := prog_1_method_11_code
def yX6_begin : MethodName := ⟨RX6, "begin", "()I"⟩
abbrev cX6_drift : ByteArray := prog_1_method_12_code
def yX6_drift : MethodName := ⟨RX6, "drift", "(I)I"⟩
abbrev cX6_order : ByteArray := prog_1_method_13_code
def yX6_order : MethodName := ⟨RX6, "order", "(I)I"⟩
abbrev cX6_forOne : ByteArray := prog_1_method_14_code
def yX6_forOne : MethodName := ⟨RX6, "forOne", "(II)I"⟩
abbrev cX6_rests : ByteArray := prog_1_method_15_code
def yX6_rests : MethodName := ⟨RX6, "rests", "(I)I"⟩
abbrev cX6_tower : ByteArray := prog_1_method_16_code
def yX6_tower : MethodName := ⟨RX6, "tower", "(II)I"⟩
abbrev cX6_lookAgain : ByteArray := prog_1_method_17_code
def yX6_lookAgain : MethodName := ⟨RX6, "lookAgain", "()V"⟩
abbrev cX6_list : ByteArray := prog_1_method_18_code
def yX6_list : MethodName := ⟨RX6, "list", "(II)I"⟩
abbrev cX6_tear : ByteArray := prog_1_method_19_code
def yX6_tear : MethodName := ⟨RX6, "tear", "()I"⟩
abbrev cX6_enough : ByteArray := prog_1_method_20_code
def yX6_enough : MethodName := ⟨RX6, "enough", "(I)I"⟩
abbrev cX6_judge : ByteArray := prog_1_method_21_code
def yX6_judge : MethodName := ⟨RX6, "judge", "()I"⟩
abbrev cX6_sand : ByteArray := prog_1_method_22_code
def yX6_sand : MethodName := ⟨RX6, "sand", "()I"⟩
abbrev cX6_seed : ByteArray := prog_1_method_23_code
def yX6_seed : MethodName := ⟨RX6, "seed", "(I)I"⟩
abbrev cX6_keep : ByteArray := prog_1_method_24_code
def yX6_keep : MethodName := ⟨RX6, "keep", "(I)I"⟩
abbrev cX6_goBack : ByteArray := prog_1_method_25_code
def yX6_goBack : MethodName := ⟨RX6, "goBack", "(I)I"⟩
abbrev cX6_isImage : ByteArray := prog_1_method_26_code
def yX6_isImage : MethodName := ⟨RX6, "isImage", "(I)Z"⟩
abbrev cX6_copyRow : ByteArray := prog_1_method_27_code
def yX6_copyRow : MethodName := ⟨RX6, "copyRow", "([I[I)V"⟩
def RX7 : String := "SoapPoleModel"
def TX7 : u_T := fun k => match k with
  | 0 => ("SoapPoleModel", "text", "[I", true)
  | 1 => ("SoapPoleModel", "typed", "I", false)
  | 2 => ("SoapPoleModel", "told", "[I", true)
  | 3 => ("SoapPoleModel", "draft", "[I", true)
  | 4 => ("SoapPoleModel", "s", "[I", true)
  | 5 => ("SoapPoleModel", "now", "[I", true)
  | 6 => ("SoapPoleModel", "images", "[I", true)
  | 7 => ("SoapPoleModel", "imageSeeds", "[I", true)
  | 8 => ("SoapPoleModel", "kept", "[Z", true)
  | 9 => ("SoapPoleModel", "who", "[I", true)
  | 10 => ("SoapPoleModel", "far", "[I", true)
  | 11 => ("SoapPoleModel", "listed", "I", false)
  | 12 => ("SoapPoleModel", "seed", "I", false)
  | 13 => ("SoapPoleModel", "faultAt", "I", false)
  | 14 => ("SoapPoleModel", "at", "I", false)
  | 15 => ("SoapPoleModel", "sort", "I", false)
  | 16 => ("SoapPoleModel", "start", "I", false)
  | 17 => ("SoapPoleModel", "size", "I", false)
  | 18 => ("SoapPoleModel", "fault", "I", false)
  | 19 => ("SoapPoleModel", "isHam", "Z", false)
  | 20 => ("SoapPoleModel", "isSun", "Z", false)
  | 21 => ("SoapPoleModel", "rubbed", "I", false)
  | 22 => ("SoapPoleModel", "tried", "[I", true)
  | 23 => ("SoapPoleModel", "best", "[I", true)
  | _ => ("SoapPoleModel", "turns", "[I", true)
def tyX7 : Nat → FieldType := fun k => match k with
  | 0 => .array .int
  | 1 => .int
  | 2 => .array .int
  | 3 => .array .int
  | 4 => .array .int
  | 5 => .array .int
  | 6 => .array .int
  | 7 => .array .int
  | 8 => .array .boolean
  | 9 => .array .int
  | 10 => .array .int
  | 11 => .int
  | 12 => .int
  | 13 => .int
  | 14 => .int
  | 15 => .int
  | 16 => .int
  | 17 => .int
  | 18 => .int
  | 19 => .boolean
  | 20 => .boolean
  | 21 => .int
  | 22 => .array .int
  | 23 => .array .int
  | _ => .array .int
theorem nmX7 : ∀ a, a < 25 → ∀ b, b < 25 → a ≠ b → (TX7 a).2.1 ≠ (TX7 b).2.1 := by decide +kernel
theorem tyX7_ok : ∀ k, k < 25 → parseFieldDescriptor (TX7 k).2.2.1 = some (tyX7 k) := by decide +kernel
abbrev cX7_init : ByteArray := prog_9_method_1_code
def yX7_init : MethodName := ⟨RX7, "<init>", "()V"⟩
abbrev cX7_in : ByteArray := prog_9_method_3_code
def yX7_in : MethodName := ⟨RX7, "in", "(III)Z"⟩
abbrev cX7_isFoot : ByteArray := prog_9_method_4_code
def yX7_isFoot : MethodName := ⟨RX7, "isFoot", "(I)Z"⟩
abbrev cX7_isClimber : ByteArray := prog_9_method_5_code
def yX7_isClimber : MethodName := ⟨RX7, "isClimber", "(I)Z"⟩
abbrev cX7_feed : ByteArray := prog_9_method_6_code
def yX7_feed : MethodName := ⟨RX7, "feed", "(IJ)I"⟩
abbrev cX7_byteAt : ByteArray := prog_9_method_7_code
def yX7_byteAt : MethodName := ⟨RX7, "byteAt", "(I)I"⟩
abbrev cX7_sortOf : ByteArray := prog_9_method_8_code
def yX7_sortOf : MethodName := ⟨RX7, "sortOf", "(I)I"⟩
abbrev cX7_token : ByteArray := prog_9_method_9_code
def yX7_token : MethodName := ⟨RX7, "token", "()V"⟩
abbrev cX7_word : ByteArray := prog_9_method_10_code
def yX7_word : MethodName := ⟨RX7, "word", "()J"⟩
abbrev cX7_wrong : ByteArray := prog_9_method_11_code
def yX7_wrong : MethodName := ⟨RX7, "wrong", "(I)Z"⟩
abbrev cX7_number : ByteArray := prog_9_method_12_code
def yX7_number : MethodName := ⟨RX7, "number", "(III)Z"⟩
abbrev cX7_stops : ByteArray := prog_9_method_13_code
def yX7_stops : MethodName := ⟨RX7, "stops", "()Z"⟩
abbrev cX7_readsPole : ByteArray := prog_9_method_14_code
def yX7_readsPole : MethodName := ⟨RX7, "readsPole", "()Z"⟩
abbrev cX7_readsFoot : ByteArray := prog_9_method_15_code
def yX7_readsFoot : MethodName := ⟨RX7, "readsFoot", "()Z"⟩
abbrev cX7_readsClimber : ByteArray := prog_9_method_16_code
def yX7_readsClimber : MethodName := ⟨RX7, "readsClimber", "()Z"⟩
abbrev cX7_readsHam : ByteArray := prog_9_method_17_code
def yX7_readsHam : MethodName := ⟨RX7, "readsHam", "()Z"⟩
abbrev cX7_readsSun : ByteArray := prog_9_method_18_code
def yX7_readsSun : MethodName := ⟨RX7, "readsSun", "()Z"⟩
abbrev cX7_readsClause : ByteArray := prog_9_method_19_code
def yX7_readsClause : MethodName := ⟨RX7, "readsClause", "()Z"⟩
abbrev cX7_reads : ByteArray := prog_9_method_20_code
def yX7_reads : MethodName := ⟨RX7, "reads", "()Z"⟩
abbrev cX7_tells : ByteArray := prog_9_method_21_code
def yX7_tells : MethodName := ⟨RX7, "tells", "()V"⟩
abbrev cX7_begins : ByteArray := prog_9_method_22_code
def yX7_begins : MethodName := ⟨RX7, "begins", "()V"⟩
abbrev cX7_pole : ByteArray := prog_9_method_23_code
def yX7_pole : MethodName := ⟨RX7, "pole", "()I"⟩
abbrev cX7_fault : ByteArray := prog_9_method_24_code
def yX7_fault : MethodName := ⟨RX7, "fault", "()I"⟩
abbrev cX7_together : ByteArray := prog_9_method_25_code
def yX7_together : MethodName := ⟨RX7, "together", "(II)I"⟩
abbrev cX7_told : ByteArray := prog_9_method_26_code
def yX7_told : MethodName := ⟨RX7, "told", "(I)I"⟩
abbrev cX7_slip : ByteArray := prog_9_method_27_code
def yX7_slip : MethodName := ⟨RX7, "slip", "(I)I"⟩
abbrev cX7_lays : ByteArray := prog_9_method_28_code
def yX7_lays : MethodName := ⟨RX7, "lays", "()V"⟩
abbrev cX7_takes : ByteArray := prog_9_method_29_code
def yX7_takes : MethodName := ⟨RX7, "takes", "()V"⟩
abbrev cX7_climbs : ByteArray := prog_9_method_30_code
def yX7_climbs : MethodName := ⟨RX7, "climbs", "(IIZ)I"⟩
abbrev cX7_goes : ByteArray := prog_9_method_31_code
def yX7_goes : MethodName := ⟨RX7, "goes", "(IZ)I"⟩
abbrev cX7_climber : ByteArray := prog_9_method_32_code
def yX7_climber : MethodName := ⟨RX7, "climber", "(II)I"⟩
abbrev cX7_go : ByteArray := prog_9_method_33_code
def yX7_go : MethodName := ⟨RX7, "go", "(I)I"⟩
abbrev cX7_soap : ByteArray := prog_9_method_34_code
def yX7_soap : MethodName := ⟨RX7, "soap", "(III)I"⟩
abbrev cX7_hang : ByteArray := prog_9_method_35_code
def yX7_hang : MethodName := ⟨RX7, "hang", "()I"⟩
abbrev cX7_begin : ByteArray := prog_9_method_36_code
def yX7_begin : MethodName := ⟨RX7, "begin", "()I"⟩
abbrev cX7_drift : ByteArray := prog_9_method_37_code
def yX7_drift : MethodName := ⟨RX7, "drift", "(I)I"⟩
abbrev cX7_power : ByteArray := prog_9_method_38_code
def yX7_power : MethodName := ⟨RX7, "power", "(II)I"⟩
abbrev cX7_figure : ByteArray := prog_9_method_39_code
def yX7_figure : MethodName := ⟨RX7, "figure", "(IIII)I"⟩
abbrev cX7_nextOrder : ByteArray := prog_9_method_40_code
def yX7_nextOrder : MethodName := ⟨RX7, "nextOrder", "(I)Z"⟩
abbrev cX7_swaps : ByteArray := prog_9_method_41_code
def yX7_swaps : MethodName := ⟨RX7, "swaps", "(II)V"⟩
abbrev cX7_hadBy : ByteArray := prog_9_method_42_code
def yX7_hadBy : MethodName := ⟨RX7, "hadBy", "(I)I"⟩
abbrev cX7_order : ByteArray := prog_9_method_43_code
def yX7_order : MethodName := ⟨RX7, "order", "(I)I"⟩
abbrev cX7_isHis : ByteArray := prog_9_method_44_code
def yX7_isHis : MethodName := ⟨RX7, "isHis", "(III)Z"⟩
abbrev cX7_forOne : ByteArray := prog_9_method_45_code
def yX7_forOne : MethodName := ⟨RX7, "forOne", "(II)I"⟩
abbrev cX7_worthOf : ByteArray := prog_9_method_46_code
def yX7_worthOf : MethodName := ⟨RX7, "worthOf", "(I)I"⟩
abbrev cX7_bestTurn : ByteArray := prog_9_method_47_code
def yX7_bestTurn : MethodName := ⟨RX7, "bestTurn", "(I)I"⟩
abbrev cX7_rests : ByteArray := prog_9_method_48_code
def yX7_rests : MethodName := ⟨RX7, "rests", "(I)I"⟩
abbrev cX7_tower : ByteArray := prog_9_method_49_code
def yX7_tower : MethodName := ⟨RX7, "tower", "(II)I"⟩
abbrev cX7_list : ByteArray := prog_9_method_50_code
def yX7_list : MethodName := ⟨RX7, "list", "(II)I"⟩
abbrev cX7_tear : ByteArray := prog_9_method_51_code
def yX7_tear : MethodName := ⟨RX7, "tear", "()I"⟩
abbrev cX7_enough : ByteArray := prog_9_method_52_code
def yX7_enough : MethodName := ⟨RX7, "enough", "(I)I"⟩
abbrev cX7_wrongOf : ByteArray := prog_9_method_53_code
def yX7_wrongOf : MethodName := ⟨RX7, "wrongOf", "(I)I"⟩
abbrev cX7_judge : ByteArray := prog_9_method_54_code
def yX7_judge : MethodName := ⟨RX7, "judge", "()I"⟩
abbrev cX7_sand : ByteArray := prog_9_method_55_code
def yX7_sand : MethodName := ⟨RX7, "sand", "()I"⟩
abbrev cX7_seed : ByteArray := prog_9_method_56_code
def yX7_seed : MethodName := ⟨RX7, "seed", "(I)I"⟩
abbrev cX7_keep : ByteArray := prog_9_method_57_code
def yX7_keep : MethodName := ⟨RX7, "keep", "(I)I"⟩
abbrev cX7_goBack : ByteArray := prog_9_method_58_code
def yX7_goBack : MethodName := ⟨RX7, "goBack", "(I)I"⟩
def RJ9 : String := "java/lang/Math"
def TJ9 : u_T := fun k => match k with
  | _ => ("", "", "", false)
def tyJ9 : Nat → FieldType := fun k => match k with
  | _ => .int
theorem nmJ9 : ∀ a, a < 0 → ∀ b, b < 0 → a ≠ b → (TJ9 a).2.1 ≠ (TJ9 b).2.1 := by decide +kernel
theorem tyJ9_ok : ∀ k, k < 0 → parseFieldDescriptor (TJ9 k).2.2.1 = some (tyJ9 k) := by decide +kernel
abbrev cJ9_max_7cf53 : ByteArray := prog_10_method_65_code
def yJ9_max_7cf53 : MethodName := ⟨RJ9, "max", "(II)I"⟩
abbrev cJ9_min_7cf53 : ByteArray := prog_10_method_69_code
def yJ9_min_7cf53 : MethodName := ⟨RJ9, "min", "(II)I"⟩
def RJ0 : String := "java/lang/String"
def TJ0 : u_T := fun k => match k with
  | _ => ("", "", "", false)
def tyJ0 : Nat → FieldType := fun k => match k with
  | _ => .int
theorem nmJ0 : ∀ a, a < 0 → ∀ b, b < 0 → a ≠ b → (TJ0 a).2.1 ≠ (TJ0 b).2.1 := by decide +kernel
theorem tyJ0_ok : ∀ k, k < 0 → parseFieldDescriptor (TJ0 k).2.2.1 = some (tyJ0 k) := by decide +kernel
abbrev cJ0_length_8abf5 : ByteArray := prog_11_method_54_code
def yJ0_length_8abf5 : MethodName := ⟨RJ0, "length", "()I"⟩
abbrev cJ0_charAt_5068e : ByteArray := prog_11_method_56_code
def yJ0_charAt_5068e : MethodName := ⟨RJ0, "charAt", "(I)C"⟩
abbrev cJ0_coder_7d493 : ByteArray := prog_11_method_152_code
def yJ0_coder_7d493 : MethodName := ⟨RJ0, "coder", "()B"⟩
abbrev cJ0_isLatin1_aae02 : ByteArray := prog_11_method_154_code
def yJ0_isLatin1_aae02 : MethodName := ⟨RJ0, "isLatin1", "()Z"⟩
abbrev cJ0_checkIndex_df160 : ByteArray := prog_11_method_155_code
def yJ0_checkIndex_df160 : MethodName := ⟨RJ0, "checkIndex", "(II)V"⟩
def RJ1 : String := "java/lang/StringLatin1"
def TJ1 : u_T := fun k => match k with
  | _ => ("", "", "", false)
def tyJ1 : Nat → FieldType := fun k => match k with
  | _ => .int
theorem nmJ1 : ∀ a, a < 0 → ∀ b, b < 0 → a ≠ b → (TJ1 a).2.1 ≠ (TJ1 b).2.1 := by decide +kernel
theorem tyJ1_ok : ∀ k, k < 0 → parseFieldDescriptor (TJ1 k).2.2.1 = some (tyJ1 k) := by decide +kernel
abbrev cJ1_charAt_3b067 : ByteArray := prog_12_method_2_code
def yJ1_charAt_3b067 : MethodName := ⟨RJ1, "charAt", "([BI)C"⟩
def RJ2 : String := "java/lang/StringUTF16"
def TJ2 : u_T := fun k => match k with
  | _ => ("", "", "", false)
def tyJ2 : Nat → FieldType := fun k => match k with
  | _ => .int
theorem nmJ2 : ∀ a, a < 0 → ∀ b, b < 0 → a ≠ b → (TJ2 a).2.1 ≠ (TJ2 b).2.1 := by decide +kernel
theorem tyJ2_ok : ∀ k, k < 0 → parseFieldDescriptor (TJ2 k).2.2.1 = some (tyJ2 k) := by decide +kernel
abbrev cJ2_getChar_3b067 : ByteArray := prog_13_method_5_code
def yJ2_getChar_3b067 : MethodName := ⟨RJ2, "getChar", "([BI)C"⟩
abbrev cJ2_length_9d52b : ByteArray := prog_13_method_6_code
def yJ2_length_9d52b : MethodName := ⟨RJ2, "length", "([B)I"⟩
abbrev cJ2_charAt_3b067 : ByteArray := prog_13_method_83_code
def yJ2_charAt_3b067 : MethodName := ⟨RJ2, "charAt", "([BI)C"⟩
abbrev cJ2_checkIndex_2214a : ByteArray := prog_13_method_91_code
def yJ2_checkIndex_2214a : MethodName := ⟨RJ2, "checkIndex", "(I[B)V"⟩
def RJ10 : String := "java/lang/System"
def TJ10 : u_T := fun k => match k with
  | _ => ("", "", "", false)
def tyJ10 : Nat → FieldType := fun k => match k with
  | _ => .int
theorem nmJ10 : ∀ a, a < 0 → ∀ b, b < 0 → a ≠ b → (TJ10 a).2.1 ≠ (TJ10 b).2.1 := by decide +kernel
theorem tyJ10_ok : ∀ k, k < 0 → parseFieldDescriptor (TJ10 k).2.2.1 = some (tyJ10 k) := by decide +kernel
def RJ3 : String := "jdk/internal/util/Preconditions"
def TJ3 : u_T := fun k => match k with
  | _ => ("", "", "", false)
def tyJ3 : Nat → FieldType := fun k => match k with
  | _ => .int
theorem nmJ3 : ∀ a, a < 0 → ∀ b, b < 0 → a ≠ b → (TJ3 a).2.1 ≠ (TJ3 b).2.1 := by decide +kernel
theorem tyJ3_ok : ∀ k, k < 0 → parseFieldDescriptor (TJ3 k).2.2.1 = some (tyJ3 k) := by decide +kernel
abbrev cJ3_checkIndex_8e157 : ByteArray := prog_15_method_11_code
def yJ3_checkIndex_8e157 : MethodName := ⟨RJ3, "checkIndex", "(IILjava/util/function/BiFunction;)I"⟩
def RL : String := "SoapPoleLaw"
abbrev cL_law : ByteArray := code
def yL_law : MethodName := ⟨RL, "law", "([I)Z"⟩
abbrev vwCl : List vw_C := [(RX0, TX0, 10), (RX1, TX1, 4), (RX2, TX2, 11), (RX3, TX3, 4), (RX4, TX4, 11), (RX5, TX5, 4), (RX6, TX6, 12), (RX7, TX7, 25)]
end
section
theorem dX0_init_0 : decode cX0_init 0 = .ok (.aload_n 0, 1) := by decide +kernel
theorem dX0_init_1 : decode cX0_init 1 = .ok (.invokespecial 3, 3) := by decide +kernel
theorem dX0_init_4 : decode cX0_init 4 = .ok (.aload_n 0, 1) := by decide +kernel
theorem dX0_init_5 : decode cX0_init 5 = .ok (.bipush 30, 2) := by decide +kernel
theorem dX0_init_7 : decode cX0_init 7 = .ok (.newarray .int, 2) := by decide +kernel
theorem dX0_init_9 : decode cX0_init 9 = .ok (.putfield 9, 3) := by decide +kernel
theorem dX0_init_12 : decode cX0_init 12 = .ok (.aload_n 0, 1) := by decide +kernel
theorem dX0_init_13 : decode cX0_init 13 = .ok (.bipush 6, 2) := by decide +kernel
theorem dX0_init_15 : decode cX0_init 15 = .ok (.newarray .int, 2) := by decide +kernel
theorem dX0_init_17 : decode cX0_init 17 = .ok (.putfield 15, 3) := by decide +kernel
theorem dX0_init_20 : decode cX0_init 20 = .ok (.aload_n 0, 1) := by decide +kernel
theorem dX0_init_21 : decode cX0_init 21 = .ok (.bipush 6, 2) := by decide +kernel
theorem dX0_init_23 : decode cX0_init 23 = .ok (.newarray .int, 2) := by decide +kernel
theorem dX0_init_25 : decode cX0_init 25 = .ok (.putfield 18, 3) := by decide +kernel
theorem dX0_init_28 : decode cX0_init 28 = .ok (.aload_n 0, 1) := by decide +kernel
theorem dX0_init_29 : decode cX0_init 29 = .ok (.bipush 6, 2) := by decide +kernel
theorem dX0_init_31 : decode cX0_init 31 = .ok (.newarray .int, 2) := by decide +kernel
theorem dX0_init_33 : decode cX0_init 33 = .ok (.putfield 21, 3) := by decide +kernel
theorem dX0_init_36 : decode cX0_init 36 = .ok (.aload_n 0, 1) := by decide +kernel
theorem dX0_init_37 : decode cX0_init 37 = .ok (.invokevirtual 24, 3) := by decide +kernel
theorem dX0_init_40 : decode cX0_init 40 = .ok (.return_, 1) := by decide +kernel
theorem dX0_empty_0 : decode cX0_empty 0 = .ok (.aload_n 0, 1) := by decide +kernel
theorem dX0_empty_1 : decode cX0_empty 1 = .ok (.iconst 0, 1) := by decide +kernel
theorem dX0_empty_2 : decode cX0_empty 2 = .ok (.putfield 27, 3) := by decide +kernel
theorem dX0_empty_5 : decode cX0_empty 5 = .ok (.aload_n 0, 1) := by decide +kernel
theorem dX0_empty_6 : decode cX0_empty 6 = .ok (.iconst 0, 1) := by decide +kernel
theorem dX0_empty_7 : decode cX0_empty 7 = .ok (.putfield 31, 3) := by decide +kernel
theorem dX0_empty_10 : decode cX0_empty 10 = .ok (.aload_n 0, 1) := by decide +kernel
theorem dX0_empty_11 : decode cX0_empty 11 = .ok (.bipush 100, 2) := by decide +kernel
theorem dX0_empty_13 : decode cX0_empty 13 = .ok (.putfield 34, 3) := by decide +kernel
theorem dX0_empty_16 : decode cX0_empty 16 = .ok (.aload_n 0, 1) := by decide +kernel
theorem dX0_empty_17 : decode cX0_empty 17 = .ok (.iconst 1, 1) := by decide +kernel
theorem dX0_empty_18 : decode cX0_empty 18 = .ok (.putfield 37, 3) := by decide +kernel
theorem dX0_empty_21 : decode cX0_empty 21 = .ok (.aload_n 0, 1) := by decide +kernel
theorem dX0_empty_22 : decode cX0_empty 22 = .ok (.iconst 1, 1) := by decide +kernel
theorem dX0_empty_23 : decode cX0_empty 23 = .ok (.putfield 40, 3) := by decide +kernel
theorem dX0_empty_26 : decode cX0_empty 26 = .ok (.aload_n 0, 1) := by decide +kernel
theorem dX0_empty_27 : decode cX0_empty 27 = .ok (.iconst 0, 1) := by decide +kernel
theorem dX0_empty_28 : decode cX0_empty 28 = .ok (.putfield 43, 3) := by decide +kernel
theorem dX0_empty_31 : decode cX0_empty 31 = .ok (.return_, 1) := by decide +kernel
theorem dX0_become_0 : decode cX0_become 0 = .ok (.aload_n 0, 1) := by decide +kernel
theorem dX0_become_1 : decode cX0_become 1 = .ok (.aload_n 1, 1) := by decide +kernel
theorem dX0_become_2 : decode cX0_become 2 = .ok (.getfield 27, 3) := by decide +kernel
theorem dX0_become_5 : decode cX0_become 5 = .ok (.putfield 27, 3) := by decide +kernel
theorem dX0_become_8 : decode cX0_become 8 = .ok (.aload_n 0, 1) := by decide +kernel
theorem dX0_become_9 : decode cX0_become 9 = .ok (.aload_n 1, 1) := by decide +kernel
theorem dX0_become_10 : decode cX0_become 10 = .ok (.getfield 31, 3) := by decide +kernel
theorem dX0_become_13 : decode cX0_become 13 = .ok (.putfield 31, 3) := by decide +kernel
theorem dX0_become_16 : decode cX0_become 16 = .ok (.aload_n 0, 1) := by decide +kernel
theorem dX0_become_17 : decode cX0_become 17 = .ok (.aload_n 1, 1) := by decide +kernel
theorem dX0_become_18 : decode cX0_become 18 = .ok (.getfield 34, 3) := by decide +kernel
theorem dX0_become_21 : decode cX0_become 21 = .ok (.putfield 34, 3) := by decide +kernel
theorem dX0_become_24 : decode cX0_become 24 = .ok (.aload_n 0, 1) := by decide +kernel
theorem dX0_become_25 : decode cX0_become 25 = .ok (.aload_n 1, 1) := by decide +kernel
theorem dX0_become_26 : decode cX0_become 26 = .ok (.getfield 37, 3) := by decide +kernel
theorem dX0_become_29 : decode cX0_become 29 = .ok (.putfield 37, 3) := by decide +kernel
theorem dX0_become_32 : decode cX0_become 32 = .ok (.aload_n 0, 1) := by decide +kernel
theorem dX0_become_33 : decode cX0_become 33 = .ok (.aload_n 1, 1) := by decide +kernel
theorem dX0_become_34 : decode cX0_become 34 = .ok (.getfield 40, 3) := by decide +kernel
theorem dX0_become_37 : decode cX0_become 37 = .ok (.putfield 40, 3) := by decide +kernel
theorem dX0_become_40 : decode cX0_become 40 = .ok (.aload_n 0, 1) := by decide +kernel
theorem dX0_become_41 : decode cX0_become 41 = .ok (.aload_n 1, 1) := by decide +kernel
theorem dX0_become_42 : decode cX0_become 42 = .ok (.getfield 43, 3) := by decide +kernel
theorem dX0_become_45 : decode cX0_become 45 = .ok (.putfield 43, 3) := by decide +kernel
theorem dX0_become_48 : decode cX0_become 48 = .ok (.aload_n 1, 1) := by decide +kernel
theorem dX0_become_49 : decode cX0_become 49 = .ok (.getfield 9, 3) := by decide +kernel
theorem dX0_become_52 : decode cX0_become 52 = .ok (.aload_n 0, 1) := by decide +kernel
theorem dX0_become_53 : decode cX0_become 53 = .ok (.getfield 9, 3) := by decide +kernel
theorem dX0_become_56 : decode cX0_become 56 = .ok (.invokestatic 46, 3) := by decide +kernel
theorem dX0_become_59 : decode cX0_become 59 = .ok (.aload_n 1, 1) := by decide +kernel
theorem dX0_become_60 : decode cX0_become 60 = .ok (.getfield 15, 3) := by decide +kernel
theorem dX0_become_63 : decode cX0_become 63 = .ok (.aload_n 0, 1) := by decide +kernel
theorem dX0_become_64 : decode cX0_become 64 = .ok (.getfield 15, 3) := by decide +kernel
theorem dX0_become_67 : decode cX0_become 67 = .ok (.invokestatic 46, 3) := by decide +kernel
theorem dX0_become_70 : decode cX0_become 70 = .ok (.aload_n 1, 1) := by decide +kernel
theorem dX0_become_71 : decode cX0_become 71 = .ok (.getfield 18, 3) := by decide +kernel
theorem dX0_become_74 : decode cX0_become 74 = .ok (.aload_n 0, 1) := by decide +kernel
theorem dX0_become_75 : decode cX0_become 75 = .ok (.getfield 18, 3) := by decide +kernel
theorem dX0_become_78 : decode cX0_become 78 = .ok (.invokestatic 46, 3) := by decide +kernel
theorem dX0_become_81 : decode cX0_become 81 = .ok (.aload_n 1, 1) := by decide +kernel
theorem dX0_become_82 : decode cX0_become 82 = .ok (.getfield 21, 3) := by decide +kernel
theorem dX0_become_85 : decode cX0_become 85 = .ok (.aload_n 0, 1) := by decide +kernel
theorem dX0_become_86 : decode cX0_become 86 = .ok (.getfield 21, 3) := by decide +kernel
theorem dX0_become_89 : decode cX0_become 89 = .ok (.invokestatic 46, 3) := by decide +kernel
theorem dX0_become_92 : decode cX0_become 92 = .ok (.return_, 1) := by decide +kernel
theorem dX0_setFeet_0 : decode cX0_setFeet 0 = .ok (.aload_n 0, 1) := by decide +kernel
theorem dX0_setFeet_1 : decode cX0_setFeet 1 = .ok (.iload_n 1, 1) := by decide +kernel
theorem dX0_setFeet_2 : decode cX0_setFeet 2 = .ok (.putfield 27, 3) := by decide +kernel
theorem dX0_setFeet_5 : decode cX0_setFeet 5 = .ok (.iconst 0, 1) := by decide +kernel
theorem dX0_setFeet_6 : decode cX0_setFeet 6 = .ok (.istore_n 3, 1) := by decide +kernel
theorem dX0_setFeet_7 : decode cX0_setFeet 7 = .ok (.iload_n 3, 1) := by decide +kernel
theorem dX0_setFeet_8 : decode cX0_setFeet 8 = .ok (.aload_n 0, 1) := by decide +kernel
theorem dX0_setFeet_9 : decode cX0_setFeet 9 = .ok (.getfield 9, 3) := by decide +kernel
theorem dX0_setFeet_12 : decode cX0_setFeet 12 = .ok (.arraylength, 1) := by decide +kernel
theorem dX0_setFeet_13 : decode cX0_setFeet 13 = .ok (.if_icmp .ge 25, 3) := by decide +kernel
theorem dX0_setFeet_16 : decode cX0_setFeet 16 = .ok (.aload_n 0, 1) := by decide +kernel
theorem dX0_setFeet_17 : decode cX0_setFeet 17 = .ok (.getfield 9, 3) := by decide +kernel
theorem dX0_setFeet_20 : decode cX0_setFeet 20 = .ok (.iload_n 3, 1) := by decide +kernel
theorem dX0_setFeet_21 : decode cX0_setFeet 21 = .ok (.iload_n 3, 1) := by decide +kernel
theorem dX0_setFeet_22 : decode cX0_setFeet 22 = .ok (.iload_n 1, 1) := by decide +kernel
theorem dX0_setFeet_23 : decode cX0_setFeet 23 = .ok (.if_icmp .ge 7, 3) := by decide +kernel
theorem dX0_setFeet_26 : decode cX0_setFeet 26 = .ok (.iload_n 2, 1) := by decide +kernel
theorem dX0_setFeet_27 : decode cX0_setFeet 27 = .ok (.goto 4, 3) := by decide +kernel
theorem dX0_setFeet_30 : decode cX0_setFeet 30 = .ok (.iconst 0, 1) := by decide +kernel
theorem dX0_setFeet_31 : decode cX0_setFeet 31 = .ok (.iastore, 1) := by decide +kernel
theorem dX0_setFeet_32 : decode cX0_setFeet 32 = .ok (.iinc 3 1, 3) := by decide +kernel
theorem dX0_setFeet_35 : decode cX0_setFeet 35 = .ok (.goto (-28), 3) := by decide +kernel
theorem dX0_setFeet_38 : decode cX0_setFeet 38 = .ok (.return_, 1) := by decide +kernel
theorem dX0_setSlip_0 : decode cX0_setSlip 0 = .ok (.iload_n 1, 1) := by decide +kernel
theorem dX0_setSlip_1 : decode cX0_setSlip 1 = .ok (.ifCond .lt 19, 3) := by decide +kernel
theorem dX0_setSlip_4 : decode cX0_setSlip 4 = .ok (.iload_n 1, 1) := by decide +kernel
theorem dX0_setSlip_5 : decode cX0_setSlip 5 = .ok (.aload_n 0, 1) := by decide +kernel
theorem dX0_setSlip_6 : decode cX0_setSlip 6 = .ok (.getfield 9, 3) := by decide +kernel
theorem dX0_setSlip_9 : decode cX0_setSlip 9 = .ok (.arraylength, 1) := by decide +kernel
theorem dX0_setSlip_10 : decode cX0_setSlip 10 = .ok (.if_icmp .ge 10, 3) := by decide +kernel
theorem dX0_setSlip_13 : decode cX0_setSlip 13 = .ok (.aload_n 0, 1) := by decide +kernel
theorem dX0_setSlip_14 : decode cX0_setSlip 14 = .ok (.getfield 9, 3) := by decide +kernel
theorem dX0_setSlip_17 : decode cX0_setSlip 17 = .ok (.iload_n 1, 1) := by decide +kernel
theorem dX0_setSlip_18 : decode cX0_setSlip 18 = .ok (.iload_n 2, 1) := by decide +kernel
theorem dX0_setSlip_19 : decode cX0_setSlip 19 = .ok (.iastore, 1) := by decide +kernel
theorem dX0_setSlip_20 : decode cX0_setSlip 20 = .ok (.return_, 1) := by decide +kernel
theorem dX0_addClimber_0 : decode cX0_addClimber 0 = .ok (.aload_n 0, 1) := by decide +kernel
theorem dX0_addClimber_1 : decode cX0_addClimber 1 = .ok (.getfield 31, 3) := by decide +kernel
theorem dX0_addClimber_4 : decode cX0_addClimber 4 = .ok (.istore 4, 2) := by decide +kernel
theorem dX0_addClimber_6 : decode cX0_addClimber 6 = .ok (.iload 4, 2) := by decide +kernel
theorem dX0_addClimber_8 : decode cX0_addClimber 8 = .ok (.ifCond .lt 65, 3) := by decide +kernel
theorem dX0_addClimber_11 : decode cX0_addClimber 11 = .ok (.iload 4, 2) := by decide +kernel
theorem dX0_addClimber_13 : decode cX0_addClimber 13 = .ok (.aload_n 0, 1) := by decide +kernel
theorem dX0_addClimber_14 : decode cX0_addClimber 14 = .ok (.getfield 15, 3) := by decide +kernel
theorem dX0_addClimber_17 : decode cX0_addClimber 17 = .ok (.arraylength, 1) := by decide +kernel
theorem dX0_addClimber_18 : decode cX0_addClimber 18 = .ok (.if_icmp .ge 55, 3) := by decide +kernel
theorem dX0_addClimber_21 : decode cX0_addClimber 21 = .ok (.iload 4, 2) := by decide +kernel
theorem dX0_addClimber_23 : decode cX0_addClimber 23 = .ok (.aload_n 0, 1) := by decide +kernel
theorem dX0_addClimber_24 : decode cX0_addClimber 24 = .ok (.getfield 18, 3) := by decide +kernel
theorem dX0_addClimber_27 : decode cX0_addClimber 27 = .ok (.arraylength, 1) := by decide +kernel
theorem dX0_addClimber_28 : decode cX0_addClimber 28 = .ok (.if_icmp .ge 45, 3) := by decide +kernel
theorem dX0_addClimber_31 : decode cX0_addClimber 31 = .ok (.iload 4, 2) := by decide +kernel
theorem dX0_addClimber_33 : decode cX0_addClimber 33 = .ok (.aload_n 0, 1) := by decide +kernel
theorem dX0_addClimber_34 : decode cX0_addClimber 34 = .ok (.getfield 21, 3) := by decide +kernel
theorem dX0_addClimber_37 : decode cX0_addClimber 37 = .ok (.arraylength, 1) := by decide +kernel
theorem dX0_addClimber_38 : decode cX0_addClimber 38 = .ok (.if_icmp .ge 35, 3) := by decide +kernel
theorem dX0_addClimber_41 : decode cX0_addClimber 41 = .ok (.aload_n 0, 1) := by decide +kernel
theorem dX0_addClimber_42 : decode cX0_addClimber 42 = .ok (.getfield 15, 3) := by decide +kernel
theorem dX0_addClimber_45 : decode cX0_addClimber 45 = .ok (.iload 4, 2) := by decide +kernel
theorem dX0_addClimber_47 : decode cX0_addClimber 47 = .ok (.iload_n 1, 1) := by decide +kernel
theorem dX0_addClimber_48 : decode cX0_addClimber 48 = .ok (.iastore, 1) := by decide +kernel
theorem dX0_addClimber_49 : decode cX0_addClimber 49 = .ok (.aload_n 0, 1) := by decide +kernel
theorem dX0_addClimber_50 : decode cX0_addClimber 50 = .ok (.getfield 18, 3) := by decide +kernel
theorem dX0_addClimber_53 : decode cX0_addClimber 53 = .ok (.iload 4, 2) := by decide +kernel
theorem dX0_addClimber_55 : decode cX0_addClimber 55 = .ok (.iload_n 2, 1) := by decide +kernel
theorem dX0_addClimber_56 : decode cX0_addClimber 56 = .ok (.iastore, 1) := by decide +kernel
theorem dX0_addClimber_57 : decode cX0_addClimber 57 = .ok (.aload_n 0, 1) := by decide +kernel
theorem dX0_addClimber_58 : decode cX0_addClimber 58 = .ok (.getfield 21, 3) := by decide +kernel
theorem dX0_addClimber_61 : decode cX0_addClimber 61 = .ok (.iload 4, 2) := by decide +kernel
theorem dX0_addClimber_63 : decode cX0_addClimber 63 = .ok (.iload_n 3, 1) := by decide +kernel
theorem dX0_addClimber_64 : decode cX0_addClimber 64 = .ok (.iastore, 1) := by decide +kernel
theorem dX0_addClimber_65 : decode cX0_addClimber 65 = .ok (.aload_n 0, 1) := by decide +kernel
theorem dX0_addClimber_66 : decode cX0_addClimber 66 = .ok (.iload 4, 2) := by decide +kernel
theorem dX0_addClimber_68 : decode cX0_addClimber 68 = .ok (.iconst 1, 1) := by decide +kernel
theorem dX0_addClimber_69 : decode cX0_addClimber 69 = .ok (.iadd, 1) := by decide +kernel
theorem dX0_addClimber_70 : decode cX0_addClimber 70 = .ok (.putfield 31, 3) := by decide +kernel
theorem dX0_addClimber_73 : decode cX0_addClimber 73 = .ok (.return_, 1) := by decide +kernel
theorem dX0_hasFoot_0 : decode cX0_hasFoot 0 = .ok (.iload_n 1, 1) := by decide +kernel
theorem dX0_hasFoot_1 : decode cX0_hasFoot 1 = .ok (.ifCond .lt 15, 3) := by decide +kernel
theorem dX0_hasFoot_4 : decode cX0_hasFoot 4 = .ok (.iload_n 1, 1) := by decide +kernel
theorem dX0_hasFoot_5 : decode cX0_hasFoot 5 = .ok (.aload_n 0, 1) := by decide +kernel
theorem dX0_hasFoot_6 : decode cX0_hasFoot 6 = .ok (.getfield 27, 3) := by decide +kernel
theorem dX0_hasFoot_9 : decode cX0_hasFoot 9 = .ok (.if_icmp .ge 7, 3) := by decide +kernel
theorem dX0_hasFoot_12 : decode cX0_hasFoot 12 = .ok (.iconst 1, 1) := by decide +kernel
theorem dX0_hasFoot_13 : decode cX0_hasFoot 13 = .ok (.goto 4, 3) := by decide +kernel
theorem dX0_hasFoot_16 : decode cX0_hasFoot 16 = .ok (.iconst 0, 1) := by decide +kernel
theorem dX0_hasFoot_17 : decode cX0_hasFoot 17 = .ok (.ireturn, 1) := by decide +kernel
theorem dX0_hasClimber_0 : decode cX0_hasClimber 0 = .ok (.iload_n 1, 1) := by decide +kernel
theorem dX0_hasClimber_1 : decode cX0_hasClimber 1 = .ok (.ifCond .lt 15, 3) := by decide +kernel
theorem dX0_hasClimber_4 : decode cX0_hasClimber 4 = .ok (.iload_n 1, 1) := by decide +kernel
theorem dX0_hasClimber_5 : decode cX0_hasClimber 5 = .ok (.aload_n 0, 1) := by decide +kernel
theorem dX0_hasClimber_6 : decode cX0_hasClimber 6 = .ok (.getfield 31, 3) := by decide +kernel
theorem dX0_hasClimber_9 : decode cX0_hasClimber 9 = .ok (.if_icmp .ge 7, 3) := by decide +kernel
theorem dX0_hasClimber_12 : decode cX0_hasClimber 12 = .ok (.iconst 1, 1) := by decide +kernel
theorem dX0_hasClimber_13 : decode cX0_hasClimber 13 = .ok (.goto 4, 3) := by decide +kernel
theorem dX0_hasClimber_16 : decode cX0_hasClimber 16 = .ok (.iconst 0, 1) := by decide +kernel
theorem dX0_hasClimber_17 : decode cX0_hasClimber 17 = .ok (.ireturn, 1) := by decide +kernel
theorem dX0_weightOf_0 : decode cX0_weightOf 0 = .ok (.iload_n 1, 1) := by decide +kernel
theorem dX0_weightOf_1 : decode cX0_weightOf 1 = .ok (.ifCond .lt 21, 3) := by decide +kernel
theorem dX0_weightOf_4 : decode cX0_weightOf 4 = .ok (.iload_n 1, 1) := by decide +kernel
theorem dX0_weightOf_5 : decode cX0_weightOf 5 = .ok (.aload_n 0, 1) := by decide +kernel
theorem dX0_weightOf_6 : decode cX0_weightOf 6 = .ok (.getfield 15, 3) := by decide +kernel
theorem dX0_weightOf_9 : decode cX0_weightOf 9 = .ok (.arraylength, 1) := by decide +kernel
theorem dX0_weightOf_10 : decode cX0_weightOf 10 = .ok (.if_icmp .ge 12, 3) := by decide +kernel
theorem dX0_weightOf_13 : decode cX0_weightOf 13 = .ok (.aload_n 0, 1) := by decide +kernel
theorem dX0_weightOf_14 : decode cX0_weightOf 14 = .ok (.getfield 15, 3) := by decide +kernel
theorem dX0_weightOf_17 : decode cX0_weightOf 17 = .ok (.iload_n 1, 1) := by decide +kernel
theorem dX0_weightOf_18 : decode cX0_weightOf 18 = .ok (.iaload, 1) := by decide +kernel
theorem dX0_weightOf_19 : decode cX0_weightOf 19 = .ok (.goto 4, 3) := by decide +kernel
theorem dX0_weightOf_22 : decode cX0_weightOf 22 = .ok (.iconst 0, 1) := by decide +kernel
theorem dX0_weightOf_23 : decode cX0_weightOf 23 = .ok (.ireturn, 1) := by decide +kernel
theorem dX0_armsOf_0 : decode cX0_armsOf 0 = .ok (.iload_n 1, 1) := by decide +kernel
theorem dX0_armsOf_1 : decode cX0_armsOf 1 = .ok (.ifCond .lt 21, 3) := by decide +kernel
theorem dX0_armsOf_4 : decode cX0_armsOf 4 = .ok (.iload_n 1, 1) := by decide +kernel
theorem dX0_armsOf_5 : decode cX0_armsOf 5 = .ok (.aload_n 0, 1) := by decide +kernel
theorem dX0_armsOf_6 : decode cX0_armsOf 6 = .ok (.getfield 18, 3) := by decide +kernel
theorem dX0_armsOf_9 : decode cX0_armsOf 9 = .ok (.arraylength, 1) := by decide +kernel
theorem dX0_armsOf_10 : decode cX0_armsOf 10 = .ok (.if_icmp .ge 12, 3) := by decide +kernel
theorem dX0_armsOf_13 : decode cX0_armsOf 13 = .ok (.aload_n 0, 1) := by decide +kernel
theorem dX0_armsOf_14 : decode cX0_armsOf 14 = .ok (.getfield 18, 3) := by decide +kernel
theorem dX0_armsOf_17 : decode cX0_armsOf 17 = .ok (.iload_n 1, 1) := by decide +kernel
theorem dX0_armsOf_18 : decode cX0_armsOf 18 = .ok (.iaload, 1) := by decide +kernel
theorem dX0_armsOf_19 : decode cX0_armsOf 19 = .ok (.goto 4, 3) := by decide +kernel
theorem dX0_armsOf_22 : decode cX0_armsOf 22 = .ok (.iconst 0, 1) := by decide +kernel
theorem dX0_armsOf_23 : decode cX0_armsOf 23 = .ok (.ireturn, 1) := by decide +kernel
theorem dX0_rubsOf_0 : decode cX0_rubsOf 0 = .ok (.iload_n 1, 1) := by decide +kernel
theorem dX0_rubsOf_1 : decode cX0_rubsOf 1 = .ok (.ifCond .lt 21, 3) := by decide +kernel
theorem dX0_rubsOf_4 : decode cX0_rubsOf 4 = .ok (.iload_n 1, 1) := by decide +kernel
theorem dX0_rubsOf_5 : decode cX0_rubsOf 5 = .ok (.aload_n 0, 1) := by decide +kernel
theorem dX0_rubsOf_6 : decode cX0_rubsOf 6 = .ok (.getfield 21, 3) := by decide +kernel
theorem dX0_rubsOf_9 : decode cX0_rubsOf 9 = .ok (.arraylength, 1) := by decide +kernel
theorem dX0_rubsOf_10 : decode cX0_rubsOf 10 = .ok (.if_icmp .ge 12, 3) := by decide +kernel
theorem dX0_rubsOf_13 : decode cX0_rubsOf 13 = .ok (.aload_n 0, 1) := by decide +kernel
theorem dX0_rubsOf_14 : decode cX0_rubsOf 14 = .ok (.getfield 21, 3) := by decide +kernel
theorem dX0_rubsOf_17 : decode cX0_rubsOf 17 = .ok (.iload_n 1, 1) := by decide +kernel
theorem dX0_rubsOf_18 : decode cX0_rubsOf 18 = .ok (.iaload, 1) := by decide +kernel
theorem dX0_rubsOf_19 : decode cX0_rubsOf 19 = .ok (.goto 4, 3) := by decide +kernel
theorem dX0_rubsOf_22 : decode cX0_rubsOf 22 = .ok (.iconst 0, 1) := by decide +kernel
theorem dX0_rubsOf_23 : decode cX0_rubsOf 23 = .ok (.ireturn, 1) := by decide +kernel
theorem dX0_mostRub_0 : decode cX0_mostRub 0 = .ok (.iconst 0, 1) := by decide +kernel
theorem dX0_mostRub_1 : decode cX0_mostRub 1 = .ok (.istore_n 1, 1) := by decide +kernel
theorem dX0_mostRub_2 : decode cX0_mostRub 2 = .ok (.iconst 0, 1) := by decide +kernel
theorem dX0_mostRub_3 : decode cX0_mostRub 3 = .ok (.istore_n 2, 1) := by decide +kernel
theorem dX0_mostRub_4 : decode cX0_mostRub 4 = .ok (.iload_n 2, 1) := by decide +kernel
theorem dX0_mostRub_5 : decode cX0_mostRub 5 = .ok (.aload_n 0, 1) := by decide +kernel
theorem dX0_mostRub_6 : decode cX0_mostRub 6 = .ok (.getfield 31, 3) := by decide +kernel
theorem dX0_mostRub_9 : decode cX0_mostRub 9 = .ok (.if_icmp .ge 29, 3) := by decide +kernel
theorem dX0_mostRub_12 : decode cX0_mostRub 12 = .ok (.iload_n 2, 1) := by decide +kernel
theorem dX0_mostRub_13 : decode cX0_mostRub 13 = .ok (.aload_n 0, 1) := by decide +kernel
theorem dX0_mostRub_14 : decode cX0_mostRub 14 = .ok (.getfield 21, 3) := by decide +kernel
theorem dX0_mostRub_17 : decode cX0_mostRub 17 = .ok (.arraylength, 1) := by decide +kernel
theorem dX0_mostRub_18 : decode cX0_mostRub 18 = .ok (.if_icmp .ge 20, 3) := by decide +kernel
theorem dX0_mostRub_21 : decode cX0_mostRub 21 = .ok (.iload_n 1, 1) := by decide +kernel
theorem dX0_mostRub_22 : decode cX0_mostRub 22 = .ok (.aload_n 0, 1) := by decide +kernel
theorem dX0_mostRub_23 : decode cX0_mostRub 23 = .ok (.getfield 21, 3) := by decide +kernel
theorem dX0_mostRub_26 : decode cX0_mostRub 26 = .ok (.iload_n 2, 1) := by decide +kernel
theorem dX0_mostRub_27 : decode cX0_mostRub 27 = .ok (.iaload, 1) := by decide +kernel
theorem dX0_mostRub_28 : decode cX0_mostRub 28 = .ok (.invokestatic 50, 3) := by decide +kernel
theorem dX0_mostRub_31 : decode cX0_mostRub 31 = .ok (.istore_n 1, 1) := by decide +kernel
theorem dX0_mostRub_32 : decode cX0_mostRub 32 = .ok (.iinc 2 1, 3) := by decide +kernel
theorem dX0_mostRub_35 : decode cX0_mostRub 35 = .ok (.goto (-31), 3) := by decide +kernel
theorem dX0_mostRub_38 : decode cX0_mostRub 38 = .ok (.iload_n 1, 1) := by decide +kernel
theorem dX0_mostRub_39 : decode cX0_mostRub 39 = .ok (.ireturn, 1) := by decide +kernel
theorem dX1_init_0 : decode cX1_init 0 = .ok (.aload_n 0, 1) := by decide +kernel
theorem dX1_init_1 : decode cX1_init 1 = .ok (.invokespecial 3, 3) := by decide +kernel
theorem dX1_init_4 : decode cX1_init 4 = .ok (.aload_n 0, 1) := by decide +kernel
theorem dX1_init_5 : decode cX1_init 5 = .ok (.bipush 30, 2) := by decide +kernel
theorem dX1_init_7 : decode cX1_init 7 = .ok (.newarray .int, 2) := by decide +kernel
theorem dX1_init_9 : decode cX1_init 9 = .ok (.putfield 9, 3) := by decide +kernel
theorem dX1_init_12 : decode cX1_init 12 = .ok (.aload_n 0, 1) := by decide +kernel
theorem dX1_init_13 : decode cX1_init 13 = .ok (.iconst (-1), 1) := by decide +kernel
theorem dX1_init_14 : decode cX1_init 14 = .ok (.putfield 15, 3) := by decide +kernel
theorem dX1_init_17 : decode cX1_init 17 = .ok (.return_, 1) := by decide +kernel
theorem dX1_become_0 : decode cX1_become 0 = .ok (.aload_n 0, 1) := by decide +kernel
theorem dX1_become_1 : decode cX1_become 1 = .ok (.aload_n 1, 1) := by decide +kernel
theorem dX1_become_2 : decode cX1_become 2 = .ok (.getfield 19, 3) := by decide +kernel
theorem dX1_become_5 : decode cX1_become 5 = .ok (.putfield 19, 3) := by decide +kernel
theorem dX1_become_8 : decode cX1_become 8 = .ok (.aload_n 0, 1) := by decide +kernel
theorem dX1_become_9 : decode cX1_become 9 = .ok (.aload_n 1, 1) := by decide +kernel
theorem dX1_become_10 : decode cX1_become 10 = .ok (.getfield 15, 3) := by decide +kernel
theorem dX1_become_13 : decode cX1_become 13 = .ok (.putfield 15, 3) := by decide +kernel
theorem dX1_become_16 : decode cX1_become 16 = .ok (.aload_n 0, 1) := by decide +kernel
theorem dX1_become_17 : decode cX1_become 17 = .ok (.aload_n 1, 1) := by decide +kernel
theorem dX1_become_18 : decode cX1_become 18 = .ok (.getfield 22, 3) := by decide +kernel
theorem dX1_become_21 : decode cX1_become 21 = .ok (.putfield 22, 3) := by decide +kernel
theorem dX1_become_24 : decode cX1_become 24 = .ok (.aload_n 1, 1) := by decide +kernel
theorem dX1_become_25 : decode cX1_become 25 = .ok (.getfield 9, 3) := by decide +kernel
theorem dX1_become_28 : decode cX1_become 28 = .ok (.aload_n 0, 1) := by decide +kernel
theorem dX1_become_29 : decode cX1_become 29 = .ok (.getfield 9, 3) := by decide +kernel
theorem dX1_become_32 : decode cX1_become 32 = .ok (.invokestatic 25, 3) := by decide +kernel
theorem dX1_become_35 : decode cX1_become 35 = .ok (.return_, 1) := by decide +kernel
theorem dX1_becomeAsTold_0 : decode cX1_becomeAsTold 0 = .ok (.aload_n 0, 1) := by decide +kernel
theorem dX1_becomeAsTold_1 : decode cX1_becomeAsTold 1 = .ok (.iconst 0, 1) := by decide +kernel
theorem dX1_becomeAsTold_2 : decode cX1_becomeAsTold 2 = .ok (.putfield 19, 3) := by decide +kernel
theorem dX1_becomeAsTold_5 : decode cX1_becomeAsTold 5 = .ok (.aload_n 0, 1) := by decide +kernel
theorem dX1_becomeAsTold_6 : decode cX1_becomeAsTold 6 = .ok (.iconst (-1), 1) := by decide +kernel
theorem dX1_becomeAsTold_7 : decode cX1_becomeAsTold 7 = .ok (.putfield 15, 3) := by decide +kernel
theorem dX1_becomeAsTold_10 : decode cX1_becomeAsTold 10 = .ok (.aload_n 1, 1) := by decide +kernel
theorem dX1_becomeAsTold_11 : decode cX1_becomeAsTold 11 = .ok (.getfield 29, 3) := by decide +kernel
theorem dX1_becomeAsTold_14 : decode cX1_becomeAsTold 14 = .ok (.aload_n 0, 1) := by decide +kernel
theorem dX1_becomeAsTold_15 : decode cX1_becomeAsTold 15 = .ok (.getfield 9, 3) := by decide +kernel
theorem dX1_becomeAsTold_18 : decode cX1_becomeAsTold 18 = .ok (.invokestatic 25, 3) := by decide +kernel
theorem dX1_becomeAsTold_21 : decode cX1_becomeAsTold 21 = .ok (.return_, 1) := by decide +kernel
theorem dX1_isLike_0 : decode cX1_isLike 0 = .ok (.aload_n 0, 1) := by decide +kernel
theorem dX1_isLike_1 : decode cX1_isLike 1 = .ok (.getfield 19, 3) := by decide +kernel
theorem dX1_isLike_4 : decode cX1_isLike 4 = .ok (.aload_n 1, 1) := by decide +kernel
theorem dX1_isLike_5 : decode cX1_isLike 5 = .ok (.getfield 19, 3) := by decide +kernel
theorem dX1_isLike_8 : decode cX1_isLike 8 = .ok (.if_icmp .ne 14, 3) := by decide +kernel
theorem dX1_isLike_11 : decode cX1_isLike 11 = .ok (.aload_n 0, 1) := by decide +kernel
theorem dX1_isLike_12 : decode cX1_isLike 12 = .ok (.getfield 15, 3) := by decide +kernel
theorem dX1_isLike_15 : decode cX1_isLike 15 = .ok (.aload_n 1, 1) := by decide +kernel
theorem dX1_isLike_16 : decode cX1_isLike 16 = .ok (.getfield 15, 3) := by decide +kernel
theorem dX1_isLike_19 : decode cX1_isLike 19 = .ok (.if_icmp .eq 5, 3) := by decide +kernel
theorem dX1_isLike_22 : decode cX1_isLike 22 = .ok (.iconst 0, 1) := by decide +kernel
theorem dX1_isLike_23 : decode cX1_isLike 23 = .ok (.ireturn, 1) := by decide +kernel
theorem dX1_isLike_24 : decode cX1_isLike 24 = .ok (.iconst 0, 1) := by decide +kernel
theorem dX1_isLike_25 : decode cX1_isLike 25 = .ok (.istore_n 2, 1) := by decide +kernel
theorem dX1_isLike_26 : decode cX1_isLike 26 = .ok (.iload_n 2, 1) := by decide +kernel
theorem dX1_isLike_27 : decode cX1_isLike 27 = .ok (.aload_n 0, 1) := by decide +kernel
theorem dX1_isLike_28 : decode cX1_isLike 28 = .ok (.getfield 9, 3) := by decide +kernel
theorem dX1_isLike_31 : decode cX1_isLike 31 = .ok (.arraylength, 1) := by decide +kernel
theorem dX1_isLike_32 : decode cX1_isLike 32 = .ok (.if_icmp .ge 35, 3) := by decide +kernel
theorem dX1_isLike_35 : decode cX1_isLike 35 = .ok (.iload_n 2, 1) := by decide +kernel
theorem dX1_isLike_36 : decode cX1_isLike 36 = .ok (.aload_n 1, 1) := by decide +kernel
theorem dX1_isLike_37 : decode cX1_isLike 37 = .ok (.getfield 9, 3) := by decide +kernel
theorem dX1_isLike_40 : decode cX1_isLike 40 = .ok (.arraylength, 1) := by decide +kernel
theorem dX1_isLike_41 : decode cX1_isLike 41 = .ok (.if_icmp .ge 26, 3) := by decide +kernel
theorem dX1_isLike_44 : decode cX1_isLike 44 = .ok (.aload_n 0, 1) := by decide +kernel
theorem dX1_isLike_45 : decode cX1_isLike 45 = .ok (.getfield 9, 3) := by decide +kernel
theorem dX1_isLike_48 : decode cX1_isLike 48 = .ok (.iload_n 2, 1) := by decide +kernel
theorem dX1_isLike_49 : decode cX1_isLike 49 = .ok (.iaload, 1) := by decide +kernel
theorem dX1_isLike_50 : decode cX1_isLike 50 = .ok (.aload_n 1, 1) := by decide +kernel
theorem dX1_isLike_51 : decode cX1_isLike 51 = .ok (.getfield 9, 3) := by decide +kernel
theorem dX1_isLike_54 : decode cX1_isLike 54 = .ok (.iload_n 2, 1) := by decide +kernel
theorem dX1_isLike_55 : decode cX1_isLike 55 = .ok (.iaload, 1) := by decide +kernel
theorem dX1_isLike_56 : decode cX1_isLike 56 = .ok (.if_icmp .eq 5, 3) := by decide +kernel
theorem dX1_isLike_59 : decode cX1_isLike 59 = .ok (.iconst 0, 1) := by decide +kernel
theorem dX1_isLike_60 : decode cX1_isLike 60 = .ok (.ireturn, 1) := by decide +kernel
theorem dX1_isLike_61 : decode cX1_isLike 61 = .ok (.iinc 2 1, 3) := by decide +kernel
theorem dX1_isLike_64 : decode cX1_isLike 64 = .ok (.goto (-38), 3) := by decide +kernel
theorem dX1_isLike_67 : decode cX1_isLike 67 = .ok (.iconst 1, 1) := by decide +kernel
theorem dX1_isLike_68 : decode cX1_isLike 68 = .ok (.ireturn, 1) := by decide +kernel
theorem dX1_slipOn_0 : decode cX1_slipOn 0 = .ok (.iload_n 1, 1) := by decide +kernel
theorem dX1_slipOn_1 : decode cX1_slipOn 1 = .ok (.ifCond .lt 21, 3) := by decide +kernel
theorem dX1_slipOn_4 : decode cX1_slipOn 4 = .ok (.iload_n 1, 1) := by decide +kernel
theorem dX1_slipOn_5 : decode cX1_slipOn 5 = .ok (.aload_n 0, 1) := by decide +kernel
theorem dX1_slipOn_6 : decode cX1_slipOn 6 = .ok (.getfield 9, 3) := by decide +kernel
theorem dX1_slipOn_9 : decode cX1_slipOn 9 = .ok (.arraylength, 1) := by decide +kernel
theorem dX1_slipOn_10 : decode cX1_slipOn 10 = .ok (.if_icmp .ge 12, 3) := by decide +kernel
theorem dX1_slipOn_13 : decode cX1_slipOn 13 = .ok (.aload_n 0, 1) := by decide +kernel
theorem dX1_slipOn_14 : decode cX1_slipOn 14 = .ok (.getfield 9, 3) := by decide +kernel
theorem dX1_slipOn_17 : decode cX1_slipOn 17 = .ok (.iload_n 1, 1) := by decide +kernel
theorem dX1_slipOn_18 : decode cX1_slipOn 18 = .ok (.iaload, 1) := by decide +kernel
theorem dX1_slipOn_19 : decode cX1_slipOn 19 = .ok (.goto 4, 3) := by decide +kernel
theorem dX1_slipOn_22 : decode cX1_slipOn 22 = .ok (.iconst 0, 1) := by decide +kernel
theorem dX1_slipOn_23 : decode cX1_slipOn 23 = .ok (.ireturn, 1) := by decide +kernel
theorem dX1_slipTogether_0 : decode cX1_slipTogether 0 = .ok (.iconst 0, 1) := by decide +kernel
theorem dX1_slipTogether_1 : decode cX1_slipTogether 1 = .ok (.istore_n 3, 1) := by decide +kernel
theorem dX1_slipTogether_2 : decode cX1_slipTogether 2 = .ok (.iload_n 1, 1) := by decide +kernel
theorem dX1_slipTogether_3 : decode cX1_slipTogether 3 = .ok (.iconst 0, 1) := by decide +kernel
theorem dX1_slipTogether_4 : decode cX1_slipTogether 4 = .ok (.invokestatic 32, 3) := by decide +kernel
theorem dX1_slipTogether_7 : decode cX1_slipTogether 7 = .ok (.istore 4, 2) := by decide +kernel
theorem dX1_slipTogether_9 : decode cX1_slipTogether 9 = .ok (.iload 4, 2) := by decide +kernel
theorem dX1_slipTogether_11 : decode cX1_slipTogether 11 = .ok (.iload_n 2, 1) := by decide +kernel
theorem dX1_slipTogether_12 : decode cX1_slipTogether 12 = .ok (.if_icmp .gt 29, 3) := by decide +kernel
theorem dX1_slipTogether_15 : decode cX1_slipTogether 15 = .ok (.iload 4, 2) := by decide +kernel
theorem dX1_slipTogether_17 : decode cX1_slipTogether 17 = .ok (.aload_n 0, 1) := by decide +kernel
theorem dX1_slipTogether_18 : decode cX1_slipTogether 18 = .ok (.getfield 9, 3) := by decide +kernel
theorem dX1_slipTogether_21 : decode cX1_slipTogether 21 = .ok (.arraylength, 1) := by decide +kernel
theorem dX1_slipTogether_22 : decode cX1_slipTogether 22 = .ok (.if_icmp .ge 19, 3) := by decide +kernel
theorem dX1_slipTogether_25 : decode cX1_slipTogether 25 = .ok (.iload_n 3, 1) := by decide +kernel
theorem dX1_slipTogether_26 : decode cX1_slipTogether 26 = .ok (.aload_n 0, 1) := by decide +kernel
theorem dX1_slipTogether_27 : decode cX1_slipTogether 27 = .ok (.getfield 9, 3) := by decide +kernel
theorem dX1_slipTogether_30 : decode cX1_slipTogether 30 = .ok (.iload 4, 2) := by decide +kernel
theorem dX1_slipTogether_32 : decode cX1_slipTogether 32 = .ok (.iaload, 1) := by decide +kernel
theorem dX1_slipTogether_33 : decode cX1_slipTogether 33 = .ok (.iadd, 1) := by decide +kernel
theorem dX1_slipTogether_34 : decode cX1_slipTogether 34 = .ok (.istore_n 3, 1) := by decide +kernel
theorem dX1_slipTogether_35 : decode cX1_slipTogether 35 = .ok (.iinc 4 1, 3) := by decide +kernel
theorem dX1_slipTogether_38 : decode cX1_slipTogether 38 = .ok (.goto (-29), 3) := by decide +kernel
theorem dX1_slipTogether_41 : decode cX1_slipTogether 41 = .ok (.iload_n 3, 1) := by decide +kernel
theorem dX1_slipTogether_42 : decode cX1_slipTogether 42 = .ok (.ireturn, 1) := by decide +kernel
theorem dX1_addSlip_0 : decode cX1_addSlip 0 = .ok (.iload_n 1, 1) := by decide +kernel
theorem dX1_addSlip_1 : decode cX1_addSlip 1 = .ok (.iconst 0, 1) := by decide +kernel
theorem dX1_addSlip_2 : decode cX1_addSlip 2 = .ok (.invokestatic 32, 3) := by decide +kernel
theorem dX1_addSlip_5 : decode cX1_addSlip 5 = .ok (.istore 4, 2) := by decide +kernel
theorem dX1_addSlip_7 : decode cX1_addSlip 7 = .ok (.iload 4, 2) := by decide +kernel
theorem dX1_addSlip_9 : decode cX1_addSlip 9 = .ok (.iload_n 2, 1) := by decide +kernel
theorem dX1_addSlip_10 : decode cX1_addSlip 10 = .ok (.if_icmp .gt 40, 3) := by decide +kernel
theorem dX1_addSlip_13 : decode cX1_addSlip 13 = .ok (.iload 4, 2) := by decide +kernel
theorem dX1_addSlip_15 : decode cX1_addSlip 15 = .ok (.aload_n 0, 1) := by decide +kernel
theorem dX1_addSlip_16 : decode cX1_addSlip 16 = .ok (.getfield 9, 3) := by decide +kernel
theorem dX1_addSlip_19 : decode cX1_addSlip 19 = .ok (.arraylength, 1) := by decide +kernel
theorem dX1_addSlip_20 : decode cX1_addSlip 20 = .ok (.if_icmp .ge 30, 3) := by decide +kernel
theorem dX1_addSlip_23 : decode cX1_addSlip 23 = .ok (.aload_n 0, 1) := by decide +kernel
theorem dX1_addSlip_24 : decode cX1_addSlip 24 = .ok (.getfield 9, 3) := by decide +kernel
theorem dX1_addSlip_27 : decode cX1_addSlip 27 = .ok (.iload 4, 2) := by decide +kernel
theorem dX1_addSlip_29 : decode cX1_addSlip 29 = .ok (.bipush 99, 2) := by decide +kernel
theorem dX1_addSlip_31 : decode cX1_addSlip 31 = .ok (.aload_n 0, 1) := by decide +kernel
theorem dX1_addSlip_32 : decode cX1_addSlip 32 = .ok (.getfield 9, 3) := by decide +kernel
theorem dX1_addSlip_35 : decode cX1_addSlip 35 = .ok (.iload 4, 2) := by decide +kernel
theorem dX1_addSlip_37 : decode cX1_addSlip 37 = .ok (.iaload, 1) := by decide +kernel
theorem dX1_addSlip_38 : decode cX1_addSlip 38 = .ok (.iload_n 3, 1) := by decide +kernel
theorem dX1_addSlip_39 : decode cX1_addSlip 39 = .ok (.iadd, 1) := by decide +kernel
theorem dX1_addSlip_40 : decode cX1_addSlip 40 = .ok (.invokestatic 38, 3) := by decide +kernel
theorem dX1_addSlip_43 : decode cX1_addSlip 43 = .ok (.iastore, 1) := by decide +kernel
theorem dX1_addSlip_44 : decode cX1_addSlip 44 = .ok (.iinc 4 1, 3) := by decide +kernel
theorem dX1_addSlip_47 : decode cX1_addSlip 47 = .ok (.goto (-40), 3) := by decide +kernel
theorem dX1_addSlip_50 : decode cX1_addSlip 50 = .ok (.return_, 1) := by decide +kernel
theorem dX1_coat_0 : decode cX1_coat 0 = .ok (.iconst 0, 1) := by decide +kernel
theorem dX1_coat_1 : decode cX1_coat 1 = .ok (.istore_n 2, 1) := by decide +kernel
theorem dX1_coat_2 : decode cX1_coat 2 = .ok (.iload_n 2, 1) := by decide +kernel
theorem dX1_coat_3 : decode cX1_coat 3 = .ok (.aload_n 0, 1) := by decide +kernel
theorem dX1_coat_4 : decode cX1_coat 4 = .ok (.getfield 9, 3) := by decide +kernel
theorem dX1_coat_7 : decode cX1_coat 7 = .ok (.arraylength, 1) := by decide +kernel
theorem dX1_coat_8 : decode cX1_coat 8 = .ok (.if_icmp .ge 16, 3) := by decide +kernel
theorem dX1_coat_11 : decode cX1_coat 11 = .ok (.aload_n 0, 1) := by decide +kernel
theorem dX1_coat_12 : decode cX1_coat 12 = .ok (.getfield 9, 3) := by decide +kernel
theorem dX1_coat_15 : decode cX1_coat 15 = .ok (.iload_n 2, 1) := by decide +kernel
theorem dX1_coat_16 : decode cX1_coat 16 = .ok (.iload_n 1, 1) := by decide +kernel
theorem dX1_coat_17 : decode cX1_coat 17 = .ok (.iastore, 1) := by decide +kernel
theorem dX1_coat_18 : decode cX1_coat 18 = .ok (.iinc 2 1, 3) := by decide +kernel
theorem dX1_coat_21 : decode cX1_coat 21 = .ok (.goto (-19), 3) := by decide +kernel
theorem dX1_coat_24 : decode cX1_coat 24 = .ok (.return_, 1) := by decide +kernel
theorem dX1_reach_0 : decode cX1_reach 0 = .ok (.aload_n 1, 1) := by decide +kernel
theorem dX1_reach_1 : decode cX1_reach 1 = .ok (.iload_n 2, 1) := by decide +kernel
theorem dX1_reach_2 : decode cX1_reach 2 = .ok (.invokevirtual 41, 3) := by decide +kernel
theorem dX1_reach_5 : decode cX1_reach 5 = .ok (.istore 5, 2) := by decide +kernel
theorem dX1_reach_7 : decode cX1_reach 7 = .ok (.aload_n 1, 1) := by decide +kernel
theorem dX1_reach_8 : decode cX1_reach 8 = .ok (.iload_n 2, 1) := by decide +kernel
theorem dX1_reach_9 : decode cX1_reach 9 = .ok (.invokevirtual 45, 3) := by decide +kernel
theorem dX1_reach_12 : decode cX1_reach 12 = .ok (.istore 6, 2) := by decide +kernel
theorem dX1_reach_14 : decode cX1_reach 14 = .ok (.iload_n 3, 1) := by decide +kernel
theorem dX1_reach_15 : decode cX1_reach 15 = .ok (.iconst 0, 1) := by decide +kernel
theorem dX1_reach_16 : decode cX1_reach 16 = .ok (.invokestatic 32, 3) := by decide +kernel
theorem dX1_reach_19 : decode cX1_reach 19 = .ok (.istore 7, 2) := by decide +kernel
theorem dX1_reach_21 : decode cX1_reach 21 = .ok (.iload 7, 2) := by decide +kernel
theorem dX1_reach_23 : decode cX1_reach 23 = .ok (.aload_n 1, 1) := by decide +kernel
theorem dX1_reach_24 : decode cX1_reach 24 = .ok (.getfield 48, 3) := by decide +kernel
theorem dX1_reach_27 : decode cX1_reach 27 = .ok (.if_icmp .ge 67, 3) := by decide +kernel
theorem dX1_reach_30 : decode cX1_reach 30 = .ok (.iload 7, 2) := by decide +kernel
theorem dX1_reach_32 : decode cX1_reach 32 = .ok (.aload_n 0, 1) := by decide +kernel
theorem dX1_reach_33 : decode cX1_reach 33 = .ok (.getfield 9, 3) := by decide +kernel
theorem dX1_reach_36 : decode cX1_reach 36 = .ok (.arraylength, 1) := by decide +kernel
theorem dX1_reach_37 : decode cX1_reach 37 = .ok (.if_icmp .ge 57, 3) := by decide +kernel
theorem dX1_reach_40 : decode cX1_reach 40 = .ok (.aload_n 0, 1) := by decide +kernel
theorem dX1_reach_41 : decode cX1_reach 41 = .ok (.getfield 9, 3) := by decide +kernel
theorem dX1_reach_44 : decode cX1_reach 44 = .ok (.iload 7, 2) := by decide +kernel
theorem dX1_reach_46 : decode cX1_reach 46 = .ok (.iaload, 1) := by decide +kernel
theorem dX1_reach_47 : decode cX1_reach 47 = .ok (.iload 5, 2) := by decide +kernel
theorem dX1_reach_49 : decode cX1_reach 49 = .ok (.imul, 1) := by decide +kernel
theorem dX1_reach_50 : decode cX1_reach 50 = .ok (.bipush 50, 2) := by decide +kernel
theorem dX1_reach_52 : decode cX1_reach 52 = .ok (.idiv, 1) := by decide +kernel
theorem dX1_reach_53 : decode cX1_reach 53 = .ok (.iconst 1, 1) := by decide +kernel
theorem dX1_reach_54 : decode cX1_reach 54 = .ok (.iadd, 1) := by decide +kernel
theorem dX1_reach_55 : decode cX1_reach 55 = .ok (.istore 8, 2) := by decide +kernel
theorem dX1_reach_57 : decode cX1_reach 57 = .ok (.iload 6, 2) := by decide +kernel
theorem dX1_reach_59 : decode cX1_reach 59 = .ok (.iload 4, 2) := by decide +kernel
theorem dX1_reach_61 : decode cX1_reach 61 = .ok (.ifCond .eq 14, 3) := by decide +kernel
theorem dX1_reach_64 : decode cX1_reach 64 = .ok (.iconst 1, 1) := by decide +kernel
theorem dX1_reach_65 : decode cX1_reach 65 = .ok (.iload 8, 2) := by decide +kernel
theorem dX1_reach_67 : decode cX1_reach 67 = .ok (.iconst 2, 1) := by decide +kernel
theorem dX1_reach_68 : decode cX1_reach 68 = .ok (.idiv, 1) := by decide +kernel
theorem dX1_reach_69 : decode cX1_reach 69 = .ok (.invokestatic 32, 3) := by decide +kernel
theorem dX1_reach_72 : decode cX1_reach 72 = .ok (.goto 5, 3) := by decide +kernel
theorem dX1_reach_75 : decode cX1_reach 75 = .ok (.iload 8, 2) := by decide +kernel
theorem dX1_reach_77 : decode cX1_reach 77 = .ok (.isub, 1) := by decide +kernel
theorem dX1_reach_78 : decode cX1_reach 78 = .ok (.istore 6, 2) := by decide +kernel
theorem dX1_reach_80 : decode cX1_reach 80 = .ok (.iload 6, 2) := by decide +kernel
theorem dX1_reach_82 : decode cX1_reach 82 = .ok (.ifCond .ge 6, 3) := by decide +kernel
theorem dX1_reach_85 : decode cX1_reach 85 = .ok (.iload 7, 2) := by decide +kernel
theorem dX1_reach_87 : decode cX1_reach 87 = .ok (.ireturn, 1) := by decide +kernel
theorem dX1_reach_88 : decode cX1_reach 88 = .ok (.iinc 7 1, 3) := by decide +kernel
theorem dX1_reach_91 : decode cX1_reach 91 = .ok (.goto (-70), 3) := by decide +kernel
theorem dX1_reach_94 : decode cX1_reach 94 = .ok (.aload_n 1, 1) := by decide +kernel
theorem dX1_reach_95 : decode cX1_reach 95 = .ok (.getfield 48, 3) := by decide +kernel
theorem dX1_reach_98 : decode cX1_reach 98 = .ok (.ireturn, 1) := by decide +kernel
theorem dX1_mayReach_0 : decode cX1_mayReach 0 = .ok (.aload_n 1, 1) := by decide +kernel
theorem dX1_mayReach_1 : decode cX1_mayReach 1 = .ok (.iload_n 2, 1) := by decide +kernel
theorem dX1_mayReach_2 : decode cX1_mayReach 2 = .ok (.invokevirtual 41, 3) := by decide +kernel
theorem dX1_mayReach_5 : decode cX1_mayReach 5 = .ok (.istore 4, 2) := by decide +kernel
theorem dX1_mayReach_7 : decode cX1_mayReach 7 = .ok (.aload_n 1, 1) := by decide +kernel
theorem dX1_mayReach_8 : decode cX1_mayReach 8 = .ok (.iload_n 2, 1) := by decide +kernel
theorem dX1_mayReach_9 : decode cX1_mayReach 9 = .ok (.invokevirtual 45, 3) := by decide +kernel
theorem dX1_mayReach_12 : decode cX1_mayReach 12 = .ok (.aload_n 1, 1) := by decide +kernel
theorem dX1_mayReach_13 : decode cX1_mayReach 13 = .ok (.getfield 48, 3) := by decide +kernel
theorem dX1_mayReach_16 : decode cX1_mayReach 16 = .ok (.isub, 1) := by decide +kernel
theorem dX1_mayReach_17 : decode cX1_mayReach 17 = .ok (.istore 5, 2) := by decide +kernel
theorem dX1_mayReach_19 : decode cX1_mayReach 19 = .ok (.iconst 0, 1) := by decide +kernel
theorem dX1_mayReach_20 : decode cX1_mayReach 20 = .ok (.istore 6, 2) := by decide +kernel
theorem dX1_mayReach_22 : decode cX1_mayReach 22 = .ok (.iload 6, 2) := by decide +kernel
theorem dX1_mayReach_24 : decode cX1_mayReach 24 = .ok (.aload_n 1, 1) := by decide +kernel
theorem dX1_mayReach_25 : decode cX1_mayReach 25 = .ok (.getfield 48, 3) := by decide +kernel
theorem dX1_mayReach_28 : decode cX1_mayReach 28 = .ok (.if_icmp .ge 48, 3) := by decide +kernel
theorem dX1_mayReach_31 : decode cX1_mayReach 31 = .ok (.iload 6, 2) := by decide +kernel
theorem dX1_mayReach_33 : decode cX1_mayReach 33 = .ok (.aload_n 0, 1) := by decide +kernel
theorem dX1_mayReach_34 : decode cX1_mayReach 34 = .ok (.getfield 9, 3) := by decide +kernel
theorem dX1_mayReach_37 : decode cX1_mayReach 37 = .ok (.arraylength, 1) := by decide +kernel
theorem dX1_mayReach_38 : decode cX1_mayReach 38 = .ok (.if_icmp .ge 38, 3) := by decide +kernel
theorem dX1_mayReach_41 : decode cX1_mayReach 41 = .ok (.iload 5, 2) := by decide +kernel
theorem dX1_mayReach_43 : decode cX1_mayReach 43 = .ok (.ifCond .lt 33, 3) := by decide +kernel
theorem dX1_mayReach_46 : decode cX1_mayReach 46 = .ok (.iload 5, 2) := by decide +kernel
theorem dX1_mayReach_48 : decode cX1_mayReach 48 = .ok (.iconst 0, 1) := by decide +kernel
theorem dX1_mayReach_49 : decode cX1_mayReach 49 = .ok (.aload_n 0, 1) := by decide +kernel
theorem dX1_mayReach_50 : decode cX1_mayReach 50 = .ok (.getfield 9, 3) := by decide +kernel
theorem dX1_mayReach_53 : decode cX1_mayReach 53 = .ok (.iload 6, 2) := by decide +kernel
theorem dX1_mayReach_55 : decode cX1_mayReach 55 = .ok (.iaload, 1) := by decide +kernel
theorem dX1_mayReach_56 : decode cX1_mayReach 56 = .ok (.iload_n 3, 1) := by decide +kernel
theorem dX1_mayReach_57 : decode cX1_mayReach 57 = .ok (.isub, 1) := by decide +kernel
theorem dX1_mayReach_58 : decode cX1_mayReach 58 = .ok (.invokestatic 32, 3) := by decide +kernel
theorem dX1_mayReach_61 : decode cX1_mayReach 61 = .ok (.iload 4, 2) := by decide +kernel
theorem dX1_mayReach_63 : decode cX1_mayReach 63 = .ok (.imul, 1) := by decide +kernel
theorem dX1_mayReach_64 : decode cX1_mayReach 64 = .ok (.bipush 50, 2) := by decide +kernel
theorem dX1_mayReach_66 : decode cX1_mayReach 66 = .ok (.idiv, 1) := by decide +kernel
theorem dX1_mayReach_67 : decode cX1_mayReach 67 = .ok (.isub, 1) := by decide +kernel
theorem dX1_mayReach_68 : decode cX1_mayReach 68 = .ok (.istore 5, 2) := by decide +kernel
theorem dX1_mayReach_70 : decode cX1_mayReach 70 = .ok (.iinc 6 1, 3) := by decide +kernel
theorem dX1_mayReach_73 : decode cX1_mayReach 73 = .ok (.goto (-51), 3) := by decide +kernel
theorem dX1_mayReach_76 : decode cX1_mayReach 76 = .ok (.iload 5, 2) := by decide +kernel
theorem dX1_mayReach_78 : decode cX1_mayReach 78 = .ok (.ifCond .lt 7, 3) := by decide +kernel
theorem dX1_mayReach_81 : decode cX1_mayReach 81 = .ok (.iconst 1, 1) := by decide +kernel
theorem dX1_mayReach_82 : decode cX1_mayReach 82 = .ok (.goto 4, 3) := by decide +kernel
theorem dX1_mayReach_85 : decode cX1_mayReach 85 = .ok (.iconst 0, 1) := by decide +kernel
theorem dX1_mayReach_86 : decode cX1_mayReach 86 = .ok (.ireturn, 1) := by decide +kernel
theorem dX1_climb_0 : decode cX1_climb 0 = .ok (.aload_n 0, 1) := by decide +kernel
theorem dX1_climb_1 : decode cX1_climb 1 = .ok (.aload_n 1, 1) := by decide +kernel
theorem dX1_climb_2 : decode cX1_climb 2 = .ok (.iload_n 2, 1) := by decide +kernel
theorem dX1_climb_3 : decode cX1_climb 3 = .ok (.iconst 0, 1) := by decide +kernel
theorem dX1_climb_4 : decode cX1_climb 4 = .ok (.iload_n 3, 1) := by decide +kernel
theorem dX1_climb_5 : decode cX1_climb 5 = .ok (.invokevirtual 51, 3) := by decide +kernel
theorem dX1_climb_8 : decode cX1_climb 8 = .ok (.istore 4, 2) := by decide +kernel
theorem dX1_climb_10 : decode cX1_climb 10 = .ok (.aload_n 0, 1) := by decide +kernel
theorem dX1_climb_11 : decode cX1_climb 11 = .ok (.iload 4, 2) := by decide +kernel
theorem dX1_climb_13 : decode cX1_climb 13 = .ok (.aload_n 1, 1) := by decide +kernel
theorem dX1_climb_14 : decode cX1_climb 14 = .ok (.iload_n 2, 1) := by decide +kernel
theorem dX1_climb_15 : decode cX1_climb 15 = .ok (.invokevirtual 55, 3) := by decide +kernel
theorem dX1_climb_18 : decode cX1_climb 18 = .ok (.invokevirtual 58, 3) := by decide +kernel
theorem dX1_climb_21 : decode cX1_climb 21 = .ok (.istore 5, 2) := by decide +kernel
theorem dX1_climb_23 : decode cX1_climb 23 = .ok (.iload 4, 2) := by decide +kernel
theorem dX1_climb_25 : decode cX1_climb 25 = .ok (.aload_n 1, 1) := by decide +kernel
theorem dX1_climb_26 : decode cX1_climb 26 = .ok (.getfield 48, 3) := by decide +kernel
theorem dX1_climb_29 : decode cX1_climb 29 = .ok (.if_icmp .ne 16, 3) := by decide +kernel
theorem dX1_climb_32 : decode cX1_climb 32 = .ok (.aload_n 0, 1) := by decide +kernel
theorem dX1_climb_33 : decode cX1_climb 33 = .ok (.getfield 15, 3) := by decide +kernel
theorem dX1_climb_36 : decode cX1_climb 36 = .ok (.iconst (-1), 1) := by decide +kernel
theorem dX1_climb_37 : decode cX1_climb 37 = .ok (.if_icmp .ne 8, 3) := by decide +kernel
theorem dX1_climb_40 : decode cX1_climb 40 = .ok (.aload_n 0, 1) := by decide +kernel
theorem dX1_climb_41 : decode cX1_climb 41 = .ok (.iload_n 2, 1) := by decide +kernel
theorem dX1_climb_42 : decode cX1_climb 42 = .ok (.putfield 15, 3) := by decide +kernel
theorem dX1_climb_45 : decode cX1_climb 45 = .ok (.aload_n 0, 1) := by decide +kernel
theorem dX1_climb_46 : decode cX1_climb 46 = .ok (.iload 4, 2) := by decide +kernel
theorem dX1_climb_48 : decode cX1_climb 48 = .ok (.iload 5, 2) := by decide +kernel
theorem dX1_climb_50 : decode cX1_climb 50 = .ok (.iconst 4, 1) := by decide +kernel
theorem dX1_climb_51 : decode cX1_climb 51 = .ok (.idiv, 1) := by decide +kernel
theorem dX1_climb_52 : decode cX1_climb 52 = .ok (.invokevirtual 61, 3) := by decide +kernel
theorem dX1_climb_55 : decode cX1_climb 55 = .ok (.aload_n 0, 1) := by decide +kernel
theorem dX1_climb_56 : decode cX1_climb 56 = .ok (.dup, 1) := by decide +kernel
theorem dX1_climb_57 : decode cX1_climb 57 = .ok (.getfield 19, 3) := by decide +kernel
theorem dX1_climb_60 : decode cX1_climb 60 = .ok (.iconst 1, 1) := by decide +kernel
theorem dX1_climb_61 : decode cX1_climb 61 = .ok (.iadd, 1) := by decide +kernel
theorem dX1_climb_62 : decode cX1_climb 62 = .ok (.putfield 19, 3) := by decide +kernel
theorem dX1_climb_65 : decode cX1_climb 65 = .ok (.aload_n 1, 1) := by decide +kernel
theorem dX1_climb_66 : decode cX1_climb 66 = .ok (.getfield 65, 3) := by decide +kernel
theorem dX1_climb_69 : decode cX1_climb 69 = .ok (.ifCond .le 30, 3) := by decide +kernel
theorem dX1_climb_72 : decode cX1_climb 72 = .ok (.aload_n 0, 1) := by decide +kernel
theorem dX1_climb_73 : decode cX1_climb 73 = .ok (.getfield 19, 3) := by decide +kernel
theorem dX1_climb_76 : decode cX1_climb 76 = .ok (.aload_n 1, 1) := by decide +kernel
theorem dX1_climb_77 : decode cX1_climb 77 = .ok (.getfield 65, 3) := by decide +kernel
theorem dX1_climb_80 : decode cX1_climb 80 = .ok (.irem, 1) := by decide +kernel
theorem dX1_climb_81 : decode cX1_climb 81 = .ok (.ifCond .ne 18, 3) := by decide +kernel
theorem dX1_climb_84 : decode cX1_climb 84 = .ok (.aload_n 0, 1) := by decide +kernel
theorem dX1_climb_85 : decode cX1_climb 85 = .ok (.iconst 0, 1) := by decide +kernel
theorem dX1_climb_86 : decode cX1_climb 86 = .ok (.aload_n 1, 1) := by decide +kernel
theorem dX1_climb_87 : decode cX1_climb 87 = .ok (.getfield 48, 3) := by decide +kernel
theorem dX1_climb_90 : decode cX1_climb 90 = .ok (.iconst 1, 1) := by decide +kernel
theorem dX1_climb_91 : decode cX1_climb 91 = .ok (.isub, 1) := by decide +kernel
theorem dX1_climb_92 : decode cX1_climb 92 = .ok (.aload_n 1, 1) := by decide +kernel
theorem dX1_climb_93 : decode cX1_climb 93 = .ok (.getfield 68, 3) := by decide +kernel
theorem dX1_climb_96 : decode cX1_climb 96 = .ok (.invokevirtual 71, 3) := by decide +kernel
theorem dX1_climb_99 : decode cX1_climb 99 = .ok (.iload 4, 2) := by decide +kernel
theorem dX1_climb_101 : decode cX1_climb 101 = .ok (.ireturn, 1) := by decide +kernel
theorem dX1_rub_0 : decode cX1_rub 0 = .ok (.iconst 0, 1) := by decide +kernel
theorem dX1_rub_1 : decode cX1_rub 1 = .ok (.istore_n 3, 1) := by decide +kernel
theorem dX1_rub_2 : decode cX1_rub 2 = .ok (.iconst 0, 1) := by decide +kernel
theorem dX1_rub_3 : decode cX1_rub 3 = .ok (.istore 4, 2) := by decide +kernel
theorem dX1_rub_5 : decode cX1_rub 5 = .ok (.iload 4, 2) := by decide +kernel
theorem dX1_rub_7 : decode cX1_rub 7 = .ok (.iload_n 1, 1) := by decide +kernel
theorem dX1_rub_8 : decode cX1_rub 8 = .ok (.if_icmp .ge 49, 3) := by decide +kernel
theorem dX1_rub_11 : decode cX1_rub 11 = .ok (.iload 4, 2) := by decide +kernel
theorem dX1_rub_13 : decode cX1_rub 13 = .ok (.aload_n 0, 1) := by decide +kernel
theorem dX1_rub_14 : decode cX1_rub 14 = .ok (.getfield 9, 3) := by decide +kernel
theorem dX1_rub_17 : decode cX1_rub 17 = .ok (.arraylength, 1) := by decide +kernel
theorem dX1_rub_18 : decode cX1_rub 18 = .ok (.if_icmp .ge 39, 3) := by decide +kernel
theorem dX1_rub_21 : decode cX1_rub 21 = .ok (.iload_n 2, 1) := by decide +kernel
theorem dX1_rub_22 : decode cX1_rub 22 = .ok (.aload_n 0, 1) := by decide +kernel
theorem dX1_rub_23 : decode cX1_rub 23 = .ok (.getfield 9, 3) := by decide +kernel
theorem dX1_rub_26 : decode cX1_rub 26 = .ok (.iload 4, 2) := by decide +kernel
theorem dX1_rub_28 : decode cX1_rub 28 = .ok (.iaload, 1) := by decide +kernel
theorem dX1_rub_29 : decode cX1_rub 29 = .ok (.invokestatic 38, 3) := by decide +kernel
theorem dX1_rub_32 : decode cX1_rub 32 = .ok (.istore 5, 2) := by decide +kernel
theorem dX1_rub_34 : decode cX1_rub 34 = .ok (.aload_n 0, 1) := by decide +kernel
theorem dX1_rub_35 : decode cX1_rub 35 = .ok (.getfield 9, 3) := by decide +kernel
theorem dX1_rub_38 : decode cX1_rub 38 = .ok (.iload 4, 2) := by decide +kernel
theorem dX1_rub_40 : decode cX1_rub 40 = .ok (.dup2, 1) := by decide +kernel
theorem dX1_rub_41 : decode cX1_rub 41 = .ok (.iaload, 1) := by decide +kernel
theorem dX1_rub_42 : decode cX1_rub 42 = .ok (.iload 5, 2) := by decide +kernel
theorem dX1_rub_44 : decode cX1_rub 44 = .ok (.isub, 1) := by decide +kernel
theorem dX1_rub_45 : decode cX1_rub 45 = .ok (.iastore, 1) := by decide +kernel
theorem dX1_rub_46 : decode cX1_rub 46 = .ok (.iload_n 3, 1) := by decide +kernel
theorem dX1_rub_47 : decode cX1_rub 47 = .ok (.iload 5, 2) := by decide +kernel
theorem dX1_rub_49 : decode cX1_rub 49 = .ok (.iadd, 1) := by decide +kernel
theorem dX1_rub_50 : decode cX1_rub 50 = .ok (.istore_n 3, 1) := by decide +kernel
theorem dX1_rub_51 : decode cX1_rub 51 = .ok (.iinc 4 1, 3) := by decide +kernel
theorem dX1_rub_54 : decode cX1_rub 54 = .ok (.goto (-49), 3) := by decide +kernel
theorem dX1_rub_57 : decode cX1_rub 57 = .ok (.iload_n 3, 1) := by decide +kernel
theorem dX1_rub_58 : decode cX1_rub 58 = .ok (.ireturn, 1) := by decide +kernel
theorem dX1_smear_0 : decode cX1_smear 0 = .ok (.iload_n 1, 1) := by decide +kernel
theorem dX1_smear_1 : decode cX1_smear 1 = .ok (.ifCond .gt 4, 3) := by decide +kernel
theorem dX1_smear_4 : decode cX1_smear 4 = .ok (.return_, 1) := by decide +kernel
theorem dX1_smear_5 : decode cX1_smear 5 = .ok (.iload_n 2, 1) := by decide +kernel
theorem dX1_smear_6 : decode cX1_smear 6 = .ok (.iload_n 1, 1) := by decide +kernel
theorem dX1_smear_7 : decode cX1_smear 7 = .ok (.idiv, 1) := by decide +kernel
theorem dX1_smear_8 : decode cX1_smear 8 = .ok (.istore_n 3, 1) := by decide +kernel
theorem dX1_smear_9 : decode cX1_smear 9 = .ok (.iload_n 2, 1) := by decide +kernel
theorem dX1_smear_10 : decode cX1_smear 10 = .ok (.iload_n 1, 1) := by decide +kernel
theorem dX1_smear_11 : decode cX1_smear 11 = .ok (.irem, 1) := by decide +kernel
theorem dX1_smear_12 : decode cX1_smear 12 = .ok (.istore 4, 2) := by decide +kernel
theorem dX1_smear_14 : decode cX1_smear 14 = .ok (.iconst 0, 1) := by decide +kernel
theorem dX1_smear_15 : decode cX1_smear 15 = .ok (.istore 5, 2) := by decide +kernel
theorem dX1_smear_17 : decode cX1_smear 17 = .ok (.iload 5, 2) := by decide +kernel
theorem dX1_smear_19 : decode cX1_smear 19 = .ok (.iload_n 1, 1) := by decide +kernel
theorem dX1_smear_20 : decode cX1_smear 20 = .ok (.if_icmp .ge 57, 3) := by decide +kernel
theorem dX1_smear_23 : decode cX1_smear 23 = .ok (.iload 5, 2) := by decide +kernel
theorem dX1_smear_25 : decode cX1_smear 25 = .ok (.aload_n 0, 1) := by decide +kernel
theorem dX1_smear_26 : decode cX1_smear 26 = .ok (.getfield 9, 3) := by decide +kernel
theorem dX1_smear_29 : decode cX1_smear 29 = .ok (.arraylength, 1) := by decide +kernel
theorem dX1_smear_30 : decode cX1_smear 30 = .ok (.if_icmp .ge 47, 3) := by decide +kernel
theorem dX1_smear_33 : decode cX1_smear 33 = .ok (.iload 5, 2) := by decide +kernel
theorem dX1_smear_35 : decode cX1_smear 35 = .ok (.iload 4, 2) := by decide +kernel
theorem dX1_smear_37 : decode cX1_smear 37 = .ok (.if_icmp .ge 9, 3) := by decide +kernel
theorem dX1_smear_40 : decode cX1_smear 40 = .ok (.iload_n 3, 1) := by decide +kernel
theorem dX1_smear_41 : decode cX1_smear 41 = .ok (.iconst 1, 1) := by decide +kernel
theorem dX1_smear_42 : decode cX1_smear 42 = .ok (.iadd, 1) := by decide +kernel
theorem dX1_smear_43 : decode cX1_smear 43 = .ok (.goto 4, 3) := by decide +kernel
theorem dX1_smear_46 : decode cX1_smear 46 = .ok (.iload_n 3, 1) := by decide +kernel
theorem dX1_smear_47 : decode cX1_smear 47 = .ok (.istore 6, 2) := by decide +kernel
theorem dX1_smear_49 : decode cX1_smear 49 = .ok (.aload_n 0, 1) := by decide +kernel
theorem dX1_smear_50 : decode cX1_smear 50 = .ok (.getfield 9, 3) := by decide +kernel
theorem dX1_smear_53 : decode cX1_smear 53 = .ok (.iload 5, 2) := by decide +kernel
theorem dX1_smear_55 : decode cX1_smear 55 = .ok (.bipush 99, 2) := by decide +kernel
theorem dX1_smear_57 : decode cX1_smear 57 = .ok (.aload_n 0, 1) := by decide +kernel
theorem dX1_smear_58 : decode cX1_smear 58 = .ok (.getfield 9, 3) := by decide +kernel
theorem dX1_smear_61 : decode cX1_smear 61 = .ok (.iload 5, 2) := by decide +kernel
theorem dX1_smear_63 : decode cX1_smear 63 = .ok (.iaload, 1) := by decide +kernel
theorem dX1_smear_64 : decode cX1_smear 64 = .ok (.iload 6, 2) := by decide +kernel
theorem dX1_smear_66 : decode cX1_smear 66 = .ok (.iadd, 1) := by decide +kernel
theorem dX1_smear_67 : decode cX1_smear 67 = .ok (.invokestatic 38, 3) := by decide +kernel
theorem dX1_smear_70 : decode cX1_smear 70 = .ok (.iastore, 1) := by decide +kernel
theorem dX1_smear_71 : decode cX1_smear 71 = .ok (.iinc 5 1, 3) := by decide +kernel
theorem dX1_smear_74 : decode cX1_smear 74 = .ok (.goto (-57), 3) := by decide +kernel
theorem dX1_smear_77 : decode cX1_smear 77 = .ok (.return_, 1) := by decide +kernel
theorem dX1_draw_0 : decode cX1_draw 0 = .ok (.aload_n 0, 1) := by decide +kernel
theorem dX1_draw_1 : decode cX1_draw 1 = .ok (.aload_n 0, 1) := by decide +kernel
theorem dX1_draw_2 : decode cX1_draw 2 = .ok (.getfield 22, 3) := by decide +kernel
theorem dX1_draw_5 : decode cX1_draw 5 = .ok (.ldc 75, 2) := by decide +kernel
theorem dX1_draw_7 : decode cX1_draw 7 = .ok (.imul, 1) := by decide +kernel
theorem dX1_draw_8 : decode cX1_draw 8 = .ok (.sipush 12345, 3) := by decide +kernel
theorem dX1_draw_11 : decode cX1_draw 11 = .ok (.iadd, 1) := by decide +kernel
theorem dX1_draw_12 : decode cX1_draw 12 = .ok (.ldc 76, 2) := by decide +kernel
theorem dX1_draw_14 : decode cX1_draw 14 = .ok (.iand, 1) := by decide +kernel
theorem dX1_draw_15 : decode cX1_draw 15 = .ok (.putfield 22, 3) := by decide +kernel
theorem dX1_draw_18 : decode cX1_draw 18 = .ok (.iload_n 1, 1) := by decide +kernel
theorem dX1_draw_19 : decode cX1_draw 19 = .ok (.ifCond .le 15, 3) := by decide +kernel
theorem dX1_draw_22 : decode cX1_draw 22 = .ok (.aload_n 0, 1) := by decide +kernel
theorem dX1_draw_23 : decode cX1_draw 23 = .ok (.getfield 22, 3) := by decide +kernel
theorem dX1_draw_26 : decode cX1_draw 26 = .ok (.ldc 77, 2) := by decide +kernel
theorem dX1_draw_28 : decode cX1_draw 28 = .ok (.idiv, 1) := by decide +kernel
theorem dX1_draw_29 : decode cX1_draw 29 = .ok (.iload_n 1, 1) := by decide +kernel
theorem dX1_draw_30 : decode cX1_draw 30 = .ok (.irem, 1) := by decide +kernel
theorem dX1_draw_31 : decode cX1_draw 31 = .ok (.goto 4, 3) := by decide +kernel
theorem dX1_draw_34 : decode cX1_draw 34 = .ok (.iconst 0, 1) := by decide +kernel
theorem dX1_draw_35 : decode cX1_draw 35 = .ok (.ireturn, 1) := by decide +kernel
theorem dX2_init_0 : decode cX2_init 0 = .ok (.aload_n 0, 1) := by decide +kernel
theorem dX2_init_1 : decode cX2_init 1 = .ok (.invokespecial 3, 3) := by decide +kernel
theorem dX2_init_4 : decode cX2_init 4 = .ok (.aload_n 0, 1) := by decide +kernel
theorem dX2_init_5 : decode cX2_init 5 = .ok (.sipush 400, 3) := by decide +kernel
theorem dX2_init_8 : decode cX2_init 8 = .ok (.newarray .byte, 2) := by decide +kernel
theorem dX2_init_10 : decode cX2_init 10 = .ok (.putfield 9, 3) := by decide +kernel
theorem dX2_init_13 : decode cX2_init 13 = .ok (.aload_n 0, 1) := by decide +kernel
theorem dX2_init_14 : decode cX2_init 14 = .ok (.bipush 30, 2) := by decide +kernel
theorem dX2_init_16 : decode cX2_init 16 = .ok (.newarray .boolean, 2) := by decide +kernel
theorem dX2_init_18 : decode cX2_init 18 = .ok (.putfield 15, 3) := by decide +kernel
theorem dX2_init_21 : decode cX2_init 21 = .ok (.aload_n 0, 1) := by decide +kernel
theorem dX2_init_22 : decode cX2_init 22 = .ok (.iconst 3, 1) := by decide +kernel
theorem dX2_init_23 : decode cX2_init 23 = .ok (.newarray .int, 2) := by decide +kernel
theorem dX2_init_25 : decode cX2_init 25 = .ok (.putfield 19, 3) := by decide +kernel
theorem dX2_init_28 : decode cX2_init 28 = .ok (.aload_n 0, 1) := by decide +kernel
theorem dX2_init_29 : decode cX2_init 29 = .ok (.iconst (-1), 1) := by decide +kernel
theorem dX2_init_30 : decode cX2_init 30 = .ok (.putfield 23, 3) := by decide +kernel
theorem dX2_init_33 : decode cX2_init 33 = .ok (.return_, 1) := by decide +kernel
theorem dX2_room_0 : decode cX2_room 0 = .ok (.aload_n 0, 1) := by decide +kernel
theorem dX2_room_1 : decode cX2_room 1 = .ok (.getfield 9, 3) := by decide +kernel
theorem dX2_room_4 : decode cX2_room 4 = .ok (.arraylength, 1) := by decide +kernel
theorem dX2_room_5 : decode cX2_room 5 = .ok (.aload_n 0, 1) := by decide +kernel
theorem dX2_room_6 : decode cX2_room 6 = .ok (.getfield 27, 3) := by decide +kernel
theorem dX2_room_9 : decode cX2_room 9 = .ok (.isub, 1) := by decide +kernel
theorem dX2_room_10 : decode cX2_room 10 = .ok (.ireturn, 1) := by decide +kernel
theorem dX2_append_0 : decode cX2_append 0 = .ok (.iload_n 1, 1) := by decide +kernel
theorem dX2_append_1 : decode cX2_append 1 = .ok (.iconst 1, 1) := by decide +kernel
theorem dX2_append_2 : decode cX2_append 2 = .ok (.isub, 1) := by decide +kernel
theorem dX2_append_3 : decode cX2_append 3 = .ok (.istore 4, 2) := by decide +kernel
theorem dX2_append_5 : decode cX2_append 5 = .ok (.iload 4, 2) := by decide +kernel
theorem dX2_append_7 : decode cX2_append 7 = .ok (.ifCond .lt 49, 3) := by decide +kernel
theorem dX2_append_10 : decode cX2_append 10 = .ok (.aload_n 0, 1) := by decide +kernel
theorem dX2_append_11 : decode cX2_append 11 = .ok (.getfield 27, 3) := by decide +kernel
theorem dX2_append_14 : decode cX2_append 14 = .ok (.aload_n 0, 1) := by decide +kernel
theorem dX2_append_15 : decode cX2_append 15 = .ok (.getfield 9, 3) := by decide +kernel
theorem dX2_append_18 : decode cX2_append 18 = .ok (.arraylength, 1) := by decide +kernel
theorem dX2_append_19 : decode cX2_append 19 = .ok (.if_icmp .ge 37, 3) := by decide +kernel
theorem dX2_append_22 : decode cX2_append 22 = .ok (.aload_n 0, 1) := by decide +kernel
theorem dX2_append_23 : decode cX2_append 23 = .ok (.getfield 9, 3) := by decide +kernel
theorem dX2_append_26 : decode cX2_append 26 = .ok (.aload_n 0, 1) := by decide +kernel
theorem dX2_append_27 : decode cX2_append 27 = .ok (.getfield 27, 3) := by decide +kernel
theorem dX2_append_30 : decode cX2_append 30 = .ok (.lload_n 2, 1) := by decide +kernel
theorem dX2_append_31 : decode cX2_append 31 = .ok (.bipush 8, 2) := by decide +kernel
theorem dX2_append_33 : decode cX2_append 33 = .ok (.iload 4, 2) := by decide +kernel
theorem dX2_append_35 : decode cX2_append 35 = .ok (.imul, 1) := by decide +kernel
theorem dX2_append_36 : decode cX2_append 36 = .ok (.lshr, 1) := by decide +kernel
theorem dX2_append_37 : decode cX2_append 37 = .ok (.l2i, 1) := by decide +kernel
theorem dX2_append_38 : decode cX2_append 38 = .ok (.i2b, 1) := by decide +kernel
theorem dX2_append_39 : decode cX2_append 39 = .ok (.bastore, 1) := by decide +kernel
theorem dX2_append_40 : decode cX2_append 40 = .ok (.aload_n 0, 1) := by decide +kernel
theorem dX2_append_41 : decode cX2_append 41 = .ok (.dup, 1) := by decide +kernel
theorem dX2_append_42 : decode cX2_append 42 = .ok (.getfield 27, 3) := by decide +kernel
theorem dX2_append_45 : decode cX2_append 45 = .ok (.iconst 1, 1) := by decide +kernel
theorem dX2_append_46 : decode cX2_append 46 = .ok (.iadd, 1) := by decide +kernel
theorem dX2_append_47 : decode cX2_append 47 = .ok (.putfield 27, 3) := by decide +kernel
theorem dX2_append_50 : decode cX2_append 50 = .ok (.iinc 4 (-1), 3) := by decide +kernel
theorem dX2_append_53 : decode cX2_append 53 = .ok (.goto (-48), 3) := by decide +kernel
theorem dX2_append_56 : decode cX2_append 56 = .ok (.aload_n 0, 1) := by decide +kernel
theorem dX2_append_57 : decode cX2_append 57 = .ok (.getfield 27, 3) := by decide +kernel
theorem dX2_append_60 : decode cX2_append 60 = .ok (.ireturn, 1) := by decide +kernel
theorem dX2_empty_0 : decode cX2_empty 0 = .ok (.aload_n 0, 1) := by decide +kernel
theorem dX2_empty_1 : decode cX2_empty 1 = .ok (.iconst 0, 1) := by decide +kernel
theorem dX2_empty_2 : decode cX2_empty 2 = .ok (.putfield 27, 3) := by decide +kernel
theorem dX2_empty_5 : decode cX2_empty 5 = .ok (.return_, 1) := by decide +kernel
theorem dX2_read_0 : decode cX2_read 0 = .ok (.aload_n 0, 1) := by decide +kernel
theorem dX2_read_1 : decode cX2_read 1 = .ok (.invokevirtual 30, 3) := by decide +kernel
theorem dX2_read_4 : decode cX2_read 4 = .ok (.aload_n 1, 1) := by decide +kernel
theorem dX2_read_5 : decode cX2_read 5 = .ok (.invokevirtual 33, 3) := by decide +kernel
theorem dX2_read_8 : decode cX2_read 8 = .ok (.aload_n 0, 1) := by decide +kernel
theorem dX2_read_9 : decode cX2_read 9 = .ok (.invokevirtual 38, 3) := by decide +kernel
theorem dX2_read_12 : decode cX2_read 12 = .ok (.iconst 0, 1) := by decide +kernel
theorem dX2_read_13 : decode cX2_read 13 = .ok (.istore_n 2, 1) := by decide +kernel
theorem dX2_read_14 : decode cX2_read 14 = .ok (.iload_n 2, 1) := by decide +kernel
theorem dX2_read_15 : decode cX2_read 15 = .ok (.aload_n 0, 1) := by decide +kernel
theorem dX2_read_16 : decode cX2_read 16 = .ok (.getfield 9, 3) := by decide +kernel
theorem dX2_read_19 : decode cX2_read 19 = .ok (.arraylength, 1) := by decide +kernel
theorem dX2_read_20 : decode cX2_read 20 = .ok (.if_icmp .ge 36, 3) := by decide +kernel
theorem dX2_read_23 : decode cX2_read 23 = .ok (.aload_n 0, 1) := by decide +kernel
theorem dX2_read_24 : decode cX2_read 24 = .ok (.getfield 41, 3) := by decide +kernel
theorem dX2_read_27 : decode cX2_read 27 = .ok (.ifCond .ne 29, 3) := by decide +kernel
theorem dX2_read_30 : decode cX2_read 30 = .ok (.aload_n 0, 1) := by decide +kernel
theorem dX2_read_31 : decode cX2_read 31 = .ok (.getfield 44, 3) := by decide +kernel
theorem dX2_read_34 : decode cX2_read 34 = .ok (.aload_n 0, 1) := by decide +kernel
theorem dX2_read_35 : decode cX2_read 35 = .ok (.getfield 27, 3) := by decide +kernel
theorem dX2_read_38 : decode cX2_read 38 = .ok (.if_icmp .ge 18, 3) := by decide +kernel
theorem dX2_read_41 : decode cX2_read 41 = .ok (.aload_n 0, 1) := by decide +kernel
theorem dX2_read_42 : decode cX2_read 42 = .ok (.aload_n 1, 1) := by decide +kernel
theorem dX2_read_43 : decode cX2_read 43 = .ok (.invokevirtual 47, 3) := by decide +kernel
theorem dX2_read_46 : decode cX2_read 46 = .ok (.aload_n 0, 1) := by decide +kernel
theorem dX2_read_47 : decode cX2_read 47 = .ok (.invokevirtual 38, 3) := by decide +kernel
theorem dX2_read_50 : decode cX2_read 50 = .ok (.iinc 2 1, 3) := by decide +kernel
theorem dX2_read_53 : decode cX2_read 53 = .ok (.goto (-39), 3) := by decide +kernel
theorem dX2_read_56 : decode cX2_read 56 = .ok (.aload_n 0, 1) := by decide +kernel
theorem dX2_read_57 : decode cX2_read 57 = .ok (.getfield 41, 3) := by decide +kernel
theorem dX2_read_60 : decode cX2_read 60 = .ok (.ireturn, 1) := by decide +kernel
theorem dX2_start_0 : decode cX2_start 0 = .ok (.aload_n 0, 1) := by decide +kernel
theorem dX2_start_1 : decode cX2_start 1 = .ok (.iconst 0, 1) := by decide +kernel
theorem dX2_start_2 : decode cX2_start 2 = .ok (.putfield 44, 3) := by decide +kernel
theorem dX2_start_5 : decode cX2_start 5 = .ok (.aload_n 0, 1) := by decide +kernel
theorem dX2_start_6 : decode cX2_start 6 = .ok (.iconst 0, 1) := by decide +kernel
theorem dX2_start_7 : decode cX2_start 7 = .ok (.putfield 41, 3) := by decide +kernel
theorem dX2_start_10 : decode cX2_start 10 = .ok (.aload_n 0, 1) := by decide +kernel
theorem dX2_start_11 : decode cX2_start 11 = .ok (.iconst (-1), 1) := by decide +kernel
theorem dX2_start_12 : decode cX2_start 12 = .ok (.putfield 23, 3) := by decide +kernel
theorem dX2_start_15 : decode cX2_start 15 = .ok (.aload_n 0, 1) := by decide +kernel
theorem dX2_start_16 : decode cX2_start 16 = .ok (.iconst 0, 1) := by decide +kernel
theorem dX2_start_17 : decode cX2_start 17 = .ok (.putfield 51, 3) := by decide +kernel
theorem dX2_start_20 : decode cX2_start 20 = .ok (.aload_n 0, 1) := by decide +kernel
theorem dX2_start_21 : decode cX2_start 21 = .ok (.iconst 0, 1) := by decide +kernel
theorem dX2_start_22 : decode cX2_start 22 = .ok (.putfield 54, 3) := by decide +kernel
theorem dX2_start_25 : decode cX2_start 25 = .ok (.aload_n 0, 1) := by decide +kernel
theorem dX2_start_26 : decode cX2_start 26 = .ok (.iconst 0, 1) := by decide +kernel
theorem dX2_start_27 : decode cX2_start 27 = .ok (.putfield 58, 3) := by decide +kernel
theorem dX2_start_30 : decode cX2_start 30 = .ok (.aload_n 0, 1) := by decide +kernel
theorem dX2_start_31 : decode cX2_start 31 = .ok (.iconst 0, 1) := by decide +kernel
theorem dX2_start_32 : decode cX2_start 32 = .ok (.putfield 61, 3) := by decide +kernel
theorem dX2_start_35 : decode cX2_start 35 = .ok (.iconst 0, 1) := by decide +kernel
theorem dX2_start_36 : decode cX2_start 36 = .ok (.istore_n 1, 1) := by decide +kernel
theorem dX2_start_37 : decode cX2_start 37 = .ok (.iload_n 1, 1) := by decide +kernel
theorem dX2_start_38 : decode cX2_start 38 = .ok (.aload_n 0, 1) := by decide +kernel
theorem dX2_start_39 : decode cX2_start 39 = .ok (.getfield 15, 3) := by decide +kernel
theorem dX2_start_42 : decode cX2_start 42 = .ok (.arraylength, 1) := by decide +kernel
theorem dX2_start_43 : decode cX2_start 43 = .ok (.if_icmp .ge 16, 3) := by decide +kernel
theorem dX2_start_46 : decode cX2_start 46 = .ok (.aload_n 0, 1) := by decide +kernel
theorem dX2_start_47 : decode cX2_start 47 = .ok (.getfield 15, 3) := by decide +kernel
theorem dX2_start_50 : decode cX2_start 50 = .ok (.iload_n 1, 1) := by decide +kernel
theorem dX2_start_51 : decode cX2_start 51 = .ok (.iconst 0, 1) := by decide +kernel
theorem dX2_start_52 : decode cX2_start 52 = .ok (.bastore, 1) := by decide +kernel
theorem dX2_start_53 : decode cX2_start 53 = .ok (.iinc 1 1, 3) := by decide +kernel
theorem dX2_start_56 : decode cX2_start 56 = .ok (.goto (-19), 3) := by decide +kernel
theorem dX2_start_59 : decode cX2_start 59 = .ok (.return_, 1) := by decide +kernel
theorem dX2_fail_0 : decode cX2_fail 0 = .ok (.aload_n 0, 1) := by decide +kernel
theorem dX2_fail_1 : decode cX2_fail 1 = .ok (.getfield 41, 3) := by decide +kernel
theorem dX2_fail_4 : decode cX2_fail 4 = .ok (.ifCond .ne 13, 3) := by decide +kernel
theorem dX2_fail_7 : decode cX2_fail 7 = .ok (.aload_n 0, 1) := by decide +kernel
theorem dX2_fail_8 : decode cX2_fail 8 = .ok (.iload_n 1, 1) := by decide +kernel
theorem dX2_fail_9 : decode cX2_fail 9 = .ok (.putfield 41, 3) := by decide +kernel
theorem dX2_fail_12 : decode cX2_fail 12 = .ok (.aload_n 0, 1) := by decide +kernel
theorem dX2_fail_13 : decode cX2_fail 13 = .ok (.iload_n 2, 1) := by decide +kernel
theorem dX2_fail_14 : decode cX2_fail 14 = .ok (.putfield 23, 3) := by decide +kernel
theorem dX2_fail_17 : decode cX2_fail 17 = .ok (.return_, 1) := by decide +kernel
theorem dX2_readClause_0 : decode cX2_readClause 0 = .ok (.aload_n 0, 1) := by decide +kernel
theorem dX2_readClause_1 : decode cX2_readClause 1 = .ok (.getfield 44, 3) := by decide +kernel
theorem dX2_readClause_4 : decode cX2_readClause 4 = .ok (.istore_n 2, 1) := by decide +kernel
theorem dX2_readClause_5 : decode cX2_readClause 5 = .ok (.aload_n 0, 1) := by decide +kernel
theorem dX2_readClause_6 : decode cX2_readClause 6 = .ok (.invokevirtual 64, 3) := by decide +kernel
theorem dX2_readClause_9 : decode cX2_readClause 9 = .ok (.aload_n 0, 1) := by decide +kernel
theorem dX2_readClause_10 : decode cX2_readClause 10 = .ok (.iload_n 2, 1) := by decide +kernel
theorem dX2_readClause_11 : decode cX2_readClause 11 = .ok (.aload_n 0, 1) := by decide +kernel
theorem dX2_readClause_12 : decode cX2_readClause 12 = .ok (.getfield 44, 3) := by decide +kernel
theorem dX2_readClause_15 : decode cX2_readClause 15 = .ok (.invokevirtual 67, 3) := by decide +kernel
theorem dX2_readClause_18 : decode cX2_readClause 18 = .ok (.istore_n 3, 1) := by decide +kernel
theorem dX2_readClause_19 : decode cX2_readClause 19 = .ok (.iload_n 3, 1) := by decide +kernel
theorem dX2_readClause_20 : decode cX2_readClause 20 = .ok (.ifCond .eq 15, 3) := by decide +kernel
theorem dX2_readClause_23 : decode cX2_readClause 23 = .ok (.iload_n 3, 1) := by decide +kernel
theorem dX2_readClause_24 : decode cX2_readClause 24 = .ok (.iconst 1, 1) := by decide +kernel
theorem dX2_readClause_25 : decode cX2_readClause 25 = .ok (.if_icmp .eq 17, 3) := by decide +kernel
theorem dX2_readClause_28 : decode cX2_readClause 28 = .ok (.aload_n 0, 1) := by decide +kernel
theorem dX2_readClause_29 : decode cX2_readClause 29 = .ok (.getfield 54, 3) := by decide +kernel
theorem dX2_readClause_32 : decode cX2_readClause 32 = .ok (.ifCond .ne 10, 3) := by decide +kernel
theorem dX2_readClause_35 : decode cX2_readClause 35 = .ok (.aload_n 0, 1) := by decide +kernel
theorem dX2_readClause_36 : decode cX2_readClause 36 = .ok (.iconst 1, 1) := by decide +kernel
theorem dX2_readClause_37 : decode cX2_readClause 37 = .ok (.iload_n 2, 1) := by decide +kernel
theorem dX2_readClause_38 : decode cX2_readClause 38 = .ok (.invokevirtual 71, 3) := by decide +kernel
theorem dX2_readClause_41 : decode cX2_readClause 41 = .ok (.return_, 1) := by decide +kernel
theorem dX2_readClause_42 : decode cX2_readClause 42 = .ok (.aload_n 0, 1) := by decide +kernel
theorem dX2_readClause_43 : decode cX2_readClause 43 = .ok (.iload_n 3, 1) := by decide +kernel
theorem dX2_readClause_44 : decode cX2_readClause 44 = .ok (.aload_n 1, 1) := by decide +kernel
theorem dX2_readClause_45 : decode cX2_readClause 45 = .ok (.invokevirtual 75, 3) := by decide +kernel
theorem dX2_readClause_48 : decode cX2_readClause 48 = .ok (.ifCond .eq 10, 3) := by decide +kernel
theorem dX2_readClause_51 : decode cX2_readClause 51 = .ok (.aload_n 0, 1) := by decide +kernel
theorem dX2_readClause_52 : decode cX2_readClause 52 = .ok (.iconst 3, 1) := by decide +kernel
theorem dX2_readClause_53 : decode cX2_readClause 53 = .ok (.iload_n 2, 1) := by decide +kernel
theorem dX2_readClause_54 : decode cX2_readClause 54 = .ok (.invokevirtual 71, 3) := by decide +kernel
theorem dX2_readClause_57 : decode cX2_readClause 57 = .ok (.return_, 1) := by decide +kernel
theorem dX2_readClause_58 : decode cX2_readClause 58 = .ok (.iload_n 3, 1) := by decide +kernel
theorem dX2_readClause_59 : decode cX2_readClause 59 = .ok (.iconst 3, 1) := by decide +kernel
theorem dX2_readClause_60 : decode cX2_readClause 60 = .ok (.if_icmp .ne 7, 3) := by decide +kernel
theorem dX2_readClause_63 : decode cX2_readClause 63 = .ok (.iconst 3, 1) := by decide +kernel
theorem dX2_readClause_64 : decode cX2_readClause 64 = .ok (.goto 4, 3) := by decide +kernel
theorem dX2_readClause_67 : decode cX2_readClause 67 = .ok (.iconst 2, 1) := by decide +kernel
theorem dX2_readClause_68 : decode cX2_readClause 68 = .ok (.istore 4, 2) := by decide +kernel
theorem dX2_readClause_70 : decode cX2_readClause 70 = .ok (.iconst 0, 1) := by decide +kernel
theorem dX2_readClause_71 : decode cX2_readClause 71 = .ok (.istore 5, 2) := by decide +kernel
theorem dX2_readClause_73 : decode cX2_readClause 73 = .ok (.iload 5, 2) := by decide +kernel
theorem dX2_readClause_75 : decode cX2_readClause 75 = .ok (.iload 4, 2) := by decide +kernel
theorem dX2_readClause_77 : decode cX2_readClause 77 = .ok (.if_icmp .ge 34, 3) := by decide +kernel
theorem dX2_readClause_80 : decode cX2_readClause 80 = .ok (.iload 5, 2) := by decide +kernel
theorem dX2_readClause_82 : decode cX2_readClause 82 = .ok (.aload_n 0, 1) := by decide +kernel
theorem dX2_readClause_83 : decode cX2_readClause 83 = .ok (.getfield 19, 3) := by decide +kernel
theorem dX2_readClause_86 : decode cX2_readClause 86 = .ok (.arraylength, 1) := by decide +kernel
theorem dX2_readClause_87 : decode cX2_readClause 87 = .ok (.if_icmp .ge 24, 3) := by decide +kernel
theorem dX2_readClause_90 : decode cX2_readClause 90 = .ok (.aload_n 0, 1) := by decide +kernel
theorem dX2_readClause_91 : decode cX2_readClause 91 = .ok (.getfield 41, 3) := by decide +kernel
theorem dX2_readClause_94 : decode cX2_readClause 94 = .ok (.ifCond .ne 17, 3) := by decide +kernel
theorem dX2_readClause_97 : decode cX2_readClause 97 = .ok (.aload_n 0, 1) := by decide +kernel
theorem dX2_readClause_98 : decode cX2_readClause 98 = .ok (.iload_n 3, 1) := by decide +kernel
theorem dX2_readClause_99 : decode cX2_readClause 99 = .ok (.iload 5, 2) := by decide +kernel
theorem dX2_readClause_101 : decode cX2_readClause 101 = .ok (.aload_n 1, 1) := by decide +kernel
theorem dX2_readClause_102 : decode cX2_readClause 102 = .ok (.invokevirtual 79, 3) := by decide +kernel
theorem dX2_readClause_105 : decode cX2_readClause 105 = .ok (.iinc 5 1, 3) := by decide +kernel
theorem dX2_readClause_108 : decode cX2_readClause 108 = .ok (.goto (-35), 3) := by decide +kernel
theorem dX2_readClause_111 : decode cX2_readClause 111 = .ok (.aload_n 0, 1) := by decide +kernel
theorem dX2_readClause_112 : decode cX2_readClause 112 = .ok (.invokevirtual 83, 3) := by decide +kernel
theorem dX2_readClause_115 : decode cX2_readClause 115 = .ok (.aload_n 0, 1) := by decide +kernel
theorem dX2_readClause_116 : decode cX2_readClause 116 = .ok (.getfield 41, 3) := by decide +kernel
theorem dX2_readClause_119 : decode cX2_readClause 119 = .ok (.ifCond .ne 9, 3) := by decide +kernel
theorem dX2_readClause_122 : decode cX2_readClause 122 = .ok (.aload_n 0, 1) := by decide +kernel
theorem dX2_readClause_123 : decode cX2_readClause 123 = .ok (.iload_n 3, 1) := by decide +kernel
theorem dX2_readClause_124 : decode cX2_readClause 124 = .ok (.aload_n 1, 1) := by decide +kernel
theorem dX2_readClause_125 : decode cX2_readClause 125 = .ok (.invokevirtual 86, 3) := by decide +kernel
theorem dX2_readClause_128 : decode cX2_readClause 128 = .ok (.return_, 1) := by decide +kernel
theorem dX2_kindOf_0 : decode cX2_kindOf 0 = .ok (.aload_n 0, 1) := by decide +kernel
theorem dX2_kindOf_1 : decode cX2_kindOf 1 = .ok (.ldc 90, 2) := by decide +kernel
theorem dX2_kindOf_3 : decode cX2_kindOf 3 = .ok (.iload_n 1, 1) := by decide +kernel
theorem dX2_kindOf_4 : decode cX2_kindOf 4 = .ok (.iload_n 2, 1) := by decide +kernel
theorem dX2_kindOf_5 : decode cX2_kindOf 5 = .ok (.invokevirtual 92, 3) := by decide +kernel
theorem dX2_kindOf_8 : decode cX2_kindOf 8 = .ok (.ifCond .eq 5, 3) := by decide +kernel
theorem dX2_kindOf_11 : decode cX2_kindOf 11 = .ok (.iconst 1, 1) := by decide +kernel
theorem dX2_kindOf_12 : decode cX2_kindOf 12 = .ok (.ireturn, 1) := by decide +kernel
theorem dX2_kindOf_13 : decode cX2_kindOf 13 = .ok (.aload_n 0, 1) := by decide +kernel
theorem dX2_kindOf_14 : decode cX2_kindOf 14 = .ok (.ldc 96, 2) := by decide +kernel
theorem dX2_kindOf_16 : decode cX2_kindOf 16 = .ok (.iload_n 1, 1) := by decide +kernel
theorem dX2_kindOf_17 : decode cX2_kindOf 17 = .ok (.iload_n 2, 1) := by decide +kernel
theorem dX2_kindOf_18 : decode cX2_kindOf 18 = .ok (.invokevirtual 92, 3) := by decide +kernel
theorem dX2_kindOf_21 : decode cX2_kindOf 21 = .ok (.ifCond .eq 5, 3) := by decide +kernel
theorem dX2_kindOf_24 : decode cX2_kindOf 24 = .ok (.iconst 2, 1) := by decide +kernel
theorem dX2_kindOf_25 : decode cX2_kindOf 25 = .ok (.ireturn, 1) := by decide +kernel
theorem dX2_kindOf_26 : decode cX2_kindOf 26 = .ok (.aload_n 0, 1) := by decide +kernel
theorem dX2_kindOf_27 : decode cX2_kindOf 27 = .ok (.ldc 98, 2) := by decide +kernel
theorem dX2_kindOf_29 : decode cX2_kindOf 29 = .ok (.iload_n 1, 1) := by decide +kernel
theorem dX2_kindOf_30 : decode cX2_kindOf 30 = .ok (.iload_n 2, 1) := by decide +kernel
theorem dX2_kindOf_31 : decode cX2_kindOf 31 = .ok (.invokevirtual 92, 3) := by decide +kernel
theorem dX2_kindOf_34 : decode cX2_kindOf 34 = .ok (.ifCond .eq 5, 3) := by decide +kernel
theorem dX2_kindOf_37 : decode cX2_kindOf 37 = .ok (.iconst 3, 1) := by decide +kernel
theorem dX2_kindOf_38 : decode cX2_kindOf 38 = .ok (.ireturn, 1) := by decide +kernel
theorem dX2_kindOf_39 : decode cX2_kindOf 39 = .ok (.aload_n 0, 1) := by decide +kernel
theorem dX2_kindOf_40 : decode cX2_kindOf 40 = .ok (.ldc 100, 2) := by decide +kernel
theorem dX2_kindOf_42 : decode cX2_kindOf 42 = .ok (.iload_n 1, 1) := by decide +kernel
theorem dX2_kindOf_43 : decode cX2_kindOf 43 = .ok (.iload_n 2, 1) := by decide +kernel
theorem dX2_kindOf_44 : decode cX2_kindOf 44 = .ok (.invokevirtual 92, 3) := by decide +kernel
theorem dX2_kindOf_47 : decode cX2_kindOf 47 = .ok (.ifCond .eq 5, 3) := by decide +kernel
theorem dX2_kindOf_50 : decode cX2_kindOf 50 = .ok (.iconst 4, 1) := by decide +kernel
theorem dX2_kindOf_51 : decode cX2_kindOf 51 = .ok (.ireturn, 1) := by decide +kernel
theorem dX2_kindOf_52 : decode cX2_kindOf 52 = .ok (.aload_n 0, 1) := by decide +kernel
theorem dX2_kindOf_53 : decode cX2_kindOf 53 = .ok (.ldc 102, 2) := by decide +kernel
theorem dX2_kindOf_55 : decode cX2_kindOf 55 = .ok (.iload_n 1, 1) := by decide +kernel
theorem dX2_kindOf_56 : decode cX2_kindOf 56 = .ok (.iload_n 2, 1) := by decide +kernel
theorem dX2_kindOf_57 : decode cX2_kindOf 57 = .ok (.invokevirtual 92, 3) := by decide +kernel
theorem dX2_kindOf_60 : decode cX2_kindOf 60 = .ok (.ifCond .eq 7, 3) := by decide +kernel
theorem dX2_kindOf_63 : decode cX2_kindOf 63 = .ok (.iconst 5, 1) := by decide +kernel
theorem dX2_kindOf_64 : decode cX2_kindOf 64 = .ok (.goto 4, 3) := by decide +kernel
theorem dX2_kindOf_67 : decode cX2_kindOf 67 = .ok (.iconst 0, 1) := by decide +kernel
theorem dX2_kindOf_68 : decode cX2_kindOf 68 = .ok (.ireturn, 1) := by decide +kernel
theorem dX2_isWord_0 : decode cX2_isWord 0 = .ok (.iload_n 3, 1) := by decide +kernel
theorem dX2_isWord_1 : decode cX2_isWord 1 = .ok (.iload_n 2, 1) := by decide +kernel
theorem dX2_isWord_2 : decode cX2_isWord 2 = .ok (.isub, 1) := by decide +kernel
theorem dX2_isWord_3 : decode cX2_isWord 3 = .ok (.aload_n 1, 1) := by decide +kernel
theorem dX2_isWord_4 : decode cX2_isWord 4 = .ok (.invokevirtual 104, 3) := by decide +kernel
theorem dX2_isWord_7 : decode cX2_isWord 7 = .ok (.if_icmp .eq 5, 3) := by decide +kernel
theorem dX2_isWord_10 : decode cX2_isWord 10 = .ok (.iconst 0, 1) := by decide +kernel
theorem dX2_isWord_11 : decode cX2_isWord 11 = .ok (.ireturn, 1) := by decide +kernel
theorem dX2_isWord_12 : decode cX2_isWord 12 = .ok (.iconst 0, 1) := by decide +kernel
theorem dX2_isWord_13 : decode cX2_isWord 13 = .ok (.istore 4, 2) := by decide +kernel
theorem dX2_isWord_15 : decode cX2_isWord 15 = .ok (.iload 4, 2) := by decide +kernel
theorem dX2_isWord_17 : decode cX2_isWord 17 = .ok (.aload_n 1, 1) := by decide +kernel
theorem dX2_isWord_18 : decode cX2_isWord 18 = .ok (.invokevirtual 104, 3) := by decide +kernel
theorem dX2_isWord_21 : decode cX2_isWord 21 = .ok (.if_icmp .ge 28, 3) := by decide +kernel
theorem dX2_isWord_24 : decode cX2_isWord 24 = .ok (.aload_n 0, 1) := by decide +kernel
theorem dX2_isWord_25 : decode cX2_isWord 25 = .ok (.iload_n 2, 1) := by decide +kernel
theorem dX2_isWord_26 : decode cX2_isWord 26 = .ok (.iload 4, 2) := by decide +kernel
theorem dX2_isWord_28 : decode cX2_isWord 28 = .ok (.iadd, 1) := by decide +kernel
theorem dX2_isWord_29 : decode cX2_isWord 29 = .ok (.invokevirtual 109, 3) := by decide +kernel
theorem dX2_isWord_32 : decode cX2_isWord 32 = .ok (.aload_n 1, 1) := by decide +kernel
theorem dX2_isWord_33 : decode cX2_isWord 33 = .ok (.iload 4, 2) := by decide +kernel
theorem dX2_isWord_35 : decode cX2_isWord 35 = .ok (.invokevirtual 113, 3) := by decide +kernel
theorem dX2_isWord_38 : decode cX2_isWord 38 = .ok (.if_icmp .eq 5, 3) := by decide +kernel
theorem dX2_isWord_41 : decode cX2_isWord 41 = .ok (.iconst 0, 1) := by decide +kernel
theorem dX2_isWord_42 : decode cX2_isWord 42 = .ok (.ireturn, 1) := by decide +kernel
theorem dX2_isWord_43 : decode cX2_isWord 43 = .ok (.iinc 4 1, 3) := by decide +kernel
theorem dX2_isWord_46 : decode cX2_isWord 46 = .ok (.goto (-31), 3) := by decide +kernel
theorem dX2_isWord_49 : decode cX2_isWord 49 = .ok (.iconst 1, 1) := by decide +kernel
theorem dX2_isWord_50 : decode cX2_isWord 50 = .ok (.ireturn, 1) := by decide +kernel
theorem dX2_isTooOften_0 : decode cX2_isTooOften 0 = .ok (.iload_n 1, 1) := by decide +kernel
theorem dX2_isTooOften_1 : decode cX2_isTooOften 1 = .ok (.tableswitch 71 1 4 #[31, 36, 51, 66], 31) := by decide +kernel
theorem dX2_isTooOften_32 : decode cX2_isTooOften 32 = .ok (.aload_n 0, 1) := by decide +kernel
theorem dX2_isTooOften_33 : decode cX2_isTooOften 33 = .ok (.getfield 54, 3) := by decide +kernel
theorem dX2_isTooOften_36 : decode cX2_isTooOften 36 = .ok (.ireturn, 1) := by decide +kernel
theorem dX2_isTooOften_37 : decode cX2_isTooOften 37 = .ok (.aload_n 0, 1) := by decide +kernel
theorem dX2_isTooOften_38 : decode cX2_isTooOften 38 = .ok (.getfield 51, 3) := by decide +kernel
theorem dX2_isTooOften_41 : decode cX2_isTooOften 41 = .ok (.bipush 20, 2) := by decide +kernel
theorem dX2_isTooOften_43 : decode cX2_isTooOften 43 = .ok (.if_icmp .lt 7, 3) := by decide +kernel
theorem dX2_isTooOften_46 : decode cX2_isTooOften 46 = .ok (.iconst 1, 1) := by decide +kernel
theorem dX2_isTooOften_47 : decode cX2_isTooOften 47 = .ok (.goto 4, 3) := by decide +kernel
theorem dX2_isTooOften_50 : decode cX2_isTooOften 50 = .ok (.iconst 0, 1) := by decide +kernel
theorem dX2_isTooOften_51 : decode cX2_isTooOften 51 = .ok (.ireturn, 1) := by decide +kernel
theorem dX2_isTooOften_52 : decode cX2_isTooOften 52 = .ok (.aload_n 2, 1) := by decide +kernel
theorem dX2_isTooOften_53 : decode cX2_isTooOften 53 = .ok (.getfield 117, 3) := by decide +kernel
theorem dX2_isTooOften_56 : decode cX2_isTooOften 56 = .ok (.bipush 6, 2) := by decide +kernel
theorem dX2_isTooOften_58 : decode cX2_isTooOften 58 = .ok (.if_icmp .lt 7, 3) := by decide +kernel
theorem dX2_isTooOften_61 : decode cX2_isTooOften 61 = .ok (.iconst 1, 1) := by decide +kernel
theorem dX2_isTooOften_62 : decode cX2_isTooOften 62 = .ok (.goto 4, 3) := by decide +kernel
theorem dX2_isTooOften_65 : decode cX2_isTooOften 65 = .ok (.iconst 0, 1) := by decide +kernel
theorem dX2_isTooOften_66 : decode cX2_isTooOften 66 = .ok (.ireturn, 1) := by decide +kernel
theorem dX2_isTooOften_67 : decode cX2_isTooOften 67 = .ok (.aload_n 0, 1) := by decide +kernel
theorem dX2_isTooOften_68 : decode cX2_isTooOften 68 = .ok (.getfield 58, 3) := by decide +kernel
theorem dX2_isTooOften_71 : decode cX2_isTooOften 71 = .ok (.ireturn, 1) := by decide +kernel
theorem dX2_isTooOften_72 : decode cX2_isTooOften 72 = .ok (.aload_n 0, 1) := by decide +kernel
theorem dX2_isTooOften_73 : decode cX2_isTooOften 73 = .ok (.getfield 61, 3) := by decide +kernel
theorem dX2_isTooOften_76 : decode cX2_isTooOften 76 = .ok (.ireturn, 1) := by decide +kernel
theorem dX2_readNumber_0 : decode cX2_readNumber 0 = .ok (.aload_n 0, 1) := by decide +kernel
theorem dX2_readNumber_1 : decode cX2_readNumber 1 = .ok (.invokevirtual 38, 3) := by decide +kernel
theorem dX2_readNumber_4 : decode cX2_readNumber 4 = .ok (.aload_n 0, 1) := by decide +kernel
theorem dX2_readNumber_5 : decode cX2_readNumber 5 = .ok (.getfield 44, 3) := by decide +kernel
theorem dX2_readNumber_8 : decode cX2_readNumber 8 = .ok (.istore 4, 2) := by decide +kernel
theorem dX2_readNumber_10 : decode cX2_readNumber 10 = .ok (.iconst 0, 1) := by decide +kernel
theorem dX2_readNumber_11 : decode cX2_readNumber 11 = .ok (.istore 5, 2) := by decide +kernel
theorem dX2_readNumber_13 : decode cX2_readNumber 13 = .ok (.aload_n 0, 1) := by decide +kernel
theorem dX2_readNumber_14 : decode cX2_readNumber 14 = .ok (.getfield 44, 3) := by decide +kernel
theorem dX2_readNumber_17 : decode cX2_readNumber 17 = .ok (.aload_n 0, 1) := by decide +kernel
theorem dX2_readNumber_18 : decode cX2_readNumber 18 = .ok (.getfield 27, 3) := by decide +kernel
theorem dX2_readNumber_21 : decode cX2_readNumber 21 = .ok (.if_icmp .ge 60, 3) := by decide +kernel
theorem dX2_readNumber_24 : decode cX2_readNumber 24 = .ok (.aload_n 0, 1) := by decide +kernel
theorem dX2_readNumber_25 : decode cX2_readNumber 25 = .ok (.aload_n 0, 1) := by decide +kernel
theorem dX2_readNumber_26 : decode cX2_readNumber 26 = .ok (.getfield 44, 3) := by decide +kernel
theorem dX2_readNumber_29 : decode cX2_readNumber 29 = .ok (.invokevirtual 109, 3) := by decide +kernel
theorem dX2_readNumber_32 : decode cX2_readNumber 32 = .ok (.invokestatic 120, 3) := by decide +kernel
theorem dX2_readNumber_35 : decode cX2_readNumber 35 = .ok (.ifCond .eq 46, 3) := by decide +kernel
theorem dX2_readNumber_38 : decode cX2_readNumber 38 = .ok (.aload_n 0, 1) := by decide +kernel
theorem dX2_readNumber_39 : decode cX2_readNumber 39 = .ok (.getfield 44, 3) := by decide +kernel
theorem dX2_readNumber_42 : decode cX2_readNumber 42 = .ok (.iload 4, 2) := by decide +kernel
theorem dX2_readNumber_44 : decode cX2_readNumber 44 = .ok (.isub, 1) := by decide +kernel
theorem dX2_readNumber_45 : decode cX2_readNumber 45 = .ok (.iconst 3, 1) := by decide +kernel
theorem dX2_readNumber_46 : decode cX2_readNumber 46 = .ok (.if_icmp .ge 22, 3) := by decide +kernel
theorem dX2_readNumber_49 : decode cX2_readNumber 49 = .ok (.iload 5, 2) := by decide +kernel
theorem dX2_readNumber_51 : decode cX2_readNumber 51 = .ok (.bipush 10, 2) := by decide +kernel
theorem dX2_readNumber_53 : decode cX2_readNumber 53 = .ok (.imul, 1) := by decide +kernel
theorem dX2_readNumber_54 : decode cX2_readNumber 54 = .ok (.aload_n 0, 1) := by decide +kernel
theorem dX2_readNumber_55 : decode cX2_readNumber 55 = .ok (.aload_n 0, 1) := by decide +kernel
theorem dX2_readNumber_56 : decode cX2_readNumber 56 = .ok (.getfield 44, 3) := by decide +kernel
theorem dX2_readNumber_59 : decode cX2_readNumber 59 = .ok (.invokevirtual 109, 3) := by decide +kernel
theorem dX2_readNumber_62 : decode cX2_readNumber 62 = .ok (.iadd, 1) := by decide +kernel
theorem dX2_readNumber_63 : decode cX2_readNumber 63 = .ok (.bipush 48, 2) := by decide +kernel
theorem dX2_readNumber_65 : decode cX2_readNumber 65 = .ok (.isub, 1) := by decide +kernel
theorem dX2_readNumber_66 : decode cX2_readNumber 66 = .ok (.istore 5, 2) := by decide +kernel
theorem dX2_readNumber_68 : decode cX2_readNumber 68 = .ok (.aload_n 0, 1) := by decide +kernel
theorem dX2_readNumber_69 : decode cX2_readNumber 69 = .ok (.dup, 1) := by decide +kernel
theorem dX2_readNumber_70 : decode cX2_readNumber 70 = .ok (.getfield 44, 3) := by decide +kernel
theorem dX2_readNumber_73 : decode cX2_readNumber 73 = .ok (.iconst 1, 1) := by decide +kernel
theorem dX2_readNumber_74 : decode cX2_readNumber 74 = .ok (.iadd, 1) := by decide +kernel
theorem dX2_readNumber_75 : decode cX2_readNumber 75 = .ok (.putfield 44, 3) := by decide +kernel
theorem dX2_readNumber_78 : decode cX2_readNumber 78 = .ok (.goto (-65), 3) := by decide +kernel
theorem dX2_readNumber_81 : decode cX2_readNumber 81 = .ok (.aload_n 0, 1) := by decide +kernel
theorem dX2_readNumber_82 : decode cX2_readNumber 82 = .ok (.getfield 44, 3) := by decide +kernel
theorem dX2_readNumber_85 : decode cX2_readNumber 85 = .ok (.iload 4, 2) := by decide +kernel
theorem dX2_readNumber_87 : decode cX2_readNumber 87 = .ok (.if_icmp .ne 11, 3) := by decide +kernel
theorem dX2_readNumber_90 : decode cX2_readNumber 90 = .ok (.aload_n 0, 1) := by decide +kernel
theorem dX2_readNumber_91 : decode cX2_readNumber 91 = .ok (.iconst 1, 1) := by decide +kernel
theorem dX2_readNumber_92 : decode cX2_readNumber 92 = .ok (.iload 4, 2) := by decide +kernel
theorem dX2_readNumber_94 : decode cX2_readNumber 94 = .ok (.invokevirtual 71, 3) := by decide +kernel
theorem dX2_readNumber_97 : decode cX2_readNumber 97 = .ok (.return_, 1) := by decide +kernel
theorem dX2_readNumber_98 : decode cX2_readNumber 98 = .ok (.aload_n 0, 1) := by decide +kernel
theorem dX2_readNumber_99 : decode cX2_readNumber 99 = .ok (.getfield 44, 3) := by decide +kernel
theorem dX2_readNumber_102 : decode cX2_readNumber 102 = .ok (.iload 4, 2) := by decide +kernel
theorem dX2_readNumber_104 : decode cX2_readNumber 104 = .ok (.isub, 1) := by decide +kernel
theorem dX2_readNumber_105 : decode cX2_readNumber 105 = .ok (.iconst 3, 1) := by decide +kernel
theorem dX2_readNumber_106 : decode cX2_readNumber 106 = .ok (.if_icmp .gt 24, 3) := by decide +kernel
theorem dX2_readNumber_109 : decode cX2_readNumber 109 = .ok (.iload 5, 2) := by decide +kernel
theorem dX2_readNumber_111 : decode cX2_readNumber 111 = .ok (.iload_n 1, 1) := by decide +kernel
theorem dX2_readNumber_112 : decode cX2_readNumber 112 = .ok (.iload_n 2, 1) := by decide +kernel
theorem dX2_readNumber_113 : decode cX2_readNumber 113 = .ok (.invokestatic 124, 3) := by decide +kernel
theorem dX2_readNumber_116 : decode cX2_readNumber 116 = .ok (.if_icmp .lt 14, 3) := by decide +kernel
theorem dX2_readNumber_119 : decode cX2_readNumber 119 = .ok (.iload 5, 2) := by decide +kernel
theorem dX2_readNumber_121 : decode cX2_readNumber 121 = .ok (.iload_n 1, 1) := by decide +kernel
theorem dX2_readNumber_122 : decode cX2_readNumber 122 = .ok (.iload_n 2, 1) := by decide +kernel
theorem dX2_readNumber_123 : decode cX2_readNumber 123 = .ok (.aload_n 3, 1) := by decide +kernel
theorem dX2_readNumber_124 : decode cX2_readNumber 124 = .ok (.invokestatic 127, 3) := by decide +kernel
theorem dX2_readNumber_127 : decode cX2_readNumber 127 = .ok (.if_icmp .le 11, 3) := by decide +kernel
theorem dX2_readNumber_130 : decode cX2_readNumber 130 = .ok (.aload_n 0, 1) := by decide +kernel
theorem dX2_readNumber_131 : decode cX2_readNumber 131 = .ok (.iconst 2, 1) := by decide +kernel
theorem dX2_readNumber_132 : decode cX2_readNumber 132 = .ok (.iload 4, 2) := by decide +kernel
theorem dX2_readNumber_134 : decode cX2_readNumber 134 = .ok (.invokevirtual 71, 3) := by decide +kernel
theorem dX2_readNumber_137 : decode cX2_readNumber 137 = .ok (.return_, 1) := by decide +kernel
theorem dX2_readNumber_138 : decode cX2_readNumber 138 = .ok (.iload_n 1, 1) := by decide +kernel
theorem dX2_readNumber_139 : decode cX2_readNumber 139 = .ok (.iconst 2, 1) := by decide +kernel
theorem dX2_readNumber_140 : decode cX2_readNumber 140 = .ok (.if_icmp .ne 24, 3) := by decide +kernel
theorem dX2_readNumber_143 : decode cX2_readNumber 143 = .ok (.iload_n 2, 1) := by decide +kernel
theorem dX2_readNumber_144 : decode cX2_readNumber 144 = .ok (.ifCond .ne 20, 3) := by decide +kernel
theorem dX2_readNumber_147 : decode cX2_readNumber 147 = .ok (.aload_n 0, 1) := by decide +kernel
theorem dX2_readNumber_148 : decode cX2_readNumber 148 = .ok (.iload 5, 2) := by decide +kernel
theorem dX2_readNumber_150 : decode cX2_readNumber 150 = .ok (.invokevirtual 131, 3) := by decide +kernel
theorem dX2_readNumber_153 : decode cX2_readNumber 153 = .ok (.ifCond .eq 11, 3) := by decide +kernel
theorem dX2_readNumber_156 : decode cX2_readNumber 156 = .ok (.aload_n 0, 1) := by decide +kernel
theorem dX2_readNumber_157 : decode cX2_readNumber 157 = .ok (.iconst 4, 1) := by decide +kernel
theorem dX2_readNumber_158 : decode cX2_readNumber 158 = .ok (.iload 4, 2) := by decide +kernel
theorem dX2_readNumber_160 : decode cX2_readNumber 160 = .ok (.invokevirtual 71, 3) := by decide +kernel
theorem dX2_readNumber_163 : decode cX2_readNumber 163 = .ok (.return_, 1) := by decide +kernel
theorem dX2_readNumber_164 : decode cX2_readNumber 164 = .ok (.iload_n 2, 1) := by decide +kernel
theorem dX2_readNumber_165 : decode cX2_readNumber 165 = .ok (.ifCond .lt 20, 3) := by decide +kernel
theorem dX2_readNumber_168 : decode cX2_readNumber 168 = .ok (.iload_n 2, 1) := by decide +kernel
theorem dX2_readNumber_169 : decode cX2_readNumber 169 = .ok (.aload_n 0, 1) := by decide +kernel
theorem dX2_readNumber_170 : decode cX2_readNumber 170 = .ok (.getfield 19, 3) := by decide +kernel
theorem dX2_readNumber_173 : decode cX2_readNumber 173 = .ok (.arraylength, 1) := by decide +kernel
theorem dX2_readNumber_174 : decode cX2_readNumber 174 = .ok (.if_icmp .ge 11, 3) := by decide +kernel
theorem dX2_readNumber_177 : decode cX2_readNumber 177 = .ok (.aload_n 0, 1) := by decide +kernel
theorem dX2_readNumber_178 : decode cX2_readNumber 178 = .ok (.getfield 19, 3) := by decide +kernel
theorem dX2_readNumber_181 : decode cX2_readNumber 181 = .ok (.iload_n 2, 1) := by decide +kernel
theorem dX2_readNumber_182 : decode cX2_readNumber 182 = .ok (.iload 5, 2) := by decide +kernel
theorem dX2_readNumber_184 : decode cX2_readNumber 184 = .ok (.iastore, 1) := by decide +kernel
theorem dX2_readNumber_185 : decode cX2_readNumber 185 = .ok (.return_, 1) := by decide +kernel
theorem dX2_least_0 : decode cX2_least 0 = .ok (.iload_n 0, 1) := by decide +kernel
theorem dX2_least_1 : decode cX2_least 1 = .ok (.tableswitch 56 1 5 #[35, 56, 45, 56, 35], 35) := by decide +kernel
theorem dX2_least_36 : decode cX2_least 36 = .ok (.iload_n 1, 1) := by decide +kernel
theorem dX2_least_37 : decode cX2_least 37 = .ok (.ifCond .ne 7, 3) := by decide +kernel
theorem dX2_least_40 : decode cX2_least 40 = .ok (.iconst 1, 1) := by decide +kernel
theorem dX2_least_41 : decode cX2_least 41 = .ok (.goto 4, 3) := by decide +kernel
theorem dX2_least_44 : decode cX2_least 44 = .ok (.iconst 0, 1) := by decide +kernel
theorem dX2_least_45 : decode cX2_least 45 = .ok (.ireturn, 1) := by decide +kernel
theorem dX2_least_46 : decode cX2_least 46 = .ok (.iload_n 1, 1) := by decide +kernel
theorem dX2_least_47 : decode cX2_least 47 = .ok (.iconst 2, 1) := by decide +kernel
theorem dX2_least_48 : decode cX2_least 48 = .ok (.if_icmp .ge 7, 3) := by decide +kernel
theorem dX2_least_51 : decode cX2_least 51 = .ok (.iconst 1, 1) := by decide +kernel
theorem dX2_least_52 : decode cX2_least 52 = .ok (.goto 4, 3) := by decide +kernel
theorem dX2_least_55 : decode cX2_least 55 = .ok (.iconst 0, 1) := by decide +kernel
theorem dX2_least_56 : decode cX2_least 56 = .ok (.ireturn, 1) := by decide +kernel
theorem dX2_least_57 : decode cX2_least 57 = .ok (.iconst 0, 1) := by decide +kernel
theorem dX2_least_58 : decode cX2_least 58 = .ok (.ireturn, 1) := by decide +kernel
theorem dX2_most_0 : decode cX2_most 0 = .ok (.iload_n 0, 1) := by decide +kernel
theorem dX2_most_1 : decode cX2_most 1 = .ok (.tableswitch 95 1 4 #[31, 43, 59, 82], 31) := by decide +kernel
theorem dX2_most_32 : decode cX2_most 32 = .ok (.iload_n 1, 1) := by decide +kernel
theorem dX2_most_33 : decode cX2_most 33 = .ok (.ifCond .ne 8, 3) := by decide +kernel
theorem dX2_most_36 : decode cX2_most 36 = .ok (.bipush 30, 2) := by decide +kernel
theorem dX2_most_38 : decode cX2_most 38 = .ok (.goto 5, 3) := by decide +kernel
theorem dX2_most_41 : decode cX2_most 41 = .ok (.bipush 99, 2) := by decide +kernel
theorem dX2_most_43 : decode cX2_most 43 = .ok (.ireturn, 1) := by decide +kernel
theorem dX2_most_44 : decode cX2_most 44 = .ok (.iload_n 1, 1) := by decide +kernel
theorem dX2_most_45 : decode cX2_most 45 = .ok (.ifCond .ne 12, 3) := by decide +kernel
theorem dX2_most_48 : decode cX2_most 48 = .ok (.aload_n 2, 1) := by decide +kernel
theorem dX2_most_49 : decode cX2_most 49 = .ok (.getfield 134, 3) := by decide +kernel
theorem dX2_most_52 : decode cX2_most 52 = .ok (.iconst 1, 1) := by decide +kernel
theorem dX2_most_53 : decode cX2_most 53 = .ok (.isub, 1) := by decide +kernel
theorem dX2_most_54 : decode cX2_most 54 = .ok (.goto 5, 3) := by decide +kernel
theorem dX2_most_57 : decode cX2_most 57 = .ok (.bipush 99, 2) := by decide +kernel
theorem dX2_most_59 : decode cX2_most 59 = .ok (.ireturn, 1) := by decide +kernel
theorem dX2_most_60 : decode cX2_most 60 = .ok (.iload_n 1, 1) := by decide +kernel
theorem dX2_most_61 : decode cX2_most 61 = .ok (.ifCond .ne 8, 3) := by decide +kernel
theorem dX2_most_64 : decode cX2_most 64 = .ok (.bipush 99, 2) := by decide +kernel
theorem dX2_most_66 : decode cX2_most 66 = .ok (.goto 16, 3) := by decide +kernel
theorem dX2_most_69 : decode cX2_most 69 = .ok (.iload_n 1, 1) := by decide +kernel
theorem dX2_most_70 : decode cX2_most 70 = .ok (.iconst 1, 1) := by decide +kernel
theorem dX2_most_71 : decode cX2_most 71 = .ok (.if_icmp .ne 9, 3) := by decide +kernel
theorem dX2_most_74 : decode cX2_most 74 = .ok (.sipush 999, 3) := by decide +kernel
theorem dX2_most_77 : decode cX2_most 77 = .ok (.goto 5, 3) := by decide +kernel
theorem dX2_most_80 : decode cX2_most 80 = .ok (.bipush 20, 2) := by decide +kernel
theorem dX2_most_82 : decode cX2_most 82 = .ok (.ireturn, 1) := by decide +kernel
theorem dX2_most_83 : decode cX2_most 83 = .ok (.iload_n 1, 1) := by decide +kernel
theorem dX2_most_84 : decode cX2_most 84 = .ok (.ifCond .ne 9, 3) := by decide +kernel
theorem dX2_most_87 : decode cX2_most 87 = .ok (.sipush 999, 3) := by decide +kernel
theorem dX2_most_90 : decode cX2_most 90 = .ok (.goto 5, 3) := by decide +kernel
theorem dX2_most_93 : decode cX2_most 93 = .ok (.bipush 99, 2) := by decide +kernel
theorem dX2_most_95 : decode cX2_most 95 = .ok (.ireturn, 1) := by decide +kernel
theorem dX2_most_96 : decode cX2_most 96 = .ok (.iload_n 1, 1) := by decide +kernel
theorem dX2_most_97 : decode cX2_most 97 = .ok (.ifCond .ne 8, 3) := by decide +kernel
theorem dX2_most_100 : decode cX2_most 100 = .ok (.bipush 20, 2) := by decide +kernel
theorem dX2_most_102 : decode cX2_most 102 = .ok (.goto 5, 3) := by decide +kernel
theorem dX2_most_105 : decode cX2_most 105 = .ok (.bipush 9, 2) := by decide +kernel
theorem dX2_most_107 : decode cX2_most 107 = .ok (.ireturn, 1) := by decide +kernel
theorem dX2_isFootTold_0 : decode cX2_isFootTold 0 = .ok (.iload_n 1, 1) := by decide +kernel
theorem dX2_isFootTold_1 : decode cX2_isFootTold 1 = .ok (.ifCond .lt 25, 3) := by decide +kernel
theorem dX2_isFootTold_4 : decode cX2_isFootTold 4 = .ok (.iload_n 1, 1) := by decide +kernel
theorem dX2_isFootTold_5 : decode cX2_isFootTold 5 = .ok (.aload_n 0, 1) := by decide +kernel
theorem dX2_isFootTold_6 : decode cX2_isFootTold 6 = .ok (.getfield 15, 3) := by decide +kernel
theorem dX2_isFootTold_9 : decode cX2_isFootTold 9 = .ok (.arraylength, 1) := by decide +kernel
theorem dX2_isFootTold_10 : decode cX2_isFootTold 10 = .ok (.if_icmp .ge 16, 3) := by decide +kernel
theorem dX2_isFootTold_13 : decode cX2_isFootTold 13 = .ok (.aload_n 0, 1) := by decide +kernel
theorem dX2_isFootTold_14 : decode cX2_isFootTold 14 = .ok (.getfield 15, 3) := by decide +kernel
theorem dX2_isFootTold_17 : decode cX2_isFootTold 17 = .ok (.iload_n 1, 1) := by decide +kernel
theorem dX2_isFootTold_18 : decode cX2_isFootTold 18 = .ok (.baload, 1) := by decide +kernel
theorem dX2_isFootTold_19 : decode cX2_isFootTold 19 = .ok (.ifCond .eq 7, 3) := by decide +kernel
theorem dX2_isFootTold_22 : decode cX2_isFootTold 22 = .ok (.iconst 1, 1) := by decide +kernel
theorem dX2_isFootTold_23 : decode cX2_isFootTold 23 = .ok (.goto 4, 3) := by decide +kernel
theorem dX2_isFootTold_26 : decode cX2_isFootTold 26 = .ok (.iconst 0, 1) := by decide +kernel
theorem dX2_isFootTold_27 : decode cX2_isFootTold 27 = .ok (.ireturn, 1) := by decide +kernel
theorem dX2_readEnd_0 : decode cX2_readEnd 0 = .ok (.aload_n 0, 1) := by decide +kernel
theorem dX2_readEnd_1 : decode cX2_readEnd 1 = .ok (.getfield 41, 3) := by decide +kernel
theorem dX2_readEnd_4 : decode cX2_readEnd 4 = .ok (.ifCond .eq 4, 3) := by decide +kernel
theorem dX2_readEnd_7 : decode cX2_readEnd 7 = .ok (.return_, 1) := by decide +kernel
theorem dX2_readEnd_8 : decode cX2_readEnd 8 = .ok (.aload_n 0, 1) := by decide +kernel
theorem dX2_readEnd_9 : decode cX2_readEnd 9 = .ok (.invokevirtual 38, 3) := by decide +kernel
theorem dX2_readEnd_12 : decode cX2_readEnd 12 = .ok (.aload_n 0, 1) := by decide +kernel
theorem dX2_readEnd_13 : decode cX2_readEnd 13 = .ok (.aload_n 0, 1) := by decide +kernel
theorem dX2_readEnd_14 : decode cX2_readEnd 14 = .ok (.getfield 44, 3) := by decide +kernel
theorem dX2_readEnd_17 : decode cX2_readEnd 17 = .ok (.invokevirtual 109, 3) := by decide +kernel
theorem dX2_readEnd_20 : decode cX2_readEnd 20 = .ok (.bipush 59, 2) := by decide +kernel
theorem dX2_readEnd_22 : decode cX2_readEnd 22 = .ok (.if_icmp .eq 13, 3) := by decide +kernel
theorem dX2_readEnd_25 : decode cX2_readEnd 25 = .ok (.aload_n 0, 1) := by decide +kernel
theorem dX2_readEnd_26 : decode cX2_readEnd 26 = .ok (.iconst 1, 1) := by decide +kernel
theorem dX2_readEnd_27 : decode cX2_readEnd 27 = .ok (.aload_n 0, 1) := by decide +kernel
theorem dX2_readEnd_28 : decode cX2_readEnd 28 = .ok (.getfield 44, 3) := by decide +kernel
theorem dX2_readEnd_31 : decode cX2_readEnd 31 = .ok (.invokevirtual 71, 3) := by decide +kernel
theorem dX2_readEnd_34 : decode cX2_readEnd 34 = .ok (.return_, 1) := by decide +kernel
theorem dX2_readEnd_35 : decode cX2_readEnd 35 = .ok (.aload_n 0, 1) := by decide +kernel
theorem dX2_readEnd_36 : decode cX2_readEnd 36 = .ok (.dup, 1) := by decide +kernel
theorem dX2_readEnd_37 : decode cX2_readEnd 37 = .ok (.getfield 44, 3) := by decide +kernel
theorem dX2_readEnd_40 : decode cX2_readEnd 40 = .ok (.iconst 1, 1) := by decide +kernel
theorem dX2_readEnd_41 : decode cX2_readEnd 41 = .ok (.iadd, 1) := by decide +kernel
theorem dX2_readEnd_42 : decode cX2_readEnd 42 = .ok (.putfield 44, 3) := by decide +kernel
theorem dX2_readEnd_45 : decode cX2_readEnd 45 = .ok (.return_, 1) := by decide +kernel
theorem dX2_take_0 : decode cX2_take 0 = .ok (.aload_n 0, 1) := by decide +kernel
theorem dX2_take_1 : decode cX2_take 1 = .ok (.getfield 19, 3) := by decide +kernel
theorem dX2_take_4 : decode cX2_take 4 = .ok (.iconst 0, 1) := by decide +kernel
theorem dX2_take_5 : decode cX2_take 5 = .ok (.iaload, 1) := by decide +kernel
theorem dX2_take_6 : decode cX2_take 6 = .ok (.istore_n 3, 1) := by decide +kernel
theorem dX2_take_7 : decode cX2_take 7 = .ok (.aload_n 0, 1) := by decide +kernel
theorem dX2_take_8 : decode cX2_take 8 = .ok (.getfield 19, 3) := by decide +kernel
theorem dX2_take_11 : decode cX2_take 11 = .ok (.iconst 1, 1) := by decide +kernel
theorem dX2_take_12 : decode cX2_take 12 = .ok (.iaload, 1) := by decide +kernel
theorem dX2_take_13 : decode cX2_take 13 = .ok (.istore 4, 2) := by decide +kernel
theorem dX2_take_15 : decode cX2_take 15 = .ok (.iload_n 1, 1) := by decide +kernel
theorem dX2_take_16 : decode cX2_take 16 = .ok (.tableswitch 122 1 4 #[32, 47, 87, 103], 32) := by decide +kernel
theorem dX2_take_48 : decode cX2_take 48 = .ok (.aload_n 0, 1) := by decide +kernel
theorem dX2_take_49 : decode cX2_take 49 = .ok (.iconst 1, 1) := by decide +kernel
theorem dX2_take_50 : decode cX2_take 50 = .ok (.putfield 54, 3) := by decide +kernel
theorem dX2_take_53 : decode cX2_take 53 = .ok (.aload_n 2, 1) := by decide +kernel
theorem dX2_take_54 : decode cX2_take 54 = .ok (.iload_n 3, 1) := by decide +kernel
theorem dX2_take_55 : decode cX2_take 55 = .ok (.iload 4, 2) := by decide +kernel
theorem dX2_take_57 : decode cX2_take 57 = .ok (.invokevirtual 137, 3) := by decide +kernel
theorem dX2_take_60 : decode cX2_take 60 = .ok (.goto 94, 3) := by decide +kernel
theorem dX2_take_63 : decode cX2_take 63 = .ok (.aload_n 0, 1) := by decide +kernel
theorem dX2_take_64 : decode cX2_take 64 = .ok (.dup, 1) := by decide +kernel
theorem dX2_take_65 : decode cX2_take 65 = .ok (.getfield 51, 3) := by decide +kernel
theorem dX2_take_68 : decode cX2_take 68 = .ok (.iconst 1, 1) := by decide +kernel
theorem dX2_take_69 : decode cX2_take 69 = .ok (.iadd, 1) := by decide +kernel
theorem dX2_take_70 : decode cX2_take 70 = .ok (.putfield 51, 3) := by decide +kernel
theorem dX2_take_73 : decode cX2_take 73 = .ok (.iload_n 3, 1) := by decide +kernel
theorem dX2_take_74 : decode cX2_take 74 = .ok (.ifCond .lt 19, 3) := by decide +kernel
theorem dX2_take_77 : decode cX2_take 77 = .ok (.iload_n 3, 1) := by decide +kernel
theorem dX2_take_78 : decode cX2_take 78 = .ok (.aload_n 0, 1) := by decide +kernel
theorem dX2_take_79 : decode cX2_take 79 = .ok (.getfield 15, 3) := by decide +kernel
theorem dX2_take_82 : decode cX2_take 82 = .ok (.arraylength, 1) := by decide +kernel
theorem dX2_take_83 : decode cX2_take 83 = .ok (.if_icmp .ge 10, 3) := by decide +kernel
theorem dX2_take_86 : decode cX2_take 86 = .ok (.aload_n 0, 1) := by decide +kernel
theorem dX2_take_87 : decode cX2_take 87 = .ok (.getfield 15, 3) := by decide +kernel
theorem dX2_take_90 : decode cX2_take 90 = .ok (.iload_n 3, 1) := by decide +kernel
theorem dX2_take_91 : decode cX2_take 91 = .ok (.iconst 1, 1) := by decide +kernel
theorem dX2_take_92 : decode cX2_take 92 = .ok (.bastore, 1) := by decide +kernel
theorem dX2_take_93 : decode cX2_take 93 = .ok (.aload_n 2, 1) := by decide +kernel
theorem dX2_take_94 : decode cX2_take 94 = .ok (.iload_n 3, 1) := by decide +kernel
theorem dX2_take_95 : decode cX2_take 95 = .ok (.iload 4, 2) := by decide +kernel
theorem dX2_take_97 : decode cX2_take 97 = .ok (.invokevirtual 140, 3) := by decide +kernel
theorem dX2_take_100 : decode cX2_take 100 = .ok (.goto 54, 3) := by decide +kernel
theorem dX2_take_103 : decode cX2_take 103 = .ok (.aload_n 2, 1) := by decide +kernel
theorem dX2_take_104 : decode cX2_take 104 = .ok (.iload_n 3, 1) := by decide +kernel
theorem dX2_take_105 : decode cX2_take 105 = .ok (.iload 4, 2) := by decide +kernel
theorem dX2_take_107 : decode cX2_take 107 = .ok (.aload_n 0, 1) := by decide +kernel
theorem dX2_take_108 : decode cX2_take 108 = .ok (.getfield 19, 3) := by decide +kernel
theorem dX2_take_111 : decode cX2_take 111 = .ok (.iconst 2, 1) := by decide +kernel
theorem dX2_take_112 : decode cX2_take 112 = .ok (.iaload, 1) := by decide +kernel
theorem dX2_take_113 : decode cX2_take 113 = .ok (.invokevirtual 143, 3) := by decide +kernel
theorem dX2_take_116 : decode cX2_take 116 = .ok (.goto 38, 3) := by decide +kernel
theorem dX2_take_119 : decode cX2_take 119 = .ok (.aload_n 0, 1) := by decide +kernel
theorem dX2_take_120 : decode cX2_take 120 = .ok (.iconst 1, 1) := by decide +kernel
theorem dX2_take_121 : decode cX2_take 121 = .ok (.putfield 58, 3) := by decide +kernel
theorem dX2_take_124 : decode cX2_take 124 = .ok (.aload_n 2, 1) := by decide +kernel
theorem dX2_take_125 : decode cX2_take 125 = .ok (.iload_n 3, 1) := by decide +kernel
theorem dX2_take_126 : decode cX2_take 126 = .ok (.putfield 147, 3) := by decide +kernel
theorem dX2_take_129 : decode cX2_take 129 = .ok (.aload_n 2, 1) := by decide +kernel
theorem dX2_take_130 : decode cX2_take 130 = .ok (.iload 4, 2) := by decide +kernel
theorem dX2_take_132 : decode cX2_take 132 = .ok (.putfield 150, 3) := by decide +kernel
theorem dX2_take_135 : decode cX2_take 135 = .ok (.goto 19, 3) := by decide +kernel
theorem dX2_take_138 : decode cX2_take 138 = .ok (.aload_n 0, 1) := by decide +kernel
theorem dX2_take_139 : decode cX2_take 139 = .ok (.iconst 1, 1) := by decide +kernel
theorem dX2_take_140 : decode cX2_take 140 = .ok (.putfield 61, 3) := by decide +kernel
theorem dX2_take_143 : decode cX2_take 143 = .ok (.aload_n 2, 1) := by decide +kernel
theorem dX2_take_144 : decode cX2_take 144 = .ok (.iload_n 3, 1) := by decide +kernel
theorem dX2_take_145 : decode cX2_take 145 = .ok (.putfield 153, 3) := by decide +kernel
theorem dX2_take_148 : decode cX2_take 148 = .ok (.aload_n 2, 1) := by decide +kernel
theorem dX2_take_149 : decode cX2_take 149 = .ok (.iload 4, 2) := by decide +kernel
theorem dX2_take_151 : decode cX2_take 151 = .ok (.putfield 156, 3) := by decide +kernel
theorem dX2_take_154 : decode cX2_take 154 = .ok (.return_, 1) := by decide +kernel
theorem dX2_skipBlanks_0 : decode cX2_skipBlanks 0 = .ok (.aload_n 0, 1) := by decide +kernel
theorem dX2_skipBlanks_1 : decode cX2_skipBlanks 1 = .ok (.getfield 44, 3) := by decide +kernel
theorem dX2_skipBlanks_4 : decode cX2_skipBlanks 4 = .ok (.aload_n 0, 1) := by decide +kernel
theorem dX2_skipBlanks_5 : decode cX2_skipBlanks 5 = .ok (.getfield 27, 3) := by decide +kernel
theorem dX2_skipBlanks_8 : decode cX2_skipBlanks 8 = .ok (.if_icmp .ge 29, 3) := by decide +kernel
theorem dX2_skipBlanks_11 : decode cX2_skipBlanks 11 = .ok (.aload_n 0, 1) := by decide +kernel
theorem dX2_skipBlanks_12 : decode cX2_skipBlanks 12 = .ok (.aload_n 0, 1) := by decide +kernel
theorem dX2_skipBlanks_13 : decode cX2_skipBlanks 13 = .ok (.getfield 44, 3) := by decide +kernel
theorem dX2_skipBlanks_16 : decode cX2_skipBlanks 16 = .ok (.invokevirtual 109, 3) := by decide +kernel
theorem dX2_skipBlanks_19 : decode cX2_skipBlanks 19 = .ok (.bipush 32, 2) := by decide +kernel
theorem dX2_skipBlanks_21 : decode cX2_skipBlanks 21 = .ok (.if_icmp .ne 16, 3) := by decide +kernel
theorem dX2_skipBlanks_24 : decode cX2_skipBlanks 24 = .ok (.aload_n 0, 1) := by decide +kernel
theorem dX2_skipBlanks_25 : decode cX2_skipBlanks 25 = .ok (.dup, 1) := by decide +kernel
theorem dX2_skipBlanks_26 : decode cX2_skipBlanks 26 = .ok (.getfield 44, 3) := by decide +kernel
theorem dX2_skipBlanks_29 : decode cX2_skipBlanks 29 = .ok (.iconst 1, 1) := by decide +kernel
theorem dX2_skipBlanks_30 : decode cX2_skipBlanks 30 = .ok (.iadd, 1) := by decide +kernel
theorem dX2_skipBlanks_31 : decode cX2_skipBlanks 31 = .ok (.putfield 44, 3) := by decide +kernel
theorem dX2_skipBlanks_34 : decode cX2_skipBlanks 34 = .ok (.goto (-34), 3) := by decide +kernel
theorem dX2_skipBlanks_37 : decode cX2_skipBlanks 37 = .ok (.return_, 1) := by decide +kernel
theorem dX2_skipLetters_0 : decode cX2_skipLetters 0 = .ok (.aload_n 0, 1) := by decide +kernel
theorem dX2_skipLetters_1 : decode cX2_skipLetters 1 = .ok (.getfield 44, 3) := by decide +kernel
theorem dX2_skipLetters_4 : decode cX2_skipLetters 4 = .ok (.aload_n 0, 1) := by decide +kernel
theorem dX2_skipLetters_5 : decode cX2_skipLetters 5 = .ok (.getfield 27, 3) := by decide +kernel
theorem dX2_skipLetters_8 : decode cX2_skipLetters 8 = .ok (.if_icmp .ge 30, 3) := by decide +kernel
theorem dX2_skipLetters_11 : decode cX2_skipLetters 11 = .ok (.aload_n 0, 1) := by decide +kernel
theorem dX2_skipLetters_12 : decode cX2_skipLetters 12 = .ok (.aload_n 0, 1) := by decide +kernel
theorem dX2_skipLetters_13 : decode cX2_skipLetters 13 = .ok (.getfield 44, 3) := by decide +kernel
theorem dX2_skipLetters_16 : decode cX2_skipLetters 16 = .ok (.invokevirtual 109, 3) := by decide +kernel
theorem dX2_skipLetters_19 : decode cX2_skipLetters 19 = .ok (.invokestatic 159, 3) := by decide +kernel
theorem dX2_skipLetters_22 : decode cX2_skipLetters 22 = .ok (.ifCond .eq 16, 3) := by decide +kernel
theorem dX2_skipLetters_25 : decode cX2_skipLetters 25 = .ok (.aload_n 0, 1) := by decide +kernel
theorem dX2_skipLetters_26 : decode cX2_skipLetters 26 = .ok (.dup, 1) := by decide +kernel
theorem dX2_skipLetters_27 : decode cX2_skipLetters 27 = .ok (.getfield 44, 3) := by decide +kernel
theorem dX2_skipLetters_30 : decode cX2_skipLetters 30 = .ok (.iconst 1, 1) := by decide +kernel
theorem dX2_skipLetters_31 : decode cX2_skipLetters 31 = .ok (.iadd, 1) := by decide +kernel
theorem dX2_skipLetters_32 : decode cX2_skipLetters 32 = .ok (.putfield 44, 3) := by decide +kernel
theorem dX2_skipLetters_35 : decode cX2_skipLetters 35 = .ok (.goto (-35), 3) := by decide +kernel
theorem dX2_skipLetters_38 : decode cX2_skipLetters 38 = .ok (.return_, 1) := by decide +kernel
theorem dX2_byteAt_0 : decode cX2_byteAt 0 = .ok (.iload_n 1, 1) := by decide +kernel
theorem dX2_byteAt_1 : decode cX2_byteAt 1 = .ok (.ifCond .lt 33, 3) := by decide +kernel
theorem dX2_byteAt_4 : decode cX2_byteAt 4 = .ok (.iload_n 1, 1) := by decide +kernel
theorem dX2_byteAt_5 : decode cX2_byteAt 5 = .ok (.aload_n 0, 1) := by decide +kernel
theorem dX2_byteAt_6 : decode cX2_byteAt 6 = .ok (.getfield 27, 3) := by decide +kernel
theorem dX2_byteAt_9 : decode cX2_byteAt 9 = .ok (.if_icmp .ge 25, 3) := by decide +kernel
theorem dX2_byteAt_12 : decode cX2_byteAt 12 = .ok (.iload_n 1, 1) := by decide +kernel
theorem dX2_byteAt_13 : decode cX2_byteAt 13 = .ok (.aload_n 0, 1) := by decide +kernel
theorem dX2_byteAt_14 : decode cX2_byteAt 14 = .ok (.getfield 9, 3) := by decide +kernel
theorem dX2_byteAt_17 : decode cX2_byteAt 17 = .ok (.arraylength, 1) := by decide +kernel
theorem dX2_byteAt_18 : decode cX2_byteAt 18 = .ok (.if_icmp .ge 16, 3) := by decide +kernel
theorem dX2_byteAt_21 : decode cX2_byteAt 21 = .ok (.aload_n 0, 1) := by decide +kernel
theorem dX2_byteAt_22 : decode cX2_byteAt 22 = .ok (.getfield 9, 3) := by decide +kernel
theorem dX2_byteAt_25 : decode cX2_byteAt 25 = .ok (.iload_n 1, 1) := by decide +kernel
theorem dX2_byteAt_26 : decode cX2_byteAt 26 = .ok (.baload, 1) := by decide +kernel
theorem dX2_byteAt_27 : decode cX2_byteAt 27 = .ok (.sipush 255, 3) := by decide +kernel
theorem dX2_byteAt_30 : decode cX2_byteAt 30 = .ok (.iand, 1) := by decide +kernel
theorem dX2_byteAt_31 : decode cX2_byteAt 31 = .ok (.goto 4, 3) := by decide +kernel
theorem dX2_byteAt_34 : decode cX2_byteAt 34 = .ok (.iconst (-1), 1) := by decide +kernel
theorem dX2_byteAt_35 : decode cX2_byteAt 35 = .ok (.ireturn, 1) := by decide +kernel
theorem dX2_isLetter_0 : decode cX2_isLetter 0 = .ok (.iload_n 0, 1) := by decide +kernel
theorem dX2_isLetter_1 : decode cX2_isLetter 1 = .ok (.bipush 97, 2) := by decide +kernel
theorem dX2_isLetter_3 : decode cX2_isLetter 3 = .ok (.if_icmp .lt 13, 3) := by decide +kernel
theorem dX2_isLetter_6 : decode cX2_isLetter 6 = .ok (.iload_n 0, 1) := by decide +kernel
theorem dX2_isLetter_7 : decode cX2_isLetter 7 = .ok (.bipush 122, 2) := by decide +kernel
theorem dX2_isLetter_9 : decode cX2_isLetter 9 = .ok (.if_icmp .gt 7, 3) := by decide +kernel
theorem dX2_isLetter_12 : decode cX2_isLetter 12 = .ok (.iconst 1, 1) := by decide +kernel
theorem dX2_isLetter_13 : decode cX2_isLetter 13 = .ok (.goto 4, 3) := by decide +kernel
theorem dX2_isLetter_16 : decode cX2_isLetter 16 = .ok (.iconst 0, 1) := by decide +kernel
theorem dX2_isLetter_17 : decode cX2_isLetter 17 = .ok (.ireturn, 1) := by decide +kernel
theorem dX2_isFigure_0 : decode cX2_isFigure 0 = .ok (.iload_n 0, 1) := by decide +kernel
theorem dX2_isFigure_1 : decode cX2_isFigure 1 = .ok (.bipush 48, 2) := by decide +kernel
theorem dX2_isFigure_3 : decode cX2_isFigure 3 = .ok (.if_icmp .lt 13, 3) := by decide +kernel
theorem dX2_isFigure_6 : decode cX2_isFigure 6 = .ok (.iload_n 0, 1) := by decide +kernel
theorem dX2_isFigure_7 : decode cX2_isFigure 7 = .ok (.bipush 57, 2) := by decide +kernel
theorem dX2_isFigure_9 : decode cX2_isFigure 9 = .ok (.if_icmp .gt 7, 3) := by decide +kernel
theorem dX2_isFigure_12 : decode cX2_isFigure 12 = .ok (.iconst 1, 1) := by decide +kernel
theorem dX2_isFigure_13 : decode cX2_isFigure 13 = .ok (.goto 4, 3) := by decide +kernel
theorem dX2_isFigure_16 : decode cX2_isFigure 16 = .ok (.iconst 0, 1) := by decide +kernel
theorem dX2_isFigure_17 : decode cX2_isFigure 17 = .ok (.ireturn, 1) := by decide +kernel
theorem dX3_init_0 : decode cX3_init 0 = .ok (.aload_n 0, 1) := by decide +kernel
theorem dX3_init_1 : decode cX3_init 1 = .ok (.invokespecial 3, 3) := by decide +kernel
theorem dX3_init_4 : decode cX3_init 4 = .ok (.aload_n 0, 1) := by decide +kernel
theorem dX3_init_5 : decode cX3_init 5 = .ok (.bipush 6, 2) := by decide +kernel
theorem dX3_init_7 : decode cX3_init 7 = .ok (.newarray .int, 2) := by decide +kernel
theorem dX3_init_9 : decode cX3_init 9 = .ok (.putfield 9, 3) := by decide +kernel
theorem dX3_init_12 : decode cX3_init 12 = .ok (.aload_n 0, 1) := by decide +kernel
theorem dX3_init_13 : decode cX3_init 13 = .ok (.new 15, 3) := by decide +kernel
theorem dX3_init_16 : decode cX3_init 16 = .ok (.dup, 1) := by decide +kernel
theorem dX3_init_17 : decode cX3_init 17 = .ok (.invokespecial 17, 3) := by decide +kernel
theorem dX3_init_20 : decode cX3_init 20 = .ok (.putfield 18, 3) := by decide +kernel
theorem dX3_init_23 : decode cX3_init 23 = .ok (.return_, 1) := by decide +kernel
theorem dX3_forget_0 : decode cX3_forget 0 = .ok (.aload_n 0, 1) := by decide +kernel
theorem dX3_forget_1 : decode cX3_forget 1 = .ok (.iconst 0, 1) := by decide +kernel
theorem dX3_forget_2 : decode cX3_forget 2 = .ok (.putfield 22, 3) := by decide +kernel
theorem dX3_forget_5 : decode cX3_forget 5 = .ok (.return_, 1) := by decide +kernel
theorem dX3_answer_0 : decode cX3_answer 0 = .ok (.aload_n 0, 1) := by decide +kernel
theorem dX3_answer_1 : decode cX3_answer 1 = .ok (.getfield 22, 3) := by decide +kernel
theorem dX3_answer_4 : decode cX3_answer 4 = .ok (.ifCond .ne 14, 3) := by decide +kernel
theorem dX3_answer_7 : decode cX3_answer 7 = .ok (.aload_n 0, 1) := by decide +kernel
theorem dX3_answer_8 : decode cX3_answer 8 = .ok (.aload_n 1, 1) := by decide +kernel
theorem dX3_answer_9 : decode cX3_answer 9 = .ok (.aload_n 2, 1) := by decide +kernel
theorem dX3_answer_10 : decode cX3_answer 10 = .ok (.invokevirtual 26, 3) := by decide +kernel
theorem dX3_answer_13 : decode cX3_answer 13 = .ok (.aload_n 0, 1) := by decide +kernel
theorem dX3_answer_14 : decode cX3_answer 14 = .ok (.iconst 1, 1) := by decide +kernel
theorem dX3_answer_15 : decode cX3_answer 15 = .ok (.putfield 22, 3) := by decide +kernel
theorem dX3_answer_18 : decode cX3_answer 18 = .ok (.iload_n 3, 1) := by decide +kernel
theorem dX3_answer_19 : decode cX3_answer 19 = .ok (.iconst (-1), 1) := by decide +kernel
theorem dX3_answer_20 : decode cX3_answer 20 = .ok (.if_icmp .eq 11, 3) := by decide +kernel
theorem dX3_answer_23 : decode cX3_answer 23 = .ok (.aload_n 0, 1) := by decide +kernel
theorem dX3_answer_24 : decode cX3_answer 24 = .ok (.getfield 30, 3) := by decide +kernel
theorem dX3_answer_27 : decode cX3_answer 27 = .ok (.iconst (-1), 1) := by decide +kernel
theorem dX3_answer_28 : decode cX3_answer 28 = .ok (.if_icmp .ne 8, 3) := by decide +kernel
theorem dX3_answer_31 : decode cX3_answer 31 = .ok (.aload_n 0, 1) := by decide +kernel
theorem dX3_answer_32 : decode cX3_answer 32 = .ok (.getfield 30, 3) := by decide +kernel
theorem dX3_answer_35 : decode cX3_answer 35 = .ok (.ireturn, 1) := by decide +kernel
theorem dX3_answer_36 : decode cX3_answer 36 = .ok (.aload_n 0, 1) := by decide +kernel
theorem dX3_answer_37 : decode cX3_answer 37 = .ok (.iload_n 3, 1) := by decide +kernel
theorem dX3_answer_38 : decode cX3_answer 38 = .ok (.invokevirtual 34, 3) := by decide +kernel
theorem dX3_answer_41 : decode cX3_answer 41 = .ok (.ireturn, 1) := by decide +kernel
theorem dX3_turnOf_0 : decode cX3_turnOf 0 = .ok (.iload_n 1, 1) := by decide +kernel
theorem dX3_turnOf_1 : decode cX3_turnOf 1 = .ok (.ifCond .lt 21, 3) := by decide +kernel
theorem dX3_turnOf_4 : decode cX3_turnOf 4 = .ok (.iload_n 1, 1) := by decide +kernel
theorem dX3_turnOf_5 : decode cX3_turnOf 5 = .ok (.aload_n 0, 1) := by decide +kernel
theorem dX3_turnOf_6 : decode cX3_turnOf 6 = .ok (.getfield 9, 3) := by decide +kernel
theorem dX3_turnOf_9 : decode cX3_turnOf 9 = .ok (.arraylength, 1) := by decide +kernel
theorem dX3_turnOf_10 : decode cX3_turnOf 10 = .ok (.if_icmp .ge 12, 3) := by decide +kernel
theorem dX3_turnOf_13 : decode cX3_turnOf 13 = .ok (.aload_n 0, 1) := by decide +kernel
theorem dX3_turnOf_14 : decode cX3_turnOf 14 = .ok (.getfield 9, 3) := by decide +kernel
theorem dX3_turnOf_17 : decode cX3_turnOf 17 = .ok (.iload_n 1, 1) := by decide +kernel
theorem dX3_turnOf_18 : decode cX3_turnOf 18 = .ok (.iaload, 1) := by decide +kernel
theorem dX3_turnOf_19 : decode cX3_turnOf 19 = .ok (.goto 4, 3) := by decide +kernel
theorem dX3_turnOf_22 : decode cX3_turnOf 22 = .ok (.iconst (-1), 1) := by decide +kernel
theorem dX3_turnOf_23 : decode cX3_turnOf 23 = .ok (.ireturn, 1) := by decide +kernel
theorem dX3_find_0 : decode cX3_find 0 = .ok (.iconst 0, 1) := by decide +kernel
theorem dX3_find_1 : decode cX3_find 1 = .ok (.istore_n 3, 1) := by decide +kernel
theorem dX3_find_2 : decode cX3_find 2 = .ok (.iload_n 3, 1) := by decide +kernel
theorem dX3_find_3 : decode cX3_find 3 = .ok (.aload_n 0, 1) := by decide +kernel
theorem dX3_find_4 : decode cX3_find 4 = .ok (.getfield 9, 3) := by decide +kernel
theorem dX3_find_7 : decode cX3_find 7 = .ok (.arraylength, 1) := by decide +kernel
theorem dX3_find_8 : decode cX3_find 8 = .ok (.if_icmp .ge 16, 3) := by decide +kernel
theorem dX3_find_11 : decode cX3_find 11 = .ok (.aload_n 0, 1) := by decide +kernel
theorem dX3_find_12 : decode cX3_find 12 = .ok (.getfield 9, 3) := by decide +kernel
theorem dX3_find_15 : decode cX3_find 15 = .ok (.iload_n 3, 1) := by decide +kernel
theorem dX3_find_16 : decode cX3_find 16 = .ok (.iconst (-1), 1) := by decide +kernel
theorem dX3_find_17 : decode cX3_find 17 = .ok (.iastore, 1) := by decide +kernel
theorem dX3_find_18 : decode cX3_find 18 = .ok (.iinc 3 1, 3) := by decide +kernel
theorem dX3_find_21 : decode cX3_find 21 = .ok (.goto (-19), 3) := by decide +kernel
theorem dX3_find_24 : decode cX3_find 24 = .ok (.aload_n 0, 1) := by decide +kernel
theorem dX3_find_25 : decode cX3_find 25 = .ok (.iconst 0, 1) := by decide +kernel
theorem dX3_find_26 : decode cX3_find 26 = .ok (.putfield 30, 3) := by decide +kernel
theorem dX3_find_29 : decode cX3_find 29 = .ok (.aload_n 2, 1) := by decide +kernel
theorem dX3_find_30 : decode cX3_find 30 = .ok (.getfield 38, 3) := by decide +kernel
theorem dX3_find_33 : decode cX3_find 33 = .ok (.iconst (-1), 1) := by decide +kernel
theorem dX3_find_34 : decode cX3_find 34 = .ok (.if_icmp .eq 4, 3) := by decide +kernel
theorem dX3_find_37 : decode cX3_find 37 = .ok (.return_, 1) := by decide +kernel
theorem dX3_find_38 : decode cX3_find 38 = .ok (.iconst 1, 1) := by decide +kernel
theorem dX3_find_39 : decode cX3_find 39 = .ok (.istore_n 3, 1) := by decide +kernel
theorem dX3_find_40 : decode cX3_find 40 = .ok (.iconst 1, 1) := by decide +kernel
theorem dX3_find_41 : decode cX3_find 41 = .ok (.istore 4, 2) := by decide +kernel
theorem dX3_find_43 : decode cX3_find 43 = .ok (.iload 4, 2) := by decide +kernel
theorem dX3_find_45 : decode cX3_find 45 = .ok (.bipush 20, 2) := by decide +kernel
theorem dX3_find_47 : decode cX3_find 47 = .ok (.if_icmp .gt 102, 3) := by decide +kernel
theorem dX3_find_50 : decode cX3_find 50 = .ok (.iload_n 3, 1) := by decide +kernel
theorem dX3_find_51 : decode cX3_find 51 = .ok (.ifCond .eq 98, 3) := by decide +kernel
theorem dX3_find_54 : decode cX3_find 54 = .ok (.iconst 0, 1) := by decide +kernel
theorem dX3_find_55 : decode cX3_find 55 = .ok (.istore_n 3, 1) := by decide +kernel
theorem dX3_find_56 : decode cX3_find 56 = .ok (.iconst 0, 1) := by decide +kernel
theorem dX3_find_57 : decode cX3_find 57 = .ok (.istore 5, 2) := by decide +kernel
theorem dX3_find_59 : decode cX3_find 59 = .ok (.iload 5, 2) := by decide +kernel
theorem dX3_find_61 : decode cX3_find 61 = .ok (.aload_n 1, 1) := by decide +kernel
theorem dX3_find_62 : decode cX3_find 62 = .ok (.getfield 41, 3) := by decide +kernel
theorem dX3_find_65 : decode cX3_find 65 = .ok (.if_icmp .ge 60, 3) := by decide +kernel
theorem dX3_find_68 : decode cX3_find 68 = .ok (.iload 5, 2) := by decide +kernel
theorem dX3_find_70 : decode cX3_find 70 = .ok (.aload_n 0, 1) := by decide +kernel
theorem dX3_find_71 : decode cX3_find 71 = .ok (.getfield 9, 3) := by decide +kernel
theorem dX3_find_74 : decode cX3_find 74 = .ok (.arraylength, 1) := by decide +kernel
theorem dX3_find_75 : decode cX3_find 75 = .ok (.if_icmp .ge 50, 3) := by decide +kernel
theorem dX3_find_78 : decode cX3_find 78 = .ok (.aload_n 0, 1) := by decide +kernel
theorem dX3_find_79 : decode cX3_find 79 = .ok (.aload_n 1, 1) := by decide +kernel
theorem dX3_find_80 : decode cX3_find 80 = .ok (.aload_n 2, 1) := by decide +kernel
theorem dX3_find_81 : decode cX3_find 81 = .ok (.iload 5, 2) := by decide +kernel
theorem dX3_find_83 : decode cX3_find 83 = .ok (.invokevirtual 46, 3) := by decide +kernel
theorem dX3_find_86 : decode cX3_find 86 = .ok (.istore 6, 2) := by decide +kernel
theorem dX3_find_88 : decode cX3_find 88 = .ok (.iload_n 3, 1) := by decide +kernel
theorem dX3_find_89 : decode cX3_find 89 = .ok (.ifCond .ne 15, 3) := by decide +kernel
theorem dX3_find_92 : decode cX3_find 92 = .ok (.iload 6, 2) := by decide +kernel
theorem dX3_find_94 : decode cX3_find 94 = .ok (.aload_n 0, 1) := by decide +kernel
theorem dX3_find_95 : decode cX3_find 95 = .ok (.getfield 9, 3) := by decide +kernel
theorem dX3_find_98 : decode cX3_find 98 = .ok (.iload 5, 2) := by decide +kernel
theorem dX3_find_100 : decode cX3_find 100 = .ok (.iaload, 1) := by decide +kernel
theorem dX3_find_101 : decode cX3_find 101 = .ok (.if_icmp .eq 7, 3) := by decide +kernel
theorem dX3_find_104 : decode cX3_find 104 = .ok (.iconst 1, 1) := by decide +kernel
theorem dX3_find_105 : decode cX3_find 105 = .ok (.goto 4, 3) := by decide +kernel
theorem dX3_find_108 : decode cX3_find 108 = .ok (.iconst 0, 1) := by decide +kernel
theorem dX3_find_109 : decode cX3_find 109 = .ok (.istore_n 3, 1) := by decide +kernel
theorem dX3_find_110 : decode cX3_find 110 = .ok (.aload_n 0, 1) := by decide +kernel
theorem dX3_find_111 : decode cX3_find 111 = .ok (.getfield 9, 3) := by decide +kernel
theorem dX3_find_114 : decode cX3_find 114 = .ok (.iload 5, 2) := by decide +kernel
theorem dX3_find_116 : decode cX3_find 116 = .ok (.iload 6, 2) := by decide +kernel
theorem dX3_find_118 : decode cX3_find 118 = .ok (.iastore, 1) := by decide +kernel
theorem dX3_find_119 : decode cX3_find 119 = .ok (.iinc 5 1, 3) := by decide +kernel
theorem dX3_find_122 : decode cX3_find 122 = .ok (.goto (-63), 3) := by decide +kernel
theorem dX3_find_125 : decode cX3_find 125 = .ok (.aload_n 0, 1) := by decide +kernel
theorem dX3_find_126 : decode cX3_find 126 = .ok (.dup, 1) := by decide +kernel
theorem dX3_find_127 : decode cX3_find 127 = .ok (.getfield 30, 3) := by decide +kernel
theorem dX3_find_130 : decode cX3_find 130 = .ok (.iload_n 3, 1) := by decide +kernel
theorem dX3_find_131 : decode cX3_find 131 = .ok (.ifCond .eq 7, 3) := by decide +kernel
theorem dX3_find_134 : decode cX3_find 134 = .ok (.iconst 1, 1) := by decide +kernel
theorem dX3_find_135 : decode cX3_find 135 = .ok (.goto 4, 3) := by decide +kernel
theorem dX3_find_138 : decode cX3_find 138 = .ok (.iconst 0, 1) := by decide +kernel
theorem dX3_find_139 : decode cX3_find 139 = .ok (.iadd, 1) := by decide +kernel
theorem dX3_find_140 : decode cX3_find 140 = .ok (.putfield 30, 3) := by decide +kernel
theorem dX3_find_143 : decode cX3_find 143 = .ok (.iinc 4 1, 3) := by decide +kernel
theorem dX3_find_146 : decode cX3_find 146 = .ok (.goto (-103), 3) := by decide +kernel
theorem dX3_find_149 : decode cX3_find 149 = .ok (.aload_n 0, 1) := by decide +kernel
theorem dX3_find_150 : decode cX3_find 150 = .ok (.getfield 30, 3) := by decide +kernel
theorem dX3_find_153 : decode cX3_find 153 = .ok (.bipush 20, 2) := by decide +kernel
theorem dX3_find_155 : decode cX3_find 155 = .ok (.if_icmp .ne 8, 3) := by decide +kernel
theorem dX3_find_158 : decode cX3_find 158 = .ok (.aload_n 0, 1) := by decide +kernel
theorem dX3_find_159 : decode cX3_find 159 = .ok (.iconst (-1), 1) := by decide +kernel
theorem dX3_find_160 : decode cX3_find 160 = .ok (.putfield 30, 3) := by decide +kernel
theorem dX3_find_163 : decode cX3_find 163 = .ok (.return_, 1) := by decide +kernel
theorem dX3_bestTurn_0 : decode cX3_bestTurn 0 = .ok (.iconst (-1), 1) := by decide +kernel
theorem dX3_bestTurn_1 : decode cX3_bestTurn 1 = .ok (.istore 4, 2) := by decide +kernel
theorem dX3_bestTurn_3 : decode cX3_bestTurn 3 = .ok (.iconst 0, 1) := by decide +kernel
theorem dX3_bestTurn_4 : decode cX3_bestTurn 4 = .ok (.istore 5, 2) := by decide +kernel
theorem dX3_bestTurn_6 : decode cX3_bestTurn 6 = .ok (.iconst 5, 1) := by decide +kernel
theorem dX3_bestTurn_7 : decode cX3_bestTurn 7 = .ok (.istore 6, 2) := by decide +kernel
theorem dX3_bestTurn_9 : decode cX3_bestTurn 9 = .ok (.iload 6, 2) := by decide +kernel
theorem dX3_bestTurn_11 : decode cX3_bestTurn 11 = .ok (.ifCond .lt 35, 3) := by decide +kernel
theorem dX3_bestTurn_14 : decode cX3_bestTurn 14 = .ok (.aload_n 0, 1) := by decide +kernel
theorem dX3_bestTurn_15 : decode cX3_bestTurn 15 = .ok (.aload_n 1, 1) := by decide +kernel
theorem dX3_bestTurn_16 : decode cX3_bestTurn 16 = .ok (.aload_n 2, 1) := by decide +kernel
theorem dX3_bestTurn_17 : decode cX3_bestTurn 17 = .ok (.iload_n 3, 1) := by decide +kernel
theorem dX3_bestTurn_18 : decode cX3_bestTurn 18 = .ok (.iload 6, 2) := by decide +kernel
theorem dX3_bestTurn_20 : decode cX3_bestTurn 20 = .ok (.invokevirtual 50, 3) := by decide +kernel
theorem dX3_bestTurn_23 : decode cX3_bestTurn 23 = .ok (.istore 7, 2) := by decide +kernel
theorem dX3_bestTurn_25 : decode cX3_bestTurn 25 = .ok (.iload 7, 2) := by decide +kernel
theorem dX3_bestTurn_27 : decode cX3_bestTurn 27 = .ok (.iload 5, 2) := by decide +kernel
theorem dX3_bestTurn_29 : decode cX3_bestTurn 29 = .ok (.if_icmp .le 11, 3) := by decide +kernel
theorem dX3_bestTurn_32 : decode cX3_bestTurn 32 = .ok (.iload 6, 2) := by decide +kernel
theorem dX3_bestTurn_34 : decode cX3_bestTurn 34 = .ok (.istore 4, 2) := by decide +kernel
theorem dX3_bestTurn_36 : decode cX3_bestTurn 36 = .ok (.iload 7, 2) := by decide +kernel
theorem dX3_bestTurn_38 : decode cX3_bestTurn 38 = .ok (.istore 5, 2) := by decide +kernel
theorem dX3_bestTurn_40 : decode cX3_bestTurn 40 = .ok (.iinc 6 (-1), 3) := by decide +kernel
theorem dX3_bestTurn_43 : decode cX3_bestTurn 43 = .ok (.goto (-34), 3) := by decide +kernel
theorem dX3_bestTurn_46 : decode cX3_bestTurn 46 = .ok (.iload 4, 2) := by decide +kernel
theorem dX3_bestTurn_48 : decode cX3_bestTurn 48 = .ok (.ireturn, 1) := by decide +kernel
theorem dX3_gainAt_0 : decode cX3_gainAt 0 = .ok (.aload_n 0, 1) := by decide +kernel
theorem dX3_gainAt_1 : decode cX3_gainAt 1 = .ok (.getfield 18, 3) := by decide +kernel
theorem dX3_gainAt_4 : decode cX3_gainAt 4 = .ok (.aload_n 2, 1) := by decide +kernel
theorem dX3_gainAt_5 : decode cX3_gainAt 5 = .ok (.invokevirtual 54, 3) := by decide +kernel
theorem dX3_gainAt_8 : decode cX3_gainAt 8 = .ok (.iconst 0, 1) := by decide +kernel
theorem dX3_gainAt_9 : decode cX3_gainAt 9 = .ok (.istore 5, 2) := by decide +kernel
theorem dX3_gainAt_11 : decode cX3_gainAt 11 = .ok (.iload 5, 2) := by decide +kernel
theorem dX3_gainAt_13 : decode cX3_gainAt 13 = .ok (.iload 4, 2) := by decide +kernel
theorem dX3_gainAt_15 : decode cX3_gainAt 15 = .ok (.if_icmp .gt 112, 3) := by decide +kernel
theorem dX3_gainAt_18 : decode cX3_gainAt 18 = .ok (.iconst 0, 1) := by decide +kernel
theorem dX3_gainAt_19 : decode cX3_gainAt 19 = .ok (.istore 6, 2) := by decide +kernel
theorem dX3_gainAt_21 : decode cX3_gainAt 21 = .ok (.iload 6, 2) := by decide +kernel
theorem dX3_gainAt_23 : decode cX3_gainAt 23 = .ok (.aload_n 1, 1) := by decide +kernel
theorem dX3_gainAt_24 : decode cX3_gainAt 24 = .ok (.getfield 41, 3) := by decide +kernel
theorem dX3_gainAt_27 : decode cX3_gainAt 27 = .ok (.if_icmp .ge 94, 3) := by decide +kernel
theorem dX3_gainAt_30 : decode cX3_gainAt 30 = .ok (.iload 6, 2) := by decide +kernel
theorem dX3_gainAt_32 : decode cX3_gainAt 32 = .ok (.iload_n 3, 1) := by decide +kernel
theorem dX3_gainAt_33 : decode cX3_gainAt 33 = .ok (.if_icmp .ne 8, 3) := by decide +kernel
theorem dX3_gainAt_36 : decode cX3_gainAt 36 = .ok (.iload 4, 2) := by decide +kernel
theorem dX3_gainAt_38 : decode cX3_gainAt 38 = .ok (.goto 9, 3) := by decide +kernel
theorem dX3_gainAt_41 : decode cX3_gainAt 41 = .ok (.aload_n 0, 1) := by decide +kernel
theorem dX3_gainAt_42 : decode cX3_gainAt 42 = .ok (.iload 6, 2) := by decide +kernel
theorem dX3_gainAt_44 : decode cX3_gainAt 44 = .ok (.invokevirtual 34, 3) := by decide +kernel
theorem dX3_gainAt_47 : decode cX3_gainAt 47 = .ok (.istore 7, 2) := by decide +kernel
theorem dX3_gainAt_49 : decode cX3_gainAt 49 = .ok (.iload 7, 2) := by decide +kernel
theorem dX3_gainAt_51 : decode cX3_gainAt 51 = .ok (.iload 5, 2) := by decide +kernel
theorem dX3_gainAt_53 : decode cX3_gainAt 53 = .ok (.if_icmp .eq 6, 3) := by decide +kernel
theorem dX3_gainAt_56 : decode cX3_gainAt 56 = .ok (.goto 59, 3) := by decide +kernel
theorem dX3_gainAt_59 : decode cX3_gainAt 59 = .ok (.aload_n 0, 1) := by decide +kernel
theorem dX3_gainAt_60 : decode cX3_gainAt 60 = .ok (.getfield 18, 3) := by decide +kernel
theorem dX3_gainAt_63 : decode cX3_gainAt 63 = .ok (.aload_n 1, 1) := by decide +kernel
theorem dX3_gainAt_64 : decode cX3_gainAt 64 = .ok (.iload 6, 2) := by decide +kernel
theorem dX3_gainAt_66 : decode cX3_gainAt 66 = .ok (.iconst 0, 1) := by decide +kernel
theorem dX3_gainAt_67 : decode cX3_gainAt 67 = .ok (.invokevirtual 58, 3) := by decide +kernel
theorem dX3_gainAt_70 : decode cX3_gainAt 70 = .ok (.pop, 1) := by decide +kernel
theorem dX3_gainAt_71 : decode cX3_gainAt 71 = .ok (.iload 6, 2) := by decide +kernel
theorem dX3_gainAt_73 : decode cX3_gainAt 73 = .ok (.iload_n 3, 1) := by decide +kernel
theorem dX3_gainAt_74 : decode cX3_gainAt 74 = .ok (.if_icmp .ne 28, 3) := by decide +kernel
theorem dX3_gainAt_77 : decode cX3_gainAt 77 = .ok (.aload_n 0, 1) := by decide +kernel
theorem dX3_gainAt_78 : decode cX3_gainAt 78 = .ok (.getfield 18, 3) := by decide +kernel
theorem dX3_gainAt_81 : decode cX3_gainAt 81 = .ok (.getfield 38, 3) := by decide +kernel
theorem dX3_gainAt_84 : decode cX3_gainAt 84 = .ok (.iload_n 3, 1) := by decide +kernel
theorem dX3_gainAt_85 : decode cX3_gainAt 85 = .ok (.if_icmp .ne 10, 3) := by decide +kernel
theorem dX3_gainAt_88 : decode cX3_gainAt 88 = .ok (.aload_n 1, 1) := by decide +kernel
theorem dX3_gainAt_89 : decode cX3_gainAt 89 = .ok (.getfield 62, 3) := by decide +kernel
theorem dX3_gainAt_92 : decode cX3_gainAt 92 = .ok (.goto 4, 3) := by decide +kernel
theorem dX3_gainAt_95 : decode cX3_gainAt 95 = .ok (.iconst 0, 1) := by decide +kernel
theorem dX3_gainAt_96 : decode cX3_gainAt 96 = .ok (.aload_n 1, 1) := by decide +kernel
theorem dX3_gainAt_97 : decode cX3_gainAt 97 = .ok (.getfield 65, 3) := by decide +kernel
theorem dX3_gainAt_100 : decode cX3_gainAt 100 = .ok (.isub, 1) := by decide +kernel
theorem dX3_gainAt_101 : decode cX3_gainAt 101 = .ok (.ireturn, 1) := by decide +kernel
theorem dX3_gainAt_102 : decode cX3_gainAt 102 = .ok (.aload_n 0, 1) := by decide +kernel
theorem dX3_gainAt_103 : decode cX3_gainAt 103 = .ok (.getfield 18, 3) := by decide +kernel
theorem dX3_gainAt_106 : decode cX3_gainAt 106 = .ok (.getfield 38, 3) := by decide +kernel
theorem dX3_gainAt_109 : decode cX3_gainAt 109 = .ok (.iconst (-1), 1) := by decide +kernel
theorem dX3_gainAt_110 : decode cX3_gainAt 110 = .ok (.if_icmp .eq 5, 3) := by decide +kernel
theorem dX3_gainAt_113 : decode cX3_gainAt 113 = .ok (.iconst 0, 1) := by decide +kernel
theorem dX3_gainAt_114 : decode cX3_gainAt 114 = .ok (.ireturn, 1) := by decide +kernel
theorem dX3_gainAt_115 : decode cX3_gainAt 115 = .ok (.iinc 6 1, 3) := by decide +kernel
theorem dX3_gainAt_118 : decode cX3_gainAt 118 = .ok (.goto (-97), 3) := by decide +kernel
theorem dX3_gainAt_121 : decode cX3_gainAt 121 = .ok (.iinc 5 1, 3) := by decide +kernel
theorem dX3_gainAt_124 : decode cX3_gainAt 124 = .ok (.goto (-113), 3) := by decide +kernel
theorem dX3_gainAt_127 : decode cX3_gainAt 127 = .ok (.iconst 0, 1) := by decide +kernel
theorem dX3_gainAt_128 : decode cX3_gainAt 128 = .ok (.ireturn, 1) := by decide +kernel
theorem dX4_init_0 : decode cX4_init 0 = .ok (.aload_n 0, 1) := by decide +kernel
theorem dX4_init_1 : decode cX4_init 1 = .ok (.invokespecial 3, 3) := by decide +kernel
theorem dX4_init_4 : decode cX4_init 4 = .ok (.bipush 6, 2) := by decide +kernel
theorem dX4_init_6 : decode cX4_init 6 = .ok (.bipush 6, 2) := by decide +kernel
theorem dX4_init_8 : decode cX4_init 8 = .ok (.invokestatic 9, 3) := by decide +kernel
theorem dX4_init_11 : decode cX4_init 11 = .ok (.istore_n 1, 1) := by decide +kernel
theorem dX4_init_12 : decode cX4_init 12 = .ok (.aload_n 0, 1) := by decide +kernel
theorem dX4_init_13 : decode cX4_init 13 = .ok (.iload_n 1, 1) := by decide +kernel
theorem dX4_init_14 : decode cX4_init 14 = .ok (.anewarray 15, 3) := by decide +kernel
theorem dX4_init_17 : decode cX4_init 17 = .ok (.putfield 17, 3) := by decide +kernel
theorem dX4_init_20 : decode cX4_init 20 = .ok (.iconst 0, 1) := by decide +kernel
theorem dX4_init_21 : decode cX4_init 21 = .ok (.istore_n 2, 1) := by decide +kernel
theorem dX4_init_22 : decode cX4_init 22 = .ok (.iload_n 2, 1) := by decide +kernel
theorem dX4_init_23 : decode cX4_init 23 = .ok (.aload_n 0, 1) := by decide +kernel
theorem dX4_init_24 : decode cX4_init 24 = .ok (.getfield 17, 3) := by decide +kernel
theorem dX4_init_27 : decode cX4_init 27 = .ok (.arraylength, 1) := by decide +kernel
theorem dX4_init_28 : decode cX4_init 28 = .ok (.if_icmp .ge 22, 3) := by decide +kernel
theorem dX4_init_31 : decode cX4_init 31 = .ok (.aload_n 0, 1) := by decide +kernel
theorem dX4_init_32 : decode cX4_init 32 = .ok (.getfield 17, 3) := by decide +kernel
theorem dX4_init_35 : decode cX4_init 35 = .ok (.iload_n 2, 1) := by decide +kernel
theorem dX4_init_36 : decode cX4_init 36 = .ok (.new 15, 3) := by decide +kernel
theorem dX4_init_39 : decode cX4_init 39 = .ok (.dup, 1) := by decide +kernel
theorem dX4_init_40 : decode cX4_init 40 = .ok (.invokespecial 23, 3) := by decide +kernel
theorem dX4_init_43 : decode cX4_init 43 = .ok (.aastore, 1) := by decide +kernel
theorem dX4_init_44 : decode cX4_init 44 = .ok (.iinc 2 1, 3) := by decide +kernel
theorem dX4_init_47 : decode cX4_init 47 = .ok (.goto (-25), 3) := by decide +kernel
theorem dX4_init_50 : decode cX4_init 50 = .ok (.aload_n 0, 1) := by decide +kernel
theorem dX4_init_51 : decode cX4_init 51 = .ok (.iload_n 1, 1) := by decide +kernel
theorem dX4_init_52 : decode cX4_init 52 = .ok (.newarray .int, 2) := by decide +kernel
theorem dX4_init_54 : decode cX4_init 54 = .ok (.putfield 24, 3) := by decide +kernel
theorem dX4_init_57 : decode cX4_init 57 = .ok (.aload_n 0, 1) := by decide +kernel
theorem dX4_init_58 : decode cX4_init 58 = .ok (.bipush 6, 2) := by decide +kernel
theorem dX4_init_60 : decode cX4_init 60 = .ok (.newarray .int, 2) := by decide +kernel
theorem dX4_init_62 : decode cX4_init 62 = .ok (.putfield 28, 3) := by decide +kernel
theorem dX4_init_65 : decode cX4_init 65 = .ok (.aload_n 0, 1) := by decide +kernel
theorem dX4_init_66 : decode cX4_init 66 = .ok (.bipush 6, 2) := by decide +kernel
theorem dX4_init_68 : decode cX4_init 68 = .ok (.bipush 6, 2) := by decide +kernel
theorem dX4_init_70 : decode cX4_init 70 = .ok (.multianewarray 31 2, 4) := by decide +kernel
theorem dX4_init_74 : decode cX4_init 74 = .ok (.putfield 33, 3) := by decide +kernel
theorem dX4_init_77 : decode cX4_init 77 = .ok (.aload_n 0, 1) := by decide +kernel
theorem dX4_init_78 : decode cX4_init 78 = .ok (.bipush 6, 2) := by decide +kernel
theorem dX4_init_80 : decode cX4_init 80 = .ok (.newarray .int, 2) := by decide +kernel
theorem dX4_init_82 : decode cX4_init 82 = .ok (.putfield 36, 3) := by decide +kernel
theorem dX4_init_85 : decode cX4_init 85 = .ok (.aload_n 0, 1) := by decide +kernel
theorem dX4_init_86 : decode cX4_init 86 = .ok (.bipush 6, 2) := by decide +kernel
theorem dX4_init_88 : decode cX4_init 88 = .ok (.newarray .boolean, 2) := by decide +kernel
theorem dX4_init_90 : decode cX4_init 90 = .ok (.putfield 39, 3) := by decide +kernel
theorem dX4_init_93 : decode cX4_init 93 = .ok (.return_, 1) := by decide +kernel
theorem dX4_forget_0 : decode cX4_forget 0 = .ok (.aload_n 0, 1) := by decide +kernel
theorem dX4_forget_1 : decode cX4_forget 1 = .ok (.iconst 0, 1) := by decide +kernel
theorem dX4_forget_2 : decode cX4_forget 2 = .ok (.putfield 43, 3) := by decide +kernel
theorem dX4_forget_5 : decode cX4_forget 5 = .ok (.iconst 0, 1) := by decide +kernel
theorem dX4_forget_6 : decode cX4_forget 6 = .ok (.istore_n 1, 1) := by decide +kernel
theorem dX4_forget_7 : decode cX4_forget 7 = .ok (.iload_n 1, 1) := by decide +kernel
theorem dX4_forget_8 : decode cX4_forget 8 = .ok (.aload_n 0, 1) := by decide +kernel
theorem dX4_forget_9 : decode cX4_forget 9 = .ok (.getfield 39, 3) := by decide +kernel
theorem dX4_forget_12 : decode cX4_forget 12 = .ok (.arraylength, 1) := by decide +kernel
theorem dX4_forget_13 : decode cX4_forget 13 = .ok (.if_icmp .ge 16, 3) := by decide +kernel
theorem dX4_forget_16 : decode cX4_forget 16 = .ok (.aload_n 0, 1) := by decide +kernel
theorem dX4_forget_17 : decode cX4_forget 17 = .ok (.getfield 39, 3) := by decide +kernel
theorem dX4_forget_20 : decode cX4_forget 20 = .ok (.iload_n 1, 1) := by decide +kernel
theorem dX4_forget_21 : decode cX4_forget 21 = .ok (.iconst 0, 1) := by decide +kernel
theorem dX4_forget_22 : decode cX4_forget 22 = .ok (.bastore, 1) := by decide +kernel
theorem dX4_forget_23 : decode cX4_forget 23 = .ok (.iinc 1 1, 3) := by decide +kernel
theorem dX4_forget_26 : decode cX4_forget 26 = .ok (.goto (-19), 3) := by decide +kernel
theorem dX4_forget_29 : decode cX4_forget 29 = .ok (.return_, 1) := by decide +kernel
theorem dX4_ofAll_0 : decode cX4_ofAll 0 = .ok (.aload_n 0, 1) := by decide +kernel
theorem dX4_ofAll_1 : decode cX4_ofAll 1 = .ok (.getfield 43, 3) := by decide +kernel
theorem dX4_ofAll_4 : decode cX4_ofAll 4 = .ok (.ifCond .ne 9, 3) := by decide +kernel
theorem dX4_ofAll_7 : decode cX4_ofAll 7 = .ok (.aload_n 0, 1) := by decide +kernel
theorem dX4_ofAll_8 : decode cX4_ofAll 8 = .ok (.aload_n 1, 1) := by decide +kernel
theorem dX4_ofAll_9 : decode cX4_ofAll 9 = .ok (.aload_n 2, 1) := by decide +kernel
theorem dX4_ofAll_10 : decode cX4_ofAll 10 = .ok (.invokevirtual 47, 3) := by decide +kernel
theorem dX4_ofAll_13 : decode cX4_ofAll 13 = .ok (.iload_n 3, 1) := by decide +kernel
theorem dX4_ofAll_14 : decode cX4_ofAll 14 = .ok (.iconst (-1), 1) := by decide +kernel
theorem dX4_ofAll_15 : decode cX4_ofAll 15 = .ok (.if_icmp .eq 11, 3) := by decide +kernel
theorem dX4_ofAll_18 : decode cX4_ofAll 18 = .ok (.aload_n 0, 1) := by decide +kernel
theorem dX4_ofAll_19 : decode cX4_ofAll 19 = .ok (.getfield 51, 3) := by decide +kernel
theorem dX4_ofAll_22 : decode cX4_ofAll 22 = .ok (.iconst (-1), 1) := by decide +kernel
theorem dX4_ofAll_23 : decode cX4_ofAll 23 = .ok (.if_icmp .ne 8, 3) := by decide +kernel
theorem dX4_ofAll_26 : decode cX4_ofAll 26 = .ok (.aload_n 0, 1) := by decide +kernel
theorem dX4_ofAll_27 : decode cX4_ofAll 27 = .ok (.getfield 51, 3) := by decide +kernel
theorem dX4_ofAll_30 : decode cX4_ofAll 30 = .ok (.ireturn, 1) := by decide +kernel
theorem dX4_ofAll_31 : decode cX4_ofAll 31 = .ok (.iload_n 3, 1) := by decide +kernel
theorem dX4_ofAll_32 : decode cX4_ofAll 32 = .ok (.bipush (-2), 2) := by decide +kernel
theorem dX4_ofAll_34 : decode cX4_ofAll 34 = .ok (.if_icmp .ne 12, 3) := by decide +kernel
theorem dX4_ofAll_37 : decode cX4_ofAll 37 = .ok (.aload_n 0, 1) := by decide +kernel
theorem dX4_ofAll_38 : decode cX4_ofAll 38 = .ok (.getfield 51, 3) := by decide +kernel
theorem dX4_ofAll_41 : decode cX4_ofAll 41 = .ok (.iconst 1, 1) := by decide +kernel
theorem dX4_ofAll_42 : decode cX4_ofAll 42 = .ok (.isub, 1) := by decide +kernel
theorem dX4_ofAll_43 : decode cX4_ofAll 43 = .ok (.goto 4, 3) := by decide +kernel
theorem dX4_ofAll_46 : decode cX4_ofAll 46 = .ok (.iload_n 3, 1) := by decide +kernel
theorem dX4_ofAll_47 : decode cX4_ofAll 47 = .ok (.istore 4, 2) := by decide +kernel
theorem dX4_ofAll_49 : decode cX4_ofAll 49 = .ok (.iload 4, 2) := by decide +kernel
theorem dX4_ofAll_51 : decode cX4_ofAll 51 = .ok (.ifCond .lt 32, 3) := by decide +kernel
theorem dX4_ofAll_54 : decode cX4_ofAll 54 = .ok (.iload 4, 2) := by decide +kernel
theorem dX4_ofAll_56 : decode cX4_ofAll 56 = .ok (.aload_n 1, 1) := by decide +kernel
theorem dX4_ofAll_57 : decode cX4_ofAll 57 = .ok (.getfield 55, 3) := by decide +kernel
theorem dX4_ofAll_60 : decode cX4_ofAll 60 = .ok (.if_icmp .ge 23, 3) := by decide +kernel
theorem dX4_ofAll_63 : decode cX4_ofAll 63 = .ok (.iload 4, 2) := by decide +kernel
theorem dX4_ofAll_65 : decode cX4_ofAll 65 = .ok (.aload_n 0, 1) := by decide +kernel
theorem dX4_ofAll_66 : decode cX4_ofAll 66 = .ok (.getfield 28, 3) := by decide +kernel
theorem dX4_ofAll_69 : decode cX4_ofAll 69 = .ok (.arraylength, 1) := by decide +kernel
theorem dX4_ofAll_70 : decode cX4_ofAll 70 = .ok (.if_icmp .ge 13, 3) := by decide +kernel
theorem dX4_ofAll_73 : decode cX4_ofAll 73 = .ok (.aload_n 0, 1) := by decide +kernel
theorem dX4_ofAll_74 : decode cX4_ofAll 74 = .ok (.getfield 28, 3) := by decide +kernel
theorem dX4_ofAll_77 : decode cX4_ofAll 77 = .ok (.iload 4, 2) := by decide +kernel
theorem dX4_ofAll_79 : decode cX4_ofAll 79 = .ok (.iaload, 1) := by decide +kernel
theorem dX4_ofAll_80 : decode cX4_ofAll 80 = .ok (.goto 4, 3) := by decide +kernel
theorem dX4_ofAll_83 : decode cX4_ofAll 83 = .ok (.iconst (-1), 1) := by decide +kernel
theorem dX4_ofAll_84 : decode cX4_ofAll 84 = .ok (.ireturn, 1) := by decide +kernel
theorem dX4_findAll_0 : decode cX4_findAll 0 = .ok (.aload_n 0, 1) := by decide +kernel
theorem dX4_findAll_1 : decode cX4_findAll 1 = .ok (.iconst 1, 1) := by decide +kernel
theorem dX4_findAll_2 : decode cX4_findAll 2 = .ok (.putfield 60, 3) := by decide +kernel
theorem dX4_findAll_5 : decode cX4_findAll 5 = .ok (.aload_n 0, 1) := by decide +kernel
theorem dX4_findAll_6 : decode cX4_findAll 6 = .ok (.iconst (-1), 1) := by decide +kernel
theorem dX4_findAll_7 : decode cX4_findAll 7 = .ok (.putfield 63, 3) := by decide +kernel
theorem dX4_findAll_10 : decode cX4_findAll 10 = .ok (.aload_n 0, 1) := by decide +kernel
theorem dX4_findAll_11 : decode cX4_findAll 11 = .ok (.aload_n 0, 1) := by decide +kernel
theorem dX4_findAll_12 : decode cX4_findAll 12 = .ok (.aload_n 1, 1) := by decide +kernel
theorem dX4_findAll_13 : decode cX4_findAll 13 = .ok (.aload_n 2, 1) := by decide +kernel
theorem dX4_findAll_14 : decode cX4_findAll 14 = .ok (.aload_n 1, 1) := by decide +kernel
theorem dX4_findAll_15 : decode cX4_findAll 15 = .ok (.getfield 55, 3) := by decide +kernel
theorem dX4_findAll_18 : decode cX4_findAll 18 = .ok (.invokevirtual 66, 3) := by decide +kernel
theorem dX4_findAll_21 : decode cX4_findAll 21 = .ok (.putfield 51, 3) := by decide +kernel
theorem dX4_findAll_24 : decode cX4_findAll 24 = .ok (.aload_n 0, 1) := by decide +kernel
theorem dX4_findAll_25 : decode cX4_findAll 25 = .ok (.iconst 1, 1) := by decide +kernel
theorem dX4_findAll_26 : decode cX4_findAll 26 = .ok (.putfield 43, 3) := by decide +kernel
theorem dX4_findAll_29 : decode cX4_findAll 29 = .ok (.iconst 0, 1) := by decide +kernel
theorem dX4_findAll_30 : decode cX4_findAll 30 = .ok (.istore_n 3, 1) := by decide +kernel
theorem dX4_findAll_31 : decode cX4_findAll 31 = .ok (.iconst 0, 1) := by decide +kernel
theorem dX4_findAll_32 : decode cX4_findAll 32 = .ok (.istore 4, 2) := by decide +kernel
theorem dX4_findAll_34 : decode cX4_findAll 34 = .ok (.iload 4, 2) := by decide +kernel
theorem dX4_findAll_36 : decode cX4_findAll 36 = .ok (.aload_n 0, 1) := by decide +kernel
theorem dX4_findAll_37 : decode cX4_findAll 37 = .ok (.getfield 51, 3) := by decide +kernel
theorem dX4_findAll_40 : decode cX4_findAll 40 = .ok (.if_icmp .ge 55, 3) := by decide +kernel
theorem dX4_findAll_43 : decode cX4_findAll 43 = .ok (.iload 4, 2) := by decide +kernel
theorem dX4_findAll_45 : decode cX4_findAll 45 = .ok (.aload_n 0, 1) := by decide +kernel
theorem dX4_findAll_46 : decode cX4_findAll 46 = .ok (.getfield 28, 3) := by decide +kernel
theorem dX4_findAll_49 : decode cX4_findAll 49 = .ok (.arraylength, 1) := by decide +kernel
theorem dX4_findAll_50 : decode cX4_findAll 50 = .ok (.if_icmp .ge 45, 3) := by decide +kernel
theorem dX4_findAll_53 : decode cX4_findAll 53 = .ok (.iload 4, 2) := by decide +kernel
theorem dX4_findAll_55 : decode cX4_findAll 55 = .ok (.aload_n 0, 1) := by decide +kernel
theorem dX4_findAll_56 : decode cX4_findAll 56 = .ok (.getfield 24, 3) := by decide +kernel
theorem dX4_findAll_59 : decode cX4_findAll 59 = .ok (.arraylength, 1) := by decide +kernel
theorem dX4_findAll_60 : decode cX4_findAll 60 = .ok (.if_icmp .ge 35, 3) := by decide +kernel
theorem dX4_findAll_63 : decode cX4_findAll 63 = .ok (.aload_n 0, 1) := by decide +kernel
theorem dX4_findAll_64 : decode cX4_findAll 64 = .ok (.getfield 28, 3) := by decide +kernel
theorem dX4_findAll_67 : decode cX4_findAll 67 = .ok (.iload 4, 2) := by decide +kernel
theorem dX4_findAll_69 : decode cX4_findAll 69 = .ok (.aload_n 0, 1) := by decide +kernel
theorem dX4_findAll_70 : decode cX4_findAll 70 = .ok (.getfield 24, 3) := by decide +kernel
theorem dX4_findAll_73 : decode cX4_findAll 73 = .ok (.iload 4, 2) := by decide +kernel
theorem dX4_findAll_75 : decode cX4_findAll 75 = .ok (.iaload, 1) := by decide +kernel
theorem dX4_findAll_76 : decode cX4_findAll 76 = .ok (.iastore, 1) := by decide +kernel
theorem dX4_findAll_77 : decode cX4_findAll 77 = .ok (.iload_n 3, 1) := by decide +kernel
theorem dX4_findAll_78 : decode cX4_findAll 78 = .ok (.iconst 1, 1) := by decide +kernel
theorem dX4_findAll_79 : decode cX4_findAll 79 = .ok (.aload_n 0, 1) := by decide +kernel
theorem dX4_findAll_80 : decode cX4_findAll 80 = .ok (.getfield 24, 3) := by decide +kernel
theorem dX4_findAll_83 : decode cX4_findAll 83 = .ok (.iload 4, 2) := by decide +kernel
theorem dX4_findAll_85 : decode cX4_findAll 85 = .ok (.iaload, 1) := by decide +kernel
theorem dX4_findAll_86 : decode cX4_findAll 86 = .ok (.ishl, 1) := by decide +kernel
theorem dX4_findAll_87 : decode cX4_findAll 87 = .ok (.ior, 1) := by decide +kernel
theorem dX4_findAll_88 : decode cX4_findAll 88 = .ok (.istore_n 3, 1) := by decide +kernel
theorem dX4_findAll_89 : decode cX4_findAll 89 = .ok (.iinc 4 1, 3) := by decide +kernel
theorem dX4_findAll_92 : decode cX4_findAll 92 = .ok (.goto (-58), 3) := by decide +kernel
theorem dX4_findAll_95 : decode cX4_findAll 95 = .ok (.aload_n 0, 1) := by decide +kernel
theorem dX4_findAll_96 : decode cX4_findAll 96 = .ok (.getfield 51, 3) := by decide +kernel
theorem dX4_findAll_99 : decode cX4_findAll 99 = .ok (.iconst 0, 1) := by decide +kernel
theorem dX4_findAll_100 : decode cX4_findAll 100 = .ok (.invokestatic 9, 3) := by decide +kernel
theorem dX4_findAll_103 : decode cX4_findAll 103 = .ok (.istore 4, 2) := by decide +kernel
theorem dX4_findAll_105 : decode cX4_findAll 105 = .ok (.iconst 0, 1) := by decide +kernel
theorem dX4_findAll_106 : decode cX4_findAll 106 = .ok (.istore 5, 2) := by decide +kernel
theorem dX4_findAll_108 : decode cX4_findAll 108 = .ok (.iload 5, 2) := by decide +kernel
theorem dX4_findAll_110 : decode cX4_findAll 110 = .ok (.aload_n 1, 1) := by decide +kernel
theorem dX4_findAll_111 : decode cX4_findAll 111 = .ok (.getfield 55, 3) := by decide +kernel
theorem dX4_findAll_114 : decode cX4_findAll 114 = .ok (.if_icmp .ge 40, 3) := by decide +kernel
theorem dX4_findAll_117 : decode cX4_findAll 117 = .ok (.iload 4, 2) := by decide +kernel
theorem dX4_findAll_119 : decode cX4_findAll 119 = .ok (.aload_n 0, 1) := by decide +kernel
theorem dX4_findAll_120 : decode cX4_findAll 120 = .ok (.getfield 28, 3) := by decide +kernel
theorem dX4_findAll_123 : decode cX4_findAll 123 = .ok (.arraylength, 1) := by decide +kernel
theorem dX4_findAll_124 : decode cX4_findAll 124 = .ok (.if_icmp .ge 30, 3) := by decide +kernel
theorem dX4_findAll_127 : decode cX4_findAll 127 = .ok (.iload_n 3, 1) := by decide +kernel
theorem dX4_findAll_128 : decode cX4_findAll 128 = .ok (.iload 5, 2) := by decide +kernel
theorem dX4_findAll_130 : decode cX4_findAll 130 = .ok (.ishr, 1) := by decide +kernel
theorem dX4_findAll_131 : decode cX4_findAll 131 = .ok (.iconst 1, 1) := by decide +kernel
theorem dX4_findAll_132 : decode cX4_findAll 132 = .ok (.iand, 1) := by decide +kernel
theorem dX4_findAll_133 : decode cX4_findAll 133 = .ok (.ifCond .ne 15, 3) := by decide +kernel
theorem dX4_findAll_136 : decode cX4_findAll 136 = .ok (.aload_n 0, 1) := by decide +kernel
theorem dX4_findAll_137 : decode cX4_findAll 137 = .ok (.getfield 28, 3) := by decide +kernel
theorem dX4_findAll_140 : decode cX4_findAll 140 = .ok (.iload 4, 2) := by decide +kernel
theorem dX4_findAll_142 : decode cX4_findAll 142 = .ok (.iload 5, 2) := by decide +kernel
theorem dX4_findAll_144 : decode cX4_findAll 144 = .ok (.iastore, 1) := by decide +kernel
theorem dX4_findAll_145 : decode cX4_findAll 145 = .ok (.iinc 4 1, 3) := by decide +kernel
theorem dX4_findAll_148 : decode cX4_findAll 148 = .ok (.iinc 5 1, 3) := by decide +kernel
theorem dX4_findAll_151 : decode cX4_findAll 151 = .ok (.goto (-43), 3) := by decide +kernel
theorem dX4_findAll_154 : decode cX4_findAll 154 = .ok (.return_, 1) := by decide +kernel
theorem dX4_ofOne_0 : decode cX4_ofOne 0 = .ok (.iload_n 3, 1) := by decide +kernel
theorem dX4_ofOne_1 : decode cX4_ofOne 1 = .ok (.ifCond .lt 30, 3) := by decide +kernel
theorem dX4_ofOne_4 : decode cX4_ofOne 4 = .ok (.iload_n 3, 1) := by decide +kernel
theorem dX4_ofOne_5 : decode cX4_ofOne 5 = .ok (.aload_n 0, 1) := by decide +kernel
theorem dX4_ofOne_6 : decode cX4_ofOne 6 = .ok (.getfield 39, 3) := by decide +kernel
theorem dX4_ofOne_9 : decode cX4_ofOne 9 = .ok (.arraylength, 1) := by decide +kernel
theorem dX4_ofOne_10 : decode cX4_ofOne 10 = .ok (.if_icmp .ge 21, 3) := by decide +kernel
theorem dX4_ofOne_13 : decode cX4_ofOne 13 = .ok (.iload_n 3, 1) := by decide +kernel
theorem dX4_ofOne_14 : decode cX4_ofOne 14 = .ok (.aload_n 0, 1) := by decide +kernel
theorem dX4_ofOne_15 : decode cX4_ofOne 15 = .ok (.getfield 36, 3) := by decide +kernel
theorem dX4_ofOne_18 : decode cX4_ofOne 18 = .ok (.arraylength, 1) := by decide +kernel
theorem dX4_ofOne_19 : decode cX4_ofOne 19 = .ok (.if_icmp .ge 12, 3) := by decide +kernel
theorem dX4_ofOne_22 : decode cX4_ofOne 22 = .ok (.iload_n 3, 1) := by decide +kernel
theorem dX4_ofOne_23 : decode cX4_ofOne 23 = .ok (.aload_n 0, 1) := by decide +kernel
theorem dX4_ofOne_24 : decode cX4_ofOne 24 = .ok (.getfield 33, 3) := by decide +kernel
theorem dX4_ofOne_27 : decode cX4_ofOne 27 = .ok (.arraylength, 1) := by decide +kernel
theorem dX4_ofOne_28 : decode cX4_ofOne 28 = .ok (.if_icmp .lt 5, 3) := by decide +kernel
theorem dX4_ofOne_31 : decode cX4_ofOne 31 = .ok (.iconst (-1), 1) := by decide +kernel
theorem dX4_ofOne_32 : decode cX4_ofOne 32 = .ok (.ireturn, 1) := by decide +kernel
theorem dX4_ofOne_33 : decode cX4_ofOne 33 = .ok (.aload_n 0, 1) := by decide +kernel
theorem dX4_ofOne_34 : decode cX4_ofOne 34 = .ok (.getfield 39, 3) := by decide +kernel
theorem dX4_ofOne_37 : decode cX4_ofOne 37 = .ok (.iload_n 3, 1) := by decide +kernel
theorem dX4_ofOne_38 : decode cX4_ofOne 38 = .ok (.baload, 1) := by decide +kernel
theorem dX4_ofOne_39 : decode cX4_ofOne 39 = .ok (.ifCond .ne 47, 3) := by decide +kernel
theorem dX4_ofOne_42 : decode cX4_ofOne 42 = .ok (.aload_n 0, 1) := by decide +kernel
theorem dX4_ofOne_43 : decode cX4_ofOne 43 = .ok (.iconst 0, 1) := by decide +kernel
theorem dX4_ofOne_44 : decode cX4_ofOne 44 = .ok (.putfield 60, 3) := by decide +kernel
theorem dX4_ofOne_47 : decode cX4_ofOne 47 = .ok (.aload_n 0, 1) := by decide +kernel
theorem dX4_ofOne_48 : decode cX4_ofOne 48 = .ok (.iload_n 3, 1) := by decide +kernel
theorem dX4_ofOne_49 : decode cX4_ofOne 49 = .ok (.putfield 63, 3) := by decide +kernel
theorem dX4_ofOne_52 : decode cX4_ofOne 52 = .ok (.aload_n 0, 1) := by decide +kernel
theorem dX4_ofOne_53 : decode cX4_ofOne 53 = .ok (.getfield 36, 3) := by decide +kernel
theorem dX4_ofOne_56 : decode cX4_ofOne 56 = .ok (.iload_n 3, 1) := by decide +kernel
theorem dX4_ofOne_57 : decode cX4_ofOne 57 = .ok (.aload_n 0, 1) := by decide +kernel
theorem dX4_ofOne_58 : decode cX4_ofOne 58 = .ok (.aload_n 1, 1) := by decide +kernel
theorem dX4_ofOne_59 : decode cX4_ofOne 59 = .ok (.aload_n 2, 1) := by decide +kernel
theorem dX4_ofOne_60 : decode cX4_ofOne 60 = .ok (.bipush 6, 2) := by decide +kernel
theorem dX4_ofOne_62 : decode cX4_ofOne 62 = .ok (.invokevirtual 66, 3) := by decide +kernel
theorem dX4_ofOne_65 : decode cX4_ofOne 65 = .ok (.iastore, 1) := by decide +kernel
theorem dX4_ofOne_66 : decode cX4_ofOne 66 = .ok (.aload_n 0, 1) := by decide +kernel
theorem dX4_ofOne_67 : decode cX4_ofOne 67 = .ok (.getfield 39, 3) := by decide +kernel
theorem dX4_ofOne_70 : decode cX4_ofOne 70 = .ok (.iload_n 3, 1) := by decide +kernel
theorem dX4_ofOne_71 : decode cX4_ofOne 71 = .ok (.iconst 1, 1) := by decide +kernel
theorem dX4_ofOne_72 : decode cX4_ofOne 72 = .ok (.bastore, 1) := by decide +kernel
theorem dX4_ofOne_73 : decode cX4_ofOne 73 = .ok (.aload_n 0, 1) := by decide +kernel
theorem dX4_ofOne_74 : decode cX4_ofOne 74 = .ok (.getfield 24, 3) := by decide +kernel
theorem dX4_ofOne_77 : decode cX4_ofOne 77 = .ok (.aload_n 0, 1) := by decide +kernel
theorem dX4_ofOne_78 : decode cX4_ofOne 78 = .ok (.getfield 33, 3) := by decide +kernel
theorem dX4_ofOne_81 : decode cX4_ofOne 81 = .ok (.iload_n 3, 1) := by decide +kernel
theorem dX4_ofOne_82 : decode cX4_ofOne 82 = .ok (.aaload, 1) := by decide +kernel
theorem dX4_ofOne_83 : decode cX4_ofOne 83 = .ok (.invokestatic 70, 3) := by decide +kernel
theorem dX4_ofOne_86 : decode cX4_ofOne 86 = .ok (.iload 4, 2) := by decide +kernel
theorem dX4_ofOne_88 : decode cX4_ofOne 88 = .ok (.iconst (-1), 1) := by decide +kernel
theorem dX4_ofOne_89 : decode cX4_ofOne 89 = .ok (.if_icmp .ne 10, 3) := by decide +kernel
theorem dX4_ofOne_92 : decode cX4_ofOne 92 = .ok (.aload_n 0, 1) := by decide +kernel
theorem dX4_ofOne_93 : decode cX4_ofOne 93 = .ok (.getfield 36, 3) := by decide +kernel
theorem dX4_ofOne_96 : decode cX4_ofOne 96 = .ok (.iload_n 3, 1) := by decide +kernel
theorem dX4_ofOne_97 : decode cX4_ofOne 97 = .ok (.iaload, 1) := by decide +kernel
theorem dX4_ofOne_98 : decode cX4_ofOne 98 = .ok (.ireturn, 1) := by decide +kernel
theorem dX4_ofOne_99 : decode cX4_ofOne 99 = .ok (.iload 4, 2) := by decide +kernel
theorem dX4_ofOne_101 : decode cX4_ofOne 101 = .ok (.ifCond .lt 38, 3) := by decide +kernel
theorem dX4_ofOne_104 : decode cX4_ofOne 104 = .ok (.iload 4, 2) := by decide +kernel
theorem dX4_ofOne_106 : decode cX4_ofOne 106 = .ok (.aload_n 0, 1) := by decide +kernel
theorem dX4_ofOne_107 : decode cX4_ofOne 107 = .ok (.getfield 36, 3) := by decide +kernel
theorem dX4_ofOne_110 : decode cX4_ofOne 110 = .ok (.iload_n 3, 1) := by decide +kernel
theorem dX4_ofOne_111 : decode cX4_ofOne 111 = .ok (.iaload, 1) := by decide +kernel
theorem dX4_ofOne_112 : decode cX4_ofOne 112 = .ok (.if_icmp .ge 27, 3) := by decide +kernel
theorem dX4_ofOne_115 : decode cX4_ofOne 115 = .ok (.iload 4, 2) := by decide +kernel
theorem dX4_ofOne_117 : decode cX4_ofOne 117 = .ok (.aload_n 0, 1) := by decide +kernel
theorem dX4_ofOne_118 : decode cX4_ofOne 118 = .ok (.getfield 33, 3) := by decide +kernel
theorem dX4_ofOne_121 : decode cX4_ofOne 121 = .ok (.iload_n 3, 1) := by decide +kernel
theorem dX4_ofOne_122 : decode cX4_ofOne 122 = .ok (.aaload, 1) := by decide +kernel
theorem dX4_ofOne_123 : decode cX4_ofOne 123 = .ok (.arraylength, 1) := by decide +kernel
theorem dX4_ofOne_124 : decode cX4_ofOne 124 = .ok (.if_icmp .ge 15, 3) := by decide +kernel
theorem dX4_ofOne_127 : decode cX4_ofOne 127 = .ok (.aload_n 0, 1) := by decide +kernel
theorem dX4_ofOne_128 : decode cX4_ofOne 128 = .ok (.getfield 33, 3) := by decide +kernel
theorem dX4_ofOne_131 : decode cX4_ofOne 131 = .ok (.iload_n 3, 1) := by decide +kernel
theorem dX4_ofOne_132 : decode cX4_ofOne 132 = .ok (.aaload, 1) := by decide +kernel
theorem dX4_ofOne_133 : decode cX4_ofOne 133 = .ok (.iload 4, 2) := by decide +kernel
theorem dX4_ofOne_135 : decode cX4_ofOne 135 = .ok (.iaload, 1) := by decide +kernel
theorem dX4_ofOne_136 : decode cX4_ofOne 136 = .ok (.goto 4, 3) := by decide +kernel
theorem dX4_ofOne_139 : decode cX4_ofOne 139 = .ok (.iconst (-1), 1) := by decide +kernel
theorem dX4_ofOne_140 : decode cX4_ofOne 140 = .ok (.ireturn, 1) := by decide +kernel
theorem dX4_fewestGoes_0 : decode cX4_fewestGoes 0 = .ok (.aload_n 2, 1) := by decide +kernel
theorem dX4_fewestGoes_1 : decode cX4_fewestGoes 1 = .ok (.getfield 74, 3) := by decide +kernel
theorem dX4_fewestGoes_4 : decode cX4_fewestGoes 4 = .ok (.iconst (-1), 1) := by decide +kernel
theorem dX4_fewestGoes_5 : decode cX4_fewestGoes 5 = .ok (.if_icmp .eq 5, 3) := by decide +kernel
theorem dX4_fewestGoes_8 : decode cX4_fewestGoes 8 = .ok (.iconst (-1), 1) := by decide +kernel
theorem dX4_fewestGoes_9 : decode cX4_fewestGoes 9 = .ok (.ireturn, 1) := by decide +kernel
theorem dX4_fewestGoes_10 : decode cX4_fewestGoes 10 = .ok (.aload_n 0, 1) := by decide +kernel
theorem dX4_fewestGoes_11 : decode cX4_fewestGoes 11 = .ok (.getfield 17, 3) := by decide +kernel
theorem dX4_fewestGoes_14 : decode cX4_fewestGoes 14 = .ok (.iconst 0, 1) := by decide +kernel
theorem dX4_fewestGoes_15 : decode cX4_fewestGoes 15 = .ok (.aaload, 1) := by decide +kernel
theorem dX4_fewestGoes_16 : decode cX4_fewestGoes 16 = .ok (.aload_n 2, 1) := by decide +kernel
theorem dX4_fewestGoes_17 : decode cX4_fewestGoes 17 = .ok (.invokevirtual 77, 3) := by decide +kernel
theorem dX4_fewestGoes_20 : decode cX4_fewestGoes 20 = .ok (.iconst 1, 1) := by decide +kernel
theorem dX4_fewestGoes_21 : decode cX4_fewestGoes 21 = .ok (.istore 4, 2) := by decide +kernel
theorem dX4_fewestGoes_23 : decode cX4_fewestGoes 23 = .ok (.iload 4, 2) := by decide +kernel
theorem dX4_fewestGoes_25 : decode cX4_fewestGoes 25 = .ok (.iload_n 3, 1) := by decide +kernel
theorem dX4_fewestGoes_26 : decode cX4_fewestGoes 26 = .ok (.if_icmp .gt 28, 3) := by decide +kernel
theorem dX4_fewestGoes_29 : decode cX4_fewestGoes 29 = .ok (.aload_n 0, 1) := by decide +kernel
theorem dX4_fewestGoes_30 : decode cX4_fewestGoes 30 = .ok (.iload 4, 2) := by decide +kernel
theorem dX4_fewestGoes_32 : decode cX4_fewestGoes 32 = .ok (.putfield 81, 3) := by decide +kernel
theorem dX4_fewestGoes_35 : decode cX4_fewestGoes 35 = .ok (.aload_n 0, 1) := by decide +kernel
theorem dX4_fewestGoes_36 : decode cX4_fewestGoes 36 = .ok (.aload_n 1, 1) := by decide +kernel
theorem dX4_fewestGoes_37 : decode cX4_fewestGoes 37 = .ok (.iconst 0, 1) := by decide +kernel
theorem dX4_fewestGoes_38 : decode cX4_fewestGoes 38 = .ok (.iconst 0, 1) := by decide +kernel
theorem dX4_fewestGoes_39 : decode cX4_fewestGoes 39 = .ok (.invokevirtual 84, 3) := by decide +kernel
theorem dX4_fewestGoes_42 : decode cX4_fewestGoes 42 = .ok (.ifCond .eq 6, 3) := by decide +kernel
theorem dX4_fewestGoes_45 : decode cX4_fewestGoes 45 = .ok (.iload 4, 2) := by decide +kernel
theorem dX4_fewestGoes_47 : decode cX4_fewestGoes 47 = .ok (.ireturn, 1) := by decide +kernel
theorem dX4_fewestGoes_48 : decode cX4_fewestGoes 48 = .ok (.iinc 4 1, 3) := by decide +kernel
theorem dX4_fewestGoes_51 : decode cX4_fewestGoes 51 = .ok (.goto (-28), 3) := by decide +kernel
theorem dX4_fewestGoes_54 : decode cX4_fewestGoes 54 = .ok (.iconst (-1), 1) := by decide +kernel
theorem dX4_fewestGoes_55 : decode cX4_fewestGoes 55 = .ok (.ireturn, 1) := by decide +kernel
theorem dX4_findFrom_0 : decode cX4_findFrom 0 = .ok (.iload_n 2, 1) := by decide +kernel
theorem dX4_findFrom_1 : decode cX4_findFrom 1 = .ok (.ifCond .lt 38, 3) := by decide +kernel
theorem dX4_findFrom_4 : decode cX4_findFrom 4 = .ok (.iload_n 2, 1) := by decide +kernel
theorem dX4_findFrom_5 : decode cX4_findFrom 5 = .ok (.aload_n 0, 1) := by decide +kernel
theorem dX4_findFrom_6 : decode cX4_findFrom 6 = .ok (.getfield 81, 3) := by decide +kernel
theorem dX4_findFrom_9 : decode cX4_findFrom 9 = .ok (.if_icmp .ge 30, 3) := by decide +kernel
theorem dX4_findFrom_12 : decode cX4_findFrom 12 = .ok (.iload_n 2, 1) := by decide +kernel
theorem dX4_findFrom_13 : decode cX4_findFrom 13 = .ok (.aload_n 0, 1) := by decide +kernel
theorem dX4_findFrom_14 : decode cX4_findFrom 14 = .ok (.getfield 24, 3) := by decide +kernel
theorem dX4_findFrom_17 : decode cX4_findFrom 17 = .ok (.arraylength, 1) := by decide +kernel
theorem dX4_findFrom_18 : decode cX4_findFrom 18 = .ok (.if_icmp .ge 21, 3) := by decide +kernel
theorem dX4_findFrom_21 : decode cX4_findFrom 21 = .ok (.iload_n 2, 1) := by decide +kernel
theorem dX4_findFrom_22 : decode cX4_findFrom 22 = .ok (.aload_n 0, 1) := by decide +kernel
theorem dX4_findFrom_23 : decode cX4_findFrom 23 = .ok (.getfield 17, 3) := by decide +kernel
theorem dX4_findFrom_26 : decode cX4_findFrom 26 = .ok (.arraylength, 1) := by decide +kernel
theorem dX4_findFrom_27 : decode cX4_findFrom 27 = .ok (.if_icmp .ge 12, 3) := by decide +kernel
theorem dX4_findFrom_30 : decode cX4_findFrom 30 = .ok (.aload_n 0, 1) := by decide +kernel
theorem dX4_findFrom_31 : decode cX4_findFrom 31 = .ok (.aload_n 1, 1) := by decide +kernel
theorem dX4_findFrom_32 : decode cX4_findFrom 32 = .ok (.iload_n 2, 1) := by decide +kernel
theorem dX4_findFrom_33 : decode cX4_findFrom 33 = .ok (.invokevirtual 88, 3) := by decide +kernel
theorem dX4_findFrom_36 : decode cX4_findFrom 36 = .ok (.ifCond .eq 5, 3) := by decide +kernel
theorem dX4_findFrom_39 : decode cX4_findFrom 39 = .ok (.iconst 0, 1) := by decide +kernel
theorem dX4_findFrom_40 : decode cX4_findFrom 40 = .ok (.ireturn, 1) := by decide +kernel
theorem dX4_findFrom_41 : decode cX4_findFrom 41 = .ok (.iload_n 2, 1) := by decide +kernel
theorem dX4_findFrom_42 : decode cX4_findFrom 42 = .ok (.iconst 1, 1) := by decide +kernel
theorem dX4_findFrom_43 : decode cX4_findFrom 43 = .ok (.iadd, 1) := by decide +kernel
theorem dX4_findFrom_44 : decode cX4_findFrom 44 = .ok (.aload_n 0, 1) := by decide +kernel
theorem dX4_findFrom_45 : decode cX4_findFrom 45 = .ok (.getfield 81, 3) := by decide +kernel
theorem dX4_findFrom_48 : decode cX4_findFrom 48 = .ok (.if_icmp .ge 14, 3) := by decide +kernel
theorem dX4_findFrom_51 : decode cX4_findFrom 51 = .ok (.iload_n 2, 1) := by decide +kernel
theorem dX4_findFrom_52 : decode cX4_findFrom 52 = .ok (.iconst 1, 1) := by decide +kernel
theorem dX4_findFrom_53 : decode cX4_findFrom 53 = .ok (.iadd, 1) := by decide +kernel
theorem dX4_findFrom_54 : decode cX4_findFrom 54 = .ok (.aload_n 0, 1) := by decide +kernel
theorem dX4_findFrom_55 : decode cX4_findFrom 55 = .ok (.getfield 17, 3) := by decide +kernel
theorem dX4_findFrom_58 : decode cX4_findFrom 58 = .ok (.arraylength, 1) := by decide +kernel
theorem dX4_findFrom_59 : decode cX4_findFrom 59 = .ok (.if_icmp .lt 7, 3) := by decide +kernel
theorem dX4_findFrom_62 : decode cX4_findFrom 62 = .ok (.iconst 1, 1) := by decide +kernel
theorem dX4_findFrom_63 : decode cX4_findFrom 63 = .ok (.goto 4, 3) := by decide +kernel
theorem dX4_findFrom_66 : decode cX4_findFrom 66 = .ok (.iconst 0, 1) := by decide +kernel
theorem dX4_findFrom_67 : decode cX4_findFrom 67 = .ok (.istore 4, 2) := by decide +kernel
theorem dX4_findFrom_69 : decode cX4_findFrom 69 = .ok (.iconst 0, 1) := by decide +kernel
theorem dX4_findFrom_70 : decode cX4_findFrom 70 = .ok (.istore 5, 2) := by decide +kernel
theorem dX4_findFrom_72 : decode cX4_findFrom 72 = .ok (.iload 5, 2) := by decide +kernel
theorem dX4_findFrom_74 : decode cX4_findFrom 74 = .ok (.aload_n 1, 1) := by decide +kernel
theorem dX4_findFrom_75 : decode cX4_findFrom 75 = .ok (.getfield 55, 3) := by decide +kernel
theorem dX4_findFrom_78 : decode cX4_findFrom 78 = .ok (.if_icmp .ge 157, 3) := by decide +kernel
theorem dX4_findFrom_81 : decode cX4_findFrom 81 = .ok (.aload_n 0, 1) := by decide +kernel
theorem dX4_findFrom_82 : decode cX4_findFrom 82 = .ok (.getfield 60, 3) := by decide +kernel
theorem dX4_findFrom_85 : decode cX4_findFrom 85 = .ok (.ifCond .eq 12, 3) := by decide +kernel
theorem dX4_findFrom_88 : decode cX4_findFrom 88 = .ok (.iload_n 3, 1) := by decide +kernel
theorem dX4_findFrom_89 : decode cX4_findFrom 89 = .ok (.iload 5, 2) := by decide +kernel
theorem dX4_findFrom_91 : decode cX4_findFrom 91 = .ok (.ishr, 1) := by decide +kernel
theorem dX4_findFrom_92 : decode cX4_findFrom 92 = .ok (.iconst 1, 1) := by decide +kernel
theorem dX4_findFrom_93 : decode cX4_findFrom 93 = .ok (.iand, 1) := by decide +kernel
theorem dX4_findFrom_94 : decode cX4_findFrom 94 = .ok (.ifCond .ne 7, 3) := by decide +kernel
theorem dX4_findFrom_97 : decode cX4_findFrom 97 = .ok (.iconst 1, 1) := by decide +kernel
theorem dX4_findFrom_98 : decode cX4_findFrom 98 = .ok (.goto 4, 3) := by decide +kernel
theorem dX4_findFrom_101 : decode cX4_findFrom 101 = .ok (.iconst 0, 1) := by decide +kernel
theorem dX4_findFrom_102 : decode cX4_findFrom 102 = .ok (.istore 6, 2) := by decide +kernel
theorem dX4_findFrom_104 : decode cX4_findFrom 104 = .ok (.iload 6, 2) := by decide +kernel
theorem dX4_findFrom_106 : decode cX4_findFrom 106 = .ok (.ifCond .eq 123, 3) := by decide +kernel
theorem dX4_findFrom_109 : decode cX4_findFrom 109 = .ok (.iload 4, 2) := by decide +kernel
theorem dX4_findFrom_111 : decode cX4_findFrom 111 = .ok (.ifCond .eq 23, 3) := by decide +kernel
theorem dX4_findFrom_114 : decode cX4_findFrom 114 = .ok (.aload_n 0, 1) := by decide +kernel
theorem dX4_findFrom_115 : decode cX4_findFrom 115 = .ok (.getfield 63, 3) := by decide +kernel
theorem dX4_findFrom_118 : decode cX4_findFrom 118 = .ok (.iconst (-1), 1) := by decide +kernel
theorem dX4_findFrom_119 : decode cX4_findFrom 119 = .ok (.if_icmp .eq 15, 3) := by decide +kernel
theorem dX4_findFrom_122 : decode cX4_findFrom 122 = .ok (.iload 5, 2) := by decide +kernel
theorem dX4_findFrom_124 : decode cX4_findFrom 124 = .ok (.aload_n 0, 1) := by decide +kernel
theorem dX4_findFrom_125 : decode cX4_findFrom 125 = .ok (.getfield 63, 3) := by decide +kernel
theorem dX4_findFrom_128 : decode cX4_findFrom 128 = .ok (.if_icmp .eq 6, 3) := by decide +kernel
theorem dX4_findFrom_131 : decode cX4_findFrom 131 = .ok (.goto 98, 3) := by decide +kernel
theorem dX4_findFrom_134 : decode cX4_findFrom 134 = .ok (.aload_n 0, 1) := by decide +kernel
theorem dX4_findFrom_135 : decode cX4_findFrom 135 = .ok (.getfield 24, 3) := by decide +kernel
theorem dX4_findFrom_138 : decode cX4_findFrom 138 = .ok (.iload_n 2, 1) := by decide +kernel
theorem dX4_findFrom_139 : decode cX4_findFrom 139 = .ok (.iload 5, 2) := by decide +kernel
theorem dX4_findFrom_141 : decode cX4_findFrom 141 = .ok (.iastore, 1) := by decide +kernel
theorem dX4_findFrom_142 : decode cX4_findFrom 142 = .ok (.iload 4, 2) := by decide +kernel
theorem dX4_findFrom_144 : decode cX4_findFrom 144 = .ok (.ifCond .eq 26, 3) := by decide +kernel
theorem dX4_findFrom_147 : decode cX4_findFrom 147 = .ok (.aload_n 0, 1) := by decide +kernel
theorem dX4_findFrom_148 : decode cX4_findFrom 148 = .ok (.getfield 17, 3) := by decide +kernel
theorem dX4_findFrom_151 : decode cX4_findFrom 151 = .ok (.iload_n 2, 1) := by decide +kernel
theorem dX4_findFrom_152 : decode cX4_findFrom 152 = .ok (.aaload, 1) := by decide +kernel
theorem dX4_findFrom_153 : decode cX4_findFrom 153 = .ok (.aload_n 1, 1) := by decide +kernel
theorem dX4_findFrom_154 : decode cX4_findFrom 154 = .ok (.iload 5, 2) := by decide +kernel
theorem dX4_findFrom_156 : decode cX4_findFrom 156 = .ok (.iconst 0, 1) := by decide +kernel
theorem dX4_findFrom_157 : decode cX4_findFrom 157 = .ok (.iconst 0, 1) := by decide +kernel
theorem dX4_findFrom_158 : decode cX4_findFrom 158 = .ok (.invokevirtual 92, 3) := by decide +kernel
theorem dX4_findFrom_161 : decode cX4_findFrom 161 = .ok (.aload_n 1, 1) := by decide +kernel
theorem dX4_findFrom_162 : decode cX4_findFrom 162 = .ok (.getfield 96, 3) := by decide +kernel
theorem dX4_findFrom_165 : decode cX4_findFrom 165 = .ok (.if_icmp .ne 64, 3) := by decide +kernel
theorem dX4_findFrom_168 : decode cX4_findFrom 168 = .ok (.iconst 1, 1) := by decide +kernel
theorem dX4_findFrom_169 : decode cX4_findFrom 169 = .ok (.ireturn, 1) := by decide +kernel
theorem dX4_findFrom_170 : decode cX4_findFrom 170 = .ok (.aload_n 0, 1) := by decide +kernel
theorem dX4_findFrom_171 : decode cX4_findFrom 171 = .ok (.getfield 17, 3) := by decide +kernel
theorem dX4_findFrom_174 : decode cX4_findFrom 174 = .ok (.iload_n 2, 1) := by decide +kernel
theorem dX4_findFrom_175 : decode cX4_findFrom 175 = .ok (.iconst 1, 1) := by decide +kernel
theorem dX4_findFrom_176 : decode cX4_findFrom 176 = .ok (.iadd, 1) := by decide +kernel
theorem dX4_findFrom_177 : decode cX4_findFrom 177 = .ok (.aaload, 1) := by decide +kernel
theorem dX4_findFrom_178 : decode cX4_findFrom 178 = .ok (.astore 7, 2) := by decide +kernel
theorem dX4_findFrom_180 : decode cX4_findFrom 180 = .ok (.aload 7, 2) := by decide +kernel
theorem dX4_findFrom_182 : decode cX4_findFrom 182 = .ok (.aload_n 0, 1) := by decide +kernel
theorem dX4_findFrom_183 : decode cX4_findFrom 183 = .ok (.getfield 17, 3) := by decide +kernel
theorem dX4_findFrom_186 : decode cX4_findFrom 186 = .ok (.iload_n 2, 1) := by decide +kernel
theorem dX4_findFrom_187 : decode cX4_findFrom 187 = .ok (.aaload, 1) := by decide +kernel
theorem dX4_findFrom_188 : decode cX4_findFrom 188 = .ok (.invokevirtual 77, 3) := by decide +kernel
theorem dX4_findFrom_191 : decode cX4_findFrom 191 = .ok (.aload 7, 2) := by decide +kernel
theorem dX4_findFrom_193 : decode cX4_findFrom 193 = .ok (.aload_n 1, 1) := by decide +kernel
theorem dX4_findFrom_194 : decode cX4_findFrom 194 = .ok (.iload 5, 2) := by decide +kernel
theorem dX4_findFrom_196 : decode cX4_findFrom 196 = .ok (.iconst 0, 1) := by decide +kernel
theorem dX4_findFrom_197 : decode cX4_findFrom 197 = .ok (.invokevirtual 99, 3) := by decide +kernel
theorem dX4_findFrom_200 : decode cX4_findFrom 200 = .ok (.pop, 1) := by decide +kernel
theorem dX4_findFrom_201 : decode cX4_findFrom 201 = .ok (.aload 7, 2) := by decide +kernel
theorem dX4_findFrom_203 : decode cX4_findFrom 203 = .ok (.getfield 74, 3) := by decide +kernel
theorem dX4_findFrom_206 : decode cX4_findFrom 206 = .ok (.iconst (-1), 1) := by decide +kernel
theorem dX4_findFrom_207 : decode cX4_findFrom 207 = .ok (.if_icmp .ne 22, 3) := by decide +kernel
theorem dX4_findFrom_210 : decode cX4_findFrom 210 = .ok (.aload_n 0, 1) := by decide +kernel
theorem dX4_findFrom_211 : decode cX4_findFrom 211 = .ok (.aload_n 1, 1) := by decide +kernel
theorem dX4_findFrom_212 : decode cX4_findFrom 212 = .ok (.iload_n 2, 1) := by decide +kernel
theorem dX4_findFrom_213 : decode cX4_findFrom 213 = .ok (.iconst 1, 1) := by decide +kernel
theorem dX4_findFrom_214 : decode cX4_findFrom 214 = .ok (.iadd, 1) := by decide +kernel
theorem dX4_findFrom_215 : decode cX4_findFrom 215 = .ok (.iload_n 3, 1) := by decide +kernel
theorem dX4_findFrom_216 : decode cX4_findFrom 216 = .ok (.iconst 1, 1) := by decide +kernel
theorem dX4_findFrom_217 : decode cX4_findFrom 217 = .ok (.iload 5, 2) := by decide +kernel
theorem dX4_findFrom_219 : decode cX4_findFrom 219 = .ok (.ishl, 1) := by decide +kernel
theorem dX4_findFrom_220 : decode cX4_findFrom 220 = .ok (.ior, 1) := by decide +kernel
theorem dX4_findFrom_221 : decode cX4_findFrom 221 = .ok (.invokevirtual 84, 3) := by decide +kernel
theorem dX4_findFrom_224 : decode cX4_findFrom 224 = .ok (.ifCond .eq 5, 3) := by decide +kernel
theorem dX4_findFrom_227 : decode cX4_findFrom 227 = .ok (.iconst 1, 1) := by decide +kernel
theorem dX4_findFrom_228 : decode cX4_findFrom 228 = .ok (.ireturn, 1) := by decide +kernel
theorem dX4_findFrom_229 : decode cX4_findFrom 229 = .ok (.iinc 5 1, 3) := by decide +kernel
theorem dX4_findFrom_232 : decode cX4_findFrom 232 = .ok (.goto (-160), 3) := by decide +kernel
theorem dX4_findFrom_235 : decode cX4_findFrom 235 = .ok (.iconst 0, 1) := by decide +kernel
theorem dX4_findFrom_236 : decode cX4_findFrom 236 = .ok (.ireturn, 1) := by decide +kernel
theorem dX4_isHopeless_0 : decode cX4_isHopeless 0 = .ok (.aload_n 0, 1) := by decide +kernel
theorem dX4_isHopeless_1 : decode cX4_isHopeless 1 = .ok (.getfield 81, 3) := by decide +kernel
theorem dX4_isHopeless_4 : decode cX4_isHopeless 4 = .ok (.iconst 1, 1) := by decide +kernel
theorem dX4_isHopeless_5 : decode cX4_isHopeless 5 = .ok (.isub, 1) := by decide +kernel
theorem dX4_isHopeless_6 : decode cX4_isHopeless 6 = .ok (.iload_n 2, 1) := by decide +kernel
theorem dX4_isHopeless_7 : decode cX4_isHopeless 7 = .ok (.isub, 1) := by decide +kernel
theorem dX4_isHopeless_8 : decode cX4_isHopeless 8 = .ok (.aload_n 1, 1) := by decide +kernel
theorem dX4_isHopeless_9 : decode cX4_isHopeless 9 = .ok (.invokevirtual 103, 3) := by decide +kernel
theorem dX4_isHopeless_12 : decode cX4_isHopeless 12 = .ok (.imul, 1) := by decide +kernel
theorem dX4_isHopeless_13 : decode cX4_isHopeless 13 = .ok (.istore_n 3, 1) := by decide +kernel
theorem dX4_isHopeless_14 : decode cX4_isHopeless 14 = .ok (.iconst 0, 1) := by decide +kernel
theorem dX4_isHopeless_15 : decode cX4_isHopeless 15 = .ok (.istore 4, 2) := by decide +kernel
theorem dX4_isHopeless_17 : decode cX4_isHopeless 17 = .ok (.iload 4, 2) := by decide +kernel
theorem dX4_isHopeless_19 : decode cX4_isHopeless 19 = .ok (.aload_n 1, 1) := by decide +kernel
theorem dX4_isHopeless_20 : decode cX4_isHopeless 20 = .ok (.getfield 55, 3) := by decide +kernel
theorem dX4_isHopeless_23 : decode cX4_isHopeless 23 = .ok (.if_icmp .ge 56, 3) := by decide +kernel
theorem dX4_isHopeless_26 : decode cX4_isHopeless 26 = .ok (.aload_n 0, 1) := by decide +kernel
theorem dX4_isHopeless_27 : decode cX4_isHopeless 27 = .ok (.getfield 63, 3) := by decide +kernel
theorem dX4_isHopeless_30 : decode cX4_isHopeless 30 = .ok (.iconst (-1), 1) := by decide +kernel
theorem dX4_isHopeless_31 : decode cX4_isHopeless 31 = .ok (.if_icmp .eq 12, 3) := by decide +kernel
theorem dX4_isHopeless_34 : decode cX4_isHopeless 34 = .ok (.iload 4, 2) := by decide +kernel
theorem dX4_isHopeless_36 : decode cX4_isHopeless 36 = .ok (.aload_n 0, 1) := by decide +kernel
theorem dX4_isHopeless_37 : decode cX4_isHopeless 37 = .ok (.getfield 63, 3) := by decide +kernel
theorem dX4_isHopeless_40 : decode cX4_isHopeless 40 = .ok (.if_icmp .ne 7, 3) := by decide +kernel
theorem dX4_isHopeless_43 : decode cX4_isHopeless 43 = .ok (.iconst 1, 1) := by decide +kernel
theorem dX4_isHopeless_44 : decode cX4_isHopeless 44 = .ok (.goto 4, 3) := by decide +kernel
theorem dX4_isHopeless_47 : decode cX4_isHopeless 47 = .ok (.iconst 0, 1) := by decide +kernel
theorem dX4_isHopeless_48 : decode cX4_isHopeless 48 = .ok (.istore 5, 2) := by decide +kernel
theorem dX4_isHopeless_50 : decode cX4_isHopeless 50 = .ok (.iload 5, 2) := by decide +kernel
theorem dX4_isHopeless_52 : decode cX4_isHopeless 52 = .ok (.ifCond .eq 21, 3) := by decide +kernel
theorem dX4_isHopeless_55 : decode cX4_isHopeless 55 = .ok (.aload_n 0, 1) := by decide +kernel
theorem dX4_isHopeless_56 : decode cX4_isHopeless 56 = .ok (.getfield 17, 3) := by decide +kernel
theorem dX4_isHopeless_59 : decode cX4_isHopeless 59 = .ok (.iload_n 2, 1) := by decide +kernel
theorem dX4_isHopeless_60 : decode cX4_isHopeless 60 = .ok (.aaload, 1) := by decide +kernel
theorem dX4_isHopeless_61 : decode cX4_isHopeless 61 = .ok (.aload_n 1, 1) := by decide +kernel
theorem dX4_isHopeless_62 : decode cX4_isHopeless 62 = .ok (.iload 4, 2) := by decide +kernel
theorem dX4_isHopeless_64 : decode cX4_isHopeless 64 = .ok (.iload_n 3, 1) := by decide +kernel
theorem dX4_isHopeless_65 : decode cX4_isHopeless 65 = .ok (.invokevirtual 107, 3) := by decide +kernel
theorem dX4_isHopeless_68 : decode cX4_isHopeless 68 = .ok (.ifCond .eq 5, 3) := by decide +kernel
theorem dX4_isHopeless_71 : decode cX4_isHopeless 71 = .ok (.iconst 0, 1) := by decide +kernel
theorem dX4_isHopeless_72 : decode cX4_isHopeless 72 = .ok (.ireturn, 1) := by decide +kernel
theorem dX4_isHopeless_73 : decode cX4_isHopeless 73 = .ok (.iinc 4 1, 3) := by decide +kernel
theorem dX4_isHopeless_76 : decode cX4_isHopeless 76 = .ok (.goto (-59), 3) := by decide +kernel
theorem dX4_isHopeless_79 : decode cX4_isHopeless 79 = .ok (.iconst 1, 1) := by decide +kernel
theorem dX4_isHopeless_80 : decode cX4_isHopeless 80 = .ok (.ireturn, 1) := by decide +kernel
theorem dX5_init_0 : decode cX5_init 0 = .ok (.aload_n 0, 1) := by decide +kernel
theorem dX5_init_1 : decode cX5_init 1 = .ok (.invokespecial 3, 3) := by decide +kernel
theorem dX5_init_4 : decode cX5_init 4 = .ok (.aload_n 0, 1) := by decide +kernel
theorem dX5_init_5 : decode cX5_init 5 = .ok (.bipush 12, 2) := by decide +kernel
theorem dX5_init_7 : decode cX5_init 7 = .ok (.newarray .int, 2) := by decide +kernel
theorem dX5_init_9 : decode cX5_init 9 = .ok (.putfield 9, 3) := by decide +kernel
theorem dX5_init_12 : decode cX5_init 12 = .ok (.aload_n 0, 1) := by decide +kernel
theorem dX5_init_13 : decode cX5_init 13 = .ok (.bipush 12, 2) := by decide +kernel
theorem dX5_init_15 : decode cX5_init 15 = .ok (.newarray .int, 2) := by decide +kernel
theorem dX5_init_17 : decode cX5_init 17 = .ok (.putfield 15, 3) := by decide +kernel
theorem dX5_init_20 : decode cX5_init 20 = .ok (.aload_n 0, 1) := by decide +kernel
theorem dX5_init_21 : decode cX5_init 21 = .ok (.new 18, 3) := by decide +kernel
theorem dX5_init_24 : decode cX5_init 24 = .ok (.dup, 1) := by decide +kernel
theorem dX5_init_25 : decode cX5_init 25 = .ok (.invokespecial 20, 3) := by decide +kernel
theorem dX5_init_28 : decode cX5_init 28 = .ok (.putfield 21, 3) := by decide +kernel
theorem dX5_init_31 : decode cX5_init 31 = .ok (.return_, 1) := by decide +kernel
theorem dX5_empty_0 : decode cX5_empty 0 = .ok (.aload_n 0, 1) := by decide +kernel
theorem dX5_empty_1 : decode cX5_empty 1 = .ok (.iconst 0, 1) := by decide +kernel
theorem dX5_empty_2 : decode cX5_empty 2 = .ok (.putfield 25, 3) := by decide +kernel
theorem dX5_empty_5 : decode cX5_empty 5 = .ok (.return_, 1) := by decide +kernel
theorem dX5_append_0 : decode cX5_append 0 = .ok (.aload_n 0, 1) := by decide +kernel
theorem dX5_append_1 : decode cX5_append 1 = .ok (.getfield 25, 3) := by decide +kernel
theorem dX5_append_4 : decode cX5_append 4 = .ok (.istore_n 3, 1) := by decide +kernel
theorem dX5_append_5 : decode cX5_append 5 = .ok (.iload_n 3, 1) := by decide +kernel
theorem dX5_append_6 : decode cX5_append 6 = .ok (.ifCond .lt 21, 3) := by decide +kernel
theorem dX5_append_9 : decode cX5_append 9 = .ok (.iload_n 3, 1) := by decide +kernel
theorem dX5_append_10 : decode cX5_append 10 = .ok (.aload_n 0, 1) := by decide +kernel
theorem dX5_append_11 : decode cX5_append 11 = .ok (.getfield 9, 3) := by decide +kernel
theorem dX5_append_14 : decode cX5_append 14 = .ok (.arraylength, 1) := by decide +kernel
theorem dX5_append_15 : decode cX5_append 15 = .ok (.if_icmp .ge 12, 3) := by decide +kernel
theorem dX5_append_18 : decode cX5_append 18 = .ok (.iload_n 3, 1) := by decide +kernel
theorem dX5_append_19 : decode cX5_append 19 = .ok (.aload_n 0, 1) := by decide +kernel
theorem dX5_append_20 : decode cX5_append 20 = .ok (.getfield 15, 3) := by decide +kernel
theorem dX5_append_23 : decode cX5_append 23 = .ok (.arraylength, 1) := by decide +kernel
theorem dX5_append_24 : decode cX5_append 24 = .ok (.if_icmp .lt 6, 3) := by decide +kernel
theorem dX5_append_27 : decode cX5_append 27 = .ok (.ldc 29, 2) := by decide +kernel
theorem dX5_append_29 : decode cX5_append 29 = .ok (.ireturn, 1) := by decide +kernel
theorem dX5_append_30 : decode cX5_append 30 = .ok (.aload_n 0, 1) := by decide +kernel
theorem dX5_append_31 : decode cX5_append 31 = .ok (.getfield 9, 3) := by decide +kernel
theorem dX5_append_34 : decode cX5_append 34 = .ok (.iload_n 3, 1) := by decide +kernel
theorem dX5_append_35 : decode cX5_append 35 = .ok (.iload_n 1, 1) := by decide +kernel
theorem dX5_append_36 : decode cX5_append 36 = .ok (.iastore, 1) := by decide +kernel
theorem dX5_append_37 : decode cX5_append 37 = .ok (.aload_n 0, 1) := by decide +kernel
theorem dX5_append_38 : decode cX5_append 38 = .ok (.getfield 15, 3) := by decide +kernel
theorem dX5_append_41 : decode cX5_append 41 = .ok (.iload_n 3, 1) := by decide +kernel
theorem dX5_append_42 : decode cX5_append 42 = .ok (.iload_n 2, 1) := by decide +kernel
theorem dX5_append_43 : decode cX5_append 43 = .ok (.iastore, 1) := by decide +kernel
theorem dX5_append_44 : decode cX5_append 44 = .ok (.aload_n 0, 1) := by decide +kernel
theorem dX5_append_45 : decode cX5_append 45 = .ok (.iload_n 3, 1) := by decide +kernel
theorem dX5_append_46 : decode cX5_append 46 = .ok (.iconst 1, 1) := by decide +kernel
theorem dX5_append_47 : decode cX5_append 47 = .ok (.iadd, 1) := by decide +kernel
theorem dX5_append_48 : decode cX5_append 48 = .ok (.putfield 25, 3) := by decide +kernel
theorem dX5_append_51 : decode cX5_append 51 = .ok (.aload_n 0, 1) := by decide +kernel
theorem dX5_append_52 : decode cX5_append 52 = .ok (.getfield 25, 3) := by decide +kernel
theorem dX5_append_55 : decode cX5_append 55 = .ok (.ireturn, 1) := by decide +kernel
theorem dX5_climberOf_0 : decode cX5_climberOf 0 = .ok (.iload_n 1, 1) := by decide +kernel
theorem dX5_climberOf_1 : decode cX5_climberOf 1 = .ok (.ifCond .lt 21, 3) := by decide +kernel
theorem dX5_climberOf_4 : decode cX5_climberOf 4 = .ok (.iload_n 1, 1) := by decide +kernel
theorem dX5_climberOf_5 : decode cX5_climberOf 5 = .ok (.aload_n 0, 1) := by decide +kernel
theorem dX5_climberOf_6 : decode cX5_climberOf 6 = .ok (.getfield 9, 3) := by decide +kernel
theorem dX5_climberOf_9 : decode cX5_climberOf 9 = .ok (.arraylength, 1) := by decide +kernel
theorem dX5_climberOf_10 : decode cX5_climberOf 10 = .ok (.if_icmp .ge 12, 3) := by decide +kernel
theorem dX5_climberOf_13 : decode cX5_climberOf 13 = .ok (.aload_n 0, 1) := by decide +kernel
theorem dX5_climberOf_14 : decode cX5_climberOf 14 = .ok (.getfield 9, 3) := by decide +kernel
theorem dX5_climberOf_17 : decode cX5_climberOf 17 = .ok (.iload_n 1, 1) := by decide +kernel
theorem dX5_climberOf_18 : decode cX5_climberOf 18 = .ok (.iaload, 1) := by decide +kernel
theorem dX5_climberOf_19 : decode cX5_climberOf 19 = .ok (.goto 4, 3) := by decide +kernel
theorem dX5_climberOf_22 : decode cX5_climberOf 22 = .ok (.iconst 0, 1) := by decide +kernel
theorem dX5_climberOf_23 : decode cX5_climberOf 23 = .ok (.ireturn, 1) := by decide +kernel
theorem dX5_firstOtherwise_0 : decode cX5_firstOtherwise 0 = .ok (.aload_n 0, 1) := by decide +kernel
theorem dX5_firstOtherwise_1 : decode cX5_firstOtherwise 1 = .ok (.getfield 21, 3) := by decide +kernel
theorem dX5_firstOtherwise_4 : decode cX5_firstOtherwise 4 = .ok (.aload_n 2, 1) := by decide +kernel
theorem dX5_firstOtherwise_5 : decode cX5_firstOtherwise 5 = .ok (.invokevirtual 30, 3) := by decide +kernel
theorem dX5_firstOtherwise_8 : decode cX5_firstOtherwise 8 = .ok (.iconst 0, 1) := by decide +kernel
theorem dX5_firstOtherwise_9 : decode cX5_firstOtherwise 9 = .ok (.istore 4, 2) := by decide +kernel
theorem dX5_firstOtherwise_11 : decode cX5_firstOtherwise 11 = .ok (.iload 4, 2) := by decide +kernel
theorem dX5_firstOtherwise_13 : decode cX5_firstOtherwise 13 = .ok (.aload_n 0, 1) := by decide +kernel
theorem dX5_firstOtherwise_14 : decode cX5_firstOtherwise 14 = .ok (.getfield 25, 3) := by decide +kernel
theorem dX5_firstOtherwise_17 : decode cX5_firstOtherwise 17 = .ok (.if_icmp .ge 61, 3) := by decide +kernel
theorem dX5_firstOtherwise_20 : decode cX5_firstOtherwise 20 = .ok (.iload 4, 2) := by decide +kernel
theorem dX5_firstOtherwise_22 : decode cX5_firstOtherwise 22 = .ok (.aload_n 0, 1) := by decide +kernel
theorem dX5_firstOtherwise_23 : decode cX5_firstOtherwise 23 = .ok (.getfield 15, 3) := by decide +kernel
theorem dX5_firstOtherwise_26 : decode cX5_firstOtherwise 26 = .ok (.arraylength, 1) := by decide +kernel
theorem dX5_firstOtherwise_27 : decode cX5_firstOtherwise 27 = .ok (.if_icmp .ge 51, 3) := by decide +kernel
theorem dX5_firstOtherwise_30 : decode cX5_firstOtherwise 30 = .ok (.aload_n 0, 1) := by decide +kernel
theorem dX5_firstOtherwise_31 : decode cX5_firstOtherwise 31 = .ok (.iload 4, 2) := by decide +kernel
theorem dX5_firstOtherwise_33 : decode cX5_firstOtherwise 33 = .ok (.invokevirtual 34, 3) := by decide +kernel
theorem dX5_firstOtherwise_36 : decode cX5_firstOtherwise 36 = .ok (.istore 5, 2) := by decide +kernel
theorem dX5_firstOtherwise_38 : decode cX5_firstOtherwise 38 = .ok (.aload_n 0, 1) := by decide +kernel
theorem dX5_firstOtherwise_39 : decode cX5_firstOtherwise 39 = .ok (.getfield 21, 3) := by decide +kernel
theorem dX5_firstOtherwise_42 : decode cX5_firstOtherwise 42 = .ok (.aload_n 1, 1) := by decide +kernel
theorem dX5_firstOtherwise_43 : decode cX5_firstOtherwise 43 = .ok (.iload 5, 2) := by decide +kernel
theorem dX5_firstOtherwise_45 : decode cX5_firstOtherwise 45 = .ok (.iload 5, 2) := by decide +kernel
theorem dX5_firstOtherwise_47 : decode cX5_firstOtherwise 47 = .ok (.iload_n 3, 1) := by decide +kernel
theorem dX5_firstOtherwise_48 : decode cX5_firstOtherwise 48 = .ok (.if_icmp .ne 7, 3) := by decide +kernel
theorem dX5_firstOtherwise_51 : decode cX5_firstOtherwise 51 = .ok (.iconst 1, 1) := by decide +kernel
theorem dX5_firstOtherwise_52 : decode cX5_firstOtherwise 52 = .ok (.goto 4, 3) := by decide +kernel
theorem dX5_firstOtherwise_55 : decode cX5_firstOtherwise 55 = .ok (.iconst 0, 1) := by decide +kernel
theorem dX5_firstOtherwise_56 : decode cX5_firstOtherwise 56 = .ok (.invokevirtual 38, 3) := by decide +kernel
theorem dX5_firstOtherwise_59 : decode cX5_firstOtherwise 59 = .ok (.aload_n 0, 1) := by decide +kernel
theorem dX5_firstOtherwise_60 : decode cX5_firstOtherwise 60 = .ok (.getfield 15, 3) := by decide +kernel
theorem dX5_firstOtherwise_63 : decode cX5_firstOtherwise 63 = .ok (.iload 4, 2) := by decide +kernel
theorem dX5_firstOtherwise_65 : decode cX5_firstOtherwise 65 = .ok (.iaload, 1) := by decide +kernel
theorem dX5_firstOtherwise_66 : decode cX5_firstOtherwise 66 = .ok (.if_icmp .eq 6, 3) := by decide +kernel
theorem dX5_firstOtherwise_69 : decode cX5_firstOtherwise 69 = .ok (.iload 4, 2) := by decide +kernel
theorem dX5_firstOtherwise_71 : decode cX5_firstOtherwise 71 = .ok (.ireturn, 1) := by decide +kernel
theorem dX5_firstOtherwise_72 : decode cX5_firstOtherwise 72 = .ok (.iinc 4 1, 3) := by decide +kernel
theorem dX5_firstOtherwise_75 : decode cX5_firstOtherwise 75 = .ok (.goto (-64), 3) := by decide +kernel
theorem dX5_firstOtherwise_78 : decode cX5_firstOtherwise 78 = .ok (.iconst (-1), 1) := by decide +kernel
theorem dX5_firstOtherwise_79 : decode cX5_firstOtherwise 79 = .ok (.ireturn, 1) := by decide +kernel
theorem dX5_leastSlipFor_0 : decode cX5_leastSlipFor 0 = .ok (.iload_n 3, 1) := by decide +kernel
theorem dX5_leastSlipFor_1 : decode cX5_leastSlipFor 1 = .ok (.aload_n 0, 1) := by decide +kernel
theorem dX5_leastSlipFor_2 : decode cX5_leastSlipFor 2 = .ok (.getfield 25, 3) := by decide +kernel
theorem dX5_leastSlipFor_5 : decode cX5_leastSlipFor 5 = .ok (.if_icmp .ge 11, 3) := by decide +kernel
theorem dX5_leastSlipFor_8 : decode cX5_leastSlipFor 8 = .ok (.aload_n 2, 1) := by decide +kernel
theorem dX5_leastSlipFor_9 : decode cX5_leastSlipFor 9 = .ok (.getfield 42, 3) := by decide +kernel
theorem dX5_leastSlipFor_12 : decode cX5_leastSlipFor 12 = .ok (.iconst (-1), 1) := by decide +kernel
theorem dX5_leastSlipFor_13 : decode cX5_leastSlipFor 13 = .ok (.if_icmp .eq 5, 3) := by decide +kernel
theorem dX5_leastSlipFor_16 : decode cX5_leastSlipFor 16 = .ok (.iconst (-1), 1) := by decide +kernel
theorem dX5_leastSlipFor_17 : decode cX5_leastSlipFor 17 = .ok (.ireturn, 1) := by decide +kernel
theorem dX5_leastSlipFor_18 : decode cX5_leastSlipFor 18 = .ok (.iconst 0, 1) := by decide +kernel
theorem dX5_leastSlipFor_19 : decode cX5_leastSlipFor 19 = .ok (.istore 4, 2) := by decide +kernel
theorem dX5_leastSlipFor_21 : decode cX5_leastSlipFor 21 = .ok (.iload 4, 2) := by decide +kernel
theorem dX5_leastSlipFor_23 : decode cX5_leastSlipFor 23 = .ok (.bipush 99, 2) := by decide +kernel
theorem dX5_leastSlipFor_25 : decode cX5_leastSlipFor 25 = .ok (.if_icmp .gt 39, 3) := by decide +kernel
theorem dX5_leastSlipFor_28 : decode cX5_leastSlipFor 28 = .ok (.aload_n 0, 1) := by decide +kernel
theorem dX5_leastSlipFor_29 : decode cX5_leastSlipFor 29 = .ok (.getfield 21, 3) := by decide +kernel
theorem dX5_leastSlipFor_32 : decode cX5_leastSlipFor 32 = .ok (.aload_n 2, 1) := by decide +kernel
theorem dX5_leastSlipFor_33 : decode cX5_leastSlipFor 33 = .ok (.invokevirtual 30, 3) := by decide +kernel
theorem dX5_leastSlipFor_36 : decode cX5_leastSlipFor 36 = .ok (.aload_n 0, 1) := by decide +kernel
theorem dX5_leastSlipFor_37 : decode cX5_leastSlipFor 37 = .ok (.getfield 21, 3) := by decide +kernel
theorem dX5_leastSlipFor_40 : decode cX5_leastSlipFor 40 = .ok (.iload 4, 2) := by decide +kernel
theorem dX5_leastSlipFor_42 : decode cX5_leastSlipFor 42 = .ok (.invokevirtual 45, 3) := by decide +kernel
theorem dX5_leastSlipFor_45 : decode cX5_leastSlipFor 45 = .ok (.aload_n 0, 1) := by decide +kernel
theorem dX5_leastSlipFor_46 : decode cX5_leastSlipFor 46 = .ok (.aload_n 1, 1) := by decide +kernel
theorem dX5_leastSlipFor_47 : decode cX5_leastSlipFor 47 = .ok (.iload_n 3, 1) := by decide +kernel
theorem dX5_leastSlipFor_48 : decode cX5_leastSlipFor 48 = .ok (.invokevirtual 49, 3) := by decide +kernel
theorem dX5_leastSlipFor_51 : decode cX5_leastSlipFor 51 = .ok (.iload_n 3, 1) := by decide +kernel
theorem dX5_leastSlipFor_52 : decode cX5_leastSlipFor 52 = .ok (.if_icmp .ne 6, 3) := by decide +kernel
theorem dX5_leastSlipFor_55 : decode cX5_leastSlipFor 55 = .ok (.iload 4, 2) := by decide +kernel
theorem dX5_leastSlipFor_57 : decode cX5_leastSlipFor 57 = .ok (.ireturn, 1) := by decide +kernel
theorem dX5_leastSlipFor_58 : decode cX5_leastSlipFor 58 = .ok (.iinc 4 1, 3) := by decide +kernel
theorem dX5_leastSlipFor_61 : decode cX5_leastSlipFor 61 = .ok (.goto (-40), 3) := by decide +kernel
theorem dX5_leastSlipFor_64 : decode cX5_leastSlipFor 64 = .ok (.iconst (-1), 1) := by decide +kernel
theorem dX5_leastSlipFor_65 : decode cX5_leastSlipFor 65 = .ok (.ireturn, 1) := by decide +kernel
theorem dX5_goThatHasIt_0 : decode cX5_goThatHasIt 0 = .ok (.iconst 0, 1) := by decide +kernel
theorem dX5_goThatHasIt_1 : decode cX5_goThatHasIt 1 = .ok (.istore_n 3, 1) := by decide +kernel
theorem dX5_goThatHasIt_2 : decode cX5_goThatHasIt 2 = .ok (.iload_n 3, 1) := by decide +kernel
theorem dX5_goThatHasIt_3 : decode cX5_goThatHasIt 3 = .ok (.iload_n 2, 1) := by decide +kernel
theorem dX5_goThatHasIt_4 : decode cX5_goThatHasIt 4 = .ok (.if_icmp .gt 45, 3) := by decide +kernel
theorem dX5_goThatHasIt_7 : decode cX5_goThatHasIt 7 = .ok (.iload_n 3, 1) := by decide +kernel
theorem dX5_goThatHasIt_8 : decode cX5_goThatHasIt 8 = .ok (.aload_n 0, 1) := by decide +kernel
theorem dX5_goThatHasIt_9 : decode cX5_goThatHasIt 9 = .ok (.getfield 25, 3) := by decide +kernel
theorem dX5_goThatHasIt_12 : decode cX5_goThatHasIt 12 = .ok (.if_icmp .ge 37, 3) := by decide +kernel
theorem dX5_goThatHasIt_15 : decode cX5_goThatHasIt 15 = .ok (.aload_n 0, 1) := by decide +kernel
theorem dX5_goThatHasIt_16 : decode cX5_goThatHasIt 16 = .ok (.getfield 21, 3) := by decide +kernel
theorem dX5_goThatHasIt_19 : decode cX5_goThatHasIt 19 = .ok (.aload_n 1, 1) := by decide +kernel
theorem dX5_goThatHasIt_20 : decode cX5_goThatHasIt 20 = .ok (.aload_n 0, 1) := by decide +kernel
theorem dX5_goThatHasIt_21 : decode cX5_goThatHasIt 21 = .ok (.iload_n 3, 1) := by decide +kernel
theorem dX5_goThatHasIt_22 : decode cX5_goThatHasIt 22 = .ok (.invokevirtual 34, 3) := by decide +kernel
theorem dX5_goThatHasIt_25 : decode cX5_goThatHasIt 25 = .ok (.iconst 0, 1) := by decide +kernel
theorem dX5_goThatHasIt_26 : decode cX5_goThatHasIt 26 = .ok (.invokevirtual 38, 3) := by decide +kernel
theorem dX5_goThatHasIt_29 : decode cX5_goThatHasIt 29 = .ok (.pop, 1) := by decide +kernel
theorem dX5_goThatHasIt_30 : decode cX5_goThatHasIt 30 = .ok (.aload_n 0, 1) := by decide +kernel
theorem dX5_goThatHasIt_31 : decode cX5_goThatHasIt 31 = .ok (.getfield 21, 3) := by decide +kernel
theorem dX5_goThatHasIt_34 : decode cX5_goThatHasIt 34 = .ok (.getfield 42, 3) := by decide +kernel
theorem dX5_goThatHasIt_37 : decode cX5_goThatHasIt 37 = .ok (.iconst (-1), 1) := by decide +kernel
theorem dX5_goThatHasIt_38 : decode cX5_goThatHasIt 38 = .ok (.if_icmp .eq 5, 3) := by decide +kernel
theorem dX5_goThatHasIt_41 : decode cX5_goThatHasIt 41 = .ok (.iload_n 3, 1) := by decide +kernel
theorem dX5_goThatHasIt_42 : decode cX5_goThatHasIt 42 = .ok (.ireturn, 1) := by decide +kernel
theorem dX5_goThatHasIt_43 : decode cX5_goThatHasIt 43 = .ok (.iinc 3 1, 3) := by decide +kernel
theorem dX5_goThatHasIt_46 : decode cX5_goThatHasIt 46 = .ok (.goto (-44), 3) := by decide +kernel
theorem dX5_goThatHasIt_49 : decode cX5_goThatHasIt 49 = .ok (.iconst (-1), 1) := by decide +kernel
theorem dX5_goThatHasIt_50 : decode cX5_goThatHasIt 50 = .ok (.ireturn, 1) := by decide +kernel
theorem dX6_init_0 : decode cX6_init 0 = .ok (.aload_n 0, 1) := by decide +kernel
theorem dX6_init_1 : decode cX6_init 1 = .ok (.invokespecial 1, 3) := by decide +kernel
theorem dX6_init_4 : decode cX6_init 4 = .ok (.aload_n 0, 1) := by decide +kernel
theorem dX6_init_5 : decode cX6_init 5 = .ok (.new 7, 3) := by decide +kernel
theorem dX6_init_8 : decode cX6_init 8 = .ok (.dup, 1) := by decide +kernel
theorem dX6_init_9 : decode cX6_init 9 = .ok (.invokespecial 9, 3) := by decide +kernel
theorem dX6_init_12 : decode cX6_init 12 = .ok (.putfield 10, 3) := by decide +kernel
theorem dX6_init_15 : decode cX6_init 15 = .ok (.aload_n 0, 1) := by decide +kernel
theorem dX6_init_16 : decode cX6_init 16 = .ok (.new 16, 3) := by decide +kernel
theorem dX6_init_19 : decode cX6_init 19 = .ok (.dup, 1) := by decide +kernel
theorem dX6_init_20 : decode cX6_init 20 = .ok (.invokespecial 18, 3) := by decide +kernel
theorem dX6_init_23 : decode cX6_init 23 = .ok (.putfield 19, 3) := by decide +kernel
theorem dX6_init_26 : decode cX6_init 26 = .ok (.aload_n 0, 1) := by decide +kernel
theorem dX6_init_27 : decode cX6_init 27 = .ok (.new 16, 3) := by decide +kernel
theorem dX6_init_30 : decode cX6_init 30 = .ok (.dup, 1) := by decide +kernel
theorem dX6_init_31 : decode cX6_init 31 = .ok (.invokespecial 18, 3) := by decide +kernel
theorem dX6_init_34 : decode cX6_init 34 = .ok (.putfield 23, 3) := by decide +kernel
theorem dX6_init_37 : decode cX6_init 37 = .ok (.aload_n 0, 1) := by decide +kernel
theorem dX6_init_38 : decode cX6_init 38 = .ok (.new 26, 3) := by decide +kernel
theorem dX6_init_41 : decode cX6_init 41 = .ok (.dup, 1) := by decide +kernel
theorem dX6_init_42 : decode cX6_init 42 = .ok (.invokespecial 28, 3) := by decide +kernel
theorem dX6_init_45 : decode cX6_init 45 = .ok (.putfield 29, 3) := by decide +kernel
theorem dX6_init_48 : decode cX6_init 48 = .ok (.aload_n 0, 1) := by decide +kernel
theorem dX6_init_49 : decode cX6_init 49 = .ok (.iconst 2, 1) := by decide +kernel
theorem dX6_init_50 : decode cX6_init 50 = .ok (.anewarray 26, 3) := by decide +kernel
theorem dX6_init_53 : decode cX6_init 53 = .ok (.putfield 33, 3) := by decide +kernel
theorem dX6_init_56 : decode cX6_init 56 = .ok (.iconst 0, 1) := by decide +kernel
theorem dX6_init_57 : decode cX6_init 57 = .ok (.istore_n 1, 1) := by decide +kernel
theorem dX6_init_58 : decode cX6_init 58 = .ok (.iload_n 1, 1) := by decide +kernel
theorem dX6_init_59 : decode cX6_init 59 = .ok (.aload_n 0, 1) := by decide +kernel
theorem dX6_init_60 : decode cX6_init 60 = .ok (.getfield 33, 3) := by decide +kernel
theorem dX6_init_63 : decode cX6_init 63 = .ok (.arraylength, 1) := by decide +kernel
theorem dX6_init_64 : decode cX6_init 64 = .ok (.if_icmp .ge 22, 3) := by decide +kernel
theorem dX6_init_67 : decode cX6_init 67 = .ok (.aload_n 0, 1) := by decide +kernel
theorem dX6_init_68 : decode cX6_init 68 = .ok (.getfield 33, 3) := by decide +kernel
theorem dX6_init_71 : decode cX6_init 71 = .ok (.iload_n 1, 1) := by decide +kernel
theorem dX6_init_72 : decode cX6_init 72 = .ok (.new 26, 3) := by decide +kernel
theorem dX6_init_75 : decode cX6_init 75 = .ok (.dup, 1) := by decide +kernel
theorem dX6_init_76 : decode cX6_init 76 = .ok (.invokespecial 28, 3) := by decide +kernel
theorem dX6_init_79 : decode cX6_init 79 = .ok (.aastore, 1) := by decide +kernel
theorem dX6_init_80 : decode cX6_init 80 = .ok (.iinc 1 1, 3) := by decide +kernel
theorem dX6_init_83 : decode cX6_init 83 = .ok (.goto (-25), 3) := by decide +kernel
theorem dX6_init_86 : decode cX6_init 86 = .ok (.aload_n 0, 1) := by decide +kernel
theorem dX6_init_87 : decode cX6_init 87 = .ok (.iconst 2, 1) := by decide +kernel
theorem dX6_init_88 : decode cX6_init 88 = .ok (.newarray .boolean, 2) := by decide +kernel
theorem dX6_init_90 : decode cX6_init 90 = .ok (.putfield 37, 3) := by decide +kernel
theorem dX6_init_93 : decode cX6_init 93 = .ok (.aload_n 0, 1) := by decide +kernel
theorem dX6_init_94 : decode cX6_init 94 = .ok (.new 41, 3) := by decide +kernel
theorem dX6_init_97 : decode cX6_init 97 = .ok (.dup, 1) := by decide +kernel
theorem dX6_init_98 : decode cX6_init 98 = .ok (.invokespecial 43, 3) := by decide +kernel
theorem dX6_init_101 : decode cX6_init 101 = .ok (.putfield 44, 3) := by decide +kernel
theorem dX6_init_104 : decode cX6_init 104 = .ok (.aload_n 0, 1) := by decide +kernel
theorem dX6_init_105 : decode cX6_init 105 = .ok (.new 48, 3) := by decide +kernel
theorem dX6_init_108 : decode cX6_init 108 = .ok (.dup, 1) := by decide +kernel
theorem dX6_init_109 : decode cX6_init 109 = .ok (.invokespecial 50, 3) := by decide +kernel
theorem dX6_init_112 : decode cX6_init 112 = .ok (.putfield 51, 3) := by decide +kernel
theorem dX6_init_115 : decode cX6_init 115 = .ok (.aload_n 0, 1) := by decide +kernel
theorem dX6_init_116 : decode cX6_init 116 = .ok (.new 55, 3) := by decide +kernel
theorem dX6_init_119 : decode cX6_init 119 = .ok (.dup, 1) := by decide +kernel
theorem dX6_init_120 : decode cX6_init 120 = .ok (.invokespecial 57, 3) := by decide +kernel
theorem dX6_init_123 : decode cX6_init 123 = .ok (.putfield 58, 3) := by decide +kernel
theorem dX6_init_126 : decode cX6_init 126 = .ok (.aload_n 0, 1) := by decide +kernel
theorem dX6_init_127 : decode cX6_init 127 = .ok (.new 26, 3) := by decide +kernel
theorem dX6_init_130 : decode cX6_init 130 = .ok (.dup, 1) := by decide +kernel
theorem dX6_init_131 : decode cX6_init 131 = .ok (.invokespecial 28, 3) := by decide +kernel
theorem dX6_init_134 : decode cX6_init 134 = .ok (.putfield 62, 3) := by decide +kernel
theorem dX6_init_137 : decode cX6_init 137 = .ok (.aload_n 0, 1) := by decide +kernel
theorem dX6_init_138 : decode cX6_init 138 = .ok (.iconst 0, 1) := by decide +kernel
theorem dX6_init_139 : decode cX6_init 139 = .ok (.putfield 65, 3) := by decide +kernel
theorem dX6_init_142 : decode cX6_init 142 = .ok (.aload_n 0, 1) := by decide +kernel
theorem dX6_init_143 : decode cX6_init 143 = .ok (.iconst (-1), 1) := by decide +kernel
theorem dX6_init_144 : decode cX6_init 144 = .ok (.putfield 69, 3) := by decide +kernel
theorem dX6_init_147 : decode cX6_init 147 = .ok (.return_, 1) := by decide +kernel
theorem dX6_feed_0 : decode cX6_feed 0 = .ok (.iload_n 1, 1) := by decide +kernel
theorem dX6_feed_1 : decode cX6_feed 1 = .ok (.iconst 1, 1) := by decide +kernel
theorem dX6_feed_2 : decode cX6_feed 2 = .ok (.if_icmp .lt 9, 3) := by decide +kernel
theorem dX6_feed_5 : decode cX6_feed 5 = .ok (.iload_n 1, 1) := by decide +kernel
theorem dX6_feed_6 : decode cX6_feed 6 = .ok (.bipush 8, 2) := by decide +kernel
theorem dX6_feed_8 : decode cX6_feed 8 = .ok (.if_icmp .le 6, 3) := by decide +kernel
theorem dX6_feed_11 : decode cX6_feed 11 = .ok (.ldc 73, 2) := by decide +kernel
theorem dX6_feed_13 : decode cX6_feed 13 = .ok (.ireturn, 1) := by decide +kernel
theorem dX6_feed_14 : decode cX6_feed 14 = .ok (.iload_n 1, 1) := by decide +kernel
theorem dX6_feed_15 : decode cX6_feed 15 = .ok (.aload_n 0, 1) := by decide +kernel
theorem dX6_feed_16 : decode cX6_feed 16 = .ok (.getfield 10, 3) := by decide +kernel
theorem dX6_feed_19 : decode cX6_feed 19 = .ok (.invokevirtual 74, 3) := by decide +kernel
theorem dX6_feed_22 : decode cX6_feed 22 = .ok (.if_icmp .le 6, 3) := by decide +kernel
theorem dX6_feed_25 : decode cX6_feed 25 = .ok (.ldc 78, 2) := by decide +kernel
theorem dX6_feed_27 : decode cX6_feed 27 = .ok (.ireturn, 1) := by decide +kernel
theorem dX6_feed_28 : decode cX6_feed 28 = .ok (.aload_n 0, 1) := by decide +kernel
theorem dX6_feed_29 : decode cX6_feed 29 = .ok (.getfield 10, 3) := by decide +kernel
theorem dX6_feed_32 : decode cX6_feed 32 = .ok (.iload_n 1, 1) := by decide +kernel
theorem dX6_feed_33 : decode cX6_feed 33 = .ok (.lload_n 2, 1) := by decide +kernel
theorem dX6_feed_34 : decode cX6_feed 34 = .ok (.invokevirtual 79, 3) := by decide +kernel
theorem dX6_feed_37 : decode cX6_feed 37 = .ok (.ireturn, 1) := by decide +kernel
theorem dX6_pole_0 : decode cX6_pole 0 = .ok (.aload_n 0, 1) := by decide +kernel
theorem dX6_pole_1 : decode cX6_pole 1 = .ok (.getfield 10, 3) := by decide +kernel
theorem dX6_pole_4 : decode cX6_pole 4 = .ok (.aload_n 0, 1) := by decide +kernel
theorem dX6_pole_5 : decode cX6_pole 5 = .ok (.getfield 23, 3) := by decide +kernel
theorem dX6_pole_8 : decode cX6_pole 8 = .ok (.invokevirtual 83, 3) := by decide +kernel
theorem dX6_pole_11 : decode cX6_pole 11 = .ok (.istore_n 1, 1) := by decide +kernel
theorem dX6_pole_12 : decode cX6_pole 12 = .ok (.aload_n 0, 1) := by decide +kernel
theorem dX6_pole_13 : decode cX6_pole 13 = .ok (.aload_n 0, 1) := by decide +kernel
theorem dX6_pole_14 : decode cX6_pole 14 = .ok (.getfield 10, 3) := by decide +kernel
theorem dX6_pole_17 : decode cX6_pole 17 = .ok (.getfield 87, 3) := by decide +kernel
theorem dX6_pole_20 : decode cX6_pole 20 = .ok (.putfield 69, 3) := by decide +kernel
theorem dX6_pole_23 : decode cX6_pole 23 = .ok (.aload_n 0, 1) := by decide +kernel
theorem dX6_pole_24 : decode cX6_pole 24 = .ok (.getfield 10, 3) := by decide +kernel
theorem dX6_pole_27 : decode cX6_pole 27 = .ok (.invokevirtual 90, 3) := by decide +kernel
theorem dX6_pole_30 : decode cX6_pole 30 = .ok (.iload_n 1, 1) := by decide +kernel
theorem dX6_pole_31 : decode cX6_pole 31 = .ok (.ifCond .eq 8, 3) := by decide +kernel
theorem dX6_pole_34 : decode cX6_pole 34 = .ok (.bipush (-10), 2) := by decide +kernel
theorem dX6_pole_36 : decode cX6_pole 36 = .ok (.iload_n 1, 1) := by decide +kernel
theorem dX6_pole_37 : decode cX6_pole 37 = .ok (.isub, 1) := by decide +kernel
theorem dX6_pole_38 : decode cX6_pole 38 = .ok (.ireturn, 1) := by decide +kernel
theorem dX6_pole_39 : decode cX6_pole 39 = .ok (.aload_n 0, 1) := by decide +kernel
theorem dX6_pole_40 : decode cX6_pole 40 = .ok (.getfield 19, 3) := by decide +kernel
theorem dX6_pole_43 : decode cX6_pole 43 = .ok (.aload_n 0, 1) := by decide +kernel
theorem dX6_pole_44 : decode cX6_pole 44 = .ok (.getfield 23, 3) := by decide +kernel
theorem dX6_pole_47 : decode cX6_pole 47 = .ok (.invokevirtual 93, 3) := by decide +kernel
theorem dX6_pole_50 : decode cX6_pole 50 = .ok (.aload_n 0, 1) := by decide +kernel
theorem dX6_pole_51 : decode cX6_pole 51 = .ok (.getfield 29, 3) := by decide +kernel
theorem dX6_pole_54 : decode cX6_pole 54 = .ok (.aload_n 0, 1) := by decide +kernel
theorem dX6_pole_55 : decode cX6_pole 55 = .ok (.getfield 19, 3) := by decide +kernel
theorem dX6_pole_58 : decode cX6_pole 58 = .ok (.invokevirtual 97, 3) := by decide +kernel
theorem dX6_pole_61 : decode cX6_pole 61 = .ok (.aload_n 0, 1) := by decide +kernel
theorem dX6_pole_62 : decode cX6_pole 62 = .ok (.getfield 44, 3) := by decide +kernel
theorem dX6_pole_65 : decode cX6_pole 65 = .ok (.invokevirtual 100, 3) := by decide +kernel
theorem dX6_pole_68 : decode cX6_pole 68 = .ok (.iconst 0, 1) := by decide +kernel
theorem dX6_pole_69 : decode cX6_pole 69 = .ok (.istore_n 2, 1) := by decide +kernel
theorem dX6_pole_70 : decode cX6_pole 70 = .ok (.iload_n 2, 1) := by decide +kernel
theorem dX6_pole_71 : decode cX6_pole 71 = .ok (.aload_n 0, 1) := by decide +kernel
theorem dX6_pole_72 : decode cX6_pole 72 = .ok (.getfield 37, 3) := by decide +kernel
theorem dX6_pole_75 : decode cX6_pole 75 = .ok (.arraylength, 1) := by decide +kernel
theorem dX6_pole_76 : decode cX6_pole 76 = .ok (.if_icmp .ge 16, 3) := by decide +kernel
theorem dX6_pole_79 : decode cX6_pole 79 = .ok (.aload_n 0, 1) := by decide +kernel
theorem dX6_pole_80 : decode cX6_pole 80 = .ok (.getfield 37, 3) := by decide +kernel
theorem dX6_pole_83 : decode cX6_pole 83 = .ok (.iload_n 2, 1) := by decide +kernel
theorem dX6_pole_84 : decode cX6_pole 84 = .ok (.iconst 0, 1) := by decide +kernel
theorem dX6_pole_85 : decode cX6_pole 85 = .ok (.bastore, 1) := by decide +kernel
theorem dX6_pole_86 : decode cX6_pole 86 = .ok (.iinc 2 1, 3) := by decide +kernel
theorem dX6_pole_89 : decode cX6_pole 89 = .ok (.goto (-19), 3) := by decide +kernel
theorem dX6_pole_92 : decode cX6_pole 92 = .ok (.aload_n 0, 1) := by decide +kernel
theorem dX6_pole_93 : decode cX6_pole 93 = .ok (.iconst 0, 1) := by decide +kernel
theorem dX6_pole_94 : decode cX6_pole 94 = .ok (.putfield 65, 3) := by decide +kernel
theorem dX6_pole_97 : decode cX6_pole 97 = .ok (.aload_n 0, 1) := by decide +kernel
theorem dX6_pole_98 : decode cX6_pole 98 = .ok (.getfield 19, 3) := by decide +kernel
theorem dX6_pole_101 : decode cX6_pole 101 = .ok (.getfield 101, 3) := by decide +kernel
theorem dX6_pole_104 : decode cX6_pole 104 = .ok (.ireturn, 1) := by decide +kernel
theorem dX6_fault_0 : decode cX6_fault 0 = .ok (.aload_n 0, 1) := by decide +kernel
theorem dX6_fault_1 : decode cX6_fault 1 = .ok (.getfield 69, 3) := by decide +kernel
theorem dX6_fault_4 : decode cX6_fault 4 = .ok (.ireturn, 1) := by decide +kernel
theorem dX6_told_0 : decode cX6_told 0 = .ok (.iload_n 1, 1) := by decide +kernel
theorem dX6_told_1 : decode cX6_told 1 = .ok (.tableswitch 157 0 10 #[59, 67, 75, 83, 91, 99, 107, 115, 123, 131, 139], 59) := by decide +kernel
theorem dX6_told_60 : decode cX6_told 60 = .ok (.aload_n 0, 1) := by decide +kernel
theorem dX6_told_61 : decode cX6_told 61 = .ok (.getfield 19, 3) := by decide +kernel
theorem dX6_told_64 : decode cX6_told 64 = .ok (.getfield 101, 3) := by decide +kernel
theorem dX6_told_67 : decode cX6_told 67 = .ok (.ireturn, 1) := by decide +kernel
theorem dX6_told_68 : decode cX6_told 68 = .ok (.aload_n 0, 1) := by decide +kernel
theorem dX6_told_69 : decode cX6_told 69 = .ok (.getfield 19, 3) := by decide +kernel
theorem dX6_told_72 : decode cX6_told 72 = .ok (.getfield 104, 3) := by decide +kernel
theorem dX6_told_75 : decode cX6_told 75 = .ok (.ireturn, 1) := by decide +kernel
theorem dX6_told_76 : decode cX6_told 76 = .ok (.aload_n 0, 1) := by decide +kernel
theorem dX6_told_77 : decode cX6_told 77 = .ok (.getfield 19, 3) := by decide +kernel
theorem dX6_told_80 : decode cX6_told 80 = .ok (.getfield 107, 3) := by decide +kernel
theorem dX6_told_83 : decode cX6_told 83 = .ok (.ireturn, 1) := by decide +kernel
theorem dX6_told_84 : decode cX6_told 84 = .ok (.aload_n 0, 1) := by decide +kernel
theorem dX6_told_85 : decode cX6_told 85 = .ok (.getfield 19, 3) := by decide +kernel
theorem dX6_told_88 : decode cX6_told 88 = .ok (.getfield 110, 3) := by decide +kernel
theorem dX6_told_91 : decode cX6_told 91 = .ok (.ireturn, 1) := by decide +kernel
theorem dX6_told_92 : decode cX6_told 92 = .ok (.aload_n 0, 1) := by decide +kernel
theorem dX6_told_93 : decode cX6_told 93 = .ok (.getfield 19, 3) := by decide +kernel
theorem dX6_told_96 : decode cX6_told 96 = .ok (.getfield 113, 3) := by decide +kernel
theorem dX6_told_99 : decode cX6_told 99 = .ok (.ireturn, 1) := by decide +kernel
theorem dX6_told_100 : decode cX6_told 100 = .ok (.aload_n 0, 1) := by decide +kernel
theorem dX6_told_101 : decode cX6_told 101 = .ok (.getfield 19, 3) := by decide +kernel
theorem dX6_told_104 : decode cX6_told 104 = .ok (.getfield 116, 3) := by decide +kernel
theorem dX6_told_107 : decode cX6_told 107 = .ok (.ireturn, 1) := by decide +kernel
theorem dX6_told_108 : decode cX6_told 108 = .ok (.aload_n 0, 1) := by decide +kernel
theorem dX6_told_109 : decode cX6_told 109 = .ok (.getfield 10, 3) := by decide +kernel
theorem dX6_told_112 : decode cX6_told 112 = .ok (.getfield 119, 3) := by decide +kernel
theorem dX6_told_115 : decode cX6_told 115 = .ok (.ireturn, 1) := by decide +kernel
theorem dX6_told_116 : decode cX6_told 116 = .ok (.aload_n 0, 1) := by decide +kernel
theorem dX6_told_117 : decode cX6_told 117 = .ok (.getfield 29, 3) := by decide +kernel
theorem dX6_told_120 : decode cX6_told 120 = .ok (.getfield 122, 3) := by decide +kernel
theorem dX6_told_123 : decode cX6_told 123 = .ok (.ireturn, 1) := by decide +kernel
theorem dX6_told_124 : decode cX6_told 124 = .ok (.aload_n 0, 1) := by decide +kernel
theorem dX6_told_125 : decode cX6_told 125 = .ok (.getfield 29, 3) := by decide +kernel
theorem dX6_told_128 : decode cX6_told 128 = .ok (.getfield 125, 3) := by decide +kernel
theorem dX6_told_131 : decode cX6_told 131 = .ok (.ireturn, 1) := by decide +kernel
theorem dX6_told_132 : decode cX6_told 132 = .ok (.aload_n 0, 1) := by decide +kernel
theorem dX6_told_133 : decode cX6_told 133 = .ok (.getfield 44, 3) := by decide +kernel
theorem dX6_told_136 : decode cX6_told 136 = .ok (.getfield 128, 3) := by decide +kernel
theorem dX6_told_139 : decode cX6_told 139 = .ok (.ireturn, 1) := by decide +kernel
theorem dX6_told_140 : decode cX6_told 140 = .ok (.aload_n 0, 1) := by decide +kernel
theorem dX6_told_141 : decode cX6_told 141 = .ok (.getfield 29, 3) := by decide +kernel
theorem dX6_told_144 : decode cX6_told 144 = .ok (.iconst 0, 1) := by decide +kernel
theorem dX6_told_145 : decode cX6_told 145 = .ok (.aload_n 0, 1) := by decide +kernel
theorem dX6_told_146 : decode cX6_told 146 = .ok (.getfield 19, 3) := by decide +kernel
theorem dX6_told_149 : decode cX6_told 149 = .ok (.getfield 101, 3) := by decide +kernel
theorem dX6_told_152 : decode cX6_told 152 = .ok (.iconst 1, 1) := by decide +kernel
theorem dX6_told_153 : decode cX6_told 153 = .ok (.isub, 1) := by decide +kernel
theorem dX6_told_154 : decode cX6_told 154 = .ok (.invokevirtual 131, 3) := by decide +kernel
theorem dX6_told_157 : decode cX6_told 157 = .ok (.ireturn, 1) := by decide +kernel
theorem dX6_told_158 : decode cX6_told 158 = .ok (.ldc 73, 2) := by decide +kernel
theorem dX6_told_160 : decode cX6_told 160 = .ok (.ireturn, 1) := by decide +kernel
theorem dX6_slip_0 : decode cX6_slip 0 = .ok (.aload_n 0, 1) := by decide +kernel
theorem dX6_slip_1 : decode cX6_slip 1 = .ok (.getfield 19, 3) := by decide +kernel
theorem dX6_slip_4 : decode cX6_slip 4 = .ok (.iload_n 1, 1) := by decide +kernel
theorem dX6_slip_5 : decode cX6_slip 5 = .ok (.invokevirtual 135, 3) := by decide +kernel
theorem dX6_slip_8 : decode cX6_slip 8 = .ok (.ifCond .eq 14, 3) := by decide +kernel
theorem dX6_slip_11 : decode cX6_slip 11 = .ok (.aload_n 0, 1) := by decide +kernel
theorem dX6_slip_12 : decode cX6_slip 12 = .ok (.getfield 29, 3) := by decide +kernel
theorem dX6_slip_15 : decode cX6_slip 15 = .ok (.iload_n 1, 1) := by decide +kernel
theorem dX6_slip_16 : decode cX6_slip 16 = .ok (.invokevirtual 139, 3) := by decide +kernel
theorem dX6_slip_19 : decode cX6_slip 19 = .ok (.goto 5, 3) := by decide +kernel
theorem dX6_slip_22 : decode cX6_slip 22 = .ok (.ldc 143, 2) := by decide +kernel
theorem dX6_slip_24 : decode cX6_slip 24 = .ok (.ireturn, 1) := by decide +kernel
theorem dX6_climber_0 : decode cX6_climber 0 = .ok (.aload_n 0, 1) := by decide +kernel
theorem dX6_climber_1 : decode cX6_climber 1 = .ok (.getfield 19, 3) := by decide +kernel
theorem dX6_climber_4 : decode cX6_climber 4 = .ok (.iload_n 1, 1) := by decide +kernel
theorem dX6_climber_5 : decode cX6_climber 5 = .ok (.invokevirtual 144, 3) := by decide +kernel
theorem dX6_climber_8 : decode cX6_climber 8 = .ok (.ifCond .ne 6, 3) := by decide +kernel
theorem dX6_climber_11 : decode cX6_climber 11 = .ok (.ldc 143, 2) := by decide +kernel
theorem dX6_climber_13 : decode cX6_climber 13 = .ok (.ireturn, 1) := by decide +kernel
theorem dX6_climber_14 : decode cX6_climber 14 = .ok (.iload_n 2, 1) := by decide +kernel
theorem dX6_climber_15 : decode cX6_climber 15 = .ok (.tableswitch 71 0 3 #[29, 38, 47, 56], 29) := by decide +kernel
theorem dX6_climber_44 : decode cX6_climber 44 = .ok (.aload_n 0, 1) := by decide +kernel
theorem dX6_climber_45 : decode cX6_climber 45 = .ok (.getfield 19, 3) := by decide +kernel
theorem dX6_climber_48 : decode cX6_climber 48 = .ok (.iload_n 1, 1) := by decide +kernel
theorem dX6_climber_49 : decode cX6_climber 49 = .ok (.invokevirtual 147, 3) := by decide +kernel
theorem dX6_climber_52 : decode cX6_climber 52 = .ok (.ireturn, 1) := by decide +kernel
theorem dX6_climber_53 : decode cX6_climber 53 = .ok (.aload_n 0, 1) := by decide +kernel
theorem dX6_climber_54 : decode cX6_climber 54 = .ok (.getfield 19, 3) := by decide +kernel
theorem dX6_climber_57 : decode cX6_climber 57 = .ok (.iload_n 1, 1) := by decide +kernel
theorem dX6_climber_58 : decode cX6_climber 58 = .ok (.invokevirtual 150, 3) := by decide +kernel
theorem dX6_climber_61 : decode cX6_climber 61 = .ok (.ireturn, 1) := by decide +kernel
theorem dX6_climber_62 : decode cX6_climber 62 = .ok (.aload_n 0, 1) := by decide +kernel
theorem dX6_climber_63 : decode cX6_climber 63 = .ok (.getfield 19, 3) := by decide +kernel
theorem dX6_climber_66 : decode cX6_climber 66 = .ok (.iload_n 1, 1) := by decide +kernel
theorem dX6_climber_67 : decode cX6_climber 67 = .ok (.invokevirtual 153, 3) := by decide +kernel
theorem dX6_climber_70 : decode cX6_climber 70 = .ok (.ireturn, 1) := by decide +kernel
theorem dX6_climber_71 : decode cX6_climber 71 = .ok (.aload_n 0, 1) := by decide +kernel
theorem dX6_climber_72 : decode cX6_climber 72 = .ok (.getfield 29, 3) := by decide +kernel
theorem dX6_climber_75 : decode cX6_climber 75 = .ok (.aload_n 0, 1) := by decide +kernel
theorem dX6_climber_76 : decode cX6_climber 76 = .ok (.getfield 19, 3) := by decide +kernel
theorem dX6_climber_79 : decode cX6_climber 79 = .ok (.iload_n 1, 1) := by decide +kernel
theorem dX6_climber_80 : decode cX6_climber 80 = .ok (.iconst 0, 1) := by decide +kernel
theorem dX6_climber_81 : decode cX6_climber 81 = .ok (.iconst 0, 1) := by decide +kernel
theorem dX6_climber_82 : decode cX6_climber 82 = .ok (.invokevirtual 156, 3) := by decide +kernel
theorem dX6_climber_85 : decode cX6_climber 85 = .ok (.ireturn, 1) := by decide +kernel
theorem dX6_climber_86 : decode cX6_climber 86 = .ok (.ldc 73, 2) := by decide +kernel
theorem dX6_climber_88 : decode cX6_climber 88 = .ok (.ireturn, 1) := by decide +kernel
theorem dX6_go_0 : decode cX6_go 0 = .ok (.aload_n 0, 1) := by decide +kernel
theorem dX6_go_1 : decode cX6_go 1 = .ok (.getfield 19, 3) := by decide +kernel
theorem dX6_go_4 : decode cX6_go 4 = .ok (.iload_n 1, 1) := by decide +kernel
theorem dX6_go_5 : decode cX6_go 5 = .ok (.invokevirtual 144, 3) := by decide +kernel
theorem dX6_go_8 : decode cX6_go 8 = .ok (.ifCond .ne 6, 3) := by decide +kernel
theorem dX6_go_11 : decode cX6_go 11 = .ok (.ldc 143, 2) := by decide +kernel
theorem dX6_go_13 : decode cX6_go 13 = .ok (.ireturn, 1) := by decide +kernel
theorem dX6_go_14 : decode cX6_go 14 = .ok (.aload_n 0, 1) := by decide +kernel
theorem dX6_go_15 : decode cX6_go 15 = .ok (.getfield 19, 3) := by decide +kernel
theorem dX6_go_18 : decode cX6_go 18 = .ok (.getfield 101, 3) := by decide +kernel
theorem dX6_go_21 : decode cX6_go 21 = .ok (.ifCond .ne 6, 3) := by decide +kernel
theorem dX6_go_24 : decode cX6_go 24 = .ok (.ldc 160, 2) := by decide +kernel
theorem dX6_go_26 : decode cX6_go 26 = .ok (.ireturn, 1) := by decide +kernel
theorem dX6_go_27 : decode cX6_go 27 = .ok (.aload_n 0, 1) := by decide +kernel
theorem dX6_go_28 : decode cX6_go 28 = .ok (.getfield 29, 3) := by decide +kernel
theorem dX6_go_31 : decode cX6_go 31 = .ok (.aload_n 0, 1) := by decide +kernel
theorem dX6_go_32 : decode cX6_go 32 = .ok (.getfield 19, 3) := by decide +kernel
theorem dX6_go_35 : decode cX6_go 35 = .ok (.iload_n 1, 1) := by decide +kernel
theorem dX6_go_36 : decode cX6_go 36 = .ok (.iconst 0, 1) := by decide +kernel
theorem dX6_go_37 : decode cX6_go 37 = .ok (.invokevirtual 161, 3) := by decide +kernel
theorem dX6_go_40 : decode cX6_go 40 = .ok (.ireturn, 1) := by decide +kernel
theorem dX6_soap_0 : decode cX6_soap 0 = .ok (.aload_n 0, 1) := by decide +kernel
theorem dX6_soap_1 : decode cX6_soap 1 = .ok (.getfield 19, 3) := by decide +kernel
theorem dX6_soap_4 : decode cX6_soap 4 = .ok (.iload_n 1, 1) := by decide +kernel
theorem dX6_soap_5 : decode cX6_soap 5 = .ok (.invokevirtual 135, 3) := by decide +kernel
theorem dX6_soap_8 : decode cX6_soap 8 = .ok (.ifCond .eq 14, 3) := by decide +kernel
theorem dX6_soap_11 : decode cX6_soap 11 = .ok (.aload_n 0, 1) := by decide +kernel
theorem dX6_soap_12 : decode cX6_soap 12 = .ok (.getfield 19, 3) := by decide +kernel
theorem dX6_soap_15 : decode cX6_soap 15 = .ok (.iload_n 2, 1) := by decide +kernel
theorem dX6_soap_16 : decode cX6_soap 16 = .ok (.invokevirtual 135, 3) := by decide +kernel
theorem dX6_soap_19 : decode cX6_soap 19 = .ok (.ifCond .ne 6, 3) := by decide +kernel
theorem dX6_soap_22 : decode cX6_soap 22 = .ok (.ldc 143, 2) := by decide +kernel
theorem dX6_soap_24 : decode cX6_soap 24 = .ok (.ireturn, 1) := by decide +kernel
theorem dX6_soap_25 : decode cX6_soap 25 = .ok (.iload_n 2, 1) := by decide +kernel
theorem dX6_soap_26 : decode cX6_soap 26 = .ok (.iload_n 1, 1) := by decide +kernel
theorem dX6_soap_27 : decode cX6_soap 27 = .ok (.if_icmp .lt 14, 3) := by decide +kernel
theorem dX6_soap_30 : decode cX6_soap 30 = .ok (.iload_n 3, 1) := by decide +kernel
theorem dX6_soap_31 : decode cX6_soap 31 = .ok (.iconst 1, 1) := by decide +kernel
theorem dX6_soap_32 : decode cX6_soap 32 = .ok (.if_icmp .lt 9, 3) := by decide +kernel
theorem dX6_soap_35 : decode cX6_soap 35 = .ok (.iload_n 3, 1) := by decide +kernel
theorem dX6_soap_36 : decode cX6_soap 36 = .ok (.bipush 99, 2) := by decide +kernel
theorem dX6_soap_38 : decode cX6_soap 38 = .ok (.if_icmp .le 6, 3) := by decide +kernel
theorem dX6_soap_41 : decode cX6_soap 41 = .ok (.ldc 73, 2) := by decide +kernel
theorem dX6_soap_43 : decode cX6_soap 43 = .ok (.ireturn, 1) := by decide +kernel
theorem dX6_soap_44 : decode cX6_soap 44 = .ok (.aload_n 0, 1) := by decide +kernel
theorem dX6_soap_45 : decode cX6_soap 45 = .ok (.getfield 29, 3) := by decide +kernel
theorem dX6_soap_48 : decode cX6_soap 48 = .ok (.iload_n 1, 1) := by decide +kernel
theorem dX6_soap_49 : decode cX6_soap 49 = .ok (.iload_n 2, 1) := by decide +kernel
theorem dX6_soap_50 : decode cX6_soap 50 = .ok (.iload_n 3, 1) := by decide +kernel
theorem dX6_soap_51 : decode cX6_soap 51 = .ok (.invokevirtual 165, 3) := by decide +kernel
theorem dX6_soap_54 : decode cX6_soap 54 = .ok (.aload_n 0, 1) := by decide +kernel
theorem dX6_soap_55 : decode cX6_soap 55 = .ok (.getfield 29, 3) := by decide +kernel
theorem dX6_soap_58 : decode cX6_soap 58 = .ok (.iload_n 1, 1) := by decide +kernel
theorem dX6_soap_59 : decode cX6_soap 59 = .ok (.iload_n 2, 1) := by decide +kernel
theorem dX6_soap_60 : decode cX6_soap 60 = .ok (.invokevirtual 131, 3) := by decide +kernel
theorem dX6_soap_63 : decode cX6_soap 63 = .ok (.ireturn, 1) := by decide +kernel
theorem dX6_hang_0 : decode cX6_hang 0 = .ok (.aload_n 0, 1) := by decide +kernel
theorem dX6_hang_1 : decode cX6_hang 1 = .ok (.getfield 29, 3) := by decide +kernel
theorem dX6_hang_4 : decode cX6_hang 4 = .ok (.getfield 125, 3) := by decide +kernel
theorem dX6_hang_7 : decode cX6_hang 7 = .ok (.istore_n 1, 1) := by decide +kernel
theorem dX6_hang_8 : decode cX6_hang 8 = .ok (.aload_n 0, 1) := by decide +kernel
theorem dX6_hang_9 : decode cX6_hang 9 = .ok (.getfield 29, 3) := by decide +kernel
theorem dX6_hang_12 : decode cX6_hang 12 = .ok (.iconst (-1), 1) := by decide +kernel
theorem dX6_hang_13 : decode cX6_hang 13 = .ok (.putfield 125, 3) := by decide +kernel
theorem dX6_hang_16 : decode cX6_hang 16 = .ok (.iload_n 1, 1) := by decide +kernel
theorem dX6_hang_17 : decode cX6_hang 17 = .ok (.ireturn, 1) := by decide +kernel
theorem dX6_begin_0 : decode cX6_begin 0 = .ok (.aload_n 0, 1) := by decide +kernel
theorem dX6_begin_1 : decode cX6_begin 1 = .ok (.getfield 29, 3) := by decide +kernel
theorem dX6_begin_4 : decode cX6_begin 4 = .ok (.getfield 122, 3) := by decide +kernel
theorem dX6_begin_7 : decode cX6_begin 7 = .ok (.istore_n 1, 1) := by decide +kernel
theorem dX6_begin_8 : decode cX6_begin 8 = .ok (.aload_n 0, 1) := by decide +kernel
theorem dX6_begin_9 : decode cX6_begin 9 = .ok (.getfield 29, 3) := by decide +kernel
theorem dX6_begin_12 : decode cX6_begin 12 = .ok (.aload_n 0, 1) := by decide +kernel
theorem dX6_begin_13 : decode cX6_begin 13 = .ok (.getfield 19, 3) := by decide +kernel
theorem dX6_begin_16 : decode cX6_begin 16 = .ok (.invokevirtual 97, 3) := by decide +kernel
theorem dX6_begin_19 : decode cX6_begin 19 = .ok (.iload_n 1, 1) := by decide +kernel
theorem dX6_begin_20 : decode cX6_begin 20 = .ok (.ireturn, 1) := by decide +kernel
theorem dX6_drift_0 : decode cX6_drift 0 = .ok (.iload_n 1, 1) := by decide +kernel
theorem dX6_drift_1 : decode cX6_drift 1 = .ok (.iconst 1, 1) := by decide +kernel
theorem dX6_drift_2 : decode cX6_drift 2 = .ok (.if_icmp .lt 9, 3) := by decide +kernel
theorem dX6_drift_5 : decode cX6_drift 5 = .ok (.iload_n 1, 1) := by decide +kernel
theorem dX6_drift_6 : decode cX6_drift 6 = .ok (.bipush 99, 2) := by decide +kernel
theorem dX6_drift_8 : decode cX6_drift 8 = .ok (.if_icmp .le 6, 3) := by decide +kernel
theorem dX6_drift_11 : decode cX6_drift 11 = .ok (.ldc 73, 2) := by decide +kernel
theorem dX6_drift_13 : decode cX6_drift 13 = .ok (.ireturn, 1) := by decide +kernel
theorem dX6_drift_14 : decode cX6_drift 14 = .ok (.aload_n 0, 1) := by decide +kernel
theorem dX6_drift_15 : decode cX6_drift 15 = .ok (.getfield 19, 3) := by decide +kernel
theorem dX6_drift_18 : decode cX6_drift 18 = .ok (.getfield 101, 3) := by decide +kernel
theorem dX6_drift_21 : decode cX6_drift 21 = .ok (.ifCond .eq 13, 3) := by decide +kernel
theorem dX6_drift_24 : decode cX6_drift 24 = .ok (.aload_n 0, 1) := by decide +kernel
theorem dX6_drift_25 : decode cX6_drift 25 = .ok (.getfield 19, 3) := by decide +kernel
theorem dX6_drift_28 : decode cX6_drift 28 = .ok (.getfield 104, 3) := by decide +kernel
theorem dX6_drift_31 : decode cX6_drift 31 = .ok (.ifCond .ne 6, 3) := by decide +kernel
theorem dX6_drift_34 : decode cX6_drift 34 = .ok (.ldc 160, 2) := by decide +kernel
theorem dX6_drift_36 : decode cX6_drift 36 = .ok (.ireturn, 1) := by decide +kernel
theorem dX6_drift_37 : decode cX6_drift 37 = .ok (.iconst 0, 1) := by decide +kernel
theorem dX6_drift_38 : decode cX6_drift 38 = .ok (.istore_n 2, 1) := by decide +kernel
theorem dX6_drift_39 : decode cX6_drift 39 = .ok (.iload_n 2, 1) := by decide +kernel
theorem dX6_drift_40 : decode cX6_drift 40 = .ok (.iload_n 1, 1) := by decide +kernel
theorem dX6_drift_41 : decode cX6_drift 41 = .ok (.if_icmp .ge 47, 3) := by decide +kernel
theorem dX6_drift_44 : decode cX6_drift 44 = .ok (.aload_n 0, 1) := by decide +kernel
theorem dX6_drift_45 : decode cX6_drift 45 = .ok (.getfield 29, 3) := by decide +kernel
theorem dX6_drift_48 : decode cX6_drift 48 = .ok (.getfield 125, 3) := by decide +kernel
theorem dX6_drift_51 : decode cX6_drift 51 = .ok (.iconst (-1), 1) := by decide +kernel
theorem dX6_drift_52 : decode cX6_drift 52 = .ok (.if_icmp .ne 36, 3) := by decide +kernel
theorem dX6_drift_55 : decode cX6_drift 55 = .ok (.aload_n 0, 1) := by decide +kernel
theorem dX6_drift_56 : decode cX6_drift 56 = .ok (.getfield 29, 3) := by decide +kernel
theorem dX6_drift_59 : decode cX6_drift 59 = .ok (.aload_n 0, 1) := by decide +kernel
theorem dX6_drift_60 : decode cX6_drift 60 = .ok (.getfield 19, 3) := by decide +kernel
theorem dX6_drift_63 : decode cX6_drift 63 = .ok (.aload_n 0, 1) := by decide +kernel
theorem dX6_drift_64 : decode cX6_drift 64 = .ok (.getfield 29, 3) := by decide +kernel
theorem dX6_drift_67 : decode cX6_drift 67 = .ok (.aload_n 0, 1) := by decide +kernel
theorem dX6_drift_68 : decode cX6_drift 68 = .ok (.getfield 19, 3) := by decide +kernel
theorem dX6_drift_71 : decode cX6_drift 71 = .ok (.getfield 104, 3) := by decide +kernel
theorem dX6_drift_74 : decode cX6_drift 74 = .ok (.invokevirtual 169, 3) := by decide +kernel
theorem dX6_drift_77 : decode cX6_drift 77 = .ok (.iconst 0, 1) := by decide +kernel
theorem dX6_drift_78 : decode cX6_drift 78 = .ok (.invokevirtual 161, 3) := by decide +kernel
theorem dX6_drift_81 : decode cX6_drift 81 = .ok (.pop, 1) := by decide +kernel
theorem dX6_drift_82 : decode cX6_drift 82 = .ok (.iinc 2 1, 3) := by decide +kernel
theorem dX6_drift_85 : decode cX6_drift 85 = .ok (.goto (-46), 3) := by decide +kernel
theorem dX6_drift_88 : decode cX6_drift 88 = .ok (.aload_n 0, 1) := by decide +kernel
theorem dX6_drift_89 : decode cX6_drift 89 = .ok (.getfield 29, 3) := by decide +kernel
theorem dX6_drift_92 : decode cX6_drift 92 = .ok (.getfield 125, 3) := by decide +kernel
theorem dX6_drift_95 : decode cX6_drift 95 = .ok (.ireturn, 1) := by decide +kernel
theorem dX6_order_0 : decode cX6_order 0 = .ok (.aload_n 0, 1) := by decide +kernel
theorem dX6_order_1 : decode cX6_order 1 = .ok (.invokevirtual 172, 3) := by decide +kernel
theorem dX6_order_4 : decode cX6_order 4 = .ok (.aload_n 0, 1) := by decide +kernel
theorem dX6_order_5 : decode cX6_order 5 = .ok (.getfield 51, 3) := by decide +kernel
theorem dX6_order_8 : decode cX6_order 8 = .ok (.aload_n 0, 1) := by decide +kernel
theorem dX6_order_9 : decode cX6_order 9 = .ok (.getfield 19, 3) := by decide +kernel
theorem dX6_order_12 : decode cX6_order 12 = .ok (.aload_n 0, 1) := by decide +kernel
theorem dX6_order_13 : decode cX6_order 13 = .ok (.getfield 62, 3) := by decide +kernel
theorem dX6_order_16 : decode cX6_order 16 = .ok (.iload_n 1, 1) := by decide +kernel
theorem dX6_order_17 : decode cX6_order 17 = .ok (.invokevirtual 175, 3) := by decide +kernel
theorem dX6_order_20 : decode cX6_order 20 = .ok (.ireturn, 1) := by decide +kernel
theorem dX6_forOne_0 : decode cX6_forOne 0 = .ok (.aload_n 0, 1) := by decide +kernel
theorem dX6_forOne_1 : decode cX6_forOne 1 = .ok (.getfield 19, 3) := by decide +kernel
theorem dX6_forOne_4 : decode cX6_forOne 4 = .ok (.iload_n 1, 1) := by decide +kernel
theorem dX6_forOne_5 : decode cX6_forOne 5 = .ok (.invokevirtual 144, 3) := by decide +kernel
theorem dX6_forOne_8 : decode cX6_forOne 8 = .ok (.ifCond .ne 6, 3) := by decide +kernel
theorem dX6_forOne_11 : decode cX6_forOne 11 = .ok (.ldc 143, 2) := by decide +kernel
theorem dX6_forOne_13 : decode cX6_forOne 13 = .ok (.ireturn, 1) := by decide +kernel
theorem dX6_forOne_14 : decode cX6_forOne 14 = .ok (.aload_n 0, 1) := by decide +kernel
theorem dX6_forOne_15 : decode cX6_forOne 15 = .ok (.invokevirtual 172, 3) := by decide +kernel
theorem dX6_forOne_18 : decode cX6_forOne 18 = .ok (.aload_n 0, 1) := by decide +kernel
theorem dX6_forOne_19 : decode cX6_forOne 19 = .ok (.getfield 51, 3) := by decide +kernel
theorem dX6_forOne_22 : decode cX6_forOne 22 = .ok (.aload_n 0, 1) := by decide +kernel
theorem dX6_forOne_23 : decode cX6_forOne 23 = .ok (.getfield 19, 3) := by decide +kernel
theorem dX6_forOne_26 : decode cX6_forOne 26 = .ok (.aload_n 0, 1) := by decide +kernel
theorem dX6_forOne_27 : decode cX6_forOne 27 = .ok (.getfield 62, 3) := by decide +kernel
theorem dX6_forOne_30 : decode cX6_forOne 30 = .ok (.iload_n 1, 1) := by decide +kernel
theorem dX6_forOne_31 : decode cX6_forOne 31 = .ok (.iload_n 2, 1) := by decide +kernel
theorem dX6_forOne_32 : decode cX6_forOne 32 = .ok (.invokevirtual 179, 3) := by decide +kernel
theorem dX6_forOne_35 : decode cX6_forOne 35 = .ok (.ireturn, 1) := by decide +kernel
theorem dX6_rests_0 : decode cX6_rests 0 = .ok (.iload_n 1, 1) := by decide +kernel
theorem dX6_rests_1 : decode cX6_rests 1 = .ok (.iconst (-1), 1) := by decide +kernel
theorem dX6_rests_2 : decode cX6_rests 2 = .ok (.if_icmp .eq 17, 3) := by decide +kernel
theorem dX6_rests_5 : decode cX6_rests 5 = .ok (.aload_n 0, 1) := by decide +kernel
theorem dX6_rests_6 : decode cX6_rests 6 = .ok (.getfield 19, 3) := by decide +kernel
theorem dX6_rests_9 : decode cX6_rests 9 = .ok (.iload_n 1, 1) := by decide +kernel
theorem dX6_rests_10 : decode cX6_rests 10 = .ok (.invokevirtual 144, 3) := by decide +kernel
theorem dX6_rests_13 : decode cX6_rests 13 = .ok (.ifCond .ne 6, 3) := by decide +kernel
theorem dX6_rests_16 : decode cX6_rests 16 = .ok (.ldc 143, 2) := by decide +kernel
theorem dX6_rests_18 : decode cX6_rests 18 = .ok (.ireturn, 1) := by decide +kernel
theorem dX6_rests_19 : decode cX6_rests 19 = .ok (.aload_n 0, 1) := by decide +kernel
theorem dX6_rests_20 : decode cX6_rests 20 = .ok (.invokevirtual 172, 3) := by decide +kernel
theorem dX6_rests_23 : decode cX6_rests 23 = .ok (.aload_n 0, 1) := by decide +kernel
theorem dX6_rests_24 : decode cX6_rests 24 = .ok (.getfield 58, 3) := by decide +kernel
theorem dX6_rests_27 : decode cX6_rests 27 = .ok (.aload_n 0, 1) := by decide +kernel
theorem dX6_rests_28 : decode cX6_rests 28 = .ok (.getfield 19, 3) := by decide +kernel
theorem dX6_rests_31 : decode cX6_rests 31 = .ok (.aload_n 0, 1) := by decide +kernel
theorem dX6_rests_32 : decode cX6_rests 32 = .ok (.getfield 62, 3) := by decide +kernel
theorem dX6_rests_35 : decode cX6_rests 35 = .ok (.iload_n 1, 1) := by decide +kernel
theorem dX6_rests_36 : decode cX6_rests 36 = .ok (.invokevirtual 183, 3) := by decide +kernel
theorem dX6_rests_39 : decode cX6_rests 39 = .ok (.ireturn, 1) := by decide +kernel
theorem dX6_tower_0 : decode cX6_tower 0 = .ok (.aload_n 0, 1) := by decide +kernel
theorem dX6_tower_1 : decode cX6_tower 1 = .ok (.getfield 19, 3) := by decide +kernel
theorem dX6_tower_4 : decode cX6_tower 4 = .ok (.iload_n 1, 1) := by decide +kernel
theorem dX6_tower_5 : decode cX6_tower 5 = .ok (.invokevirtual 144, 3) := by decide +kernel
theorem dX6_tower_8 : decode cX6_tower 8 = .ok (.ifCond .eq 19, 3) := by decide +kernel
theorem dX6_tower_11 : decode cX6_tower 11 = .ok (.aload_n 0, 1) := by decide +kernel
theorem dX6_tower_12 : decode cX6_tower 12 = .ok (.getfield 19, 3) := by decide +kernel
theorem dX6_tower_15 : decode cX6_tower 15 = .ok (.iload_n 2, 1) := by decide +kernel
theorem dX6_tower_16 : decode cX6_tower 16 = .ok (.invokevirtual 144, 3) := by decide +kernel
theorem dX6_tower_19 : decode cX6_tower 19 = .ok (.ifCond .eq 8, 3) := by decide +kernel
theorem dX6_tower_22 : decode cX6_tower 22 = .ok (.iload_n 1, 1) := by decide +kernel
theorem dX6_tower_23 : decode cX6_tower 23 = .ok (.iload_n 2, 1) := by decide +kernel
theorem dX6_tower_24 : decode cX6_tower 24 = .ok (.if_icmp .ne 6, 3) := by decide +kernel
theorem dX6_tower_27 : decode cX6_tower 27 = .ok (.ldc 143, 2) := by decide +kernel
theorem dX6_tower_29 : decode cX6_tower 29 = .ok (.ireturn, 1) := by decide +kernel
theorem dX6_tower_30 : decode cX6_tower 30 = .ok (.aload_n 0, 1) := by decide +kernel
theorem dX6_tower_31 : decode cX6_tower 31 = .ok (.getfield 19, 3) := by decide +kernel
theorem dX6_tower_34 : decode cX6_tower 34 = .ok (.getfield 101, 3) := by decide +kernel
theorem dX6_tower_37 : decode cX6_tower 37 = .ok (.ifCond .ne 6, 3) := by decide +kernel
theorem dX6_tower_40 : decode cX6_tower 40 = .ok (.ldc 160, 2) := by decide +kernel
theorem dX6_tower_42 : decode cX6_tower 42 = .ok (.ireturn, 1) := by decide +kernel
theorem dX6_tower_43 : decode cX6_tower 43 = .ok (.aload_n 0, 1) := by decide +kernel
theorem dX6_tower_44 : decode cX6_tower 44 = .ok (.getfield 19, 3) := by decide +kernel
theorem dX6_tower_47 : decode cX6_tower 47 = .ok (.iload_n 1, 1) := by decide +kernel
theorem dX6_tower_48 : decode cX6_tower 48 = .ok (.invokevirtual 150, 3) := by decide +kernel
theorem dX6_tower_51 : decode cX6_tower 51 = .ok (.iconst 2, 1) := by decide +kernel
theorem dX6_tower_52 : decode cX6_tower 52 = .ok (.aload_n 0, 1) := by decide +kernel
theorem dX6_tower_53 : decode cX6_tower 53 = .ok (.getfield 19, 3) := by decide +kernel
theorem dX6_tower_56 : decode cX6_tower 56 = .ok (.iload_n 2, 1) := by decide +kernel
theorem dX6_tower_57 : decode cX6_tower 57 = .ok (.invokevirtual 147, 3) := by decide +kernel
theorem dX6_tower_60 : decode cX6_tower 60 = .ok (.imul, 1) := by decide +kernel
theorem dX6_tower_61 : decode cX6_tower 61 = .ok (.if_icmp .ge 5, 3) := by decide +kernel
theorem dX6_tower_64 : decode cX6_tower 64 = .ok (.iconst (-1), 1) := by decide +kernel
theorem dX6_tower_65 : decode cX6_tower 65 = .ok (.ireturn, 1) := by decide +kernel
theorem dX6_tower_66 : decode cX6_tower 66 = .ok (.aload_n 0, 1) := by decide +kernel
theorem dX6_tower_67 : decode cX6_tower 67 = .ok (.getfield 19, 3) := by decide +kernel
theorem dX6_tower_70 : decode cX6_tower 70 = .ok (.getfield 101, 3) := by decide +kernel
theorem dX6_tower_73 : decode cX6_tower 73 = .ok (.iconst 5, 1) := by decide +kernel
theorem dX6_tower_74 : decode cX6_tower 74 = .ok (.if_icmp .le 7, 3) := by decide +kernel
theorem dX6_tower_77 : decode cX6_tower 77 = .ok (.iconst 5, 1) := by decide +kernel
theorem dX6_tower_78 : decode cX6_tower 78 = .ok (.goto 4, 3) := by decide +kernel
theorem dX6_tower_81 : decode cX6_tower 81 = .ok (.iconst 0, 1) := by decide +kernel
theorem dX6_tower_82 : decode cX6_tower 82 = .ok (.istore_n 3, 1) := by decide +kernel
theorem dX6_tower_83 : decode cX6_tower 83 = .ok (.aload_n 0, 1) := by decide +kernel
theorem dX6_tower_84 : decode cX6_tower 84 = .ok (.getfield 29, 3) := by decide +kernel
theorem dX6_tower_87 : decode cX6_tower 87 = .ok (.aload_n 0, 1) := by decide +kernel
theorem dX6_tower_88 : decode cX6_tower 88 = .ok (.getfield 19, 3) := by decide +kernel
theorem dX6_tower_91 : decode cX6_tower 91 = .ok (.iload_n 2, 1) := by decide +kernel
theorem dX6_tower_92 : decode cX6_tower 92 = .ok (.iload_n 3, 1) := by decide +kernel
theorem dX6_tower_93 : decode cX6_tower 93 = .ok (.iconst 0, 1) := by decide +kernel
theorem dX6_tower_94 : decode cX6_tower 94 = .ok (.invokevirtual 156, 3) := by decide +kernel
theorem dX6_tower_97 : decode cX6_tower 97 = .ok (.ireturn, 1) := by decide +kernel
theorem dX6_lookAgain_0 : decode cX6_lookAgain 0 = .ok (.aload_n 0, 1) := by decide +kernel
theorem dX6_lookAgain_1 : decode cX6_lookAgain 1 = .ok (.getfield 65, 3) := by decide +kernel
theorem dX6_lookAgain_4 : decode cX6_lookAgain 4 = .ok (.ifCond .eq 18, 3) := by decide +kernel
theorem dX6_lookAgain_7 : decode cX6_lookAgain 7 = .ok (.aload_n 0, 1) := by decide +kernel
theorem dX6_lookAgain_8 : decode cX6_lookAgain 8 = .ok (.getfield 62, 3) := by decide +kernel
theorem dX6_lookAgain_11 : decode cX6_lookAgain 11 = .ok (.aload_n 0, 1) := by decide +kernel
theorem dX6_lookAgain_12 : decode cX6_lookAgain 12 = .ok (.getfield 29, 3) := by decide +kernel
theorem dX6_lookAgain_15 : decode cX6_lookAgain 15 = .ok (.invokevirtual 186, 3) := by decide +kernel
theorem dX6_lookAgain_18 : decode cX6_lookAgain 18 = .ok (.ifCond .eq 4, 3) := by decide +kernel
theorem dX6_lookAgain_21 : decode cX6_lookAgain 21 = .ok (.return_, 1) := by decide +kernel
theorem dX6_lookAgain_22 : decode cX6_lookAgain 22 = .ok (.aload_n 0, 1) := by decide +kernel
theorem dX6_lookAgain_23 : decode cX6_lookAgain 23 = .ok (.getfield 62, 3) := by decide +kernel
theorem dX6_lookAgain_26 : decode cX6_lookAgain 26 = .ok (.aload_n 0, 1) := by decide +kernel
theorem dX6_lookAgain_27 : decode cX6_lookAgain 27 = .ok (.getfield 29, 3) := by decide +kernel
theorem dX6_lookAgain_30 : decode cX6_lookAgain 30 = .ok (.invokevirtual 190, 3) := by decide +kernel
theorem dX6_lookAgain_33 : decode cX6_lookAgain 33 = .ok (.aload_n 0, 1) := by decide +kernel
theorem dX6_lookAgain_34 : decode cX6_lookAgain 34 = .ok (.iconst 1, 1) := by decide +kernel
theorem dX6_lookAgain_35 : decode cX6_lookAgain 35 = .ok (.putfield 65, 3) := by decide +kernel
theorem dX6_lookAgain_38 : decode cX6_lookAgain 38 = .ok (.aload_n 0, 1) := by decide +kernel
theorem dX6_lookAgain_39 : decode cX6_lookAgain 39 = .ok (.getfield 51, 3) := by decide +kernel
theorem dX6_lookAgain_42 : decode cX6_lookAgain 42 = .ok (.invokevirtual 193, 3) := by decide +kernel
theorem dX6_lookAgain_45 : decode cX6_lookAgain 45 = .ok (.aload_n 0, 1) := by decide +kernel
theorem dX6_lookAgain_46 : decode cX6_lookAgain 46 = .ok (.getfield 58, 3) := by decide +kernel
theorem dX6_lookAgain_49 : decode cX6_lookAgain 49 = .ok (.invokevirtual 196, 3) := by decide +kernel
theorem dX6_lookAgain_52 : decode cX6_lookAgain 52 = .ok (.return_, 1) := by decide +kernel
theorem dX6_list_0 : decode cX6_list 0 = .ok (.aload_n 0, 1) := by decide +kernel
theorem dX6_list_1 : decode cX6_list 1 = .ok (.getfield 19, 3) := by decide +kernel
theorem dX6_list_4 : decode cX6_list 4 = .ok (.iload_n 1, 1) := by decide +kernel
theorem dX6_list_5 : decode cX6_list 5 = .ok (.invokevirtual 144, 3) := by decide +kernel
theorem dX6_list_8 : decode cX6_list 8 = .ok (.ifCond .ne 6, 3) := by decide +kernel
theorem dX6_list_11 : decode cX6_list 11 = .ok (.ldc 143, 2) := by decide +kernel
theorem dX6_list_13 : decode cX6_list 13 = .ok (.ireturn, 1) := by decide +kernel
theorem dX6_list_14 : decode cX6_list 14 = .ok (.iload_n 2, 1) := by decide +kernel
theorem dX6_list_15 : decode cX6_list 15 = .ok (.ifCond .lt 9, 3) := by decide +kernel
theorem dX6_list_18 : decode cX6_list 18 = .ok (.iload_n 2, 1) := by decide +kernel
theorem dX6_list_19 : decode cX6_list 19 = .ok (.bipush 30, 2) := by decide +kernel
theorem dX6_list_21 : decode cX6_list 21 = .ok (.if_icmp .le 6, 3) := by decide +kernel
theorem dX6_list_24 : decode cX6_list 24 = .ok (.ldc 73, 2) := by decide +kernel
theorem dX6_list_26 : decode cX6_list 26 = .ok (.ireturn, 1) := by decide +kernel
theorem dX6_list_27 : decode cX6_list 27 = .ok (.aload_n 0, 1) := by decide +kernel
theorem dX6_list_28 : decode cX6_list 28 = .ok (.getfield 44, 3) := by decide +kernel
theorem dX6_list_31 : decode cX6_list 31 = .ok (.iload_n 1, 1) := by decide +kernel
theorem dX6_list_32 : decode cX6_list 32 = .ok (.iload_n 2, 1) := by decide +kernel
theorem dX6_list_33 : decode cX6_list 33 = .ok (.invokevirtual 197, 3) := by decide +kernel
theorem dX6_list_36 : decode cX6_list 36 = .ok (.ireturn, 1) := by decide +kernel
theorem dX6_tear_0 : decode cX6_tear 0 = .ok (.aload_n 0, 1) := by decide +kernel
theorem dX6_tear_1 : decode cX6_tear 1 = .ok (.getfield 44, 3) := by decide +kernel
theorem dX6_tear_4 : decode cX6_tear 4 = .ok (.getfield 128, 3) := by decide +kernel
theorem dX6_tear_7 : decode cX6_tear 7 = .ok (.istore_n 1, 1) := by decide +kernel
theorem dX6_tear_8 : decode cX6_tear 8 = .ok (.aload_n 0, 1) := by decide +kernel
theorem dX6_tear_9 : decode cX6_tear 9 = .ok (.getfield 44, 3) := by decide +kernel
theorem dX6_tear_12 : decode cX6_tear 12 = .ok (.invokevirtual 100, 3) := by decide +kernel
theorem dX6_tear_15 : decode cX6_tear 15 = .ok (.iload_n 1, 1) := by decide +kernel
theorem dX6_tear_16 : decode cX6_tear 16 = .ok (.ireturn, 1) := by decide +kernel
theorem dX6_enough_0 : decode cX6_enough 0 = .ok (.iload_n 1, 1) := by decide +kernel
theorem dX6_enough_1 : decode cX6_enough 1 = .ok (.ifCond .lt 9, 3) := by decide +kernel
theorem dX6_enough_4 : decode cX6_enough 4 = .ok (.iload_n 1, 1) := by decide +kernel
theorem dX6_enough_5 : decode cX6_enough 5 = .ok (.bipush 12, 2) := by decide +kernel
theorem dX6_enough_7 : decode cX6_enough 7 = .ok (.if_icmp .lt 6, 3) := by decide +kernel
theorem dX6_enough_10 : decode cX6_enough 10 = .ok (.ldc 73, 2) := by decide +kernel
theorem dX6_enough_12 : decode cX6_enough 12 = .ok (.ireturn, 1) := by decide +kernel
theorem dX6_enough_13 : decode cX6_enough 13 = .ok (.aload_n 0, 1) := by decide +kernel
theorem dX6_enough_14 : decode cX6_enough 14 = .ok (.getfield 44, 3) := by decide +kernel
theorem dX6_enough_17 : decode cX6_enough 17 = .ok (.aload_n 0, 1) := by decide +kernel
theorem dX6_enough_18 : decode cX6_enough 18 = .ok (.getfield 19, 3) := by decide +kernel
theorem dX6_enough_21 : decode cX6_enough 21 = .ok (.aload_n 0, 1) := by decide +kernel
theorem dX6_enough_22 : decode cX6_enough 22 = .ok (.getfield 29, 3) := by decide +kernel
theorem dX6_enough_25 : decode cX6_enough 25 = .ok (.iload_n 1, 1) := by decide +kernel
theorem dX6_enough_26 : decode cX6_enough 26 = .ok (.invokevirtual 199, 3) := by decide +kernel
theorem dX6_enough_29 : decode cX6_enough 29 = .ok (.ireturn, 1) := by decide +kernel
theorem dX6_judge_0 : decode cX6_judge 0 = .ok (.aload_n 0, 1) := by decide +kernel
theorem dX6_judge_1 : decode cX6_judge 1 = .ok (.getfield 44, 3) := by decide +kernel
theorem dX6_judge_4 : decode cX6_judge 4 = .ok (.aload_n 0, 1) := by decide +kernel
theorem dX6_judge_5 : decode cX6_judge 5 = .ok (.getfield 19, 3) := by decide +kernel
theorem dX6_judge_8 : decode cX6_judge 8 = .ok (.aload_n 0, 1) := by decide +kernel
theorem dX6_judge_9 : decode cX6_judge 9 = .ok (.getfield 29, 3) := by decide +kernel
theorem dX6_judge_12 : decode cX6_judge 12 = .ok (.iconst (-1), 1) := by decide +kernel
theorem dX6_judge_13 : decode cX6_judge 13 = .ok (.invokevirtual 202, 3) := by decide +kernel
theorem dX6_judge_16 : decode cX6_judge 16 = .ok (.ireturn, 1) := by decide +kernel
theorem dX6_sand_0 : decode cX6_sand 0 = .ok (.iconst 0, 1) := by decide +kernel
theorem dX6_sand_1 : decode cX6_sand 1 = .ok (.istore_n 1, 1) := by decide +kernel
theorem dX6_sand_2 : decode cX6_sand 2 = .ok (.iconst 0, 1) := by decide +kernel
theorem dX6_sand_3 : decode cX6_sand 3 = .ok (.istore_n 2, 1) := by decide +kernel
theorem dX6_sand_4 : decode cX6_sand 4 = .ok (.iload_n 2, 1) := by decide +kernel
theorem dX6_sand_5 : decode cX6_sand 5 = .ok (.aload_n 0, 1) := by decide +kernel
theorem dX6_sand_6 : decode cX6_sand 6 = .ok (.getfield 19, 3) := by decide +kernel
theorem dX6_sand_9 : decode cX6_sand 9 = .ok (.getfield 104, 3) := by decide +kernel
theorem dX6_sand_12 : decode cX6_sand 12 = .ok (.if_icmp .ge 35, 3) := by decide +kernel
theorem dX6_sand_15 : decode cX6_sand 15 = .ok (.aload_n 0, 1) := by decide +kernel
theorem dX6_sand_16 : decode cX6_sand 16 = .ok (.getfield 44, 3) := by decide +kernel
theorem dX6_sand_19 : decode cX6_sand 19 = .ok (.aload_n 0, 1) := by decide +kernel
theorem dX6_sand_20 : decode cX6_sand 20 = .ok (.getfield 19, 3) := by decide +kernel
theorem dX6_sand_23 : decode cX6_sand 23 = .ok (.aload_n 0, 1) := by decide +kernel
theorem dX6_sand_24 : decode cX6_sand 24 = .ok (.getfield 29, 3) := by decide +kernel
theorem dX6_sand_27 : decode cX6_sand 27 = .ok (.iload_n 2, 1) := by decide +kernel
theorem dX6_sand_28 : decode cX6_sand 28 = .ok (.invokevirtual 202, 3) := by decide +kernel
theorem dX6_sand_31 : decode cX6_sand 31 = .ok (.iconst (-1), 1) := by decide +kernel
theorem dX6_sand_32 : decode cX6_sand 32 = .ok (.if_icmp .ne 9, 3) := by decide +kernel
theorem dX6_sand_35 : decode cX6_sand 35 = .ok (.iload_n 1, 1) := by decide +kernel
theorem dX6_sand_36 : decode cX6_sand 36 = .ok (.iconst 1, 1) := by decide +kernel
theorem dX6_sand_37 : decode cX6_sand 37 = .ok (.iload_n 2, 1) := by decide +kernel
theorem dX6_sand_38 : decode cX6_sand 38 = .ok (.ishl, 1) := by decide +kernel
theorem dX6_sand_39 : decode cX6_sand 39 = .ok (.ior, 1) := by decide +kernel
theorem dX6_sand_40 : decode cX6_sand 40 = .ok (.istore_n 1, 1) := by decide +kernel
theorem dX6_sand_41 : decode cX6_sand 41 = .ok (.iinc 2 1, 3) := by decide +kernel
theorem dX6_sand_44 : decode cX6_sand 44 = .ok (.goto (-40), 3) := by decide +kernel
theorem dX6_sand_47 : decode cX6_sand 47 = .ok (.iload_n 1, 1) := by decide +kernel
theorem dX6_sand_48 : decode cX6_sand 48 = .ok (.ireturn, 1) := by decide +kernel
theorem dX6_seed_0 : decode cX6_seed 0 = .ok (.iload_n 1, 1) := by decide +kernel
theorem dX6_seed_1 : decode cX6_seed 1 = .ok (.ifCond .ge 6, 3) := by decide +kernel
theorem dX6_seed_4 : decode cX6_seed 4 = .ok (.ldc 73, 2) := by decide +kernel
theorem dX6_seed_6 : decode cX6_seed 6 = .ok (.ireturn, 1) := by decide +kernel
theorem dX6_seed_7 : decode cX6_seed 7 = .ok (.aload_n 0, 1) := by decide +kernel
theorem dX6_seed_8 : decode cX6_seed 8 = .ok (.getfield 29, 3) := by decide +kernel
theorem dX6_seed_11 : decode cX6_seed 11 = .ok (.getfield 205, 3) := by decide +kernel
theorem dX6_seed_14 : decode cX6_seed 14 = .ok (.istore_n 2, 1) := by decide +kernel
theorem dX6_seed_15 : decode cX6_seed 15 = .ok (.aload_n 0, 1) := by decide +kernel
theorem dX6_seed_16 : decode cX6_seed 16 = .ok (.getfield 29, 3) := by decide +kernel
theorem dX6_seed_19 : decode cX6_seed 19 = .ok (.iload_n 1, 1) := by decide +kernel
theorem dX6_seed_20 : decode cX6_seed 20 = .ok (.putfield 205, 3) := by decide +kernel
theorem dX6_seed_23 : decode cX6_seed 23 = .ok (.iload_n 2, 1) := by decide +kernel
theorem dX6_seed_24 : decode cX6_seed 24 = .ok (.ireturn, 1) := by decide +kernel
theorem dX6_keep_0 : decode cX6_keep 0 = .ok (.aload_n 0, 1) := by decide +kernel
theorem dX6_keep_1 : decode cX6_keep 1 = .ok (.iload_n 1, 1) := by decide +kernel
theorem dX6_keep_2 : decode cX6_keep 2 = .ok (.invokevirtual 208, 3) := by decide +kernel
theorem dX6_keep_5 : decode cX6_keep 5 = .ok (.ifCond .ne 6, 3) := by decide +kernel
theorem dX6_keep_8 : decode cX6_keep 8 = .ok (.ldc 143, 2) := by decide +kernel
theorem dX6_keep_10 : decode cX6_keep 10 = .ok (.ireturn, 1) := by decide +kernel
theorem dX6_keep_11 : decode cX6_keep 11 = .ok (.aload_n 0, 1) := by decide +kernel
theorem dX6_keep_12 : decode cX6_keep 12 = .ok (.getfield 33, 3) := by decide +kernel
theorem dX6_keep_15 : decode cX6_keep 15 = .ok (.iload_n 1, 1) := by decide +kernel
theorem dX6_keep_16 : decode cX6_keep 16 = .ok (.aaload, 1) := by decide +kernel
theorem dX6_keep_17 : decode cX6_keep 17 = .ok (.aload_n 0, 1) := by decide +kernel
theorem dX6_keep_18 : decode cX6_keep 18 = .ok (.getfield 29, 3) := by decide +kernel
theorem dX6_keep_21 : decode cX6_keep 21 = .ok (.invokevirtual 190, 3) := by decide +kernel
theorem dX6_keep_24 : decode cX6_keep 24 = .ok (.aload_n 0, 1) := by decide +kernel
theorem dX6_keep_25 : decode cX6_keep 25 = .ok (.getfield 37, 3) := by decide +kernel
theorem dX6_keep_28 : decode cX6_keep 28 = .ok (.iload_n 1, 1) := by decide +kernel
theorem dX6_keep_29 : decode cX6_keep 29 = .ok (.iconst 1, 1) := by decide +kernel
theorem dX6_keep_30 : decode cX6_keep 30 = .ok (.bastore, 1) := by decide +kernel
theorem dX6_keep_31 : decode cX6_keep 31 = .ok (.iconst 1, 1) := by decide +kernel
theorem dX6_keep_32 : decode cX6_keep 32 = .ok (.ireturn, 1) := by decide +kernel
theorem dX6_goBack_0 : decode cX6_goBack 0 = .ok (.aload_n 0, 1) := by decide +kernel
theorem dX6_goBack_1 : decode cX6_goBack 1 = .ok (.iload_n 1, 1) := by decide +kernel
theorem dX6_goBack_2 : decode cX6_goBack 2 = .ok (.invokevirtual 208, 3) := by decide +kernel
theorem dX6_goBack_5 : decode cX6_goBack 5 = .ok (.ifCond .ne 6, 3) := by decide +kernel
theorem dX6_goBack_8 : decode cX6_goBack 8 = .ok (.ldc 143, 2) := by decide +kernel
theorem dX6_goBack_10 : decode cX6_goBack 10 = .ok (.ireturn, 1) := by decide +kernel
theorem dX6_goBack_11 : decode cX6_goBack 11 = .ok (.aload_n 0, 1) := by decide +kernel
theorem dX6_goBack_12 : decode cX6_goBack 12 = .ok (.getfield 37, 3) := by decide +kernel
theorem dX6_goBack_15 : decode cX6_goBack 15 = .ok (.iload_n 1, 1) := by decide +kernel
theorem dX6_goBack_16 : decode cX6_goBack 16 = .ok (.baload, 1) := by decide +kernel
theorem dX6_goBack_17 : decode cX6_goBack 17 = .ok (.ifCond .ne 6, 3) := by decide +kernel
theorem dX6_goBack_20 : decode cX6_goBack 20 = .ok (.ldc 160, 2) := by decide +kernel
theorem dX6_goBack_22 : decode cX6_goBack 22 = .ok (.ireturn, 1) := by decide +kernel
theorem dX6_goBack_23 : decode cX6_goBack 23 = .ok (.aload_n 0, 1) := by decide +kernel
theorem dX6_goBack_24 : decode cX6_goBack 24 = .ok (.getfield 29, 3) := by decide +kernel
theorem dX6_goBack_27 : decode cX6_goBack 27 = .ok (.aload_n 0, 1) := by decide +kernel
theorem dX6_goBack_28 : decode cX6_goBack 28 = .ok (.getfield 33, 3) := by decide +kernel
theorem dX6_goBack_31 : decode cX6_goBack 31 = .ok (.iload_n 1, 1) := by decide +kernel
theorem dX6_goBack_32 : decode cX6_goBack 32 = .ok (.aaload, 1) := by decide +kernel
theorem dX6_goBack_33 : decode cX6_goBack 33 = .ok (.invokevirtual 190, 3) := by decide +kernel
theorem dX6_goBack_36 : decode cX6_goBack 36 = .ok (.iconst 1, 1) := by decide +kernel
theorem dX6_goBack_37 : decode cX6_goBack 37 = .ok (.ireturn, 1) := by decide +kernel
theorem dX6_isImage_0 : decode cX6_isImage 0 = .ok (.iload_n 1, 1) := by decide +kernel
theorem dX6_isImage_1 : decode cX6_isImage 1 = .ok (.ifCond .lt 25, 3) := by decide +kernel
theorem dX6_isImage_4 : decode cX6_isImage 4 = .ok (.iload_n 1, 1) := by decide +kernel
theorem dX6_isImage_5 : decode cX6_isImage 5 = .ok (.aload_n 0, 1) := by decide +kernel
theorem dX6_isImage_6 : decode cX6_isImage 6 = .ok (.getfield 33, 3) := by decide +kernel
theorem dX6_isImage_9 : decode cX6_isImage 9 = .ok (.arraylength, 1) := by decide +kernel
theorem dX6_isImage_10 : decode cX6_isImage 10 = .ok (.if_icmp .ge 16, 3) := by decide +kernel
theorem dX6_isImage_13 : decode cX6_isImage 13 = .ok (.iload_n 1, 1) := by decide +kernel
theorem dX6_isImage_14 : decode cX6_isImage 14 = .ok (.aload_n 0, 1) := by decide +kernel
theorem dX6_isImage_15 : decode cX6_isImage 15 = .ok (.getfield 37, 3) := by decide +kernel
theorem dX6_isImage_18 : decode cX6_isImage 18 = .ok (.arraylength, 1) := by decide +kernel
theorem dX6_isImage_19 : decode cX6_isImage 19 = .ok (.if_icmp .ge 7, 3) := by decide +kernel
theorem dX6_isImage_22 : decode cX6_isImage 22 = .ok (.iconst 1, 1) := by decide +kernel
theorem dX6_isImage_23 : decode cX6_isImage 23 = .ok (.goto 4, 3) := by decide +kernel
theorem dX6_isImage_26 : decode cX6_isImage 26 = .ok (.iconst 0, 1) := by decide +kernel
theorem dX6_isImage_27 : decode cX6_isImage 27 = .ok (.ireturn, 1) := by decide +kernel
theorem dX6_copyRow_0 : decode cX6_copyRow 0 = .ok (.aload_n 0, 1) := by decide +kernel
theorem dX6_copyRow_1 : decode cX6_copyRow 1 = .ok (.iconst 0, 1) := by decide +kernel
theorem dX6_copyRow_2 : decode cX6_copyRow 2 = .ok (.aload_n 1, 1) := by decide +kernel
theorem dX6_copyRow_3 : decode cX6_copyRow 3 = .ok (.iconst 0, 1) := by decide +kernel
theorem dX6_copyRow_4 : decode cX6_copyRow 4 = .ok (.aload_n 0, 1) := by decide +kernel
theorem dX6_copyRow_5 : decode cX6_copyRow 5 = .ok (.arraylength, 1) := by decide +kernel
theorem dX6_copyRow_6 : decode cX6_copyRow 6 = .ok (.aload_n 1, 1) := by decide +kernel
theorem dX6_copyRow_7 : decode cX6_copyRow 7 = .ok (.arraylength, 1) := by decide +kernel
theorem dX6_copyRow_8 : decode cX6_copyRow 8 = .ok (.invokestatic 211, 3) := by decide +kernel
theorem dX6_copyRow_11 : decode cX6_copyRow 11 = .ok (.invokestatic 216, 3) := by decide +kernel
theorem dX6_copyRow_14 : decode cX6_copyRow 14 = .ok (.return_, 1) := by decide +kernel
theorem dJ0_length_8abf5_0 : decode cJ0_length_8abf5 0 = .ok (.aload_n 0, 1) := by decide +kernel
theorem dJ0_length_8abf5_1 : decode cJ0_length_8abf5 1 = .ok (.getfield 9, 3) := by decide +kernel
theorem dJ0_length_8abf5_4 : decode cJ0_length_8abf5 4 = .ok (.arraylength, 1) := by decide +kernel
theorem dJ0_length_8abf5_5 : decode cJ0_length_8abf5 5 = .ok (.aload_n 0, 1) := by decide +kernel
theorem dJ0_length_8abf5_6 : decode cJ0_length_8abf5 6 = .ok (.invokevirtual 335, 3) := by decide +kernel
theorem dJ0_length_8abf5_9 : decode cJ0_length_8abf5 9 = .ok (.ishr, 1) := by decide +kernel
theorem dJ0_length_8abf5_10 : decode cJ0_length_8abf5 10 = .ok (.ireturn, 1) := by decide +kernel
theorem dJ0_charAt_5068e_0 : decode cJ0_charAt_5068e 0 = .ok (.aload_n 0, 1) := by decide +kernel
theorem dJ0_charAt_5068e_1 : decode cJ0_charAt_5068e 1 = .ok (.invokevirtual 492, 3) := by decide +kernel
theorem dJ0_charAt_5068e_4 : decode cJ0_charAt_5068e 4 = .ok (.ifCond .eq 12, 3) := by decide +kernel
theorem dJ0_charAt_5068e_7 : decode cJ0_charAt_5068e 7 = .ok (.aload_n 0, 1) := by decide +kernel
theorem dJ0_charAt_5068e_8 : decode cJ0_charAt_5068e 8 = .ok (.getfield 9, 3) := by decide +kernel
theorem dJ0_charAt_5068e_11 : decode cJ0_charAt_5068e 11 = .ok (.iload_n 1, 1) := by decide +kernel
theorem dJ0_charAt_5068e_12 : decode cJ0_charAt_5068e 12 = .ok (.invokestatic 495, 3) := by decide +kernel
theorem dJ0_charAt_5068e_15 : decode cJ0_charAt_5068e 15 = .ok (.ireturn, 1) := by decide +kernel
theorem dJ0_charAt_5068e_16 : decode cJ0_charAt_5068e 16 = .ok (.aload_n 0, 1) := by decide +kernel
theorem dJ0_charAt_5068e_17 : decode cJ0_charAt_5068e 17 = .ok (.getfield 9, 3) := by decide +kernel
theorem dJ0_charAt_5068e_20 : decode cJ0_charAt_5068e 20 = .ok (.iload_n 1, 1) := by decide +kernel
theorem dJ0_charAt_5068e_21 : decode cJ0_charAt_5068e 21 = .ok (.invokestatic 498, 3) := by decide +kernel
theorem dJ0_charAt_5068e_24 : decode cJ0_charAt_5068e 24 = .ok (.ireturn, 1) := by decide +kernel
theorem dJ0_coder_7d493_0 : decode cJ0_coder_7d493 0 = .ok (.getstatic 38, 3) := by decide +kernel
theorem dJ0_coder_7d493_3 : decode cJ0_coder_7d493 3 = .ok (.ifCond .eq 10, 3) := by decide +kernel
theorem dJ0_coder_7d493_6 : decode cJ0_coder_7d493 6 = .ok (.aload_n 0, 1) := by decide +kernel
theorem dJ0_coder_7d493_7 : decode cJ0_coder_7d493 7 = .ok (.getfield 15, 3) := by decide +kernel
theorem dJ0_coder_7d493_10 : decode cJ0_coder_7d493 10 = .ok (.goto 4, 3) := by decide +kernel
theorem dJ0_coder_7d493_13 : decode cJ0_coder_7d493 13 = .ok (.iconst 1, 1) := by decide +kernel
theorem dJ0_coder_7d493_14 : decode cJ0_coder_7d493 14 = .ok (.ireturn, 1) := by decide +kernel
theorem dJ0_isLatin1_aae02_0 : decode cJ0_isLatin1_aae02 0 = .ok (.getstatic 38, 3) := by decide +kernel
theorem dJ0_isLatin1_aae02_3 : decode cJ0_isLatin1_aae02 3 = .ok (.ifCond .eq 14, 3) := by decide +kernel
theorem dJ0_isLatin1_aae02_6 : decode cJ0_isLatin1_aae02 6 = .ok (.aload_n 0, 1) := by decide +kernel
theorem dJ0_isLatin1_aae02_7 : decode cJ0_isLatin1_aae02 7 = .ok (.getfield 15, 3) := by decide +kernel
theorem dJ0_isLatin1_aae02_10 : decode cJ0_isLatin1_aae02 10 = .ok (.ifCond .ne 7, 3) := by decide +kernel
theorem dJ0_isLatin1_aae02_13 : decode cJ0_isLatin1_aae02 13 = .ok (.iconst 1, 1) := by decide +kernel
theorem dJ0_isLatin1_aae02_14 : decode cJ0_isLatin1_aae02 14 = .ok (.goto 4, 3) := by decide +kernel
theorem dJ0_isLatin1_aae02_17 : decode cJ0_isLatin1_aae02 17 = .ok (.iconst 0, 1) := by decide +kernel
theorem dJ0_isLatin1_aae02_18 : decode cJ0_isLatin1_aae02 18 = .ok (.ireturn, 1) := by decide +kernel
theorem dJ0_checkIndex_df160_0 : decode cJ0_checkIndex_df160 0 = .ok (.iload_n 0, 1) := by decide +kernel
theorem dJ0_checkIndex_df160_1 : decode cJ0_checkIndex_df160 1 = .ok (.iload_n 1, 1) := by decide +kernel
theorem dJ0_checkIndex_df160_2 : decode cJ0_checkIndex_df160 2 = .ok (.getstatic 1053, 3) := by decide +kernel
theorem dJ0_checkIndex_df160_5 : decode cJ0_checkIndex_df160 5 = .ok (.invokestatic 1059, 3) := by decide +kernel
theorem dJ0_checkIndex_df160_8 : decode cJ0_checkIndex_df160 8 = .ok (.pop, 1) := by decide +kernel
theorem dJ0_checkIndex_df160_9 : decode cJ0_checkIndex_df160 9 = .ok (.return_, 1) := by decide +kernel
theorem dJ1_charAt_3b067_0 : decode cJ1_charAt_3b067 0 = .ok (.iload_n 1, 1) := by decide +kernel
theorem dJ1_charAt_3b067_1 : decode cJ1_charAt_3b067 1 = .ok (.aload_n 0, 1) := by decide +kernel
theorem dJ1_charAt_3b067_2 : decode cJ1_charAt_3b067 2 = .ok (.arraylength, 1) := by decide +kernel
theorem dJ1_charAt_3b067_3 : decode cJ1_charAt_3b067 3 = .ok (.invokestatic 9, 3) := by decide +kernel
theorem dJ1_charAt_3b067_6 : decode cJ1_charAt_3b067 6 = .ok (.aload_n 0, 1) := by decide +kernel
theorem dJ1_charAt_3b067_7 : decode cJ1_charAt_3b067 7 = .ok (.iload_n 1, 1) := by decide +kernel
theorem dJ1_charAt_3b067_8 : decode cJ1_charAt_3b067 8 = .ok (.baload, 1) := by decide +kernel
theorem dJ1_charAt_3b067_9 : decode cJ1_charAt_3b067 9 = .ok (.sipush 255, 3) := by decide +kernel
theorem dJ1_charAt_3b067_12 : decode cJ1_charAt_3b067 12 = .ok (.iand, 1) := by decide +kernel
theorem dJ1_charAt_3b067_13 : decode cJ1_charAt_3b067 13 = .ok (.i2c, 1) := by decide +kernel
theorem dJ1_charAt_3b067_14 : decode cJ1_charAt_3b067 14 = .ok (.ireturn, 1) := by decide +kernel
theorem dJ2_getChar_3b067_0 : decode cJ2_getChar_3b067 0 = .ok (.getstatic 44, 3) := by decide +kernel
theorem dJ2_getChar_3b067_3 : decode cJ2_getChar_3b067 3 = .ok (.ifCond .ne 25, 3) := by decide +kernel
theorem dJ2_getChar_3b067_6 : decode cJ2_getChar_3b067 6 = .ok (.iload_n 1, 1) := by decide +kernel
theorem dJ2_getChar_3b067_7 : decode cJ2_getChar_3b067 7 = .ok (.ifCond .lt 11, 3) := by decide +kernel
theorem dJ2_getChar_3b067_10 : decode cJ2_getChar_3b067 10 = .ok (.iload_n 1, 1) := by decide +kernel
theorem dJ2_getChar_3b067_11 : decode cJ2_getChar_3b067 11 = .ok (.aload_n 0, 1) := by decide +kernel
theorem dJ2_getChar_3b067_12 : decode cJ2_getChar_3b067 12 = .ok (.invokestatic 48, 3) := by decide +kernel
theorem dJ2_getChar_3b067_15 : decode cJ2_getChar_3b067 15 = .ok (.if_icmp .lt 13, 3) := by decide +kernel
theorem dJ2_getChar_3b067_18 : decode cJ2_getChar_3b067 18 = .ok (.new 52, 3) := by decide +kernel
theorem dJ2_getChar_3b067_21 : decode cJ2_getChar_3b067 21 = .ok (.dup, 1) := by decide +kernel
theorem dJ2_getChar_3b067_22 : decode cJ2_getChar_3b067 22 = .ok (.ldc 54, 2) := by decide +kernel
theorem dJ2_getChar_3b067_24 : decode cJ2_getChar_3b067 24 = .ok (.invokespecial 56, 3) := by decide +kernel
theorem dJ2_getChar_3b067_27 : decode cJ2_getChar_3b067 27 = .ok (.athrow, 1) := by decide +kernel
theorem dJ2_getChar_3b067_28 : decode cJ2_getChar_3b067 28 = .ok (.iload_n 1, 1) := by decide +kernel
theorem dJ2_getChar_3b067_29 : decode cJ2_getChar_3b067 29 = .ok (.iconst 1, 1) := by decide +kernel
theorem dJ2_getChar_3b067_30 : decode cJ2_getChar_3b067 30 = .ok (.ishl, 1) := by decide +kernel
theorem dJ2_getChar_3b067_31 : decode cJ2_getChar_3b067 31 = .ok (.istore_n 1, 1) := by decide +kernel
theorem dJ2_getChar_3b067_32 : decode cJ2_getChar_3b067 32 = .ok (.aload_n 0, 1) := by decide +kernel
theorem dJ2_getChar_3b067_33 : decode cJ2_getChar_3b067 33 = .ok (.iload_n 1, 1) := by decide +kernel
theorem dJ2_getChar_3b067_34 : decode cJ2_getChar_3b067 34 = .ok (.iinc 1 1, 3) := by decide +kernel
theorem dJ2_getChar_3b067_37 : decode cJ2_getChar_3b067 37 = .ok (.baload, 1) := by decide +kernel
theorem dJ2_getChar_3b067_38 : decode cJ2_getChar_3b067 38 = .ok (.sipush 255, 3) := by decide +kernel
theorem dJ2_getChar_3b067_41 : decode cJ2_getChar_3b067 41 = .ok (.iand, 1) := by decide +kernel
theorem dJ2_getChar_3b067_42 : decode cJ2_getChar_3b067 42 = .ok (.getstatic 59, 3) := by decide +kernel
theorem dJ2_getChar_3b067_45 : decode cJ2_getChar_3b067 45 = .ok (.ishl, 1) := by decide +kernel
theorem dJ2_getChar_3b067_46 : decode cJ2_getChar_3b067 46 = .ok (.aload_n 0, 1) := by decide +kernel
theorem dJ2_getChar_3b067_47 : decode cJ2_getChar_3b067 47 = .ok (.iload_n 1, 1) := by decide +kernel
theorem dJ2_getChar_3b067_48 : decode cJ2_getChar_3b067 48 = .ok (.baload, 1) := by decide +kernel
theorem dJ2_getChar_3b067_49 : decode cJ2_getChar_3b067 49 = .ok (.sipush 255, 3) := by decide +kernel
theorem dJ2_getChar_3b067_52 : decode cJ2_getChar_3b067 52 = .ok (.iand, 1) := by decide +kernel
theorem dJ2_getChar_3b067_53 : decode cJ2_getChar_3b067 53 = .ok (.getstatic 63, 3) := by decide +kernel
theorem dJ2_getChar_3b067_56 : decode cJ2_getChar_3b067 56 = .ok (.ishl, 1) := by decide +kernel
theorem dJ2_getChar_3b067_57 : decode cJ2_getChar_3b067 57 = .ok (.ior, 1) := by decide +kernel
theorem dJ2_getChar_3b067_58 : decode cJ2_getChar_3b067 58 = .ok (.i2c, 1) := by decide +kernel
theorem dJ2_getChar_3b067_59 : decode cJ2_getChar_3b067 59 = .ok (.ireturn, 1) := by decide +kernel
theorem dJ2_length_9d52b_0 : decode cJ2_length_9d52b 0 = .ok (.aload_n 0, 1) := by decide +kernel
theorem dJ2_length_9d52b_1 : decode cJ2_length_9d52b 1 = .ok (.arraylength, 1) := by decide +kernel
theorem dJ2_length_9d52b_2 : decode cJ2_length_9d52b 2 = .ok (.iconst 1, 1) := by decide +kernel
theorem dJ2_length_9d52b_3 : decode cJ2_length_9d52b 3 = .ok (.ishr, 1) := by decide +kernel
theorem dJ2_length_9d52b_4 : decode cJ2_length_9d52b 4 = .ok (.ireturn, 1) := by decide +kernel
theorem dJ2_charAt_3b067_0 : decode cJ2_charAt_3b067 0 = .ok (.iload_n 1, 1) := by decide +kernel
theorem dJ2_charAt_3b067_1 : decode cJ2_charAt_3b067 1 = .ok (.aload_n 0, 1) := by decide +kernel
theorem dJ2_charAt_3b067_2 : decode cJ2_charAt_3b067 2 = .ok (.invokestatic 67, 3) := by decide +kernel
theorem dJ2_charAt_3b067_5 : decode cJ2_charAt_3b067 5 = .ok (.aload_n 0, 1) := by decide +kernel
theorem dJ2_charAt_3b067_6 : decode cJ2_charAt_3b067 6 = .ok (.iload_n 1, 1) := by decide +kernel
theorem dJ2_charAt_3b067_7 : decode cJ2_charAt_3b067 7 = .ok (.invokestatic 71, 3) := by decide +kernel
theorem dJ2_charAt_3b067_10 : decode cJ2_charAt_3b067 10 = .ok (.ireturn, 1) := by decide +kernel
theorem dJ2_checkIndex_2214a_0 : decode cJ2_checkIndex_2214a 0 = .ok (.iload_n 0, 1) := by decide +kernel
theorem dJ2_checkIndex_2214a_1 : decode cJ2_checkIndex_2214a 1 = .ok (.aload_n 1, 1) := by decide +kernel
theorem dJ2_checkIndex_2214a_2 : decode cJ2_checkIndex_2214a 2 = .ok (.invokestatic 48, 3) := by decide +kernel
theorem dJ2_checkIndex_2214a_5 : decode cJ2_checkIndex_2214a 5 = .ok (.invokestatic 414, 3) := by decide +kernel
theorem dJ2_checkIndex_2214a_8 : decode cJ2_checkIndex_2214a 8 = .ok (.return_, 1) := by decide +kernel
theorem dJ3_checkIndex_8e157_0 : decode cJ3_checkIndex_8e157 0 = .ok (.iload_n 0, 1) := by decide +kernel
theorem dJ3_checkIndex_8e157_1 : decode cJ3_checkIndex_8e157 1 = .ok (.ifCond .lt 8, 3) := by decide +kernel
theorem dJ3_checkIndex_8e157_4 : decode cJ3_checkIndex_8e157 4 = .ok (.iload_n 0, 1) := by decide +kernel
theorem dJ3_checkIndex_8e157_5 : decode cJ3_checkIndex_8e157 5 = .ok (.iload_n 1, 1) := by decide +kernel
theorem dJ3_checkIndex_8e157_6 : decode cJ3_checkIndex_8e157 6 = .ok (.if_icmp .lt 10, 3) := by decide +kernel
theorem dJ3_checkIndex_8e157_9 : decode cJ3_checkIndex_8e157 9 = .ok (.aload_n 2, 1) := by decide +kernel
theorem dJ3_checkIndex_8e157_10 : decode cJ3_checkIndex_8e157 10 = .ok (.iload_n 0, 1) := by decide +kernel
theorem dJ3_checkIndex_8e157_11 : decode cJ3_checkIndex_8e157 11 = .ok (.iload_n 1, 1) := by decide +kernel
theorem dJ3_checkIndex_8e157_12 : decode cJ3_checkIndex_8e157 12 = .ok (.invokestatic 95, 3) := by decide +kernel
theorem dJ3_checkIndex_8e157_15 : decode cJ3_checkIndex_8e157 15 = .ok (.athrow, 1) := by decide +kernel
theorem dJ3_checkIndex_8e157_16 : decode cJ3_checkIndex_8e157 16 = .ok (.iload_n 0, 1) := by decide +kernel
theorem dJ3_checkIndex_8e157_17 : decode cJ3_checkIndex_8e157 17 = .ok (.ireturn, 1) := by decide +kernel
theorem dJ9_max_7cf53_0 : decode cJ9_max_7cf53 0 = .ok (.iload_n 0, 1) := by decide +kernel
theorem dJ9_max_7cf53_1 : decode cJ9_max_7cf53 1 = .ok (.iload_n 1, 1) := by decide +kernel
theorem dJ9_max_7cf53_2 : decode cJ9_max_7cf53 2 = .ok (.if_icmp .lt 7, 3) := by decide +kernel
theorem dJ9_max_7cf53_5 : decode cJ9_max_7cf53 5 = .ok (.iload_n 0, 1) := by decide +kernel
theorem dJ9_max_7cf53_6 : decode cJ9_max_7cf53 6 = .ok (.goto 4, 3) := by decide +kernel
theorem dJ9_max_7cf53_9 : decode cJ9_max_7cf53 9 = .ok (.iload_n 1, 1) := by decide +kernel
theorem dJ9_max_7cf53_10 : decode cJ9_max_7cf53 10 = .ok (.ireturn, 1) := by decide +kernel
theorem dJ9_min_7cf53_0 : decode cJ9_min_7cf53 0 = .ok (.iload_n 0, 1) := by decide +kernel
theorem dJ9_min_7cf53_1 : decode cJ9_min_7cf53 1 = .ok (.iload_n 1, 1) := by decide +kernel
theorem dJ9_min_7cf53_2 : decode cJ9_min_7cf53 2 = .ok (.if_icmp .gt 7, 3) := by decide +kernel
theorem dJ9_min_7cf53_5 : decode cJ9_min_7cf53 5 = .ok (.iload_n 0, 1) := by decide +kernel
theorem dJ9_min_7cf53_6 : decode cJ9_min_7cf53 6 = .ok (.goto 4, 3) := by decide +kernel
theorem dJ9_min_7cf53_9 : decode cJ9_min_7cf53 9 = .ok (.iload_n 1, 1) := by decide +kernel
theorem dJ9_min_7cf53_10 : decode cJ9_min_7cf53 10 = .ok (.ireturn, 1) := by decide +kernel
end
section
theorem dX7_init_0 : decode cX7_init 0 = .ok (.aload_n 0, 1) := by decide +kernel
theorem dX7_init_1 : decode cX7_init 1 = .ok (.invokespecial 1, 3) := by decide +kernel
theorem dX7_init_4 : decode cX7_init 4 = .ok (.aload_n 0, 1) := by decide +kernel
theorem dX7_init_5 : decode cX7_init 5 = .ok (.sipush 400, 3) := by decide +kernel
theorem dX7_init_8 : decode cX7_init 8 = .ok (.newarray .int, 2) := by decide +kernel
theorem dX7_init_10 : decode cX7_init 10 = .ok (.putfield 7, 3) := by decide +kernel
theorem dX7_init_13 : decode cX7_init 13 = .ok (.aload_n 0, 1) := by decide +kernel
theorem dX7_init_14 : decode cX7_init 14 = .ok (.bipush 56, 2) := by decide +kernel
theorem dX7_init_16 : decode cX7_init 16 = .ok (.newarray .int, 2) := by decide +kernel
theorem dX7_init_18 : decode cX7_init 18 = .ok (.putfield 13, 3) := by decide +kernel
theorem dX7_init_21 : decode cX7_init 21 = .ok (.aload_n 0, 1) := by decide +kernel
theorem dX7_init_22 : decode cX7_init 22 = .ok (.bipush 56, 2) := by decide +kernel
theorem dX7_init_24 : decode cX7_init 24 = .ok (.newarray .int, 2) := by decide +kernel
theorem dX7_init_26 : decode cX7_init 26 = .ok (.putfield 16, 3) := by decide +kernel
theorem dX7_init_29 : decode cX7_init 29 = .ok (.aload_n 0, 1) := by decide +kernel
theorem dX7_init_30 : decode cX7_init 30 = .ok (.bipush 32, 2) := by decide +kernel
theorem dX7_init_32 : decode cX7_init 32 = .ok (.newarray .int, 2) := by decide +kernel
theorem dX7_init_34 : decode cX7_init 34 = .ok (.putfield 19, 3) := by decide +kernel
theorem dX7_init_37 : decode cX7_init 37 = .ok (.aload_n 0, 1) := by decide +kernel
theorem dX7_init_38 : decode cX7_init 38 = .ok (.bipush 32, 2) := by decide +kernel
theorem dX7_init_40 : decode cX7_init 40 = .ok (.newarray .int, 2) := by decide +kernel
theorem dX7_init_42 : decode cX7_init 42 = .ok (.putfield 22, 3) := by decide +kernel
theorem dX7_init_45 : decode cX7_init 45 = .ok (.aload_n 0, 1) := by decide +kernel
theorem dX7_init_46 : decode cX7_init 46 = .ok (.bipush 64, 2) := by decide +kernel
theorem dX7_init_48 : decode cX7_init 48 = .ok (.newarray .int, 2) := by decide +kernel
theorem dX7_init_50 : decode cX7_init 50 = .ok (.putfield 25, 3) := by decide +kernel
theorem dX7_init_53 : decode cX7_init 53 = .ok (.aload_n 0, 1) := by decide +kernel
theorem dX7_init_54 : decode cX7_init 54 = .ok (.iconst 2, 1) := by decide +kernel
theorem dX7_init_55 : decode cX7_init 55 = .ok (.newarray .int, 2) := by decide +kernel
theorem dX7_init_57 : decode cX7_init 57 = .ok (.putfield 28, 3) := by decide +kernel
theorem dX7_init_60 : decode cX7_init 60 = .ok (.aload_n 0, 1) := by decide +kernel
theorem dX7_init_61 : decode cX7_init 61 = .ok (.iconst 2, 1) := by decide +kernel
theorem dX7_init_62 : decode cX7_init 62 = .ok (.newarray .boolean, 2) := by decide +kernel
theorem dX7_init_64 : decode cX7_init 64 = .ok (.putfield 31, 3) := by decide +kernel
theorem dX7_init_67 : decode cX7_init 67 = .ok (.aload_n 0, 1) := by decide +kernel
theorem dX7_init_68 : decode cX7_init 68 = .ok (.bipush 12, 2) := by decide +kernel
theorem dX7_init_70 : decode cX7_init 70 = .ok (.newarray .int, 2) := by decide +kernel
theorem dX7_init_72 : decode cX7_init 72 = .ok (.putfield 35, 3) := by decide +kernel
theorem dX7_init_75 : decode cX7_init 75 = .ok (.aload_n 0, 1) := by decide +kernel
theorem dX7_init_76 : decode cX7_init 76 = .ok (.bipush 12, 2) := by decide +kernel
theorem dX7_init_78 : decode cX7_init 78 = .ok (.newarray .int, 2) := by decide +kernel
theorem dX7_init_80 : decode cX7_init 80 = .ok (.putfield 38, 3) := by decide +kernel
theorem dX7_init_83 : decode cX7_init 83 = .ok (.aload_n 0, 1) := by decide +kernel
theorem dX7_init_84 : decode cX7_init 84 = .ok (.iconst (-1), 1) := by decide +kernel
theorem dX7_init_85 : decode cX7_init 85 = .ok (.putfield 41, 3) := by decide +kernel
theorem dX7_init_88 : decode cX7_init 88 = .ok (.aload_n 0, 1) := by decide +kernel
theorem dX7_init_89 : decode cX7_init 89 = .ok (.bipush 6, 2) := by decide +kernel
theorem dX7_init_91 : decode cX7_init 91 = .ok (.newarray .int, 2) := by decide +kernel
theorem dX7_init_93 : decode cX7_init 93 = .ok (.putfield 45, 3) := by decide +kernel
theorem dX7_init_96 : decode cX7_init 96 = .ok (.aload_n 0, 1) := by decide +kernel
theorem dX7_init_97 : decode cX7_init 97 = .ok (.bipush 6, 2) := by decide +kernel
theorem dX7_init_99 : decode cX7_init 99 = .ok (.newarray .int, 2) := by decide +kernel
theorem dX7_init_101 : decode cX7_init 101 = .ok (.putfield 48, 3) := by decide +kernel
theorem dX7_init_104 : decode cX7_init 104 = .ok (.aload_n 0, 1) := by decide +kernel
theorem dX7_init_105 : decode cX7_init 105 = .ok (.bipush 6, 2) := by decide +kernel
theorem dX7_init_107 : decode cX7_init 107 = .ok (.newarray .int, 2) := by decide +kernel
theorem dX7_init_109 : decode cX7_init 109 = .ok (.putfield 51, 3) := by decide +kernel
theorem dX7_init_112 : decode cX7_init 112 = .ok (.aload_n 0, 1) := by decide +kernel
theorem dX7_init_113 : decode cX7_init 113 = .ok (.invokevirtual 54, 3) := by decide +kernel
theorem dX7_init_116 : decode cX7_init 116 = .ok (.pop, 1) := by decide +kernel
theorem dX7_init_117 : decode cX7_init 117 = .ok (.aload_n 0, 1) := by decide +kernel
theorem dX7_init_118 : decode cX7_init 118 = .ok (.invokevirtual 58, 3) := by decide +kernel
theorem dX7_init_121 : decode cX7_init 121 = .ok (.return_, 1) := by decide +kernel
theorem dX7_in_0 : decode cX7_in 0 = .ok (.iload_n 0, 1) := by decide +kernel
theorem dX7_in_1 : decode cX7_in 1 = .ok (.iload_n 1, 1) := by decide +kernel
theorem dX7_in_2 : decode cX7_in 2 = .ok (.if_icmp .lt 12, 3) := by decide +kernel
theorem dX7_in_5 : decode cX7_in 5 = .ok (.iload_n 0, 1) := by decide +kernel
theorem dX7_in_6 : decode cX7_in 6 = .ok (.iload_n 2, 1) := by decide +kernel
theorem dX7_in_7 : decode cX7_in 7 = .ok (.if_icmp .gt 7, 3) := by decide +kernel
theorem dX7_in_10 : decode cX7_in 10 = .ok (.iconst 1, 1) := by decide +kernel
theorem dX7_in_11 : decode cX7_in 11 = .ok (.goto 4, 3) := by decide +kernel
theorem dX7_in_14 : decode cX7_in 14 = .ok (.iconst 0, 1) := by decide +kernel
theorem dX7_in_15 : decode cX7_in 15 = .ok (.ireturn, 1) := by decide +kernel
theorem dX7_isFoot_0 : decode cX7_isFoot 0 = .ok (.iload_n 1, 1) := by decide +kernel
theorem dX7_isFoot_1 : decode cX7_isFoot 1 = .ok (.iconst 0, 1) := by decide +kernel
theorem dX7_isFoot_2 : decode cX7_isFoot 2 = .ok (.aload_n 0, 1) := by decide +kernel
theorem dX7_isFoot_3 : decode cX7_isFoot 3 = .ok (.getfield 13, 3) := by decide +kernel
theorem dX7_isFoot_6 : decode cX7_isFoot 6 = .ok (.iconst 0, 1) := by decide +kernel
theorem dX7_isFoot_7 : decode cX7_isFoot 7 = .ok (.iaload, 1) := by decide +kernel
theorem dX7_isFoot_8 : decode cX7_isFoot 8 = .ok (.iconst 1, 1) := by decide +kernel
theorem dX7_isFoot_9 : decode cX7_isFoot 9 = .ok (.isub, 1) := by decide +kernel
theorem dX7_isFoot_10 : decode cX7_isFoot 10 = .ok (.invokestatic 61, 3) := by decide +kernel
theorem dX7_isFoot_13 : decode cX7_isFoot 13 = .ok (.ireturn, 1) := by decide +kernel
theorem dX7_isClimber_0 : decode cX7_isClimber 0 = .ok (.iload_n 1, 1) := by decide +kernel
theorem dX7_isClimber_1 : decode cX7_isClimber 1 = .ok (.iconst 0, 1) := by decide +kernel
theorem dX7_isClimber_2 : decode cX7_isClimber 2 = .ok (.aload_n 0, 1) := by decide +kernel
theorem dX7_isClimber_3 : decode cX7_isClimber 3 = .ok (.getfield 13, 3) := by decide +kernel
theorem dX7_isClimber_6 : decode cX7_isClimber 6 = .ok (.iconst 1, 1) := by decide +kernel
theorem dX7_isClimber_7 : decode cX7_isClimber 7 = .ok (.iaload, 1) := by decide +kernel
theorem dX7_isClimber_8 : decode cX7_isClimber 8 = .ok (.iconst 1, 1) := by decide +kernel
theorem dX7_isClimber_9 : decode cX7_isClimber 9 = .ok (.isub, 1) := by decide +kernel
theorem dX7_isClimber_10 : decode cX7_isClimber 10 = .ok (.invokestatic 61, 3) := by decide +kernel
theorem dX7_isClimber_13 : decode cX7_isClimber 13 = .ok (.ireturn, 1) := by decide +kernel
theorem dX7_feed_0 : decode cX7_feed 0 = .ok (.iload_n 1, 1) := by decide +kernel
theorem dX7_feed_1 : decode cX7_feed 1 = .ok (.iconst 1, 1) := by decide +kernel
theorem dX7_feed_2 : decode cX7_feed 2 = .ok (.bipush 8, 2) := by decide +kernel
theorem dX7_feed_4 : decode cX7_feed 4 = .ok (.invokestatic 61, 3) := by decide +kernel
theorem dX7_feed_7 : decode cX7_feed 7 = .ok (.ifCond .ne 6, 3) := by decide +kernel
theorem dX7_feed_10 : decode cX7_feed 10 = .ok (.ldc 65, 2) := by decide +kernel
theorem dX7_feed_12 : decode cX7_feed 12 = .ok (.ireturn, 1) := by decide +kernel
theorem dX7_feed_13 : decode cX7_feed 13 = .ok (.aload_n 0, 1) := by decide +kernel
theorem dX7_feed_14 : decode cX7_feed 14 = .ok (.getfield 66, 3) := by decide +kernel
theorem dX7_feed_17 : decode cX7_feed 17 = .ok (.iload_n 1, 1) := by decide +kernel
theorem dX7_feed_18 : decode cX7_feed 18 = .ok (.iadd, 1) := by decide +kernel
theorem dX7_feed_19 : decode cX7_feed 19 = .ok (.sipush 400, 3) := by decide +kernel
theorem dX7_feed_22 : decode cX7_feed 22 = .ok (.if_icmp .le 6, 3) := by decide +kernel
theorem dX7_feed_25 : decode cX7_feed 25 = .ok (.ldc 69, 2) := by decide +kernel
theorem dX7_feed_27 : decode cX7_feed 27 = .ok (.ireturn, 1) := by decide +kernel
theorem dX7_feed_28 : decode cX7_feed 28 = .ok (.iload_n 1, 1) := by decide +kernel
theorem dX7_feed_29 : decode cX7_feed 29 = .ok (.iconst 1, 1) := by decide +kernel
theorem dX7_feed_30 : decode cX7_feed 30 = .ok (.isub, 1) := by decide +kernel
theorem dX7_feed_31 : decode cX7_feed 31 = .ok (.istore 4, 2) := by decide +kernel
theorem dX7_feed_33 : decode cX7_feed 33 = .ok (.iload 4, 2) := by decide +kernel
theorem dX7_feed_35 : decode cX7_feed 35 = .ok (.ifCond .lt 40, 3) := by decide +kernel
theorem dX7_feed_38 : decode cX7_feed 38 = .ok (.aload_n 0, 1) := by decide +kernel
theorem dX7_feed_39 : decode cX7_feed 39 = .ok (.getfield 7, 3) := by decide +kernel
theorem dX7_feed_42 : decode cX7_feed 42 = .ok (.aload_n 0, 1) := by decide +kernel
theorem dX7_feed_43 : decode cX7_feed 43 = .ok (.getfield 66, 3) := by decide +kernel
theorem dX7_feed_46 : decode cX7_feed 46 = .ok (.lload_n 2, 1) := by decide +kernel
theorem dX7_feed_47 : decode cX7_feed 47 = .ok (.bipush 8, 2) := by decide +kernel
theorem dX7_feed_49 : decode cX7_feed 49 = .ok (.iload 4, 2) := by decide +kernel
theorem dX7_feed_51 : decode cX7_feed 51 = .ok (.imul, 1) := by decide +kernel
theorem dX7_feed_52 : decode cX7_feed 52 = .ok (.lshr, 1) := by decide +kernel
theorem dX7_feed_53 : decode cX7_feed 53 = .ok (.ldc2_w 70, 3) := by decide +kernel
theorem dX7_feed_56 : decode cX7_feed 56 = .ok (.land, 1) := by decide +kernel
theorem dX7_feed_57 : decode cX7_feed 57 = .ok (.l2i, 1) := by decide +kernel
theorem dX7_feed_58 : decode cX7_feed 58 = .ok (.iastore, 1) := by decide +kernel
theorem dX7_feed_59 : decode cX7_feed 59 = .ok (.aload_n 0, 1) := by decide +kernel
theorem dX7_feed_60 : decode cX7_feed 60 = .ok (.dup, 1) := by decide +kernel
theorem dX7_feed_61 : decode cX7_feed 61 = .ok (.getfield 66, 3) := by decide +kernel
theorem dX7_feed_64 : decode cX7_feed 64 = .ok (.iconst 1, 1) := by decide +kernel
theorem dX7_feed_65 : decode cX7_feed 65 = .ok (.iadd, 1) := by decide +kernel
theorem dX7_feed_66 : decode cX7_feed 66 = .ok (.putfield 66, 3) := by decide +kernel
theorem dX7_feed_69 : decode cX7_feed 69 = .ok (.iinc 4 (-1), 3) := by decide +kernel
theorem dX7_feed_72 : decode cX7_feed 72 = .ok (.goto (-39), 3) := by decide +kernel
theorem dX7_feed_75 : decode cX7_feed 75 = .ok (.aload_n 0, 1) := by decide +kernel
theorem dX7_feed_76 : decode cX7_feed 76 = .ok (.getfield 66, 3) := by decide +kernel
theorem dX7_feed_79 : decode cX7_feed 79 = .ok (.ireturn, 1) := by decide +kernel
theorem dX7_byteAt_0 : decode cX7_byteAt 0 = .ok (.iload_n 1, 1) := by decide +kernel
theorem dX7_byteAt_1 : decode cX7_byteAt 1 = .ok (.aload_n 0, 1) := by decide +kernel
theorem dX7_byteAt_2 : decode cX7_byteAt 2 = .ok (.getfield 66, 3) := by decide +kernel
theorem dX7_byteAt_5 : decode cX7_byteAt 5 = .ok (.if_icmp .ge 12, 3) := by decide +kernel
theorem dX7_byteAt_8 : decode cX7_byteAt 8 = .ok (.aload_n 0, 1) := by decide +kernel
theorem dX7_byteAt_9 : decode cX7_byteAt 9 = .ok (.getfield 7, 3) := by decide +kernel
theorem dX7_byteAt_12 : decode cX7_byteAt 12 = .ok (.iload_n 1, 1) := by decide +kernel
theorem dX7_byteAt_13 : decode cX7_byteAt 13 = .ok (.iaload, 1) := by decide +kernel
theorem dX7_byteAt_14 : decode cX7_byteAt 14 = .ok (.goto 4, 3) := by decide +kernel
theorem dX7_byteAt_17 : decode cX7_byteAt 17 = .ok (.iconst (-1), 1) := by decide +kernel
theorem dX7_byteAt_18 : decode cX7_byteAt 18 = .ok (.ireturn, 1) := by decide +kernel
theorem dX7_sortOf_0 : decode cX7_sortOf 0 = .ok (.iload_n 0, 1) := by decide +kernel
theorem dX7_sortOf_1 : decode cX7_sortOf 1 = .ok (.ifCond .ge 7, 3) := by decide +kernel
theorem dX7_sortOf_4 : decode cX7_sortOf 4 = .ok (.iconst 0, 1) := by decide +kernel
theorem dX7_sortOf_5 : decode cX7_sortOf 5 = .ok (.goto 44, 3) := by decide +kernel
theorem dX7_sortOf_8 : decode cX7_sortOf 8 = .ok (.iload_n 0, 1) := by decide +kernel
theorem dX7_sortOf_9 : decode cX7_sortOf 9 = .ok (.bipush 97, 2) := by decide +kernel
theorem dX7_sortOf_11 : decode cX7_sortOf 11 = .ok (.bipush 122, 2) := by decide +kernel
theorem dX7_sortOf_13 : decode cX7_sortOf 13 = .ok (.invokestatic 61, 3) := by decide +kernel
theorem dX7_sortOf_16 : decode cX7_sortOf 16 = .ok (.ifCond .eq 7, 3) := by decide +kernel
theorem dX7_sortOf_19 : decode cX7_sortOf 19 = .ok (.iconst 1, 1) := by decide +kernel
theorem dX7_sortOf_20 : decode cX7_sortOf 20 = .ok (.goto 29, 3) := by decide +kernel
theorem dX7_sortOf_23 : decode cX7_sortOf 23 = .ok (.iload_n 0, 1) := by decide +kernel
theorem dX7_sortOf_24 : decode cX7_sortOf 24 = .ok (.bipush 48, 2) := by decide +kernel
theorem dX7_sortOf_26 : decode cX7_sortOf 26 = .ok (.bipush 57, 2) := by decide +kernel
theorem dX7_sortOf_28 : decode cX7_sortOf 28 = .ok (.invokestatic 61, 3) := by decide +kernel
theorem dX7_sortOf_31 : decode cX7_sortOf 31 = .ok (.ifCond .eq 7, 3) := by decide +kernel
theorem dX7_sortOf_34 : decode cX7_sortOf 34 = .ok (.iconst 2, 1) := by decide +kernel
theorem dX7_sortOf_35 : decode cX7_sortOf 35 = .ok (.goto 14, 3) := by decide +kernel
theorem dX7_sortOf_38 : decode cX7_sortOf 38 = .ok (.iload_n 0, 1) := by decide +kernel
theorem dX7_sortOf_39 : decode cX7_sortOf 39 = .ok (.bipush 59, 2) := by decide +kernel
theorem dX7_sortOf_41 : decode cX7_sortOf 41 = .ok (.if_icmp .ne 7, 3) := by decide +kernel
theorem dX7_sortOf_44 : decode cX7_sortOf 44 = .ok (.iconst 3, 1) := by decide +kernel
theorem dX7_sortOf_45 : decode cX7_sortOf 45 = .ok (.goto 4, 3) := by decide +kernel
theorem dX7_sortOf_48 : decode cX7_sortOf 48 = .ok (.iconst 4, 1) := by decide +kernel
theorem dX7_sortOf_49 : decode cX7_sortOf 49 = .ok (.ireturn, 1) := by decide +kernel
theorem dX7_token_0 : decode cX7_token 0 = .ok (.aload_n 0, 1) := by decide +kernel
theorem dX7_token_1 : decode cX7_token 1 = .ok (.aload_n 0, 1) := by decide +kernel
theorem dX7_token_2 : decode cX7_token 2 = .ok (.getfield 72, 3) := by decide +kernel
theorem dX7_token_5 : decode cX7_token 5 = .ok (.invokevirtual 75, 3) := by decide +kernel
theorem dX7_token_8 : decode cX7_token 8 = .ok (.bipush 32, 2) := by decide +kernel
theorem dX7_token_10 : decode cX7_token 10 = .ok (.if_icmp .ne 16, 3) := by decide +kernel
theorem dX7_token_13 : decode cX7_token 13 = .ok (.aload_n 0, 1) := by decide +kernel
theorem dX7_token_14 : decode cX7_token 14 = .ok (.dup, 1) := by decide +kernel
theorem dX7_token_15 : decode cX7_token 15 = .ok (.getfield 72, 3) := by decide +kernel
theorem dX7_token_18 : decode cX7_token 18 = .ok (.iconst 1, 1) := by decide +kernel
theorem dX7_token_19 : decode cX7_token 19 = .ok (.iadd, 1) := by decide +kernel
theorem dX7_token_20 : decode cX7_token 20 = .ok (.putfield 72, 3) := by decide +kernel
theorem dX7_token_23 : decode cX7_token 23 = .ok (.goto (-23), 3) := by decide +kernel
theorem dX7_token_26 : decode cX7_token 26 = .ok (.aload_n 0, 1) := by decide +kernel
theorem dX7_token_27 : decode cX7_token 27 = .ok (.aload_n 0, 1) := by decide +kernel
theorem dX7_token_28 : decode cX7_token 28 = .ok (.getfield 72, 3) := by decide +kernel
theorem dX7_token_31 : decode cX7_token 31 = .ok (.putfield 79, 3) := by decide +kernel
theorem dX7_token_34 : decode cX7_token 34 = .ok (.aload_n 0, 1) := by decide +kernel
theorem dX7_token_35 : decode cX7_token 35 = .ok (.aload_n 0, 1) := by decide +kernel
theorem dX7_token_36 : decode cX7_token 36 = .ok (.aload_n 0, 1) := by decide +kernel
theorem dX7_token_37 : decode cX7_token 37 = .ok (.getfield 72, 3) := by decide +kernel
theorem dX7_token_40 : decode cX7_token 40 = .ok (.invokevirtual 75, 3) := by decide +kernel
theorem dX7_token_43 : decode cX7_token 43 = .ok (.invokestatic 82, 3) := by decide +kernel
theorem dX7_token_46 : decode cX7_token 46 = .ok (.putfield 85, 3) := by decide +kernel
theorem dX7_token_49 : decode cX7_token 49 = .ok (.aload_n 0, 1) := by decide +kernel
theorem dX7_token_50 : decode cX7_token 50 = .ok (.iconst 0, 1) := by decide +kernel
theorem dX7_token_51 : decode cX7_token 51 = .ok (.putfield 88, 3) := by decide +kernel
theorem dX7_token_54 : decode cX7_token 54 = .ok (.aload_n 0, 1) := by decide +kernel
theorem dX7_token_55 : decode cX7_token 55 = .ok (.getfield 88, 3) := by decide +kernel
theorem dX7_token_58 : decode cX7_token 58 = .ok (.ifCond .ne 10, 3) := by decide +kernel
theorem dX7_token_61 : decode cX7_token 61 = .ok (.aload_n 0, 1) := by decide +kernel
theorem dX7_token_62 : decode cX7_token 62 = .ok (.getfield 85, 3) := by decide +kernel
theorem dX7_token_65 : decode cX7_token 65 = .ok (.ifCond .ne 37, 3) := by decide +kernel
theorem dX7_token_68 : decode cX7_token 68 = .ok (.aload_n 0, 1) := by decide +kernel
theorem dX7_token_69 : decode cX7_token 69 = .ok (.getfield 85, 3) := by decide +kernel
theorem dX7_token_72 : decode cX7_token 72 = .ok (.iconst 1, 1) := by decide +kernel
theorem dX7_token_73 : decode cX7_token 73 = .ok (.if_icmp .eq 11, 3) := by decide +kernel
theorem dX7_token_76 : decode cX7_token 76 = .ok (.aload_n 0, 1) := by decide +kernel
theorem dX7_token_77 : decode cX7_token 77 = .ok (.getfield 85, 3) := by decide +kernel
theorem dX7_token_80 : decode cX7_token 80 = .ok (.iconst 2, 1) := by decide +kernel
theorem dX7_token_81 : decode cX7_token 81 = .ok (.if_icmp .ne 44, 3) := by decide +kernel
theorem dX7_token_84 : decode cX7_token 84 = .ok (.aload_n 0, 1) := by decide +kernel
theorem dX7_token_85 : decode cX7_token 85 = .ok (.aload_n 0, 1) := by decide +kernel
theorem dX7_token_86 : decode cX7_token 86 = .ok (.getfield 72, 3) := by decide +kernel
theorem dX7_token_89 : decode cX7_token 89 = .ok (.invokevirtual 75, 3) := by decide +kernel
theorem dX7_token_92 : decode cX7_token 92 = .ok (.invokestatic 82, 3) := by decide +kernel
theorem dX7_token_95 : decode cX7_token 95 = .ok (.aload_n 0, 1) := by decide +kernel
theorem dX7_token_96 : decode cX7_token 96 = .ok (.getfield 85, 3) := by decide +kernel
theorem dX7_token_99 : decode cX7_token 99 = .ok (.if_icmp .ne 26, 3) := by decide +kernel
theorem dX7_token_102 : decode cX7_token 102 = .ok (.aload_n 0, 1) := by decide +kernel
theorem dX7_token_103 : decode cX7_token 103 = .ok (.dup, 1) := by decide +kernel
theorem dX7_token_104 : decode cX7_token 104 = .ok (.getfield 72, 3) := by decide +kernel
theorem dX7_token_107 : decode cX7_token 107 = .ok (.iconst 1, 1) := by decide +kernel
theorem dX7_token_108 : decode cX7_token 108 = .ok (.iadd, 1) := by decide +kernel
theorem dX7_token_109 : decode cX7_token 109 = .ok (.putfield 72, 3) := by decide +kernel
theorem dX7_token_112 : decode cX7_token 112 = .ok (.aload_n 0, 1) := by decide +kernel
theorem dX7_token_113 : decode cX7_token 113 = .ok (.dup, 1) := by decide +kernel
theorem dX7_token_114 : decode cX7_token 114 = .ok (.getfield 88, 3) := by decide +kernel
theorem dX7_token_117 : decode cX7_token 117 = .ok (.iconst 1, 1) := by decide +kernel
theorem dX7_token_118 : decode cX7_token 118 = .ok (.iadd, 1) := by decide +kernel
theorem dX7_token_119 : decode cX7_token 119 = .ok (.putfield 88, 3) := by decide +kernel
theorem dX7_token_122 : decode cX7_token 122 = .ok (.goto (-68), 3) := by decide +kernel
theorem dX7_token_125 : decode cX7_token 125 = .ok (.return_, 1) := by decide +kernel
theorem dX7_word_0 : decode cX7_word 0 = .ok (.lconst 0, 1) := by decide +kernel
theorem dX7_word_1 : decode cX7_word 1 = .ok (.lstore_n 1, 1) := by decide +kernel
theorem dX7_word_2 : decode cX7_word 2 = .ok (.iconst 0, 1) := by decide +kernel
theorem dX7_word_3 : decode cX7_word 3 = .ok (.istore_n 3, 1) := by decide +kernel
theorem dX7_word_4 : decode cX7_word 4 = .ok (.iload_n 3, 1) := by decide +kernel
theorem dX7_word_5 : decode cX7_word 5 = .ok (.aload_n 0, 1) := by decide +kernel
theorem dX7_word_6 : decode cX7_word 6 = .ok (.getfield 88, 3) := by decide +kernel
theorem dX7_word_9 : decode cX7_word 9 = .ok (.if_icmp .ge 44, 3) := by decide +kernel
theorem dX7_word_12 : decode cX7_word 12 = .ok (.aload_n 0, 1) := by decide +kernel
theorem dX7_word_13 : decode cX7_word 13 = .ok (.getfield 88, 3) := by decide +kernel
theorem dX7_word_16 : decode cX7_word 16 = .ok (.bipush 8, 2) := by decide +kernel
theorem dX7_word_18 : decode cX7_word 18 = .ok (.if_icmp .ge 35, 3) := by decide +kernel
theorem dX7_word_21 : decode cX7_word 21 = .ok (.aload_n 0, 1) := by decide +kernel
theorem dX7_word_22 : decode cX7_word 22 = .ok (.getfield 85, 3) := by decide +kernel
theorem dX7_word_25 : decode cX7_word 25 = .ok (.iconst 1, 1) := by decide +kernel
theorem dX7_word_26 : decode cX7_word 26 = .ok (.if_icmp .ne 27, 3) := by decide +kernel
theorem dX7_word_29 : decode cX7_word 29 = .ok (.ldc2_w 91, 3) := by decide +kernel
theorem dX7_word_32 : decode cX7_word 32 = .ok (.lload_n 1, 1) := by decide +kernel
theorem dX7_word_33 : decode cX7_word 33 = .ok (.lmul, 1) := by decide +kernel
theorem dX7_word_34 : decode cX7_word 34 = .ok (.aload_n 0, 1) := by decide +kernel
theorem dX7_word_35 : decode cX7_word 35 = .ok (.aload_n 0, 1) := by decide +kernel
theorem dX7_word_36 : decode cX7_word 36 = .ok (.getfield 79, 3) := by decide +kernel
theorem dX7_word_39 : decode cX7_word 39 = .ok (.iload_n 3, 1) := by decide +kernel
theorem dX7_word_40 : decode cX7_word 40 = .ok (.iadd, 1) := by decide +kernel
theorem dX7_word_41 : decode cX7_word 41 = .ok (.invokevirtual 75, 3) := by decide +kernel
theorem dX7_word_44 : decode cX7_word 44 = .ok (.i2l, 1) := by decide +kernel
theorem dX7_word_45 : decode cX7_word 45 = .ok (.ladd, 1) := by decide +kernel
theorem dX7_word_46 : decode cX7_word 46 = .ok (.lstore_n 1, 1) := by decide +kernel
theorem dX7_word_47 : decode cX7_word 47 = .ok (.iinc 3 1, 3) := by decide +kernel
theorem dX7_word_50 : decode cX7_word 50 = .ok (.goto (-46), 3) := by decide +kernel
theorem dX7_word_53 : decode cX7_word 53 = .ok (.lload_n 1, 1) := by decide +kernel
theorem dX7_word_54 : decode cX7_word 54 = .ok (.lreturn, 1) := by decide +kernel
theorem dX7_wrong_0 : decode cX7_wrong 0 = .ok (.aload_n 0, 1) := by decide +kernel
theorem dX7_wrong_1 : decode cX7_wrong 1 = .ok (.iload_n 1, 1) := by decide +kernel
theorem dX7_wrong_2 : decode cX7_wrong 2 = .ok (.putfield 93, 3) := by decide +kernel
theorem dX7_wrong_5 : decode cX7_wrong 5 = .ok (.iconst 0, 1) := by decide +kernel
theorem dX7_wrong_6 : decode cX7_wrong 6 = .ok (.ireturn, 1) := by decide +kernel
theorem dX7_number_0 : decode cX7_number 0 = .ok (.aload_n 0, 1) := by decide +kernel
theorem dX7_number_1 : decode cX7_number 1 = .ok (.invokevirtual 96, 3) := by decide +kernel
theorem dX7_number_4 : decode cX7_number 4 = .ok (.aload_n 0, 1) := by decide +kernel
theorem dX7_number_5 : decode cX7_number 5 = .ok (.getfield 85, 3) := by decide +kernel
theorem dX7_number_8 : decode cX7_number 8 = .ok (.iconst 2, 1) := by decide +kernel
theorem dX7_number_9 : decode cX7_number 9 = .ok (.if_icmp .eq 9, 3) := by decide +kernel
theorem dX7_number_12 : decode cX7_number 12 = .ok (.aload_n 0, 1) := by decide +kernel
theorem dX7_number_13 : decode cX7_number 13 = .ok (.iconst 1, 1) := by decide +kernel
theorem dX7_number_14 : decode cX7_number 14 = .ok (.invokevirtual 99, 3) := by decide +kernel
theorem dX7_number_17 : decode cX7_number 17 = .ok (.ireturn, 1) := by decide +kernel
theorem dX7_number_18 : decode cX7_number 18 = .ok (.iconst 0, 1) := by decide +kernel
theorem dX7_number_19 : decode cX7_number 19 = .ok (.istore 4, 2) := by decide +kernel
theorem dX7_number_21 : decode cX7_number 21 = .ok (.iconst 0, 1) := by decide +kernel
theorem dX7_number_22 : decode cX7_number 22 = .ok (.istore 5, 2) := by decide +kernel
theorem dX7_number_24 : decode cX7_number 24 = .ok (.iload 5, 2) := by decide +kernel
theorem dX7_number_26 : decode cX7_number 26 = .ok (.aload_n 0, 1) := by decide +kernel
theorem dX7_number_27 : decode cX7_number 27 = .ok (.getfield 88, 3) := by decide +kernel
theorem dX7_number_30 : decode cX7_number 30 = .ok (.if_icmp .ge 39, 3) := by decide +kernel
theorem dX7_number_33 : decode cX7_number 33 = .ok (.aload_n 0, 1) := by decide +kernel
theorem dX7_number_34 : decode cX7_number 34 = .ok (.getfield 88, 3) := by decide +kernel
theorem dX7_number_37 : decode cX7_number 37 = .ok (.iconst 4, 1) := by decide +kernel
theorem dX7_number_38 : decode cX7_number 38 = .ok (.if_icmp .ge 31, 3) := by decide +kernel
theorem dX7_number_41 : decode cX7_number 41 = .ok (.bipush 10, 2) := by decide +kernel
theorem dX7_number_43 : decode cX7_number 43 = .ok (.iload 4, 2) := by decide +kernel
theorem dX7_number_45 : decode cX7_number 45 = .ok (.imul, 1) := by decide +kernel
theorem dX7_number_46 : decode cX7_number 46 = .ok (.aload_n 0, 1) := by decide +kernel
theorem dX7_number_47 : decode cX7_number 47 = .ok (.aload_n 0, 1) := by decide +kernel
theorem dX7_number_48 : decode cX7_number 48 = .ok (.getfield 79, 3) := by decide +kernel
theorem dX7_number_51 : decode cX7_number 51 = .ok (.iload 5, 2) := by decide +kernel
theorem dX7_number_53 : decode cX7_number 53 = .ok (.iadd, 1) := by decide +kernel
theorem dX7_number_54 : decode cX7_number 54 = .ok (.invokevirtual 75, 3) := by decide +kernel
theorem dX7_number_57 : decode cX7_number 57 = .ok (.iadd, 1) := by decide +kernel
theorem dX7_number_58 : decode cX7_number 58 = .ok (.bipush 48, 2) := by decide +kernel
theorem dX7_number_60 : decode cX7_number 60 = .ok (.isub, 1) := by decide +kernel
theorem dX7_number_61 : decode cX7_number 61 = .ok (.istore 4, 2) := by decide +kernel
theorem dX7_number_63 : decode cX7_number 63 = .ok (.iinc 5 1, 3) := by decide +kernel
theorem dX7_number_66 : decode cX7_number 66 = .ok (.goto (-42), 3) := by decide +kernel
theorem dX7_number_69 : decode cX7_number 69 = .ok (.aload_n 0, 1) := by decide +kernel
theorem dX7_number_70 : decode cX7_number 70 = .ok (.getfield 88, 3) := by decide +kernel
theorem dX7_number_73 : decode cX7_number 73 = .ok (.iconst 3, 1) := by decide +kernel
theorem dX7_number_74 : decode cX7_number 74 = .ok (.if_icmp .gt 13, 3) := by decide +kernel
theorem dX7_number_77 : decode cX7_number 77 = .ok (.iload 4, 2) := by decide +kernel
theorem dX7_number_79 : decode cX7_number 79 = .ok (.iload_n 2, 1) := by decide +kernel
theorem dX7_number_80 : decode cX7_number 80 = .ok (.iload_n 3, 1) := by decide +kernel
theorem dX7_number_81 : decode cX7_number 81 = .ok (.invokestatic 61, 3) := by decide +kernel
theorem dX7_number_84 : decode cX7_number 84 = .ok (.ifCond .ne 9, 3) := by decide +kernel
theorem dX7_number_87 : decode cX7_number 87 = .ok (.aload_n 0, 1) := by decide +kernel
theorem dX7_number_88 : decode cX7_number 88 = .ok (.iconst 2, 1) := by decide +kernel
theorem dX7_number_89 : decode cX7_number 89 = .ok (.invokevirtual 99, 3) := by decide +kernel
theorem dX7_number_92 : decode cX7_number 92 = .ok (.ireturn, 1) := by decide +kernel
theorem dX7_number_93 : decode cX7_number 93 = .ok (.aload_n 0, 1) := by decide +kernel
theorem dX7_number_94 : decode cX7_number 94 = .ok (.getfield 16, 3) := by decide +kernel
theorem dX7_number_97 : decode cX7_number 97 = .ok (.iload_n 1, 1) := by decide +kernel
theorem dX7_number_98 : decode cX7_number 98 = .ok (.iload 4, 2) := by decide +kernel
theorem dX7_number_100 : decode cX7_number 100 = .ok (.iastore, 1) := by decide +kernel
theorem dX7_number_101 : decode cX7_number 101 = .ok (.iconst 1, 1) := by decide +kernel
theorem dX7_number_102 : decode cX7_number 102 = .ok (.ireturn, 1) := by decide +kernel
theorem dX7_stops_0 : decode cX7_stops 0 = .ok (.aload_n 0, 1) := by decide +kernel
theorem dX7_stops_1 : decode cX7_stops 1 = .ok (.invokevirtual 96, 3) := by decide +kernel
theorem dX7_stops_4 : decode cX7_stops 4 = .ok (.aload_n 0, 1) := by decide +kernel
theorem dX7_stops_5 : decode cX7_stops 5 = .ok (.getfield 85, 3) := by decide +kernel
theorem dX7_stops_8 : decode cX7_stops 8 = .ok (.iconst 3, 1) := by decide +kernel
theorem dX7_stops_9 : decode cX7_stops 9 = .ok (.if_icmp .eq 11, 3) := by decide +kernel
theorem dX7_stops_12 : decode cX7_stops 12 = .ok (.aload_n 0, 1) := by decide +kernel
theorem dX7_stops_13 : decode cX7_stops 13 = .ok (.iconst 1, 1) := by decide +kernel
theorem dX7_stops_14 : decode cX7_stops 14 = .ok (.invokevirtual 99, 3) := by decide +kernel
theorem dX7_stops_17 : decode cX7_stops 17 = .ok (.ifCond .eq 7, 3) := by decide +kernel
theorem dX7_stops_20 : decode cX7_stops 20 = .ok (.iconst 1, 1) := by decide +kernel
theorem dX7_stops_21 : decode cX7_stops 21 = .ok (.goto 4, 3) := by decide +kernel
theorem dX7_stops_24 : decode cX7_stops 24 = .ok (.iconst 0, 1) := by decide +kernel
theorem dX7_stops_25 : decode cX7_stops 25 = .ok (.ireturn, 1) := by decide +kernel
theorem dX7_readsPole_0 : decode cX7_readsPole 0 = .ok (.aload_n 0, 1) := by decide +kernel
theorem dX7_readsPole_1 : decode cX7_readsPole 1 = .ok (.getfield 16, 3) := by decide +kernel
theorem dX7_readsPole_4 : decode cX7_readsPole 4 = .ok (.iconst 0, 1) := by decide +kernel
theorem dX7_readsPole_5 : decode cX7_readsPole 5 = .ok (.iaload, 1) := by decide +kernel
theorem dX7_readsPole_6 : decode cX7_readsPole 6 = .ok (.ifCond .le 9, 3) := by decide +kernel
theorem dX7_readsPole_9 : decode cX7_readsPole 9 = .ok (.aload_n 0, 1) := by decide +kernel
theorem dX7_readsPole_10 : decode cX7_readsPole 10 = .ok (.iconst 3, 1) := by decide +kernel
theorem dX7_readsPole_11 : decode cX7_readsPole 11 = .ok (.invokevirtual 99, 3) := by decide +kernel
theorem dX7_readsPole_14 : decode cX7_readsPole 14 = .ok (.ireturn, 1) := by decide +kernel
theorem dX7_readsPole_15 : decode cX7_readsPole 15 = .ok (.aload_n 0, 1) := by decide +kernel
theorem dX7_readsPole_16 : decode cX7_readsPole 16 = .ok (.iconst 0, 1) := by decide +kernel
theorem dX7_readsPole_17 : decode cX7_readsPole 17 = .ok (.iconst 1, 1) := by decide +kernel
theorem dX7_readsPole_18 : decode cX7_readsPole 18 = .ok (.bipush 30, 2) := by decide +kernel
theorem dX7_readsPole_20 : decode cX7_readsPole 20 = .ok (.invokevirtual 103, 3) := by decide +kernel
theorem dX7_readsPole_23 : decode cX7_readsPole 23 = .ok (.ifCond .eq 22, 3) := by decide +kernel
theorem dX7_readsPole_26 : decode cX7_readsPole 26 = .ok (.aload_n 0, 1) := by decide +kernel
theorem dX7_readsPole_27 : decode cX7_readsPole 27 = .ok (.bipush 24, 2) := by decide +kernel
theorem dX7_readsPole_29 : decode cX7_readsPole 29 = .ok (.iconst 0, 1) := by decide +kernel
theorem dX7_readsPole_30 : decode cX7_readsPole 30 = .ok (.bipush 99, 2) := by decide +kernel
theorem dX7_readsPole_32 : decode cX7_readsPole 32 = .ok (.invokevirtual 103, 3) := by decide +kernel
theorem dX7_readsPole_35 : decode cX7_readsPole 35 = .ok (.ifCond .eq 10, 3) := by decide +kernel
theorem dX7_readsPole_38 : decode cX7_readsPole 38 = .ok (.aload_n 0, 1) := by decide +kernel
theorem dX7_readsPole_39 : decode cX7_readsPole 39 = .ok (.invokevirtual 106, 3) := by decide +kernel
theorem dX7_readsPole_42 : decode cX7_readsPole 42 = .ok (.ifCond .ne 5, 3) := by decide +kernel
theorem dX7_readsPole_45 : decode cX7_readsPole 45 = .ok (.iconst 0, 1) := by decide +kernel
theorem dX7_readsPole_46 : decode cX7_readsPole 46 = .ok (.ireturn, 1) := by decide +kernel
theorem dX7_readsPole_47 : decode cX7_readsPole 47 = .ok (.iconst 1, 1) := by decide +kernel
theorem dX7_readsPole_48 : decode cX7_readsPole 48 = .ok (.istore_n 1, 1) := by decide +kernel
theorem dX7_readsPole_49 : decode cX7_readsPole 49 = .ok (.iload_n 1, 1) := by decide +kernel
theorem dX7_readsPole_50 : decode cX7_readsPole 50 = .ok (.bipush 30, 2) := by decide +kernel
theorem dX7_readsPole_52 : decode cX7_readsPole 52 = .ok (.if_icmp .ge 39, 3) := by decide +kernel
theorem dX7_readsPole_55 : decode cX7_readsPole 55 = .ok (.aload_n 0, 1) := by decide +kernel
theorem dX7_readsPole_56 : decode cX7_readsPole 56 = .ok (.getfield 16, 3) := by decide +kernel
theorem dX7_readsPole_59 : decode cX7_readsPole 59 = .ok (.bipush 24, 2) := by decide +kernel
theorem dX7_readsPole_61 : decode cX7_readsPole 61 = .ok (.iload_n 1, 1) := by decide +kernel
theorem dX7_readsPole_62 : decode cX7_readsPole 62 = .ok (.iadd, 1) := by decide +kernel
theorem dX7_readsPole_63 : decode cX7_readsPole 63 = .ok (.iload_n 1, 1) := by decide +kernel
theorem dX7_readsPole_64 : decode cX7_readsPole 64 = .ok (.aload_n 0, 1) := by decide +kernel
theorem dX7_readsPole_65 : decode cX7_readsPole 65 = .ok (.getfield 16, 3) := by decide +kernel
theorem dX7_readsPole_68 : decode cX7_readsPole 68 = .ok (.iconst 0, 1) := by decide +kernel
theorem dX7_readsPole_69 : decode cX7_readsPole 69 = .ok (.iaload, 1) := by decide +kernel
theorem dX7_readsPole_70 : decode cX7_readsPole 70 = .ok (.if_icmp .ge 13, 3) := by decide +kernel
theorem dX7_readsPole_73 : decode cX7_readsPole 73 = .ok (.aload_n 0, 1) := by decide +kernel
theorem dX7_readsPole_74 : decode cX7_readsPole 74 = .ok (.getfield 16, 3) := by decide +kernel
theorem dX7_readsPole_77 : decode cX7_readsPole 77 = .ok (.bipush 24, 2) := by decide +kernel
theorem dX7_readsPole_79 : decode cX7_readsPole 79 = .ok (.iaload, 1) := by decide +kernel
theorem dX7_readsPole_80 : decode cX7_readsPole 80 = .ok (.goto 4, 3) := by decide +kernel
theorem dX7_readsPole_83 : decode cX7_readsPole 83 = .ok (.iconst 0, 1) := by decide +kernel
theorem dX7_readsPole_84 : decode cX7_readsPole 84 = .ok (.iastore, 1) := by decide +kernel
theorem dX7_readsPole_85 : decode cX7_readsPole 85 = .ok (.iinc 1 1, 3) := by decide +kernel
theorem dX7_readsPole_88 : decode cX7_readsPole 88 = .ok (.goto (-39), 3) := by decide +kernel
theorem dX7_readsPole_91 : decode cX7_readsPole 91 = .ok (.iconst 1, 1) := by decide +kernel
theorem dX7_readsPole_92 : decode cX7_readsPole 92 = .ok (.ireturn, 1) := by decide +kernel
theorem dX7_readsFoot_0 : decode cX7_readsFoot 0 = .ok (.aload_n 0, 1) := by decide +kernel
theorem dX7_readsFoot_1 : decode cX7_readsFoot 1 = .ok (.getfield 16, 3) := by decide +kernel
theorem dX7_readsFoot_4 : decode cX7_readsFoot 4 = .ok (.bipush 55, 2) := by decide +kernel
theorem dX7_readsFoot_6 : decode cX7_readsFoot 6 = .ok (.iaload, 1) := by decide +kernel
theorem dX7_readsFoot_7 : decode cX7_readsFoot 7 = .ok (.bipush 20, 2) := by decide +kernel
theorem dX7_readsFoot_9 : decode cX7_readsFoot 9 = .ok (.if_icmp .ne 9, 3) := by decide +kernel
theorem dX7_readsFoot_12 : decode cX7_readsFoot 12 = .ok (.aload_n 0, 1) := by decide +kernel
theorem dX7_readsFoot_13 : decode cX7_readsFoot 13 = .ok (.iconst 3, 1) := by decide +kernel
theorem dX7_readsFoot_14 : decode cX7_readsFoot 14 = .ok (.invokevirtual 99, 3) := by decide +kernel
theorem dX7_readsFoot_17 : decode cX7_readsFoot 17 = .ok (.ireturn, 1) := by decide +kernel
theorem dX7_readsFoot_18 : decode cX7_readsFoot 18 = .ok (.aload_n 0, 1) := by decide +kernel
theorem dX7_readsFoot_19 : decode cX7_readsFoot 19 = .ok (.getfield 16, 3) := by decide +kernel
theorem dX7_readsFoot_22 : decode cX7_readsFoot 22 = .ok (.iconst 2, 1) := by decide +kernel
theorem dX7_readsFoot_23 : decode cX7_readsFoot 23 = .ok (.iaload, 1) := by decide +kernel
theorem dX7_readsFoot_24 : decode cX7_readsFoot 24 = .ok (.istore_n 1, 1) := by decide +kernel
theorem dX7_readsFoot_25 : decode cX7_readsFoot 25 = .ok (.aload_n 0, 1) := by decide +kernel
theorem dX7_readsFoot_26 : decode cX7_readsFoot 26 = .ok (.iconst 2, 1) := by decide +kernel
theorem dX7_readsFoot_27 : decode cX7_readsFoot 27 = .ok (.iconst 0, 1) := by decide +kernel
theorem dX7_readsFoot_28 : decode cX7_readsFoot 28 = .ok (.aload_n 0, 1) := by decide +kernel
theorem dX7_readsFoot_29 : decode cX7_readsFoot 29 = .ok (.getfield 16, 3) := by decide +kernel
theorem dX7_readsFoot_32 : decode cX7_readsFoot 32 = .ok (.iconst 0, 1) := by decide +kernel
theorem dX7_readsFoot_33 : decode cX7_readsFoot 33 = .ok (.iaload, 1) := by decide +kernel
theorem dX7_readsFoot_34 : decode cX7_readsFoot 34 = .ok (.iconst 1, 1) := by decide +kernel
theorem dX7_readsFoot_35 : decode cX7_readsFoot 35 = .ok (.isub, 1) := by decide +kernel
theorem dX7_readsFoot_36 : decode cX7_readsFoot 36 = .ok (.invokevirtual 103, 3) := by decide +kernel
theorem dX7_readsFoot_39 : decode cX7_readsFoot 39 = .ok (.istore_n 2, 1) := by decide +kernel
theorem dX7_readsFoot_40 : decode cX7_readsFoot 40 = .ok (.aload_n 0, 1) := by decide +kernel
theorem dX7_readsFoot_41 : decode cX7_readsFoot 41 = .ok (.getfield 16, 3) := by decide +kernel
theorem dX7_readsFoot_44 : decode cX7_readsFoot 44 = .ok (.iconst 2, 1) := by decide +kernel
theorem dX7_readsFoot_45 : decode cX7_readsFoot 45 = .ok (.iaload, 1) := by decide +kernel
theorem dX7_readsFoot_46 : decode cX7_readsFoot 46 = .ok (.istore_n 3, 1) := by decide +kernel
theorem dX7_readsFoot_47 : decode cX7_readsFoot 47 = .ok (.aload_n 0, 1) := by decide +kernel
theorem dX7_readsFoot_48 : decode cX7_readsFoot 48 = .ok (.getfield 16, 3) := by decide +kernel
theorem dX7_readsFoot_51 : decode cX7_readsFoot 51 = .ok (.iconst 2, 1) := by decide +kernel
theorem dX7_readsFoot_52 : decode cX7_readsFoot 52 = .ok (.iload_n 1, 1) := by decide +kernel
theorem dX7_readsFoot_53 : decode cX7_readsFoot 53 = .ok (.iastore, 1) := by decide +kernel
theorem dX7_readsFoot_54 : decode cX7_readsFoot 54 = .ok (.iload_n 2, 1) := by decide +kernel
theorem dX7_readsFoot_55 : decode cX7_readsFoot 55 = .ok (.ifCond .ne 5, 3) := by decide +kernel
theorem dX7_readsFoot_58 : decode cX7_readsFoot 58 = .ok (.iconst 0, 1) := by decide +kernel
theorem dX7_readsFoot_59 : decode cX7_readsFoot 59 = .ok (.ireturn, 1) := by decide +kernel
theorem dX7_readsFoot_60 : decode cX7_readsFoot 60 = .ok (.aload_n 0, 1) := by decide +kernel
theorem dX7_readsFoot_61 : decode cX7_readsFoot 61 = .ok (.getfield 16, 3) := by decide +kernel
theorem dX7_readsFoot_64 : decode cX7_readsFoot 64 = .ok (.bipush 54, 2) := by decide +kernel
theorem dX7_readsFoot_66 : decode cX7_readsFoot 66 = .ok (.iaload, 1) := by decide +kernel
theorem dX7_readsFoot_67 : decode cX7_readsFoot 67 = .ok (.iload_n 3, 1) := by decide +kernel
theorem dX7_readsFoot_68 : decode cX7_readsFoot 68 = .ok (.ishr, 1) := by decide +kernel
theorem dX7_readsFoot_69 : decode cX7_readsFoot 69 = .ok (.iconst 1, 1) := by decide +kernel
theorem dX7_readsFoot_70 : decode cX7_readsFoot 70 = .ok (.iand, 1) := by decide +kernel
theorem dX7_readsFoot_71 : decode cX7_readsFoot 71 = .ok (.iconst 1, 1) := by decide +kernel
theorem dX7_readsFoot_72 : decode cX7_readsFoot 72 = .ok (.if_icmp .ne 9, 3) := by decide +kernel
theorem dX7_readsFoot_75 : decode cX7_readsFoot 75 = .ok (.aload_n 0, 1) := by decide +kernel
theorem dX7_readsFoot_76 : decode cX7_readsFoot 76 = .ok (.iconst 4, 1) := by decide +kernel
theorem dX7_readsFoot_77 : decode cX7_readsFoot 77 = .ok (.invokevirtual 99, 3) := by decide +kernel
theorem dX7_readsFoot_80 : decode cX7_readsFoot 80 = .ok (.ireturn, 1) := by decide +kernel
theorem dX7_readsFoot_81 : decode cX7_readsFoot 81 = .ok (.aload_n 0, 1) := by decide +kernel
theorem dX7_readsFoot_82 : decode cX7_readsFoot 82 = .ok (.getfield 16, 3) := by decide +kernel
theorem dX7_readsFoot_85 : decode cX7_readsFoot 85 = .ok (.bipush 54, 2) := by decide +kernel
theorem dX7_readsFoot_87 : decode cX7_readsFoot 87 = .ok (.dup2, 1) := by decide +kernel
theorem dX7_readsFoot_88 : decode cX7_readsFoot 88 = .ok (.iaload, 1) := by decide +kernel
theorem dX7_readsFoot_89 : decode cX7_readsFoot 89 = .ok (.iconst 1, 1) := by decide +kernel
theorem dX7_readsFoot_90 : decode cX7_readsFoot 90 = .ok (.iload_n 3, 1) := by decide +kernel
theorem dX7_readsFoot_91 : decode cX7_readsFoot 91 = .ok (.ishl, 1) := by decide +kernel
theorem dX7_readsFoot_92 : decode cX7_readsFoot 92 = .ok (.ior, 1) := by decide +kernel
theorem dX7_readsFoot_93 : decode cX7_readsFoot 93 = .ok (.iastore, 1) := by decide +kernel
theorem dX7_readsFoot_94 : decode cX7_readsFoot 94 = .ok (.aload_n 0, 1) := by decide +kernel
theorem dX7_readsFoot_95 : decode cX7_readsFoot 95 = .ok (.getfield 16, 3) := by decide +kernel
theorem dX7_readsFoot_98 : decode cX7_readsFoot 98 = .ok (.bipush 55, 2) := by decide +kernel
theorem dX7_readsFoot_100 : decode cX7_readsFoot 100 = .ok (.dup2, 1) := by decide +kernel
theorem dX7_readsFoot_101 : decode cX7_readsFoot 101 = .ok (.iaload, 1) := by decide +kernel
theorem dX7_readsFoot_102 : decode cX7_readsFoot 102 = .ok (.iconst 1, 1) := by decide +kernel
theorem dX7_readsFoot_103 : decode cX7_readsFoot 103 = .ok (.iadd, 1) := by decide +kernel
theorem dX7_readsFoot_104 : decode cX7_readsFoot 104 = .ok (.iastore, 1) := by decide +kernel
theorem dX7_readsFoot_105 : decode cX7_readsFoot 105 = .ok (.aload_n 0, 1) := by decide +kernel
theorem dX7_readsFoot_106 : decode cX7_readsFoot 106 = .ok (.bipush 24, 2) := by decide +kernel
theorem dX7_readsFoot_108 : decode cX7_readsFoot 108 = .ok (.iload_n 3, 1) := by decide +kernel
theorem dX7_readsFoot_109 : decode cX7_readsFoot 109 = .ok (.iadd, 1) := by decide +kernel
theorem dX7_readsFoot_110 : decode cX7_readsFoot 110 = .ok (.iconst 0, 1) := by decide +kernel
theorem dX7_readsFoot_111 : decode cX7_readsFoot 111 = .ok (.bipush 99, 2) := by decide +kernel
theorem dX7_readsFoot_113 : decode cX7_readsFoot 113 = .ok (.invokevirtual 103, 3) := by decide +kernel
theorem dX7_readsFoot_116 : decode cX7_readsFoot 116 = .ok (.ifCond .eq 14, 3) := by decide +kernel
theorem dX7_readsFoot_119 : decode cX7_readsFoot 119 = .ok (.aload_n 0, 1) := by decide +kernel
theorem dX7_readsFoot_120 : decode cX7_readsFoot 120 = .ok (.invokevirtual 106, 3) := by decide +kernel
theorem dX7_readsFoot_123 : decode cX7_readsFoot 123 = .ok (.ifCond .eq 7, 3) := by decide +kernel
theorem dX7_readsFoot_126 : decode cX7_readsFoot 126 = .ok (.iconst 1, 1) := by decide +kernel
theorem dX7_readsFoot_127 : decode cX7_readsFoot 127 = .ok (.goto 4, 3) := by decide +kernel
theorem dX7_readsFoot_130 : decode cX7_readsFoot 130 = .ok (.iconst 0, 1) := by decide +kernel
theorem dX7_readsFoot_131 : decode cX7_readsFoot 131 = .ok (.ireturn, 1) := by decide +kernel
theorem dX7_readsClimber_0 : decode cX7_readsClimber 0 = .ok (.aload_n 0, 1) := by decide +kernel
theorem dX7_readsClimber_1 : decode cX7_readsClimber 1 = .ok (.getfield 16, 3) := by decide +kernel
theorem dX7_readsClimber_4 : decode cX7_readsClimber 4 = .ok (.iconst 1, 1) := by decide +kernel
theorem dX7_readsClimber_5 : decode cX7_readsClimber 5 = .ok (.iaload, 1) := by decide +kernel
theorem dX7_readsClimber_6 : decode cX7_readsClimber 6 = .ok (.istore_n 1, 1) := by decide +kernel
theorem dX7_readsClimber_7 : decode cX7_readsClimber 7 = .ok (.iload_n 1, 1) := by decide +kernel
theorem dX7_readsClimber_8 : decode cX7_readsClimber 8 = .ok (.bipush 6, 2) := by decide +kernel
theorem dX7_readsClimber_10 : decode cX7_readsClimber 10 = .ok (.if_icmp .ne 9, 3) := by decide +kernel
theorem dX7_readsClimber_13 : decode cX7_readsClimber 13 = .ok (.aload_n 0, 1) := by decide +kernel
theorem dX7_readsClimber_14 : decode cX7_readsClimber 14 = .ok (.iconst 3, 1) := by decide +kernel
theorem dX7_readsClimber_15 : decode cX7_readsClimber 15 = .ok (.invokevirtual 99, 3) := by decide +kernel
theorem dX7_readsClimber_18 : decode cX7_readsClimber 18 = .ok (.ireturn, 1) := by decide +kernel
theorem dX7_readsClimber_19 : decode cX7_readsClimber 19 = .ok (.aload_n 0, 1) := by decide +kernel
theorem dX7_readsClimber_20 : decode cX7_readsClimber 20 = .ok (.getfield 16, 3) := by decide +kernel
theorem dX7_readsClimber_23 : decode cX7_readsClimber 23 = .ok (.iconst 1, 1) := by decide +kernel
theorem dX7_readsClimber_24 : decode cX7_readsClimber 24 = .ok (.dup2, 1) := by decide +kernel
theorem dX7_readsClimber_25 : decode cX7_readsClimber 25 = .ok (.iaload, 1) := by decide +kernel
theorem dX7_readsClimber_26 : decode cX7_readsClimber 26 = .ok (.iconst 1, 1) := by decide +kernel
theorem dX7_readsClimber_27 : decode cX7_readsClimber 27 = .ok (.iadd, 1) := by decide +kernel
theorem dX7_readsClimber_28 : decode cX7_readsClimber 28 = .ok (.iastore, 1) := by decide +kernel
theorem dX7_readsClimber_29 : decode cX7_readsClimber 29 = .ok (.aload_n 0, 1) := by decide +kernel
theorem dX7_readsClimber_30 : decode cX7_readsClimber 30 = .ok (.bipush 6, 2) := by decide +kernel
theorem dX7_readsClimber_32 : decode cX7_readsClimber 32 = .ok (.iload_n 1, 1) := by decide +kernel
theorem dX7_readsClimber_33 : decode cX7_readsClimber 33 = .ok (.iadd, 1) := by decide +kernel
theorem dX7_readsClimber_34 : decode cX7_readsClimber 34 = .ok (.iconst 1, 1) := by decide +kernel
theorem dX7_readsClimber_35 : decode cX7_readsClimber 35 = .ok (.bipush 99, 2) := by decide +kernel
theorem dX7_readsClimber_37 : decode cX7_readsClimber 37 = .ok (.invokevirtual 103, 3) := by decide +kernel
theorem dX7_readsClimber_40 : decode cX7_readsClimber 40 = .ok (.ifCond .eq 43, 3) := by decide +kernel
theorem dX7_readsClimber_43 : decode cX7_readsClimber 43 = .ok (.aload_n 0, 1) := by decide +kernel
theorem dX7_readsClimber_44 : decode cX7_readsClimber 44 = .ok (.bipush 12, 2) := by decide +kernel
theorem dX7_readsClimber_46 : decode cX7_readsClimber 46 = .ok (.iload_n 1, 1) := by decide +kernel
theorem dX7_readsClimber_47 : decode cX7_readsClimber 47 = .ok (.iadd, 1) := by decide +kernel
theorem dX7_readsClimber_48 : decode cX7_readsClimber 48 = .ok (.iconst 1, 1) := by decide +kernel
theorem dX7_readsClimber_49 : decode cX7_readsClimber 49 = .ok (.sipush 999, 3) := by decide +kernel
theorem dX7_readsClimber_52 : decode cX7_readsClimber 52 = .ok (.invokevirtual 103, 3) := by decide +kernel
theorem dX7_readsClimber_55 : decode cX7_readsClimber 55 = .ok (.ifCond .eq 28, 3) := by decide +kernel
theorem dX7_readsClimber_58 : decode cX7_readsClimber 58 = .ok (.aload_n 0, 1) := by decide +kernel
theorem dX7_readsClimber_59 : decode cX7_readsClimber 59 = .ok (.bipush 18, 2) := by decide +kernel
theorem dX7_readsClimber_61 : decode cX7_readsClimber 61 = .ok (.iload_n 1, 1) := by decide +kernel
theorem dX7_readsClimber_62 : decode cX7_readsClimber 62 = .ok (.iadd, 1) := by decide +kernel
theorem dX7_readsClimber_63 : decode cX7_readsClimber 63 = .ok (.iconst 0, 1) := by decide +kernel
theorem dX7_readsClimber_64 : decode cX7_readsClimber 64 = .ok (.bipush 20, 2) := by decide +kernel
theorem dX7_readsClimber_66 : decode cX7_readsClimber 66 = .ok (.invokevirtual 103, 3) := by decide +kernel
theorem dX7_readsClimber_69 : decode cX7_readsClimber 69 = .ok (.ifCond .eq 14, 3) := by decide +kernel
theorem dX7_readsClimber_72 : decode cX7_readsClimber 72 = .ok (.aload_n 0, 1) := by decide +kernel
theorem dX7_readsClimber_73 : decode cX7_readsClimber 73 = .ok (.invokevirtual 106, 3) := by decide +kernel
theorem dX7_readsClimber_76 : decode cX7_readsClimber 76 = .ok (.ifCond .eq 7, 3) := by decide +kernel
theorem dX7_readsClimber_79 : decode cX7_readsClimber 79 = .ok (.iconst 1, 1) := by decide +kernel
theorem dX7_readsClimber_80 : decode cX7_readsClimber 80 = .ok (.goto 4, 3) := by decide +kernel
theorem dX7_readsClimber_83 : decode cX7_readsClimber 83 = .ok (.iconst 0, 1) := by decide +kernel
theorem dX7_readsClimber_84 : decode cX7_readsClimber 84 = .ok (.ireturn, 1) := by decide +kernel
theorem dX7_readsHam_0 : decode cX7_readsHam 0 = .ok (.aload_n 0, 1) := by decide +kernel
theorem dX7_readsHam_1 : decode cX7_readsHam 1 = .ok (.getfield 109, 3) := by decide +kernel
theorem dX7_readsHam_4 : decode cX7_readsHam 4 = .ok (.ifCond .eq 9, 3) := by decide +kernel
theorem dX7_readsHam_7 : decode cX7_readsHam 7 = .ok (.aload_n 0, 1) := by decide +kernel
theorem dX7_readsHam_8 : decode cX7_readsHam 8 = .ok (.iconst 3, 1) := by decide +kernel
theorem dX7_readsHam_9 : decode cX7_readsHam 9 = .ok (.invokevirtual 99, 3) := by decide +kernel
theorem dX7_readsHam_12 : decode cX7_readsHam 12 = .ok (.ireturn, 1) := by decide +kernel
theorem dX7_readsHam_13 : decode cX7_readsHam 13 = .ok (.aload_n 0, 1) := by decide +kernel
theorem dX7_readsHam_14 : decode cX7_readsHam 14 = .ok (.iconst 1, 1) := by decide +kernel
theorem dX7_readsHam_15 : decode cX7_readsHam 15 = .ok (.putfield 109, 3) := by decide +kernel
theorem dX7_readsHam_18 : decode cX7_readsHam 18 = .ok (.aload_n 0, 1) := by decide +kernel
theorem dX7_readsHam_19 : decode cX7_readsHam 19 = .ok (.iconst 2, 1) := by decide +kernel
theorem dX7_readsHam_20 : decode cX7_readsHam 20 = .ok (.iconst 0, 1) := by decide +kernel
theorem dX7_readsHam_21 : decode cX7_readsHam 21 = .ok (.sipush 999, 3) := by decide +kernel
theorem dX7_readsHam_24 : decode cX7_readsHam 24 = .ok (.invokevirtual 103, 3) := by decide +kernel
theorem dX7_readsHam_27 : decode cX7_readsHam 27 = .ok (.ifCond .eq 25, 3) := by decide +kernel
theorem dX7_readsHam_30 : decode cX7_readsHam 30 = .ok (.aload_n 0, 1) := by decide +kernel
theorem dX7_readsHam_31 : decode cX7_readsHam 31 = .ok (.iconst 3, 1) := by decide +kernel
theorem dX7_readsHam_32 : decode cX7_readsHam 32 = .ok (.iconst 0, 1) := by decide +kernel
theorem dX7_readsHam_33 : decode cX7_readsHam 33 = .ok (.bipush 99, 2) := by decide +kernel
theorem dX7_readsHam_35 : decode cX7_readsHam 35 = .ok (.invokevirtual 103, 3) := by decide +kernel
theorem dX7_readsHam_38 : decode cX7_readsHam 38 = .ok (.ifCond .eq 14, 3) := by decide +kernel
theorem dX7_readsHam_41 : decode cX7_readsHam 41 = .ok (.aload_n 0, 1) := by decide +kernel
theorem dX7_readsHam_42 : decode cX7_readsHam 42 = .ok (.invokevirtual 106, 3) := by decide +kernel
theorem dX7_readsHam_45 : decode cX7_readsHam 45 = .ok (.ifCond .eq 7, 3) := by decide +kernel
theorem dX7_readsHam_48 : decode cX7_readsHam 48 = .ok (.iconst 1, 1) := by decide +kernel
theorem dX7_readsHam_49 : decode cX7_readsHam 49 = .ok (.goto 4, 3) := by decide +kernel
theorem dX7_readsHam_52 : decode cX7_readsHam 52 = .ok (.iconst 0, 1) := by decide +kernel
theorem dX7_readsHam_53 : decode cX7_readsHam 53 = .ok (.ireturn, 1) := by decide +kernel
theorem dX7_readsSun_0 : decode cX7_readsSun 0 = .ok (.aload_n 0, 1) := by decide +kernel
theorem dX7_readsSun_1 : decode cX7_readsSun 1 = .ok (.getfield 113, 3) := by decide +kernel
theorem dX7_readsSun_4 : decode cX7_readsSun 4 = .ok (.ifCond .eq 9, 3) := by decide +kernel
theorem dX7_readsSun_7 : decode cX7_readsSun 7 = .ok (.aload_n 0, 1) := by decide +kernel
theorem dX7_readsSun_8 : decode cX7_readsSun 8 = .ok (.iconst 3, 1) := by decide +kernel
theorem dX7_readsSun_9 : decode cX7_readsSun 9 = .ok (.invokevirtual 99, 3) := by decide +kernel
theorem dX7_readsSun_12 : decode cX7_readsSun 12 = .ok (.ireturn, 1) := by decide +kernel
theorem dX7_readsSun_13 : decode cX7_readsSun 13 = .ok (.aload_n 0, 1) := by decide +kernel
theorem dX7_readsSun_14 : decode cX7_readsSun 14 = .ok (.iconst 1, 1) := by decide +kernel
theorem dX7_readsSun_15 : decode cX7_readsSun 15 = .ok (.putfield 113, 3) := by decide +kernel
theorem dX7_readsSun_18 : decode cX7_readsSun 18 = .ok (.aload_n 0, 1) := by decide +kernel
theorem dX7_readsSun_19 : decode cX7_readsSun 19 = .ok (.iconst 4, 1) := by decide +kernel
theorem dX7_readsSun_20 : decode cX7_readsSun 20 = .ok (.iconst 1, 1) := by decide +kernel
theorem dX7_readsSun_21 : decode cX7_readsSun 21 = .ok (.bipush 20, 2) := by decide +kernel
theorem dX7_readsSun_23 : decode cX7_readsSun 23 = .ok (.invokevirtual 103, 3) := by decide +kernel
theorem dX7_readsSun_26 : decode cX7_readsSun 26 = .ok (.ifCond .eq 25, 3) := by decide +kernel
theorem dX7_readsSun_29 : decode cX7_readsSun 29 = .ok (.aload_n 0, 1) := by decide +kernel
theorem dX7_readsSun_30 : decode cX7_readsSun 30 = .ok (.iconst 5, 1) := by decide +kernel
theorem dX7_readsSun_31 : decode cX7_readsSun 31 = .ok (.iconst 0, 1) := by decide +kernel
theorem dX7_readsSun_32 : decode cX7_readsSun 32 = .ok (.bipush 9, 2) := by decide +kernel
theorem dX7_readsSun_34 : decode cX7_readsSun 34 = .ok (.invokevirtual 103, 3) := by decide +kernel
theorem dX7_readsSun_37 : decode cX7_readsSun 37 = .ok (.ifCond .eq 14, 3) := by decide +kernel
theorem dX7_readsSun_40 : decode cX7_readsSun 40 = .ok (.aload_n 0, 1) := by decide +kernel
theorem dX7_readsSun_41 : decode cX7_readsSun 41 = .ok (.invokevirtual 106, 3) := by decide +kernel
theorem dX7_readsSun_44 : decode cX7_readsSun 44 = .ok (.ifCond .eq 7, 3) := by decide +kernel
theorem dX7_readsSun_47 : decode cX7_readsSun 47 = .ok (.iconst 1, 1) := by decide +kernel
theorem dX7_readsSun_48 : decode cX7_readsSun 48 = .ok (.goto 4, 3) := by decide +kernel
theorem dX7_readsSun_51 : decode cX7_readsSun 51 = .ok (.iconst 0, 1) := by decide +kernel
theorem dX7_readsSun_52 : decode cX7_readsSun 52 = .ok (.ireturn, 1) := by decide +kernel
theorem dX7_readsClause_0 : decode cX7_readsClause 0 = .ok (.aload_n 0, 1) := by decide +kernel
theorem dX7_readsClause_1 : decode cX7_readsClause 1 = .ok (.invokevirtual 116, 3) := by decide +kernel
theorem dX7_readsClause_4 : decode cX7_readsClause 4 = .ok (.lstore_n 1, 1) := by decide +kernel
theorem dX7_readsClause_5 : decode cX7_readsClause 5 = .ok (.lload_n 1, 1) := by decide +kernel
theorem dX7_readsClause_6 : decode cX7_readsClause 6 = .ok (.ldc2_w 120, 3) := by decide +kernel
theorem dX7_readsClause_9 : decode cX7_readsClause 9 = .ok (.lcmp, 1) := by decide +kernel
theorem dX7_readsClause_10 : decode cX7_readsClause 10 = .ok (.ifCond .ne 8, 3) := by decide +kernel
theorem dX7_readsClause_13 : decode cX7_readsClause 13 = .ok (.aload_n 0, 1) := by decide +kernel
theorem dX7_readsClause_14 : decode cX7_readsClause 14 = .ok (.invokevirtual 122, 3) := by decide +kernel
theorem dX7_readsClause_17 : decode cX7_readsClause 17 = .ok (.ireturn, 1) := by decide +kernel
theorem dX7_readsClause_18 : decode cX7_readsClause 18 = .ok (.aload_n 0, 1) := by decide +kernel
theorem dX7_readsClause_19 : decode cX7_readsClause 19 = .ok (.getfield 16, 3) := by decide +kernel
theorem dX7_readsClause_22 : decode cX7_readsClause 22 = .ok (.iconst 0, 1) := by decide +kernel
theorem dX7_readsClause_23 : decode cX7_readsClause 23 = .ok (.iaload, 1) := by decide +kernel
theorem dX7_readsClause_24 : decode cX7_readsClause 24 = .ok (.ifCond .ne 9, 3) := by decide +kernel
theorem dX7_readsClause_27 : decode cX7_readsClause 27 = .ok (.aload_n 0, 1) := by decide +kernel
theorem dX7_readsClause_28 : decode cX7_readsClause 28 = .ok (.iconst 1, 1) := by decide +kernel
theorem dX7_readsClause_29 : decode cX7_readsClause 29 = .ok (.invokevirtual 99, 3) := by decide +kernel
theorem dX7_readsClause_32 : decode cX7_readsClause 32 = .ok (.ireturn, 1) := by decide +kernel
theorem dX7_readsClause_33 : decode cX7_readsClause 33 = .ok (.lload_n 1, 1) := by decide +kernel
theorem dX7_readsClause_34 : decode cX7_readsClause 34 = .ok (.ldc2_w 125, 3) := by decide +kernel
theorem dX7_readsClause_37 : decode cX7_readsClause 37 = .ok (.lcmp, 1) := by decide +kernel
theorem dX7_readsClause_38 : decode cX7_readsClause 38 = .ok (.ifCond .ne 10, 3) := by decide +kernel
theorem dX7_readsClause_41 : decode cX7_readsClause 41 = .ok (.aload_n 0, 1) := by decide +kernel
theorem dX7_readsClause_42 : decode cX7_readsClause 42 = .ok (.invokevirtual 127, 3) := by decide +kernel
theorem dX7_readsClause_45 : decode cX7_readsClause 45 = .ok (.goto 53, 3) := by decide +kernel
theorem dX7_readsClause_48 : decode cX7_readsClause 48 = .ok (.lload_n 1, 1) := by decide +kernel
theorem dX7_readsClause_49 : decode cX7_readsClause 49 = .ok (.ldc2_w 130, 3) := by decide +kernel
theorem dX7_readsClause_52 : decode cX7_readsClause 52 = .ok (.lcmp, 1) := by decide +kernel
theorem dX7_readsClause_53 : decode cX7_readsClause 53 = .ok (.ifCond .ne 10, 3) := by decide +kernel
theorem dX7_readsClause_56 : decode cX7_readsClause 56 = .ok (.aload_n 0, 1) := by decide +kernel
theorem dX7_readsClause_57 : decode cX7_readsClause 57 = .ok (.invokevirtual 132, 3) := by decide +kernel
theorem dX7_readsClause_60 : decode cX7_readsClause 60 = .ok (.goto 38, 3) := by decide +kernel
theorem dX7_readsClause_63 : decode cX7_readsClause 63 = .ok (.lload_n 1, 1) := by decide +kernel
theorem dX7_readsClause_64 : decode cX7_readsClause 64 = .ok (.ldc2_w 135, 3) := by decide +kernel
theorem dX7_readsClause_67 : decode cX7_readsClause 67 = .ok (.lcmp, 1) := by decide +kernel
theorem dX7_readsClause_68 : decode cX7_readsClause 68 = .ok (.ifCond .ne 10, 3) := by decide +kernel
theorem dX7_readsClause_71 : decode cX7_readsClause 71 = .ok (.aload_n 0, 1) := by decide +kernel
theorem dX7_readsClause_72 : decode cX7_readsClause 72 = .ok (.invokevirtual 137, 3) := by decide +kernel
theorem dX7_readsClause_75 : decode cX7_readsClause 75 = .ok (.goto 23, 3) := by decide +kernel
theorem dX7_readsClause_78 : decode cX7_readsClause 78 = .ok (.lload_n 1, 1) := by decide +kernel
theorem dX7_readsClause_79 : decode cX7_readsClause 79 = .ok (.ldc2_w 140, 3) := by decide +kernel
theorem dX7_readsClause_82 : decode cX7_readsClause 82 = .ok (.lcmp, 1) := by decide +kernel
theorem dX7_readsClause_83 : decode cX7_readsClause 83 = .ok (.ifCond .ne 10, 3) := by decide +kernel
theorem dX7_readsClause_86 : decode cX7_readsClause 86 = .ok (.aload_n 0, 1) := by decide +kernel
theorem dX7_readsClause_87 : decode cX7_readsClause 87 = .ok (.invokevirtual 142, 3) := by decide +kernel
theorem dX7_readsClause_90 : decode cX7_readsClause 90 = .ok (.goto 8, 3) := by decide +kernel
theorem dX7_readsClause_93 : decode cX7_readsClause 93 = .ok (.aload_n 0, 1) := by decide +kernel
theorem dX7_readsClause_94 : decode cX7_readsClause 94 = .ok (.iconst 1, 1) := by decide +kernel
theorem dX7_readsClause_95 : decode cX7_readsClause 95 = .ok (.invokevirtual 99, 3) := by decide +kernel
theorem dX7_readsClause_98 : decode cX7_readsClause 98 = .ok (.ireturn, 1) := by decide +kernel
theorem dX7_reads_0 : decode cX7_reads 0 = .ok (.iconst 0, 1) := by decide +kernel
theorem dX7_reads_1 : decode cX7_reads 1 = .ok (.istore_n 1, 1) := by decide +kernel
theorem dX7_reads_2 : decode cX7_reads 2 = .ok (.iload_n 1, 1) := by decide +kernel
theorem dX7_reads_3 : decode cX7_reads 3 = .ok (.bipush 56, 2) := by decide +kernel
theorem dX7_reads_5 : decode cX7_reads 5 = .ok (.if_icmp .ge 16, 3) := by decide +kernel
theorem dX7_reads_8 : decode cX7_reads 8 = .ok (.aload_n 0, 1) := by decide +kernel
theorem dX7_reads_9 : decode cX7_reads 9 = .ok (.getfield 16, 3) := by decide +kernel
theorem dX7_reads_12 : decode cX7_reads 12 = .ok (.iload_n 1, 1) := by decide +kernel
theorem dX7_reads_13 : decode cX7_reads 13 = .ok (.iconst 0, 1) := by decide +kernel
theorem dX7_reads_14 : decode cX7_reads 14 = .ok (.iastore, 1) := by decide +kernel
theorem dX7_reads_15 : decode cX7_reads 15 = .ok (.iinc 1 1, 3) := by decide +kernel
theorem dX7_reads_18 : decode cX7_reads 18 = .ok (.goto (-16), 3) := by decide +kernel
theorem dX7_reads_21 : decode cX7_reads 21 = .ok (.aload_n 0, 1) := by decide +kernel
theorem dX7_reads_22 : decode cX7_reads 22 = .ok (.getfield 16, 3) := by decide +kernel
theorem dX7_reads_25 : decode cX7_reads 25 = .ok (.iconst 2, 1) := by decide +kernel
theorem dX7_reads_26 : decode cX7_reads 26 = .ok (.bipush 100, 2) := by decide +kernel
theorem dX7_reads_28 : decode cX7_reads 28 = .ok (.iastore, 1) := by decide +kernel
theorem dX7_reads_29 : decode cX7_reads 29 = .ok (.aload_n 0, 1) := by decide +kernel
theorem dX7_reads_30 : decode cX7_reads 30 = .ok (.getfield 16, 3) := by decide +kernel
theorem dX7_reads_33 : decode cX7_reads 33 = .ok (.iconst 3, 1) := by decide +kernel
theorem dX7_reads_34 : decode cX7_reads 34 = .ok (.iconst 1, 1) := by decide +kernel
theorem dX7_reads_35 : decode cX7_reads 35 = .ok (.iastore, 1) := by decide +kernel
theorem dX7_reads_36 : decode cX7_reads 36 = .ok (.aload_n 0, 1) := by decide +kernel
theorem dX7_reads_37 : decode cX7_reads 37 = .ok (.getfield 16, 3) := by decide +kernel
theorem dX7_reads_40 : decode cX7_reads 40 = .ok (.iconst 4, 1) := by decide +kernel
theorem dX7_reads_41 : decode cX7_reads 41 = .ok (.iconst 1, 1) := by decide +kernel
theorem dX7_reads_42 : decode cX7_reads 42 = .ok (.iastore, 1) := by decide +kernel
theorem dX7_reads_43 : decode cX7_reads 43 = .ok (.aload_n 0, 1) := by decide +kernel
theorem dX7_reads_44 : decode cX7_reads 44 = .ok (.iconst 0, 1) := by decide +kernel
theorem dX7_reads_45 : decode cX7_reads 45 = .ok (.putfield 109, 3) := by decide +kernel
theorem dX7_reads_48 : decode cX7_reads 48 = .ok (.aload_n 0, 1) := by decide +kernel
theorem dX7_reads_49 : decode cX7_reads 49 = .ok (.iconst 0, 1) := by decide +kernel
theorem dX7_reads_50 : decode cX7_reads 50 = .ok (.putfield 113, 3) := by decide +kernel
theorem dX7_reads_53 : decode cX7_reads 53 = .ok (.aload_n 0, 1) := by decide +kernel
theorem dX7_reads_54 : decode cX7_reads 54 = .ok (.iconst 0, 1) := by decide +kernel
theorem dX7_reads_55 : decode cX7_reads 55 = .ok (.putfield 93, 3) := by decide +kernel
theorem dX7_reads_58 : decode cX7_reads 58 = .ok (.aload_n 0, 1) := by decide +kernel
theorem dX7_reads_59 : decode cX7_reads 59 = .ok (.iconst 0, 1) := by decide +kernel
theorem dX7_reads_60 : decode cX7_reads 60 = .ok (.putfield 72, 3) := by decide +kernel
theorem dX7_reads_63 : decode cX7_reads 63 = .ok (.aload_n 0, 1) := by decide +kernel
theorem dX7_reads_64 : decode cX7_reads 64 = .ok (.invokevirtual 96, 3) := by decide +kernel
theorem dX7_reads_67 : decode cX7_reads 67 = .ok (.aload_n 0, 1) := by decide +kernel
theorem dX7_reads_68 : decode cX7_reads 68 = .ok (.getfield 85, 3) := by decide +kernel
theorem dX7_reads_71 : decode cX7_reads 71 = .ok (.ifCond .eq 19, 3) := by decide +kernel
theorem dX7_reads_74 : decode cX7_reads 74 = .ok (.aload_n 0, 1) := by decide +kernel
theorem dX7_reads_75 : decode cX7_reads 75 = .ok (.invokevirtual 145, 3) := by decide +kernel
theorem dX7_reads_78 : decode cX7_reads 78 = .ok (.ifCond .ne 5, 3) := by decide +kernel
theorem dX7_reads_81 : decode cX7_reads 81 = .ok (.iconst 0, 1) := by decide +kernel
theorem dX7_reads_82 : decode cX7_reads 82 = .ok (.ireturn, 1) := by decide +kernel
theorem dX7_reads_83 : decode cX7_reads 83 = .ok (.aload_n 0, 1) := by decide +kernel
theorem dX7_reads_84 : decode cX7_reads 84 = .ok (.invokevirtual 96, 3) := by decide +kernel
theorem dX7_reads_87 : decode cX7_reads 87 = .ok (.goto (-20), 3) := by decide +kernel
theorem dX7_reads_90 : decode cX7_reads 90 = .ok (.iconst 1, 1) := by decide +kernel
theorem dX7_reads_91 : decode cX7_reads 91 = .ok (.ireturn, 1) := by decide +kernel
theorem dX7_tells_0 : decode cX7_tells 0 = .ok (.iconst 0, 1) := by decide +kernel
theorem dX7_tells_1 : decode cX7_tells 1 = .ok (.istore_n 1, 1) := by decide +kernel
theorem dX7_tells_2 : decode cX7_tells 2 = .ok (.iload_n 1, 1) := by decide +kernel
theorem dX7_tells_3 : decode cX7_tells 3 = .ok (.bipush 56, 2) := by decide +kernel
theorem dX7_tells_5 : decode cX7_tells 5 = .ok (.if_icmp .ge 21, 3) := by decide +kernel
theorem dX7_tells_8 : decode cX7_tells 8 = .ok (.aload_n 0, 1) := by decide +kernel
theorem dX7_tells_9 : decode cX7_tells 9 = .ok (.getfield 13, 3) := by decide +kernel
theorem dX7_tells_12 : decode cX7_tells 12 = .ok (.iload_n 1, 1) := by decide +kernel
theorem dX7_tells_13 : decode cX7_tells 13 = .ok (.aload_n 0, 1) := by decide +kernel
theorem dX7_tells_14 : decode cX7_tells 14 = .ok (.getfield 16, 3) := by decide +kernel
theorem dX7_tells_17 : decode cX7_tells 17 = .ok (.iload_n 1, 1) := by decide +kernel
theorem dX7_tells_18 : decode cX7_tells 18 = .ok (.iaload, 1) := by decide +kernel
theorem dX7_tells_19 : decode cX7_tells 19 = .ok (.iastore, 1) := by decide +kernel
theorem dX7_tells_20 : decode cX7_tells 20 = .ok (.iinc 1 1, 3) := by decide +kernel
theorem dX7_tells_23 : decode cX7_tells 23 = .ok (.goto (-21), 3) := by decide +kernel
theorem dX7_tells_26 : decode cX7_tells 26 = .ok (.aload_n 0, 1) := by decide +kernel
theorem dX7_tells_27 : decode cX7_tells 27 = .ok (.invokevirtual 148, 3) := by decide +kernel
theorem dX7_tells_30 : decode cX7_tells 30 = .ok (.aload_n 0, 1) := by decide +kernel
theorem dX7_tells_31 : decode cX7_tells 31 = .ok (.iconst 0, 1) := by decide +kernel
theorem dX7_tells_32 : decode cX7_tells 32 = .ok (.putfield 151, 3) := by decide +kernel
theorem dX7_tells_35 : decode cX7_tells 35 = .ok (.aload_n 0, 1) := by decide +kernel
theorem dX7_tells_36 : decode cX7_tells 36 = .ok (.getfield 31, 3) := by decide +kernel
theorem dX7_tells_39 : decode cX7_tells 39 = .ok (.iconst 0, 1) := by decide +kernel
theorem dX7_tells_40 : decode cX7_tells 40 = .ok (.iconst 0, 1) := by decide +kernel
theorem dX7_tells_41 : decode cX7_tells 41 = .ok (.bastore, 1) := by decide +kernel
theorem dX7_tells_42 : decode cX7_tells 42 = .ok (.aload_n 0, 1) := by decide +kernel
theorem dX7_tells_43 : decode cX7_tells 43 = .ok (.getfield 31, 3) := by decide +kernel
theorem dX7_tells_46 : decode cX7_tells 46 = .ok (.iconst 1, 1) := by decide +kernel
theorem dX7_tells_47 : decode cX7_tells 47 = .ok (.iconst 0, 1) := by decide +kernel
theorem dX7_tells_48 : decode cX7_tells 48 = .ok (.bastore, 1) := by decide +kernel
theorem dX7_tells_49 : decode cX7_tells 49 = .ok (.return_, 1) := by decide +kernel
theorem dX7_begins_0 : decode cX7_begins 0 = .ok (.iconst 0, 1) := by decide +kernel
theorem dX7_begins_1 : decode cX7_begins 1 = .ok (.istore_n 1, 1) := by decide +kernel
theorem dX7_begins_2 : decode cX7_begins 2 = .ok (.iload_n 1, 1) := by decide +kernel
theorem dX7_begins_3 : decode cX7_begins 3 = .ok (.bipush 30, 2) := by decide +kernel
theorem dX7_begins_5 : decode cX7_begins 5 = .ok (.if_icmp .ge 24, 3) := by decide +kernel
theorem dX7_begins_8 : decode cX7_begins 8 = .ok (.aload_n 0, 1) := by decide +kernel
theorem dX7_begins_9 : decode cX7_begins 9 = .ok (.getfield 19, 3) := by decide +kernel
theorem dX7_begins_12 : decode cX7_begins 12 = .ok (.iload_n 1, 1) := by decide +kernel
theorem dX7_begins_13 : decode cX7_begins 13 = .ok (.aload_n 0, 1) := by decide +kernel
theorem dX7_begins_14 : decode cX7_begins 14 = .ok (.getfield 13, 3) := by decide +kernel
theorem dX7_begins_17 : decode cX7_begins 17 = .ok (.bipush 24, 2) := by decide +kernel
theorem dX7_begins_19 : decode cX7_begins 19 = .ok (.iload_n 1, 1) := by decide +kernel
theorem dX7_begins_20 : decode cX7_begins 20 = .ok (.iadd, 1) := by decide +kernel
theorem dX7_begins_21 : decode cX7_begins 21 = .ok (.iaload, 1) := by decide +kernel
theorem dX7_begins_22 : decode cX7_begins 22 = .ok (.iastore, 1) := by decide +kernel
theorem dX7_begins_23 : decode cX7_begins 23 = .ok (.iinc 1 1, 3) := by decide +kernel
theorem dX7_begins_26 : decode cX7_begins 26 = .ok (.goto (-24), 3) := by decide +kernel
theorem dX7_begins_29 : decode cX7_begins 29 = .ok (.aload_n 0, 1) := by decide +kernel
theorem dX7_begins_30 : decode cX7_begins 30 = .ok (.getfield 19, 3) := by decide +kernel
theorem dX7_begins_33 : decode cX7_begins 33 = .ok (.bipush 30, 2) := by decide +kernel
theorem dX7_begins_35 : decode cX7_begins 35 = .ok (.iconst 0, 1) := by decide +kernel
theorem dX7_begins_36 : decode cX7_begins 36 = .ok (.iastore, 1) := by decide +kernel
theorem dX7_begins_37 : decode cX7_begins 37 = .ok (.aload_n 0, 1) := by decide +kernel
theorem dX7_begins_38 : decode cX7_begins 38 = .ok (.getfield 19, 3) := by decide +kernel
theorem dX7_begins_41 : decode cX7_begins 41 = .ok (.bipush 31, 2) := by decide +kernel
theorem dX7_begins_43 : decode cX7_begins 43 = .ok (.iconst (-1), 1) := by decide +kernel
theorem dX7_begins_44 : decode cX7_begins 44 = .ok (.iastore, 1) := by decide +kernel
theorem dX7_begins_45 : decode cX7_begins 45 = .ok (.return_, 1) := by decide +kernel
theorem dX7_pole_0 : decode cX7_pole 0 = .ok (.aload_n 0, 1) := by decide +kernel
theorem dX7_pole_1 : decode cX7_pole 1 = .ok (.invokevirtual 54, 3) := by decide +kernel
theorem dX7_pole_4 : decode cX7_pole 4 = .ok (.istore_n 1, 1) := by decide +kernel
theorem dX7_pole_5 : decode cX7_pole 5 = .ok (.aload_n 0, 1) := by decide +kernel
theorem dX7_pole_6 : decode cX7_pole 6 = .ok (.iconst 0, 1) := by decide +kernel
theorem dX7_pole_7 : decode cX7_pole 7 = .ok (.putfield 66, 3) := by decide +kernel
theorem dX7_pole_10 : decode cX7_pole 10 = .ok (.aload_n 0, 1) := by decide +kernel
theorem dX7_pole_11 : decode cX7_pole 11 = .ok (.iload_n 1, 1) := by decide +kernel
theorem dX7_pole_12 : decode cX7_pole 12 = .ok (.ifCond .eq 7, 3) := by decide +kernel
theorem dX7_pole_15 : decode cX7_pole 15 = .ok (.iconst (-1), 1) := by decide +kernel
theorem dX7_pole_16 : decode cX7_pole 16 = .ok (.goto 7, 3) := by decide +kernel
theorem dX7_pole_19 : decode cX7_pole 19 = .ok (.aload_n 0, 1) := by decide +kernel
theorem dX7_pole_20 : decode cX7_pole 20 = .ok (.getfield 79, 3) := by decide +kernel
theorem dX7_pole_23 : decode cX7_pole 23 = .ok (.putfield 41, 3) := by decide +kernel
theorem dX7_pole_26 : decode cX7_pole 26 = .ok (.iload_n 1, 1) := by decide +kernel
theorem dX7_pole_27 : decode cX7_pole 27 = .ok (.ifCond .ne 11, 3) := by decide +kernel
theorem dX7_pole_30 : decode cX7_pole 30 = .ok (.bipush (-10), 2) := by decide +kernel
theorem dX7_pole_32 : decode cX7_pole 32 = .ok (.aload_n 0, 1) := by decide +kernel
theorem dX7_pole_33 : decode cX7_pole 33 = .ok (.getfield 93, 3) := by decide +kernel
theorem dX7_pole_36 : decode cX7_pole 36 = .ok (.isub, 1) := by decide +kernel
theorem dX7_pole_37 : decode cX7_pole 37 = .ok (.ireturn, 1) := by decide +kernel
theorem dX7_pole_38 : decode cX7_pole 38 = .ok (.aload_n 0, 1) := by decide +kernel
theorem dX7_pole_39 : decode cX7_pole 39 = .ok (.invokevirtual 58, 3) := by decide +kernel
theorem dX7_pole_42 : decode cX7_pole 42 = .ok (.aload_n 0, 1) := by decide +kernel
theorem dX7_pole_43 : decode cX7_pole 43 = .ok (.getfield 13, 3) := by decide +kernel
theorem dX7_pole_46 : decode cX7_pole 46 = .ok (.iconst 0, 1) := by decide +kernel
theorem dX7_pole_47 : decode cX7_pole 47 = .ok (.iaload, 1) := by decide +kernel
theorem dX7_pole_48 : decode cX7_pole 48 = .ok (.ireturn, 1) := by decide +kernel
theorem dX7_fault_0 : decode cX7_fault 0 = .ok (.aload_n 0, 1) := by decide +kernel
theorem dX7_fault_1 : decode cX7_fault 1 = .ok (.getfield 41, 3) := by decide +kernel
theorem dX7_fault_4 : decode cX7_fault 4 = .ok (.ireturn, 1) := by decide +kernel
theorem dX7_together_0 : decode cX7_together 0 = .ok (.iconst 0, 1) := by decide +kernel
theorem dX7_together_1 : decode cX7_together 1 = .ok (.istore_n 3, 1) := by decide +kernel
theorem dX7_together_2 : decode cX7_together 2 = .ok (.iload_n 1, 1) := by decide +kernel
theorem dX7_together_3 : decode cX7_together 3 = .ok (.istore 4, 2) := by decide +kernel
theorem dX7_together_5 : decode cX7_together 5 = .ok (.iload 4, 2) := by decide +kernel
theorem dX7_together_7 : decode cX7_together 7 = .ok (.iload_n 2, 1) := by decide +kernel
theorem dX7_together_8 : decode cX7_together 8 = .ok (.if_icmp .gt 19, 3) := by decide +kernel
theorem dX7_together_11 : decode cX7_together 11 = .ok (.iload_n 3, 1) := by decide +kernel
theorem dX7_together_12 : decode cX7_together 12 = .ok (.aload_n 0, 1) := by decide +kernel
theorem dX7_together_13 : decode cX7_together 13 = .ok (.getfield 19, 3) := by decide +kernel
theorem dX7_together_16 : decode cX7_together 16 = .ok (.iload 4, 2) := by decide +kernel
theorem dX7_together_18 : decode cX7_together 18 = .ok (.iaload, 1) := by decide +kernel
theorem dX7_together_19 : decode cX7_together 19 = .ok (.iadd, 1) := by decide +kernel
theorem dX7_together_20 : decode cX7_together 20 = .ok (.istore_n 3, 1) := by decide +kernel
theorem dX7_together_21 : decode cX7_together 21 = .ok (.iinc 4 1, 3) := by decide +kernel
theorem dX7_together_24 : decode cX7_together 24 = .ok (.goto (-19), 3) := by decide +kernel
theorem dX7_together_27 : decode cX7_together 27 = .ok (.iload_n 3, 1) := by decide +kernel
theorem dX7_together_28 : decode cX7_together 28 = .ok (.ireturn, 1) := by decide +kernel
theorem dX7_told_0 : decode cX7_told 0 = .ok (.iload_n 1, 1) := by decide +kernel
theorem dX7_told_1 : decode cX7_told 1 = .ok (.iconst 0, 1) := by decide +kernel
theorem dX7_told_2 : decode cX7_told 2 = .ok (.bipush 10, 2) := by decide +kernel
theorem dX7_told_4 : decode cX7_told 4 = .ok (.invokestatic 61, 3) := by decide +kernel
theorem dX7_told_7 : decode cX7_told 7 = .ok (.ifCond .ne 6, 3) := by decide +kernel
theorem dX7_told_10 : decode cX7_told 10 = .ok (.ldc 65, 2) := by decide +kernel
theorem dX7_told_12 : decode cX7_told 12 = .ok (.ireturn, 1) := by decide +kernel
theorem dX7_told_13 : decode cX7_told 13 = .ok (.iload_n 1, 1) := by decide +kernel
theorem dX7_told_14 : decode cX7_told 14 = .ok (.bipush 6, 2) := by decide +kernel
theorem dX7_told_16 : decode cX7_told 16 = .ok (.if_icmp .ge 10, 3) := by decide +kernel
theorem dX7_told_19 : decode cX7_told 19 = .ok (.aload_n 0, 1) := by decide +kernel
theorem dX7_told_20 : decode cX7_told 20 = .ok (.getfield 13, 3) := by decide +kernel
theorem dX7_told_23 : decode cX7_told 23 = .ok (.iload_n 1, 1) := by decide +kernel
theorem dX7_told_24 : decode cX7_told 24 = .ok (.iaload, 1) := by decide +kernel
theorem dX7_told_25 : decode cX7_told 25 = .ok (.ireturn, 1) := by decide +kernel
theorem dX7_told_26 : decode cX7_told 26 = .ok (.iload_n 1, 1) := by decide +kernel
theorem dX7_told_27 : decode cX7_told 27 = .ok (.bipush 6, 2) := by decide +kernel
theorem dX7_told_29 : decode cX7_told 29 = .ok (.if_icmp .ne 10, 3) := by decide +kernel
theorem dX7_told_32 : decode cX7_told 32 = .ok (.aload_n 0, 1) := by decide +kernel
theorem dX7_told_33 : decode cX7_told 33 = .ok (.getfield 66, 3) := by decide +kernel
theorem dX7_told_36 : decode cX7_told 36 = .ok (.goto 61, 3) := by decide +kernel
theorem dX7_told_39 : decode cX7_told 39 = .ok (.iload_n 1, 1) := by decide +kernel
theorem dX7_told_40 : decode cX7_told 40 = .ok (.bipush 7, 2) := by decide +kernel
theorem dX7_told_42 : decode cX7_told 42 = .ok (.if_icmp .ne 13, 3) := by decide +kernel
theorem dX7_told_45 : decode cX7_told 45 = .ok (.aload_n 0, 1) := by decide +kernel
theorem dX7_told_46 : decode cX7_told 46 = .ok (.getfield 19, 3) := by decide +kernel
theorem dX7_told_49 : decode cX7_told 49 = .ok (.bipush 30, 2) := by decide +kernel
theorem dX7_told_51 : decode cX7_told 51 = .ok (.iaload, 1) := by decide +kernel
theorem dX7_told_52 : decode cX7_told 52 = .ok (.goto 45, 3) := by decide +kernel
theorem dX7_told_55 : decode cX7_told 55 = .ok (.iload_n 1, 1) := by decide +kernel
theorem dX7_told_56 : decode cX7_told 56 = .ok (.bipush 8, 2) := by decide +kernel
theorem dX7_told_58 : decode cX7_told 58 = .ok (.if_icmp .ne 13, 3) := by decide +kernel
theorem dX7_told_61 : decode cX7_told 61 = .ok (.aload_n 0, 1) := by decide +kernel
theorem dX7_told_62 : decode cX7_told 62 = .ok (.getfield 19, 3) := by decide +kernel
theorem dX7_told_65 : decode cX7_told 65 = .ok (.bipush 31, 2) := by decide +kernel
theorem dX7_told_67 : decode cX7_told 67 = .ok (.iaload, 1) := by decide +kernel
theorem dX7_told_68 : decode cX7_told 68 = .ok (.goto 29, 3) := by decide +kernel
theorem dX7_told_71 : decode cX7_told 71 = .ok (.iload_n 1, 1) := by decide +kernel
theorem dX7_told_72 : decode cX7_told 72 = .ok (.bipush 9, 2) := by decide +kernel
theorem dX7_told_74 : decode cX7_told 74 = .ok (.if_icmp .ne 10, 3) := by decide +kernel
theorem dX7_told_77 : decode cX7_told 77 = .ok (.aload_n 0, 1) := by decide +kernel
theorem dX7_told_78 : decode cX7_told 78 = .ok (.getfield 151, 3) := by decide +kernel
theorem dX7_told_81 : decode cX7_told 81 = .ok (.goto 16, 3) := by decide +kernel
theorem dX7_told_84 : decode cX7_told 84 = .ok (.aload_n 0, 1) := by decide +kernel
theorem dX7_told_85 : decode cX7_told 85 = .ok (.iconst 0, 1) := by decide +kernel
theorem dX7_told_86 : decode cX7_told 86 = .ok (.aload_n 0, 1) := by decide +kernel
theorem dX7_told_87 : decode cX7_told 87 = .ok (.getfield 13, 3) := by decide +kernel
theorem dX7_told_90 : decode cX7_told 90 = .ok (.iconst 0, 1) := by decide +kernel
theorem dX7_told_91 : decode cX7_told 91 = .ok (.iaload, 1) := by decide +kernel
theorem dX7_told_92 : decode cX7_told 92 = .ok (.iconst 1, 1) := by decide +kernel
theorem dX7_told_93 : decode cX7_told 93 = .ok (.isub, 1) := by decide +kernel
theorem dX7_told_94 : decode cX7_told 94 = .ok (.invokevirtual 154, 3) := by decide +kernel
theorem dX7_told_97 : decode cX7_told 97 = .ok (.ireturn, 1) := by decide +kernel
theorem dX7_slip_0 : decode cX7_slip 0 = .ok (.aload_n 0, 1) := by decide +kernel
theorem dX7_slip_1 : decode cX7_slip 1 = .ok (.iload_n 1, 1) := by decide +kernel
theorem dX7_slip_2 : decode cX7_slip 2 = .ok (.invokevirtual 158, 3) := by decide +kernel
theorem dX7_slip_5 : decode cX7_slip 5 = .ok (.ifCond .eq 12, 3) := by decide +kernel
theorem dX7_slip_8 : decode cX7_slip 8 = .ok (.aload_n 0, 1) := by decide +kernel
theorem dX7_slip_9 : decode cX7_slip 9 = .ok (.getfield 19, 3) := by decide +kernel
theorem dX7_slip_12 : decode cX7_slip 12 = .ok (.iload_n 1, 1) := by decide +kernel
theorem dX7_slip_13 : decode cX7_slip 13 = .ok (.iaload, 1) := by decide +kernel
theorem dX7_slip_14 : decode cX7_slip 14 = .ok (.goto 5, 3) := by decide +kernel
theorem dX7_slip_17 : decode cX7_slip 17 = .ok (.ldc 161, 2) := by decide +kernel
theorem dX7_slip_19 : decode cX7_slip 19 = .ok (.ireturn, 1) := by decide +kernel
theorem dX7_lays_0 : decode cX7_lays 0 = .ok (.iconst 0, 1) := by decide +kernel
theorem dX7_lays_1 : decode cX7_lays 1 = .ok (.istore_n 1, 1) := by decide +kernel
theorem dX7_lays_2 : decode cX7_lays 2 = .ok (.iload_n 1, 1) := by decide +kernel
theorem dX7_lays_3 : decode cX7_lays 3 = .ok (.bipush 32, 2) := by decide +kernel
theorem dX7_lays_5 : decode cX7_lays 5 = .ok (.if_icmp .ge 21, 3) := by decide +kernel
theorem dX7_lays_8 : decode cX7_lays 8 = .ok (.aload_n 0, 1) := by decide +kernel
theorem dX7_lays_9 : decode cX7_lays 9 = .ok (.getfield 22, 3) := by decide +kernel
theorem dX7_lays_12 : decode cX7_lays 12 = .ok (.iload_n 1, 1) := by decide +kernel
theorem dX7_lays_13 : decode cX7_lays 13 = .ok (.aload_n 0, 1) := by decide +kernel
theorem dX7_lays_14 : decode cX7_lays 14 = .ok (.getfield 19, 3) := by decide +kernel
theorem dX7_lays_17 : decode cX7_lays 17 = .ok (.iload_n 1, 1) := by decide +kernel
theorem dX7_lays_18 : decode cX7_lays 18 = .ok (.iaload, 1) := by decide +kernel
theorem dX7_lays_19 : decode cX7_lays 19 = .ok (.iastore, 1) := by decide +kernel
theorem dX7_lays_20 : decode cX7_lays 20 = .ok (.iinc 1 1, 3) := by decide +kernel
theorem dX7_lays_23 : decode cX7_lays 23 = .ok (.goto (-21), 3) := by decide +kernel
theorem dX7_lays_26 : decode cX7_lays 26 = .ok (.return_, 1) := by decide +kernel
theorem dX7_takes_0 : decode cX7_takes 0 = .ok (.iconst 0, 1) := by decide +kernel
theorem dX7_takes_1 : decode cX7_takes 1 = .ok (.istore_n 1, 1) := by decide +kernel
theorem dX7_takes_2 : decode cX7_takes 2 = .ok (.iload_n 1, 1) := by decide +kernel
theorem dX7_takes_3 : decode cX7_takes 3 = .ok (.bipush 32, 2) := by decide +kernel
theorem dX7_takes_5 : decode cX7_takes 5 = .ok (.if_icmp .ge 21, 3) := by decide +kernel
theorem dX7_takes_8 : decode cX7_takes 8 = .ok (.aload_n 0, 1) := by decide +kernel
theorem dX7_takes_9 : decode cX7_takes 9 = .ok (.getfield 19, 3) := by decide +kernel
theorem dX7_takes_12 : decode cX7_takes 12 = .ok (.iload_n 1, 1) := by decide +kernel
theorem dX7_takes_13 : decode cX7_takes 13 = .ok (.aload_n 0, 1) := by decide +kernel
theorem dX7_takes_14 : decode cX7_takes 14 = .ok (.getfield 22, 3) := by decide +kernel
theorem dX7_takes_17 : decode cX7_takes 17 = .ok (.iload_n 1, 1) := by decide +kernel
theorem dX7_takes_18 : decode cX7_takes 18 = .ok (.iaload, 1) := by decide +kernel
theorem dX7_takes_19 : decode cX7_takes 19 = .ok (.iastore, 1) := by decide +kernel
theorem dX7_takes_20 : decode cX7_takes 20 = .ok (.iinc 1 1, 3) := by decide +kernel
theorem dX7_takes_23 : decode cX7_takes 23 = .ok (.goto (-21), 3) := by decide +kernel
theorem dX7_takes_26 : decode cX7_takes 26 = .ok (.return_, 1) := by decide +kernel
theorem dX7_climbs_0 : decode cX7_climbs 0 = .ok (.aload_n 0, 1) := by decide +kernel
theorem dX7_climbs_1 : decode cX7_climbs 1 = .ok (.getfield 13, 3) := by decide +kernel
theorem dX7_climbs_4 : decode cX7_climbs 4 = .ok (.bipush 12, 2) := by decide +kernel
theorem dX7_climbs_6 : decode cX7_climbs 6 = .ok (.iload_n 1, 1) := by decide +kernel
theorem dX7_climbs_7 : decode cX7_climbs 7 = .ok (.iadd, 1) := by decide +kernel
theorem dX7_climbs_8 : decode cX7_climbs 8 = .ok (.iaload, 1) := by decide +kernel
theorem dX7_climbs_9 : decode cX7_climbs 9 = .ok (.istore 4, 2) := by decide +kernel
theorem dX7_climbs_11 : decode cX7_climbs 11 = .ok (.aload_n 0, 1) := by decide +kernel
theorem dX7_climbs_12 : decode cX7_climbs 12 = .ok (.iconst 0, 1) := by decide +kernel
theorem dX7_climbs_13 : decode cX7_climbs 13 = .ok (.putfield 162, 3) := by decide +kernel
theorem dX7_climbs_16 : decode cX7_climbs 16 = .ok (.iload_n 2, 1) := by decide +kernel
theorem dX7_climbs_17 : decode cX7_climbs 17 = .ok (.istore 5, 2) := by decide +kernel
theorem dX7_climbs_19 : decode cX7_climbs 19 = .ok (.iload 5, 2) := by decide +kernel
theorem dX7_climbs_21 : decode cX7_climbs 21 = .ok (.aload_n 0, 1) := by decide +kernel
theorem dX7_climbs_22 : decode cX7_climbs 22 = .ok (.getfield 13, 3) := by decide +kernel
theorem dX7_climbs_25 : decode cX7_climbs 25 = .ok (.iconst 0, 1) := by decide +kernel
theorem dX7_climbs_26 : decode cX7_climbs 26 = .ok (.iaload, 1) := by decide +kernel
theorem dX7_climbs_27 : decode cX7_climbs 27 = .ok (.if_icmp .ge 138, 3) := by decide +kernel
theorem dX7_climbs_30 : decode cX7_climbs 30 = .ok (.aload_n 0, 1) := by decide +kernel
theorem dX7_climbs_31 : decode cX7_climbs 31 = .ok (.getfield 22, 3) := by decide +kernel
theorem dX7_climbs_34 : decode cX7_climbs 34 = .ok (.iload 5, 2) := by decide +kernel
theorem dX7_climbs_36 : decode cX7_climbs 36 = .ok (.iaload, 1) := by decide +kernel
theorem dX7_climbs_37 : decode cX7_climbs 37 = .ok (.aload_n 0, 1) := by decide +kernel
theorem dX7_climbs_38 : decode cX7_climbs 38 = .ok (.getfield 13, 3) := by decide +kernel
theorem dX7_climbs_41 : decode cX7_climbs 41 = .ok (.bipush 6, 2) := by decide +kernel
theorem dX7_climbs_43 : decode cX7_climbs 43 = .ok (.iload_n 1, 1) := by decide +kernel
theorem dX7_climbs_44 : decode cX7_climbs 44 = .ok (.iadd, 1) := by decide +kernel
theorem dX7_climbs_45 : decode cX7_climbs 45 = .ok (.iaload, 1) := by decide +kernel
theorem dX7_climbs_46 : decode cX7_climbs 46 = .ok (.imul, 1) := by decide +kernel
theorem dX7_climbs_47 : decode cX7_climbs 47 = .ok (.bipush 50, 2) := by decide +kernel
theorem dX7_climbs_49 : decode cX7_climbs 49 = .ok (.idiv, 1) := by decide +kernel
theorem dX7_climbs_50 : decode cX7_climbs 50 = .ok (.iconst 1, 1) := by decide +kernel
theorem dX7_climbs_51 : decode cX7_climbs 51 = .ok (.iadd, 1) := by decide +kernel
theorem dX7_climbs_52 : decode cX7_climbs 52 = .ok (.istore 6, 2) := by decide +kernel
theorem dX7_climbs_54 : decode cX7_climbs 54 = .ok (.iload_n 3, 1) := by decide +kernel
theorem dX7_climbs_55 : decode cX7_climbs 55 = .ok (.ifCond .eq 20, 3) := by decide +kernel
theorem dX7_climbs_58 : decode cX7_climbs 58 = .ok (.iload 6, 2) := by decide +kernel
theorem dX7_climbs_60 : decode cX7_climbs 60 = .ok (.iconst 4, 1) := by decide +kernel
theorem dX7_climbs_61 : decode cX7_climbs 61 = .ok (.if_icmp .ge 7, 3) := by decide +kernel
theorem dX7_climbs_64 : decode cX7_climbs 64 = .ok (.iconst 1, 1) := by decide +kernel
theorem dX7_climbs_65 : decode cX7_climbs 65 = .ok (.goto 12, 3) := by decide +kernel
theorem dX7_climbs_68 : decode cX7_climbs 68 = .ok (.iload 6, 2) := by decide +kernel
theorem dX7_climbs_70 : decode cX7_climbs 70 = .ok (.iconst 2, 1) := by decide +kernel
theorem dX7_climbs_71 : decode cX7_climbs 71 = .ok (.idiv, 1) := by decide +kernel
theorem dX7_climbs_72 : decode cX7_climbs 72 = .ok (.goto 5, 3) := by decide +kernel
theorem dX7_climbs_75 : decode cX7_climbs 75 = .ok (.iload 6, 2) := by decide +kernel
theorem dX7_climbs_77 : decode cX7_climbs 77 = .ok (.istore 6, 2) := by decide +kernel
theorem dX7_climbs_79 : decode cX7_climbs 79 = .ok (.iload 6, 2) := by decide +kernel
theorem dX7_climbs_81 : decode cX7_climbs 81 = .ok (.iload 4, 2) := by decide +kernel
theorem dX7_climbs_83 : decode cX7_climbs 83 = .ok (.if_icmp .le 6, 3) := by decide +kernel
theorem dX7_climbs_86 : decode cX7_climbs 86 = .ok (.iload 5, 2) := by decide +kernel
theorem dX7_climbs_88 : decode cX7_climbs 88 = .ok (.ireturn, 1) := by decide +kernel
theorem dX7_climbs_89 : decode cX7_climbs 89 = .ok (.iload 4, 2) := by decide +kernel
theorem dX7_climbs_91 : decode cX7_climbs 91 = .ok (.iload 6, 2) := by decide +kernel
theorem dX7_climbs_93 : decode cX7_climbs 93 = .ok (.isub, 1) := by decide +kernel
theorem dX7_climbs_94 : decode cX7_climbs 94 = .ok (.istore 4, 2) := by decide +kernel
theorem dX7_climbs_96 : decode cX7_climbs 96 = .ok (.aload_n 0, 1) := by decide +kernel
theorem dX7_climbs_97 : decode cX7_climbs 97 = .ok (.getfield 22, 3) := by decide +kernel
theorem dX7_climbs_100 : decode cX7_climbs 100 = .ok (.iload 5, 2) := by decide +kernel
theorem dX7_climbs_102 : decode cX7_climbs 102 = .ok (.iaload, 1) := by decide +kernel
theorem dX7_climbs_103 : decode cX7_climbs 103 = .ok (.aload_n 0, 1) := by decide +kernel
theorem dX7_climbs_104 : decode cX7_climbs 104 = .ok (.getfield 13, 3) := by decide +kernel
theorem dX7_climbs_107 : decode cX7_climbs 107 = .ok (.bipush 18, 2) := by decide +kernel
theorem dX7_climbs_109 : decode cX7_climbs 109 = .ok (.iload_n 1, 1) := by decide +kernel
theorem dX7_climbs_110 : decode cX7_climbs 110 = .ok (.iadd, 1) := by decide +kernel
theorem dX7_climbs_111 : decode cX7_climbs 111 = .ok (.iaload, 1) := by decide +kernel
theorem dX7_climbs_112 : decode cX7_climbs 112 = .ok (.if_icmp .ge 13, 3) := by decide +kernel
theorem dX7_climbs_115 : decode cX7_climbs 115 = .ok (.aload_n 0, 1) := by decide +kernel
theorem dX7_climbs_116 : decode cX7_climbs 116 = .ok (.getfield 22, 3) := by decide +kernel
theorem dX7_climbs_119 : decode cX7_climbs 119 = .ok (.iload 5, 2) := by decide +kernel
theorem dX7_climbs_121 : decode cX7_climbs 121 = .ok (.iaload, 1) := by decide +kernel
theorem dX7_climbs_122 : decode cX7_climbs 122 = .ok (.goto 12, 3) := by decide +kernel
theorem dX7_climbs_125 : decode cX7_climbs 125 = .ok (.aload_n 0, 1) := by decide +kernel
theorem dX7_climbs_126 : decode cX7_climbs 126 = .ok (.getfield 13, 3) := by decide +kernel
theorem dX7_climbs_129 : decode cX7_climbs 129 = .ok (.bipush 18, 2) := by decide +kernel
theorem dX7_climbs_131 : decode cX7_climbs 131 = .ok (.iload_n 1, 1) := by decide +kernel
theorem dX7_climbs_132 : decode cX7_climbs 132 = .ok (.iadd, 1) := by decide +kernel
theorem dX7_climbs_133 : decode cX7_climbs 133 = .ok (.iaload, 1) := by decide +kernel
theorem dX7_climbs_134 : decode cX7_climbs 134 = .ok (.istore 7, 2) := by decide +kernel
theorem dX7_climbs_136 : decode cX7_climbs 136 = .ok (.aload_n 0, 1) := by decide +kernel
theorem dX7_climbs_137 : decode cX7_climbs 137 = .ok (.getfield 22, 3) := by decide +kernel
theorem dX7_climbs_140 : decode cX7_climbs 140 = .ok (.iload 5, 2) := by decide +kernel
theorem dX7_climbs_142 : decode cX7_climbs 142 = .ok (.dup2, 1) := by decide +kernel
theorem dX7_climbs_143 : decode cX7_climbs 143 = .ok (.iaload, 1) := by decide +kernel
theorem dX7_climbs_144 : decode cX7_climbs 144 = .ok (.iload 7, 2) := by decide +kernel
theorem dX7_climbs_146 : decode cX7_climbs 146 = .ok (.isub, 1) := by decide +kernel
theorem dX7_climbs_147 : decode cX7_climbs 147 = .ok (.iastore, 1) := by decide +kernel
theorem dX7_climbs_148 : decode cX7_climbs 148 = .ok (.aload_n 0, 1) := by decide +kernel
theorem dX7_climbs_149 : decode cX7_climbs 149 = .ok (.dup, 1) := by decide +kernel
theorem dX7_climbs_150 : decode cX7_climbs 150 = .ok (.getfield 162, 3) := by decide +kernel
theorem dX7_climbs_153 : decode cX7_climbs 153 = .ok (.iload 7, 2) := by decide +kernel
theorem dX7_climbs_155 : decode cX7_climbs 155 = .ok (.iadd, 1) := by decide +kernel
theorem dX7_climbs_156 : decode cX7_climbs 156 = .ok (.putfield 162, 3) := by decide +kernel
theorem dX7_climbs_159 : decode cX7_climbs 159 = .ok (.iinc 5 1, 3) := by decide +kernel
theorem dX7_climbs_162 : decode cX7_climbs 162 = .ok (.goto (-143), 3) := by decide +kernel
theorem dX7_climbs_165 : decode cX7_climbs 165 = .ok (.aload_n 0, 1) := by decide +kernel
theorem dX7_climbs_166 : decode cX7_climbs 166 = .ok (.getfield 13, 3) := by decide +kernel
theorem dX7_climbs_169 : decode cX7_climbs 169 = .ok (.iconst 0, 1) := by decide +kernel
theorem dX7_climbs_170 : decode cX7_climbs 170 = .ok (.iaload, 1) := by decide +kernel
theorem dX7_climbs_171 : decode cX7_climbs 171 = .ok (.ireturn, 1) := by decide +kernel
theorem dX7_goes_0 : decode cX7_goes 0 = .ok (.aload_n 0, 1) := by decide +kernel
theorem dX7_goes_1 : decode cX7_goes 1 = .ok (.iload_n 1, 1) := by decide +kernel
theorem dX7_goes_2 : decode cX7_goes 2 = .ok (.iconst 0, 1) := by decide +kernel
theorem dX7_goes_3 : decode cX7_goes 3 = .ok (.iload_n 2, 1) := by decide +kernel
theorem dX7_goes_4 : decode cX7_goes 4 = .ok (.invokevirtual 165, 3) := by decide +kernel
theorem dX7_goes_7 : decode cX7_goes 7 = .ok (.istore_n 3, 1) := by decide +kernel
theorem dX7_goes_8 : decode cX7_goes 8 = .ok (.aload_n 0, 1) := by decide +kernel
theorem dX7_goes_9 : decode cX7_goes 9 = .ok (.getfield 22, 3) := by decide +kernel
theorem dX7_goes_12 : decode cX7_goes 12 = .ok (.bipush 31, 2) := by decide +kernel
theorem dX7_goes_14 : decode cX7_goes 14 = .ok (.iload_n 3, 1) := by decide +kernel
theorem dX7_goes_15 : decode cX7_goes 15 = .ok (.aload_n 0, 1) := by decide +kernel
theorem dX7_goes_16 : decode cX7_goes 16 = .ok (.getfield 13, 3) := by decide +kernel
theorem dX7_goes_19 : decode cX7_goes 19 = .ok (.iconst 0, 1) := by decide +kernel
theorem dX7_goes_20 : decode cX7_goes 20 = .ok (.iaload, 1) := by decide +kernel
theorem dX7_goes_21 : decode cX7_goes 21 = .ok (.if_icmp .ne 18, 3) := by decide +kernel
theorem dX7_goes_24 : decode cX7_goes 24 = .ok (.aload_n 0, 1) := by decide +kernel
theorem dX7_goes_25 : decode cX7_goes 25 = .ok (.getfield 22, 3) := by decide +kernel
theorem dX7_goes_28 : decode cX7_goes 28 = .ok (.bipush 31, 2) := by decide +kernel
theorem dX7_goes_30 : decode cX7_goes 30 = .ok (.iaload, 1) := by decide +kernel
theorem dX7_goes_31 : decode cX7_goes 31 = .ok (.iconst (-1), 1) := by decide +kernel
theorem dX7_goes_32 : decode cX7_goes 32 = .ok (.if_icmp .ne 7, 3) := by decide +kernel
theorem dX7_goes_35 : decode cX7_goes 35 = .ok (.iload_n 1, 1) := by decide +kernel
theorem dX7_goes_36 : decode cX7_goes 36 = .ok (.goto 10, 3) := by decide +kernel
theorem dX7_goes_39 : decode cX7_goes 39 = .ok (.aload_n 0, 1) := by decide +kernel
theorem dX7_goes_40 : decode cX7_goes 40 = .ok (.getfield 22, 3) := by decide +kernel
theorem dX7_goes_43 : decode cX7_goes 43 = .ok (.bipush 31, 2) := by decide +kernel
theorem dX7_goes_45 : decode cX7_goes 45 = .ok (.iaload, 1) := by decide +kernel
theorem dX7_goes_46 : decode cX7_goes 46 = .ok (.iastore, 1) := by decide +kernel
theorem dX7_goes_47 : decode cX7_goes 47 = .ok (.iconst 0, 1) := by decide +kernel
theorem dX7_goes_48 : decode cX7_goes 48 = .ok (.istore 4, 2) := by decide +kernel
theorem dX7_goes_50 : decode cX7_goes 50 = .ok (.iload 4, 2) := by decide +kernel
theorem dX7_goes_52 : decode cX7_goes 52 = .ok (.aload_n 0, 1) := by decide +kernel
theorem dX7_goes_53 : decode cX7_goes 53 = .ok (.getfield 162, 3) := by decide +kernel
theorem dX7_goes_56 : decode cX7_goes 56 = .ok (.iconst 4, 1) := by decide +kernel
theorem dX7_goes_57 : decode cX7_goes 57 = .ok (.idiv, 1) := by decide +kernel
theorem dX7_goes_58 : decode cX7_goes 58 = .ok (.if_icmp .ge 42, 3) := by decide +kernel
theorem dX7_goes_61 : decode cX7_goes 61 = .ok (.iload 4, 2) := by decide +kernel
theorem dX7_goes_63 : decode cX7_goes 63 = .ok (.iload_n 3, 1) := by decide +kernel
theorem dX7_goes_64 : decode cX7_goes 64 = .ok (.irem, 1) := by decide +kernel
theorem dX7_goes_65 : decode cX7_goes 65 = .ok (.istore 5, 2) := by decide +kernel
theorem dX7_goes_67 : decode cX7_goes 67 = .ok (.aload_n 0, 1) := by decide +kernel
theorem dX7_goes_68 : decode cX7_goes 68 = .ok (.getfield 22, 3) := by decide +kernel
theorem dX7_goes_71 : decode cX7_goes 71 = .ok (.iload 5, 2) := by decide +kernel
theorem dX7_goes_73 : decode cX7_goes 73 = .ok (.dup2, 1) := by decide +kernel
theorem dX7_goes_74 : decode cX7_goes 74 = .ok (.iaload, 1) := by decide +kernel
theorem dX7_goes_75 : decode cX7_goes 75 = .ok (.aload_n 0, 1) := by decide +kernel
theorem dX7_goes_76 : decode cX7_goes 76 = .ok (.getfield 22, 3) := by decide +kernel
theorem dX7_goes_79 : decode cX7_goes 79 = .ok (.iload 5, 2) := by decide +kernel
theorem dX7_goes_81 : decode cX7_goes 81 = .ok (.iaload, 1) := by decide +kernel
theorem dX7_goes_82 : decode cX7_goes 82 = .ok (.bipush 99, 2) := by decide +kernel
theorem dX7_goes_84 : decode cX7_goes 84 = .ok (.if_icmp .ge 7, 3) := by decide +kernel
theorem dX7_goes_87 : decode cX7_goes 87 = .ok (.iconst 1, 1) := by decide +kernel
theorem dX7_goes_88 : decode cX7_goes 88 = .ok (.goto 4, 3) := by decide +kernel
theorem dX7_goes_91 : decode cX7_goes 91 = .ok (.iconst 0, 1) := by decide +kernel
theorem dX7_goes_92 : decode cX7_goes 92 = .ok (.iadd, 1) := by decide +kernel
theorem dX7_goes_93 : decode cX7_goes 93 = .ok (.iastore, 1) := by decide +kernel
theorem dX7_goes_94 : decode cX7_goes 94 = .ok (.iinc 4 1, 3) := by decide +kernel
theorem dX7_goes_97 : decode cX7_goes 97 = .ok (.goto (-47), 3) := by decide +kernel
theorem dX7_goes_100 : decode cX7_goes 100 = .ok (.aload_n 0, 1) := by decide +kernel
theorem dX7_goes_101 : decode cX7_goes 101 = .ok (.getfield 22, 3) := by decide +kernel
theorem dX7_goes_104 : decode cX7_goes 104 = .ok (.bipush 30, 2) := by decide +kernel
theorem dX7_goes_106 : decode cX7_goes 106 = .ok (.dup2, 1) := by decide +kernel
theorem dX7_goes_107 : decode cX7_goes 107 = .ok (.iaload, 1) := by decide +kernel
theorem dX7_goes_108 : decode cX7_goes 108 = .ok (.iconst 1, 1) := by decide +kernel
theorem dX7_goes_109 : decode cX7_goes 109 = .ok (.iadd, 1) := by decide +kernel
theorem dX7_goes_110 : decode cX7_goes 110 = .ok (.iastore, 1) := by decide +kernel
theorem dX7_goes_111 : decode cX7_goes 111 = .ok (.iconst 0, 1) := by decide +kernel
theorem dX7_goes_112 : decode cX7_goes 112 = .ok (.istore 4, 2) := by decide +kernel
theorem dX7_goes_114 : decode cX7_goes 114 = .ok (.iload 4, 2) := by decide +kernel
theorem dX7_goes_116 : decode cX7_goes 116 = .ok (.aload_n 0, 1) := by decide +kernel
theorem dX7_goes_117 : decode cX7_goes 117 = .ok (.getfield 13, 3) := by decide +kernel
theorem dX7_goes_120 : decode cX7_goes 120 = .ok (.iconst 0, 1) := by decide +kernel
theorem dX7_goes_121 : decode cX7_goes 121 = .ok (.iaload, 1) := by decide +kernel
theorem dX7_goes_122 : decode cX7_goes 122 = .ok (.if_icmp .ge 71, 3) := by decide +kernel
theorem dX7_goes_125 : decode cX7_goes 125 = .ok (.aload_n 0, 1) := by decide +kernel
theorem dX7_goes_126 : decode cX7_goes 126 = .ok (.getfield 22, 3) := by decide +kernel
theorem dX7_goes_129 : decode cX7_goes 129 = .ok (.bipush 30, 2) := by decide +kernel
theorem dX7_goes_131 : decode cX7_goes 131 = .ok (.iaload, 1) := by decide +kernel
theorem dX7_goes_132 : decode cX7_goes 132 = .ok (.aload_n 0, 1) := by decide +kernel
theorem dX7_goes_133 : decode cX7_goes 133 = .ok (.getfield 13, 3) := by decide +kernel
theorem dX7_goes_136 : decode cX7_goes 136 = .ok (.iconst 4, 1) := by decide +kernel
theorem dX7_goes_137 : decode cX7_goes 137 = .ok (.iaload, 1) := by decide +kernel
theorem dX7_goes_138 : decode cX7_goes 138 = .ok (.irem, 1) := by decide +kernel
theorem dX7_goes_139 : decode cX7_goes 139 = .ok (.ifCond .ne 54, 3) := by decide +kernel
theorem dX7_goes_142 : decode cX7_goes 142 = .ok (.aload_n 0, 1) := by decide +kernel
theorem dX7_goes_143 : decode cX7_goes 143 = .ok (.getfield 22, 3) := by decide +kernel
theorem dX7_goes_146 : decode cX7_goes 146 = .ok (.iload 4, 2) := by decide +kernel
theorem dX7_goes_148 : decode cX7_goes 148 = .ok (.aload_n 0, 1) := by decide +kernel
theorem dX7_goes_149 : decode cX7_goes 149 = .ok (.getfield 22, 3) := by decide +kernel
theorem dX7_goes_152 : decode cX7_goes 152 = .ok (.iload 4, 2) := by decide +kernel
theorem dX7_goes_154 : decode cX7_goes 154 = .ok (.iaload, 1) := by decide +kernel
theorem dX7_goes_155 : decode cX7_goes 155 = .ok (.aload_n 0, 1) := by decide +kernel
theorem dX7_goes_156 : decode cX7_goes 156 = .ok (.getfield 13, 3) := by decide +kernel
theorem dX7_goes_159 : decode cX7_goes 159 = .ok (.iconst 5, 1) := by decide +kernel
theorem dX7_goes_160 : decode cX7_goes 160 = .ok (.iaload, 1) := by decide +kernel
theorem dX7_goes_161 : decode cX7_goes 161 = .ok (.iadd, 1) := by decide +kernel
theorem dX7_goes_162 : decode cX7_goes 162 = .ok (.bipush 99, 2) := by decide +kernel
theorem dX7_goes_164 : decode cX7_goes 164 = .ok (.if_icmp .le 8, 3) := by decide +kernel
theorem dX7_goes_167 : decode cX7_goes 167 = .ok (.bipush 99, 2) := by decide +kernel
theorem dX7_goes_169 : decode cX7_goes 169 = .ok (.goto 17, 3) := by decide +kernel
theorem dX7_goes_172 : decode cX7_goes 172 = .ok (.aload_n 0, 1) := by decide +kernel
theorem dX7_goes_173 : decode cX7_goes 173 = .ok (.getfield 22, 3) := by decide +kernel
theorem dX7_goes_176 : decode cX7_goes 176 = .ok (.iload 4, 2) := by decide +kernel
theorem dX7_goes_178 : decode cX7_goes 178 = .ok (.iaload, 1) := by decide +kernel
theorem dX7_goes_179 : decode cX7_goes 179 = .ok (.aload_n 0, 1) := by decide +kernel
theorem dX7_goes_180 : decode cX7_goes 180 = .ok (.getfield 13, 3) := by decide +kernel
theorem dX7_goes_183 : decode cX7_goes 183 = .ok (.iconst 5, 1) := by decide +kernel
theorem dX7_goes_184 : decode cX7_goes 184 = .ok (.iaload, 1) := by decide +kernel
theorem dX7_goes_185 : decode cX7_goes 185 = .ok (.iadd, 1) := by decide +kernel
theorem dX7_goes_186 : decode cX7_goes 186 = .ok (.iastore, 1) := by decide +kernel
theorem dX7_goes_187 : decode cX7_goes 187 = .ok (.iinc 4 1, 3) := by decide +kernel
theorem dX7_goes_190 : decode cX7_goes 190 = .ok (.goto (-76), 3) := by decide +kernel
theorem dX7_goes_193 : decode cX7_goes 193 = .ok (.iload_n 3, 1) := by decide +kernel
theorem dX7_goes_194 : decode cX7_goes 194 = .ok (.ireturn, 1) := by decide +kernel
theorem dX7_climber_0 : decode cX7_climber 0 = .ok (.aload_n 0, 1) := by decide +kernel
theorem dX7_climber_1 : decode cX7_climber 1 = .ok (.iload_n 1, 1) := by decide +kernel
theorem dX7_climber_2 : decode cX7_climber 2 = .ok (.invokevirtual 169, 3) := by decide +kernel
theorem dX7_climber_5 : decode cX7_climber 5 = .ok (.ifCond .ne 6, 3) := by decide +kernel
theorem dX7_climber_8 : decode cX7_climber 8 = .ok (.ldc 161, 2) := by decide +kernel
theorem dX7_climber_10 : decode cX7_climber 10 = .ok (.ireturn, 1) := by decide +kernel
theorem dX7_climber_11 : decode cX7_climber 11 = .ok (.iload_n 2, 1) := by decide +kernel
theorem dX7_climber_12 : decode cX7_climber 12 = .ok (.iconst 0, 1) := by decide +kernel
theorem dX7_climber_13 : decode cX7_climber 13 = .ok (.iconst 3, 1) := by decide +kernel
theorem dX7_climber_14 : decode cX7_climber 14 = .ok (.invokestatic 61, 3) := by decide +kernel
theorem dX7_climber_17 : decode cX7_climber 17 = .ok (.ifCond .ne 6, 3) := by decide +kernel
theorem dX7_climber_20 : decode cX7_climber 20 = .ok (.ldc 65, 2) := by decide +kernel
theorem dX7_climber_22 : decode cX7_climber 22 = .ok (.ireturn, 1) := by decide +kernel
theorem dX7_climber_23 : decode cX7_climber 23 = .ok (.aload_n 0, 1) := by decide +kernel
theorem dX7_climber_24 : decode cX7_climber 24 = .ok (.invokevirtual 172, 3) := by decide +kernel
theorem dX7_climber_27 : decode cX7_climber 27 = .ok (.iload_n 2, 1) := by decide +kernel
theorem dX7_climber_28 : decode cX7_climber 28 = .ok (.ifCond .ne 15, 3) := by decide +kernel
theorem dX7_climber_31 : decode cX7_climber 31 = .ok (.aload_n 0, 1) := by decide +kernel
theorem dX7_climber_32 : decode cX7_climber 32 = .ok (.getfield 13, 3) := by decide +kernel
theorem dX7_climber_35 : decode cX7_climber 35 = .ok (.bipush 6, 2) := by decide +kernel
theorem dX7_climber_37 : decode cX7_climber 37 = .ok (.iload_n 1, 1) := by decide +kernel
theorem dX7_climber_38 : decode cX7_climber 38 = .ok (.iadd, 1) := by decide +kernel
theorem dX7_climber_39 : decode cX7_climber 39 = .ok (.iaload, 1) := by decide +kernel
theorem dX7_climber_40 : decode cX7_climber 40 = .ok (.goto 44, 3) := by decide +kernel
theorem dX7_climber_43 : decode cX7_climber 43 = .ok (.iload_n 2, 1) := by decide +kernel
theorem dX7_climber_44 : decode cX7_climber 44 = .ok (.iconst 1, 1) := by decide +kernel
theorem dX7_climber_45 : decode cX7_climber 45 = .ok (.if_icmp .ne 15, 3) := by decide +kernel
theorem dX7_climber_48 : decode cX7_climber 48 = .ok (.aload_n 0, 1) := by decide +kernel
theorem dX7_climber_49 : decode cX7_climber 49 = .ok (.getfield 13, 3) := by decide +kernel
theorem dX7_climber_52 : decode cX7_climber 52 = .ok (.bipush 12, 2) := by decide +kernel
theorem dX7_climber_54 : decode cX7_climber 54 = .ok (.iload_n 1, 1) := by decide +kernel
theorem dX7_climber_55 : decode cX7_climber 55 = .ok (.iadd, 1) := by decide +kernel
theorem dX7_climber_56 : decode cX7_climber 56 = .ok (.iaload, 1) := by decide +kernel
theorem dX7_climber_57 : decode cX7_climber 57 = .ok (.goto 27, 3) := by decide +kernel
theorem dX7_climber_60 : decode cX7_climber 60 = .ok (.iload_n 2, 1) := by decide +kernel
theorem dX7_climber_61 : decode cX7_climber 61 = .ok (.iconst 2, 1) := by decide +kernel
theorem dX7_climber_62 : decode cX7_climber 62 = .ok (.if_icmp .ne 15, 3) := by decide +kernel
theorem dX7_climber_65 : decode cX7_climber 65 = .ok (.aload_n 0, 1) := by decide +kernel
theorem dX7_climber_66 : decode cX7_climber 66 = .ok (.getfield 13, 3) := by decide +kernel
theorem dX7_climber_69 : decode cX7_climber 69 = .ok (.bipush 18, 2) := by decide +kernel
theorem dX7_climber_71 : decode cX7_climber 71 = .ok (.iload_n 1, 1) := by decide +kernel
theorem dX7_climber_72 : decode cX7_climber 72 = .ok (.iadd, 1) := by decide +kernel
theorem dX7_climber_73 : decode cX7_climber 73 = .ok (.iaload, 1) := by decide +kernel
theorem dX7_climber_74 : decode cX7_climber 74 = .ok (.goto 10, 3) := by decide +kernel
theorem dX7_climber_77 : decode cX7_climber 77 = .ok (.aload_n 0, 1) := by decide +kernel
theorem dX7_climber_78 : decode cX7_climber 78 = .ok (.iload_n 1, 1) := by decide +kernel
theorem dX7_climber_79 : decode cX7_climber 79 = .ok (.iconst 0, 1) := by decide +kernel
theorem dX7_climber_80 : decode cX7_climber 80 = .ok (.iconst 0, 1) := by decide +kernel
theorem dX7_climber_81 : decode cX7_climber 81 = .ok (.invokevirtual 165, 3) := by decide +kernel
theorem dX7_climber_84 : decode cX7_climber 84 = .ok (.ireturn, 1) := by decide +kernel
theorem dX7_go_0 : decode cX7_go 0 = .ok (.aload_n 0, 1) := by decide +kernel
theorem dX7_go_1 : decode cX7_go 1 = .ok (.iload_n 1, 1) := by decide +kernel
theorem dX7_go_2 : decode cX7_go 2 = .ok (.invokevirtual 169, 3) := by decide +kernel
theorem dX7_go_5 : decode cX7_go 5 = .ok (.ifCond .ne 6, 3) := by decide +kernel
theorem dX7_go_8 : decode cX7_go 8 = .ok (.ldc 161, 2) := by decide +kernel
theorem dX7_go_10 : decode cX7_go 10 = .ok (.ireturn, 1) := by decide +kernel
theorem dX7_go_11 : decode cX7_go 11 = .ok (.aload_n 0, 1) := by decide +kernel
theorem dX7_go_12 : decode cX7_go 12 = .ok (.getfield 13, 3) := by decide +kernel
theorem dX7_go_15 : decode cX7_go 15 = .ok (.iconst 0, 1) := by decide +kernel
theorem dX7_go_16 : decode cX7_go 16 = .ok (.iaload, 1) := by decide +kernel
theorem dX7_go_17 : decode cX7_go 17 = .ok (.ifCond .ne 6, 3) := by decide +kernel
theorem dX7_go_20 : decode cX7_go 20 = .ok (.ldc 175, 2) := by decide +kernel
theorem dX7_go_22 : decode cX7_go 22 = .ok (.ireturn, 1) := by decide +kernel
theorem dX7_go_23 : decode cX7_go 23 = .ok (.aload_n 0, 1) := by decide +kernel
theorem dX7_go_24 : decode cX7_go 24 = .ok (.invokevirtual 172, 3) := by decide +kernel
theorem dX7_go_27 : decode cX7_go 27 = .ok (.aload_n 0, 1) := by decide +kernel
theorem dX7_go_28 : decode cX7_go 28 = .ok (.iload_n 1, 1) := by decide +kernel
theorem dX7_go_29 : decode cX7_go 29 = .ok (.iconst 0, 1) := by decide +kernel
theorem dX7_go_30 : decode cX7_go 30 = .ok (.invokevirtual 176, 3) := by decide +kernel
theorem dX7_go_33 : decode cX7_go 33 = .ok (.istore_n 2, 1) := by decide +kernel
theorem dX7_go_34 : decode cX7_go 34 = .ok (.aload_n 0, 1) := by decide +kernel
theorem dX7_go_35 : decode cX7_go 35 = .ok (.invokevirtual 180, 3) := by decide +kernel
theorem dX7_go_38 : decode cX7_go 38 = .ok (.iload_n 2, 1) := by decide +kernel
theorem dX7_go_39 : decode cX7_go 39 = .ok (.ireturn, 1) := by decide +kernel
theorem dX7_soap_0 : decode cX7_soap 0 = .ok (.aload_n 0, 1) := by decide +kernel
theorem dX7_soap_1 : decode cX7_soap 1 = .ok (.iload_n 1, 1) := by decide +kernel
theorem dX7_soap_2 : decode cX7_soap 2 = .ok (.invokevirtual 158, 3) := by decide +kernel
theorem dX7_soap_5 : decode cX7_soap 5 = .ok (.ifCond .eq 11, 3) := by decide +kernel
theorem dX7_soap_8 : decode cX7_soap 8 = .ok (.aload_n 0, 1) := by decide +kernel
theorem dX7_soap_9 : decode cX7_soap 9 = .ok (.iload_n 2, 1) := by decide +kernel
theorem dX7_soap_10 : decode cX7_soap 10 = .ok (.invokevirtual 158, 3) := by decide +kernel
theorem dX7_soap_13 : decode cX7_soap 13 = .ok (.ifCond .ne 6, 3) := by decide +kernel
theorem dX7_soap_16 : decode cX7_soap 16 = .ok (.ldc 161, 2) := by decide +kernel
theorem dX7_soap_18 : decode cX7_soap 18 = .ok (.ireturn, 1) := by decide +kernel
theorem dX7_soap_19 : decode cX7_soap 19 = .ok (.iload_n 2, 1) := by decide +kernel
theorem dX7_soap_20 : decode cX7_soap 20 = .ok (.iload_n 1, 1) := by decide +kernel
theorem dX7_soap_21 : decode cX7_soap 21 = .ok (.if_icmp .lt 13, 3) := by decide +kernel
theorem dX7_soap_24 : decode cX7_soap 24 = .ok (.iload_n 3, 1) := by decide +kernel
theorem dX7_soap_25 : decode cX7_soap 25 = .ok (.iconst 1, 1) := by decide +kernel
theorem dX7_soap_26 : decode cX7_soap 26 = .ok (.bipush 99, 2) := by decide +kernel
theorem dX7_soap_28 : decode cX7_soap 28 = .ok (.invokestatic 61, 3) := by decide +kernel
theorem dX7_soap_31 : decode cX7_soap 31 = .ok (.ifCond .ne 6, 3) := by decide +kernel
theorem dX7_soap_34 : decode cX7_soap 34 = .ok (.ldc 65, 2) := by decide +kernel
theorem dX7_soap_36 : decode cX7_soap 36 = .ok (.ireturn, 1) := by decide +kernel
theorem dX7_soap_37 : decode cX7_soap 37 = .ok (.iload_n 1, 1) := by decide +kernel
theorem dX7_soap_38 : decode cX7_soap 38 = .ok (.istore 4, 2) := by decide +kernel
theorem dX7_soap_40 : decode cX7_soap 40 = .ok (.iload 4, 2) := by decide +kernel
theorem dX7_soap_42 : decode cX7_soap 42 = .ok (.iload_n 2, 1) := by decide +kernel
theorem dX7_soap_43 : decode cX7_soap 43 = .ok (.if_icmp .gt 44, 3) := by decide +kernel
theorem dX7_soap_46 : decode cX7_soap 46 = .ok (.aload_n 0, 1) := by decide +kernel
theorem dX7_soap_47 : decode cX7_soap 47 = .ok (.getfield 19, 3) := by decide +kernel
theorem dX7_soap_50 : decode cX7_soap 50 = .ok (.iload 4, 2) := by decide +kernel
theorem dX7_soap_52 : decode cX7_soap 52 = .ok (.aload_n 0, 1) := by decide +kernel
theorem dX7_soap_53 : decode cX7_soap 53 = .ok (.getfield 19, 3) := by decide +kernel
theorem dX7_soap_56 : decode cX7_soap 56 = .ok (.iload 4, 2) := by decide +kernel
theorem dX7_soap_58 : decode cX7_soap 58 = .ok (.iaload, 1) := by decide +kernel
theorem dX7_soap_59 : decode cX7_soap 59 = .ok (.iload_n 3, 1) := by decide +kernel
theorem dX7_soap_60 : decode cX7_soap 60 = .ok (.iadd, 1) := by decide +kernel
theorem dX7_soap_61 : decode cX7_soap 61 = .ok (.bipush 99, 2) := by decide +kernel
theorem dX7_soap_63 : decode cX7_soap 63 = .ok (.if_icmp .le 8, 3) := by decide +kernel
theorem dX7_soap_66 : decode cX7_soap 66 = .ok (.bipush 99, 2) := by decide +kernel
theorem dX7_soap_68 : decode cX7_soap 68 = .ok (.goto 12, 3) := by decide +kernel
theorem dX7_soap_71 : decode cX7_soap 71 = .ok (.aload_n 0, 1) := by decide +kernel
theorem dX7_soap_72 : decode cX7_soap 72 = .ok (.getfield 19, 3) := by decide +kernel
theorem dX7_soap_75 : decode cX7_soap 75 = .ok (.iload 4, 2) := by decide +kernel
theorem dX7_soap_77 : decode cX7_soap 77 = .ok (.iaload, 1) := by decide +kernel
theorem dX7_soap_78 : decode cX7_soap 78 = .ok (.iload_n 3, 1) := by decide +kernel
theorem dX7_soap_79 : decode cX7_soap 79 = .ok (.iadd, 1) := by decide +kernel
theorem dX7_soap_80 : decode cX7_soap 80 = .ok (.iastore, 1) := by decide +kernel
theorem dX7_soap_81 : decode cX7_soap 81 = .ok (.iinc 4 1, 3) := by decide +kernel
theorem dX7_soap_84 : decode cX7_soap 84 = .ok (.goto (-44), 3) := by decide +kernel
theorem dX7_soap_87 : decode cX7_soap 87 = .ok (.aload_n 0, 1) := by decide +kernel
theorem dX7_soap_88 : decode cX7_soap 88 = .ok (.iload_n 1, 1) := by decide +kernel
theorem dX7_soap_89 : decode cX7_soap 89 = .ok (.iload_n 2, 1) := by decide +kernel
theorem dX7_soap_90 : decode cX7_soap 90 = .ok (.invokevirtual 154, 3) := by decide +kernel
theorem dX7_soap_93 : decode cX7_soap 93 = .ok (.ireturn, 1) := by decide +kernel
theorem dX7_hang_0 : decode cX7_hang 0 = .ok (.aload_n 0, 1) := by decide +kernel
theorem dX7_hang_1 : decode cX7_hang 1 = .ok (.getfield 19, 3) := by decide +kernel
theorem dX7_hang_4 : decode cX7_hang 4 = .ok (.bipush 31, 2) := by decide +kernel
theorem dX7_hang_6 : decode cX7_hang 6 = .ok (.iaload, 1) := by decide +kernel
theorem dX7_hang_7 : decode cX7_hang 7 = .ok (.istore_n 1, 1) := by decide +kernel
theorem dX7_hang_8 : decode cX7_hang 8 = .ok (.aload_n 0, 1) := by decide +kernel
theorem dX7_hang_9 : decode cX7_hang 9 = .ok (.getfield 19, 3) := by decide +kernel
theorem dX7_hang_12 : decode cX7_hang 12 = .ok (.bipush 31, 2) := by decide +kernel
theorem dX7_hang_14 : decode cX7_hang 14 = .ok (.iconst (-1), 1) := by decide +kernel
theorem dX7_hang_15 : decode cX7_hang 15 = .ok (.iastore, 1) := by decide +kernel
theorem dX7_hang_16 : decode cX7_hang 16 = .ok (.iload_n 1, 1) := by decide +kernel
theorem dX7_hang_17 : decode cX7_hang 17 = .ok (.ireturn, 1) := by decide +kernel
theorem dX7_begin_0 : decode cX7_begin 0 = .ok (.aload_n 0, 1) := by decide +kernel
theorem dX7_begin_1 : decode cX7_begin 1 = .ok (.getfield 19, 3) := by decide +kernel
theorem dX7_begin_4 : decode cX7_begin 4 = .ok (.bipush 30, 2) := by decide +kernel
theorem dX7_begin_6 : decode cX7_begin 6 = .ok (.iaload, 1) := by decide +kernel
theorem dX7_begin_7 : decode cX7_begin 7 = .ok (.istore_n 1, 1) := by decide +kernel
theorem dX7_begin_8 : decode cX7_begin 8 = .ok (.aload_n 0, 1) := by decide +kernel
theorem dX7_begin_9 : decode cX7_begin 9 = .ok (.invokevirtual 148, 3) := by decide +kernel
theorem dX7_begin_12 : decode cX7_begin 12 = .ok (.iload_n 1, 1) := by decide +kernel
theorem dX7_begin_13 : decode cX7_begin 13 = .ok (.ireturn, 1) := by decide +kernel
theorem dX7_drift_0 : decode cX7_drift 0 = .ok (.iload_n 1, 1) := by decide +kernel
theorem dX7_drift_1 : decode cX7_drift 1 = .ok (.iconst 1, 1) := by decide +kernel
theorem dX7_drift_2 : decode cX7_drift 2 = .ok (.bipush 99, 2) := by decide +kernel
theorem dX7_drift_4 : decode cX7_drift 4 = .ok (.invokestatic 61, 3) := by decide +kernel
theorem dX7_drift_7 : decode cX7_drift 7 = .ok (.ifCond .ne 6, 3) := by decide +kernel
theorem dX7_drift_10 : decode cX7_drift 10 = .ok (.ldc 65, 2) := by decide +kernel
theorem dX7_drift_12 : decode cX7_drift 12 = .ok (.ireturn, 1) := by decide +kernel
theorem dX7_drift_13 : decode cX7_drift 13 = .ok (.aload_n 0, 1) := by decide +kernel
theorem dX7_drift_14 : decode cX7_drift 14 = .ok (.getfield 13, 3) := by decide +kernel
theorem dX7_drift_17 : decode cX7_drift 17 = .ok (.iconst 1, 1) := by decide +kernel
theorem dX7_drift_18 : decode cX7_drift 18 = .ok (.iaload, 1) := by decide +kernel
theorem dX7_drift_19 : decode cX7_drift 19 = .ok (.ifCond .ne 6, 3) := by decide +kernel
theorem dX7_drift_22 : decode cX7_drift 22 = .ok (.ldc 175, 2) := by decide +kernel
theorem dX7_drift_24 : decode cX7_drift 24 = .ok (.ireturn, 1) := by decide +kernel
theorem dX7_drift_25 : decode cX7_drift 25 = .ok (.aload_n 0, 1) := by decide +kernel
theorem dX7_drift_26 : decode cX7_drift 26 = .ok (.invokevirtual 172, 3) := by decide +kernel
theorem dX7_drift_29 : decode cX7_drift 29 = .ok (.iconst 0, 1) := by decide +kernel
theorem dX7_drift_30 : decode cX7_drift 30 = .ok (.istore_n 2, 1) := by decide +kernel
theorem dX7_drift_31 : decode cX7_drift 31 = .ok (.iload_n 2, 1) := by decide +kernel
theorem dX7_drift_32 : decode cX7_drift 32 = .ok (.iload_n 1, 1) := by decide +kernel
theorem dX7_drift_33 : decode cX7_drift 33 = .ok (.if_icmp .ge 62, 3) := by decide +kernel
theorem dX7_drift_36 : decode cX7_drift 36 = .ok (.aload_n 0, 1) := by decide +kernel
theorem dX7_drift_37 : decode cX7_drift 37 = .ok (.getfield 22, 3) := by decide +kernel
theorem dX7_drift_40 : decode cX7_drift 40 = .ok (.bipush 31, 2) := by decide +kernel
theorem dX7_drift_42 : decode cX7_drift 42 = .ok (.iaload, 1) := by decide +kernel
theorem dX7_drift_43 : decode cX7_drift 43 = .ok (.iconst (-1), 1) := by decide +kernel
theorem dX7_drift_44 : decode cX7_drift 44 = .ok (.if_icmp .ne 51, 3) := by decide +kernel
theorem dX7_drift_47 : decode cX7_drift 47 = .ok (.aload_n 0, 1) := by decide +kernel
theorem dX7_drift_48 : decode cX7_drift 48 = .ok (.aload_n 0, 1) := by decide +kernel
theorem dX7_drift_49 : decode cX7_drift 49 = .ok (.getfield 183, 3) := by decide +kernel
theorem dX7_drift_52 : decode cX7_drift 52 = .ok (.i2l, 1) := by decide +kernel
theorem dX7_drift_53 : decode cX7_drift 53 = .ok (.ldc2_w 186, 3) := by decide +kernel
theorem dX7_drift_56 : decode cX7_drift 56 = .ok (.lmul, 1) := by decide +kernel
theorem dX7_drift_57 : decode cX7_drift 57 = .ok (.ldc2_w 188, 3) := by decide +kernel
theorem dX7_drift_60 : decode cX7_drift 60 = .ok (.ladd, 1) := by decide +kernel
theorem dX7_drift_61 : decode cX7_drift 61 = .ok (.ldc2_w 190, 3) := by decide +kernel
theorem dX7_drift_64 : decode cX7_drift 64 = .ok (.land, 1) := by decide +kernel
theorem dX7_drift_65 : decode cX7_drift 65 = .ok (.l2i, 1) := by decide +kernel
theorem dX7_drift_66 : decode cX7_drift 66 = .ok (.putfield 183, 3) := by decide +kernel
theorem dX7_drift_69 : decode cX7_drift 69 = .ok (.aload_n 0, 1) := by decide +kernel
theorem dX7_drift_70 : decode cX7_drift 70 = .ok (.aload_n 0, 1) := by decide +kernel
theorem dX7_drift_71 : decode cX7_drift 71 = .ok (.getfield 183, 3) := by decide +kernel
theorem dX7_drift_74 : decode cX7_drift 74 = .ok (.ldc 192, 2) := by decide +kernel
theorem dX7_drift_76 : decode cX7_drift 76 = .ok (.idiv, 1) := by decide +kernel
theorem dX7_drift_77 : decode cX7_drift 77 = .ok (.aload_n 0, 1) := by decide +kernel
theorem dX7_drift_78 : decode cX7_drift 78 = .ok (.getfield 13, 3) := by decide +kernel
theorem dX7_drift_81 : decode cX7_drift 81 = .ok (.iconst 1, 1) := by decide +kernel
theorem dX7_drift_82 : decode cX7_drift 82 = .ok (.iaload, 1) := by decide +kernel
theorem dX7_drift_83 : decode cX7_drift 83 = .ok (.irem, 1) := by decide +kernel
theorem dX7_drift_84 : decode cX7_drift 84 = .ok (.iconst 0, 1) := by decide +kernel
theorem dX7_drift_85 : decode cX7_drift 85 = .ok (.invokevirtual 176, 3) := by decide +kernel
theorem dX7_drift_88 : decode cX7_drift 88 = .ok (.istore_n 3, 1) := by decide +kernel
theorem dX7_drift_89 : decode cX7_drift 89 = .ok (.iinc 2 1, 3) := by decide +kernel
theorem dX7_drift_92 : decode cX7_drift 92 = .ok (.goto (-61), 3) := by decide +kernel
theorem dX7_drift_95 : decode cX7_drift 95 = .ok (.aload_n 0, 1) := by decide +kernel
theorem dX7_drift_96 : decode cX7_drift 96 = .ok (.invokevirtual 180, 3) := by decide +kernel
theorem dX7_drift_99 : decode cX7_drift 99 = .ok (.aload_n 0, 1) := by decide +kernel
theorem dX7_drift_100 : decode cX7_drift 100 = .ok (.getfield 19, 3) := by decide +kernel
theorem dX7_drift_103 : decode cX7_drift 103 = .ok (.bipush 31, 2) := by decide +kernel
theorem dX7_drift_105 : decode cX7_drift 105 = .ok (.iaload, 1) := by decide +kernel
theorem dX7_drift_106 : decode cX7_drift 106 = .ok (.ireturn, 1) := by decide +kernel
theorem dX7_power_0 : decode cX7_power 0 = .ok (.iconst 1, 1) := by decide +kernel
theorem dX7_power_1 : decode cX7_power 1 = .ok (.istore_n 2, 1) := by decide +kernel
theorem dX7_power_2 : decode cX7_power 2 = .ok (.iconst 0, 1) := by decide +kernel
theorem dX7_power_3 : decode cX7_power 3 = .ok (.istore_n 3, 1) := by decide +kernel
theorem dX7_power_4 : decode cX7_power 4 = .ok (.iload_n 3, 1) := by decide +kernel
theorem dX7_power_5 : decode cX7_power 5 = .ok (.iload_n 1, 1) := by decide +kernel
theorem dX7_power_6 : decode cX7_power 6 = .ok (.if_icmp .ge 13, 3) := by decide +kernel
theorem dX7_power_9 : decode cX7_power 9 = .ok (.iload_n 2, 1) := by decide +kernel
theorem dX7_power_10 : decode cX7_power 10 = .ok (.iload_n 0, 1) := by decide +kernel
theorem dX7_power_11 : decode cX7_power 11 = .ok (.imul, 1) := by decide +kernel
theorem dX7_power_12 : decode cX7_power 12 = .ok (.istore_n 2, 1) := by decide +kernel
theorem dX7_power_13 : decode cX7_power 13 = .ok (.iinc 3 1, 3) := by decide +kernel
theorem dX7_power_16 : decode cX7_power 16 = .ok (.goto (-12), 3) := by decide +kernel
theorem dX7_power_19 : decode cX7_power 19 = .ok (.iload_n 2, 1) := by decide +kernel
theorem dX7_power_20 : decode cX7_power 20 = .ok (.ireturn, 1) := by decide +kernel
theorem dX7_figure_0 : decode cX7_figure 0 = .ok (.iload_n 0, 1) := by decide +kernel
theorem dX7_figure_1 : decode cX7_figure 1 = .ok (.iload_n 1, 1) := by decide +kernel
theorem dX7_figure_2 : decode cX7_figure 2 = .ok (.iload_n 2, 1) := by decide +kernel
theorem dX7_figure_3 : decode cX7_figure 3 = .ok (.iconst 1, 1) := by decide +kernel
theorem dX7_figure_4 : decode cX7_figure 4 = .ok (.isub, 1) := by decide +kernel
theorem dX7_figure_5 : decode cX7_figure 5 = .ok (.iload_n 3, 1) := by decide +kernel
theorem dX7_figure_6 : decode cX7_figure 6 = .ok (.isub, 1) := by decide +kernel
theorem dX7_figure_7 : decode cX7_figure 7 = .ok (.invokestatic 193, 3) := by decide +kernel
theorem dX7_figure_10 : decode cX7_figure 10 = .ok (.idiv, 1) := by decide +kernel
theorem dX7_figure_11 : decode cX7_figure 11 = .ok (.iload_n 1, 1) := by decide +kernel
theorem dX7_figure_12 : decode cX7_figure 12 = .ok (.irem, 1) := by decide +kernel
theorem dX7_figure_13 : decode cX7_figure 13 = .ok (.ireturn, 1) := by decide +kernel
theorem dX7_nextOrder_0 : decode cX7_nextOrder 0 = .ok (.iload_n 1, 1) := by decide +kernel
theorem dX7_nextOrder_1 : decode cX7_nextOrder 1 = .ok (.iconst 2, 1) := by decide +kernel
theorem dX7_nextOrder_2 : decode cX7_nextOrder 2 = .ok (.isub, 1) := by decide +kernel
theorem dX7_nextOrder_3 : decode cX7_nextOrder 3 = .ok (.istore_n 2, 1) := by decide +kernel
theorem dX7_nextOrder_4 : decode cX7_nextOrder 4 = .ok (.iload_n 2, 1) := by decide +kernel
theorem dX7_nextOrder_5 : decode cX7_nextOrder 5 = .ok (.ifCond .lt 26, 3) := by decide +kernel
theorem dX7_nextOrder_8 : decode cX7_nextOrder 8 = .ok (.aload_n 0, 1) := by decide +kernel
theorem dX7_nextOrder_9 : decode cX7_nextOrder 9 = .ok (.getfield 45, 3) := by decide +kernel
theorem dX7_nextOrder_12 : decode cX7_nextOrder 12 = .ok (.iload_n 2, 1) := by decide +kernel
theorem dX7_nextOrder_13 : decode cX7_nextOrder 13 = .ok (.iaload, 1) := by decide +kernel
theorem dX7_nextOrder_14 : decode cX7_nextOrder 14 = .ok (.aload_n 0, 1) := by decide +kernel
theorem dX7_nextOrder_15 : decode cX7_nextOrder 15 = .ok (.getfield 45, 3) := by decide +kernel
theorem dX7_nextOrder_18 : decode cX7_nextOrder 18 = .ok (.iload_n 2, 1) := by decide +kernel
theorem dX7_nextOrder_19 : decode cX7_nextOrder 19 = .ok (.iconst 1, 1) := by decide +kernel
theorem dX7_nextOrder_20 : decode cX7_nextOrder 20 = .ok (.iadd, 1) := by decide +kernel
theorem dX7_nextOrder_21 : decode cX7_nextOrder 21 = .ok (.iaload, 1) := by decide +kernel
theorem dX7_nextOrder_22 : decode cX7_nextOrder 22 = .ok (.if_icmp .le 9, 3) := by decide +kernel
theorem dX7_nextOrder_25 : decode cX7_nextOrder 25 = .ok (.iinc 2 (-1), 3) := by decide +kernel
theorem dX7_nextOrder_28 : decode cX7_nextOrder 28 = .ok (.goto (-24), 3) := by decide +kernel
theorem dX7_nextOrder_31 : decode cX7_nextOrder 31 = .ok (.iload_n 2, 1) := by decide +kernel
theorem dX7_nextOrder_32 : decode cX7_nextOrder 32 = .ok (.ifCond .ge 5, 3) := by decide +kernel
theorem dX7_nextOrder_35 : decode cX7_nextOrder 35 = .ok (.iconst 0, 1) := by decide +kernel
theorem dX7_nextOrder_36 : decode cX7_nextOrder 36 = .ok (.ireturn, 1) := by decide +kernel
theorem dX7_nextOrder_37 : decode cX7_nextOrder 37 = .ok (.iload_n 1, 1) := by decide +kernel
theorem dX7_nextOrder_38 : decode cX7_nextOrder 38 = .ok (.iconst 1, 1) := by decide +kernel
theorem dX7_nextOrder_39 : decode cX7_nextOrder 39 = .ok (.isub, 1) := by decide +kernel
theorem dX7_nextOrder_40 : decode cX7_nextOrder 40 = .ok (.istore_n 3, 1) := by decide +kernel
theorem dX7_nextOrder_41 : decode cX7_nextOrder 41 = .ok (.aload_n 0, 1) := by decide +kernel
theorem dX7_nextOrder_42 : decode cX7_nextOrder 42 = .ok (.getfield 45, 3) := by decide +kernel
theorem dX7_nextOrder_45 : decode cX7_nextOrder 45 = .ok (.iload_n 3, 1) := by decide +kernel
theorem dX7_nextOrder_46 : decode cX7_nextOrder 46 = .ok (.iaload, 1) := by decide +kernel
theorem dX7_nextOrder_47 : decode cX7_nextOrder 47 = .ok (.aload_n 0, 1) := by decide +kernel
theorem dX7_nextOrder_48 : decode cX7_nextOrder 48 = .ok (.getfield 45, 3) := by decide +kernel
theorem dX7_nextOrder_51 : decode cX7_nextOrder 51 = .ok (.iload_n 2, 1) := by decide +kernel
theorem dX7_nextOrder_52 : decode cX7_nextOrder 52 = .ok (.iaload, 1) := by decide +kernel
theorem dX7_nextOrder_53 : decode cX7_nextOrder 53 = .ok (.if_icmp .ge 9, 3) := by decide +kernel
theorem dX7_nextOrder_56 : decode cX7_nextOrder 56 = .ok (.iinc 3 (-1), 3) := by decide +kernel
theorem dX7_nextOrder_59 : decode cX7_nextOrder 59 = .ok (.goto (-18), 3) := by decide +kernel
theorem dX7_nextOrder_62 : decode cX7_nextOrder 62 = .ok (.aload_n 0, 1) := by decide +kernel
theorem dX7_nextOrder_63 : decode cX7_nextOrder 63 = .ok (.iload_n 2, 1) := by decide +kernel
theorem dX7_nextOrder_64 : decode cX7_nextOrder 64 = .ok (.iload_n 3, 1) := by decide +kernel
theorem dX7_nextOrder_65 : decode cX7_nextOrder 65 = .ok (.invokevirtual 196, 3) := by decide +kernel
theorem dX7_nextOrder_68 : decode cX7_nextOrder 68 = .ok (.iload_n 1, 1) := by decide +kernel
theorem dX7_nextOrder_69 : decode cX7_nextOrder 69 = .ok (.iconst 1, 1) := by decide +kernel
theorem dX7_nextOrder_70 : decode cX7_nextOrder 70 = .ok (.isub, 1) := by decide +kernel
theorem dX7_nextOrder_71 : decode cX7_nextOrder 71 = .ok (.istore 4, 2) := by decide +kernel
theorem dX7_nextOrder_73 : decode cX7_nextOrder 73 = .ok (.iload_n 2, 1) := by decide +kernel
theorem dX7_nextOrder_74 : decode cX7_nextOrder 74 = .ok (.iconst 1, 1) := by decide +kernel
theorem dX7_nextOrder_75 : decode cX7_nextOrder 75 = .ok (.iadd, 1) := by decide +kernel
theorem dX7_nextOrder_76 : decode cX7_nextOrder 76 = .ok (.istore 5, 2) := by decide +kernel
theorem dX7_nextOrder_78 : decode cX7_nextOrder 78 = .ok (.iload 5, 2) := by decide +kernel
theorem dX7_nextOrder_80 : decode cX7_nextOrder 80 = .ok (.iload 4, 2) := by decide +kernel
theorem dX7_nextOrder_82 : decode cX7_nextOrder 82 = .ok (.if_icmp .ge 20, 3) := by decide +kernel
theorem dX7_nextOrder_85 : decode cX7_nextOrder 85 = .ok (.aload_n 0, 1) := by decide +kernel
theorem dX7_nextOrder_86 : decode cX7_nextOrder 86 = .ok (.iload 5, 2) := by decide +kernel
theorem dX7_nextOrder_88 : decode cX7_nextOrder 88 = .ok (.iload 4, 2) := by decide +kernel
theorem dX7_nextOrder_90 : decode cX7_nextOrder 90 = .ok (.invokevirtual 196, 3) := by decide +kernel
theorem dX7_nextOrder_93 : decode cX7_nextOrder 93 = .ok (.iinc 4 (-1), 3) := by decide +kernel
theorem dX7_nextOrder_96 : decode cX7_nextOrder 96 = .ok (.iinc 5 1, 3) := by decide +kernel
theorem dX7_nextOrder_99 : decode cX7_nextOrder 99 = .ok (.goto (-21), 3) := by decide +kernel
theorem dX7_nextOrder_102 : decode cX7_nextOrder 102 = .ok (.iconst 1, 1) := by decide +kernel
theorem dX7_nextOrder_103 : decode cX7_nextOrder 103 = .ok (.ireturn, 1) := by decide +kernel
theorem dX7_swaps_0 : decode cX7_swaps 0 = .ok (.aload_n 0, 1) := by decide +kernel
theorem dX7_swaps_1 : decode cX7_swaps 1 = .ok (.getfield 45, 3) := by decide +kernel
theorem dX7_swaps_4 : decode cX7_swaps 4 = .ok (.iload_n 1, 1) := by decide +kernel
theorem dX7_swaps_5 : decode cX7_swaps 5 = .ok (.iaload, 1) := by decide +kernel
theorem dX7_swaps_6 : decode cX7_swaps 6 = .ok (.istore_n 3, 1) := by decide +kernel
theorem dX7_swaps_7 : decode cX7_swaps 7 = .ok (.aload_n 0, 1) := by decide +kernel
theorem dX7_swaps_8 : decode cX7_swaps 8 = .ok (.getfield 45, 3) := by decide +kernel
theorem dX7_swaps_11 : decode cX7_swaps 11 = .ok (.iload_n 1, 1) := by decide +kernel
theorem dX7_swaps_12 : decode cX7_swaps 12 = .ok (.aload_n 0, 1) := by decide +kernel
theorem dX7_swaps_13 : decode cX7_swaps 13 = .ok (.getfield 45, 3) := by decide +kernel
theorem dX7_swaps_16 : decode cX7_swaps 16 = .ok (.iload_n 2, 1) := by decide +kernel
theorem dX7_swaps_17 : decode cX7_swaps 17 = .ok (.iaload, 1) := by decide +kernel
theorem dX7_swaps_18 : decode cX7_swaps 18 = .ok (.iastore, 1) := by decide +kernel
theorem dX7_swaps_19 : decode cX7_swaps 19 = .ok (.aload_n 0, 1) := by decide +kernel
theorem dX7_swaps_20 : decode cX7_swaps 20 = .ok (.getfield 45, 3) := by decide +kernel
theorem dX7_swaps_23 : decode cX7_swaps 23 = .ok (.iload_n 2, 1) := by decide +kernel
theorem dX7_swaps_24 : decode cX7_swaps 24 = .ok (.iload_n 3, 1) := by decide +kernel
theorem dX7_swaps_25 : decode cX7_swaps 25 = .ok (.iastore, 1) := by decide +kernel
theorem dX7_swaps_26 : decode cX7_swaps 26 = .ok (.return_, 1) := by decide +kernel
theorem dX7_hadBy_0 : decode cX7_hadBy 0 = .ok (.aload_n 0, 1) := by decide +kernel
theorem dX7_hadBy_1 : decode cX7_hadBy 1 = .ok (.invokevirtual 172, 3) := by decide +kernel
theorem dX7_hadBy_4 : decode cX7_hadBy 4 = .ok (.iconst 0, 1) := by decide +kernel
theorem dX7_hadBy_5 : decode cX7_hadBy 5 = .ok (.istore_n 2, 1) := by decide +kernel
theorem dX7_hadBy_6 : decode cX7_hadBy 6 = .ok (.iload_n 2, 1) := by decide +kernel
theorem dX7_hadBy_7 : decode cX7_hadBy 7 = .ok (.iload_n 1, 1) := by decide +kernel
theorem dX7_hadBy_8 : decode cX7_hadBy 8 = .ok (.if_icmp .ge 32, 3) := by decide +kernel
theorem dX7_hadBy_11 : decode cX7_hadBy 11 = .ok (.aload_n 0, 1) := by decide +kernel
theorem dX7_hadBy_12 : decode cX7_hadBy 12 = .ok (.getfield 22, 3) := by decide +kernel
theorem dX7_hadBy_15 : decode cX7_hadBy 15 = .ok (.bipush 31, 2) := by decide +kernel
theorem dX7_hadBy_17 : decode cX7_hadBy 17 = .ok (.iaload, 1) := by decide +kernel
theorem dX7_hadBy_18 : decode cX7_hadBy 18 = .ok (.iconst (-1), 1) := by decide +kernel
theorem dX7_hadBy_19 : decode cX7_hadBy 19 = .ok (.if_icmp .ne 21, 3) := by decide +kernel
theorem dX7_hadBy_22 : decode cX7_hadBy 22 = .ok (.aload_n 0, 1) := by decide +kernel
theorem dX7_hadBy_23 : decode cX7_hadBy 23 = .ok (.aload_n 0, 1) := by decide +kernel
theorem dX7_hadBy_24 : decode cX7_hadBy 24 = .ok (.getfield 45, 3) := by decide +kernel
theorem dX7_hadBy_27 : decode cX7_hadBy 27 = .ok (.iload_n 2, 1) := by decide +kernel
theorem dX7_hadBy_28 : decode cX7_hadBy 28 = .ok (.iaload, 1) := by decide +kernel
theorem dX7_hadBy_29 : decode cX7_hadBy 29 = .ok (.iconst 0, 1) := by decide +kernel
theorem dX7_hadBy_30 : decode cX7_hadBy 30 = .ok (.invokevirtual 176, 3) := by decide +kernel
theorem dX7_hadBy_33 : decode cX7_hadBy 33 = .ok (.istore_n 3, 1) := by decide +kernel
theorem dX7_hadBy_34 : decode cX7_hadBy 34 = .ok (.iinc 2 1, 3) := by decide +kernel
theorem dX7_hadBy_37 : decode cX7_hadBy 37 = .ok (.goto (-31), 3) := by decide +kernel
theorem dX7_hadBy_40 : decode cX7_hadBy 40 = .ok (.aload_n 0, 1) := by decide +kernel
theorem dX7_hadBy_41 : decode cX7_hadBy 41 = .ok (.getfield 22, 3) := by decide +kernel
theorem dX7_hadBy_44 : decode cX7_hadBy 44 = .ok (.bipush 31, 2) := by decide +kernel
theorem dX7_hadBy_46 : decode cX7_hadBy 46 = .ok (.iaload, 1) := by decide +kernel
theorem dX7_hadBy_47 : decode cX7_hadBy 47 = .ok (.iconst (-1), 1) := by decide +kernel
theorem dX7_hadBy_48 : decode cX7_hadBy 48 = .ok (.if_icmp .ne 9, 3) := by decide +kernel
theorem dX7_hadBy_51 : decode cX7_hadBy 51 = .ok (.iload_n 1, 1) := by decide +kernel
theorem dX7_hadBy_52 : decode cX7_hadBy 52 = .ok (.iconst 1, 1) := by decide +kernel
theorem dX7_hadBy_53 : decode cX7_hadBy 53 = .ok (.iadd, 1) := by decide +kernel
theorem dX7_hadBy_54 : decode cX7_hadBy 54 = .ok (.goto 4, 3) := by decide +kernel
theorem dX7_hadBy_57 : decode cX7_hadBy 57 = .ok (.iload_n 2, 1) := by decide +kernel
theorem dX7_hadBy_58 : decode cX7_hadBy 58 = .ok (.ireturn, 1) := by decide +kernel
theorem dX7_order_0 : decode cX7_order 0 = .ok (.aload_n 0, 1) := by decide +kernel
theorem dX7_order_1 : decode cX7_order 1 = .ok (.getfield 13, 3) := by decide +kernel
theorem dX7_order_4 : decode cX7_order 4 = .ok (.iconst 1, 1) := by decide +kernel
theorem dX7_order_5 : decode cX7_order 5 = .ok (.iaload, 1) := by decide +kernel
theorem dX7_order_6 : decode cX7_order 6 = .ok (.istore_n 2, 1) := by decide +kernel
theorem dX7_order_7 : decode cX7_order 7 = .ok (.aload_n 0, 1) := by decide +kernel
theorem dX7_order_8 : decode cX7_order 8 = .ok (.getfield 19, 3) := by decide +kernel
theorem dX7_order_11 : decode cX7_order 11 = .ok (.bipush 31, 2) := by decide +kernel
theorem dX7_order_13 : decode cX7_order 13 = .ok (.iaload, 1) := by decide +kernel
theorem dX7_order_14 : decode cX7_order 14 = .ok (.iconst (-1), 1) := by decide +kernel
theorem dX7_order_15 : decode cX7_order 15 = .ok (.if_icmp .ne 18, 3) := by decide +kernel
theorem dX7_order_18 : decode cX7_order 18 = .ok (.iload_n 2, 1) := by decide +kernel
theorem dX7_order_19 : decode cX7_order 19 = .ok (.ifCond .eq 14, 3) := by decide +kernel
theorem dX7_order_22 : decode cX7_order 22 = .ok (.iload_n 1, 1) := by decide +kernel
theorem dX7_order_23 : decode cX7_order 23 = .ok (.bipush (-2), 2) := by decide +kernel
theorem dX7_order_25 : decode cX7_order 25 = .ok (.if_icmp .lt 8, 3) := by decide +kernel
theorem dX7_order_28 : decode cX7_order 28 = .ok (.iload_n 1, 1) := by decide +kernel
theorem dX7_order_29 : decode cX7_order 29 = .ok (.iload_n 2, 1) := by decide +kernel
theorem dX7_order_30 : decode cX7_order 30 = .ok (.if_icmp .lt 5, 3) := by decide +kernel
theorem dX7_order_33 : decode cX7_order 33 = .ok (.iconst (-1), 1) := by decide +kernel
theorem dX7_order_34 : decode cX7_order 34 = .ok (.ireturn, 1) := by decide +kernel
theorem dX7_order_35 : decode cX7_order 35 = .ok (.iconst 0, 1) := by decide +kernel
theorem dX7_order_36 : decode cX7_order 36 = .ok (.istore_n 3, 1) := by decide +kernel
theorem dX7_order_37 : decode cX7_order 37 = .ok (.iload_n 3, 1) := by decide +kernel
theorem dX7_order_38 : decode cX7_order 38 = .ok (.bipush 6, 2) := by decide +kernel
theorem dX7_order_40 : decode cX7_order 40 = .ok (.if_icmp .ge 16, 3) := by decide +kernel
theorem dX7_order_43 : decode cX7_order 43 = .ok (.aload_n 0, 1) := by decide +kernel
theorem dX7_order_44 : decode cX7_order 44 = .ok (.getfield 45, 3) := by decide +kernel
theorem dX7_order_47 : decode cX7_order 47 = .ok (.iload_n 3, 1) := by decide +kernel
theorem dX7_order_48 : decode cX7_order 48 = .ok (.iload_n 3, 1) := by decide +kernel
theorem dX7_order_49 : decode cX7_order 49 = .ok (.iastore, 1) := by decide +kernel
theorem dX7_order_50 : decode cX7_order 50 = .ok (.iinc 3 1, 3) := by decide +kernel
theorem dX7_order_53 : decode cX7_order 53 = .ok (.goto (-16), 3) := by decide +kernel
theorem dX7_order_56 : decode cX7_order 56 = .ok (.iload_n 2, 1) := by decide +kernel
theorem dX7_order_57 : decode cX7_order 57 = .ok (.iconst 1, 1) := by decide +kernel
theorem dX7_order_58 : decode cX7_order 58 = .ok (.iadd, 1) := by decide +kernel
theorem dX7_order_59 : decode cX7_order 59 = .ok (.istore_n 3, 1) := by decide +kernel
theorem dX7_order_60 : decode cX7_order 60 = .ok (.iconst 1, 1) := by decide +kernel
theorem dX7_order_61 : decode cX7_order 61 = .ok (.istore 4, 2) := by decide +kernel
theorem dX7_order_63 : decode cX7_order 63 = .ok (.iload 4, 2) := by decide +kernel
theorem dX7_order_65 : decode cX7_order 65 = .ok (.ifCond .eq 68, 3) := by decide +kernel
theorem dX7_order_68 : decode cX7_order 68 = .ok (.aload_n 0, 1) := by decide +kernel
theorem dX7_order_69 : decode cX7_order 69 = .ok (.iload_n 2, 1) := by decide +kernel
theorem dX7_order_70 : decode cX7_order 70 = .ok (.invokevirtual 200, 3) := by decide +kernel
theorem dX7_order_73 : decode cX7_order 73 = .ok (.istore 5, 2) := by decide +kernel
theorem dX7_order_75 : decode cX7_order 75 = .ok (.iconst 0, 1) := by decide +kernel
theorem dX7_order_76 : decode cX7_order 76 = .ok (.istore 6, 2) := by decide +kernel
theorem dX7_order_78 : decode cX7_order 78 = .ok (.iload 6, 2) := by decide +kernel
theorem dX7_order_80 : decode cX7_order 80 = .ok (.iload_n 2, 1) := by decide +kernel
theorem dX7_order_81 : decode cX7_order 81 = .ok (.if_icmp .ge 29, 3) := by decide +kernel
theorem dX7_order_84 : decode cX7_order 84 = .ok (.iload 5, 2) := by decide +kernel
theorem dX7_order_86 : decode cX7_order 86 = .ok (.iload_n 3, 1) := by decide +kernel
theorem dX7_order_87 : decode cX7_order 87 = .ok (.if_icmp .ge 23, 3) := by decide +kernel
theorem dX7_order_90 : decode cX7_order 90 = .ok (.aload_n 0, 1) := by decide +kernel
theorem dX7_order_91 : decode cX7_order 91 = .ok (.getfield 48, 3) := by decide +kernel
theorem dX7_order_94 : decode cX7_order 94 = .ok (.iload 6, 2) := by decide +kernel
theorem dX7_order_96 : decode cX7_order 96 = .ok (.aload_n 0, 1) := by decide +kernel
theorem dX7_order_97 : decode cX7_order 97 = .ok (.getfield 45, 3) := by decide +kernel
theorem dX7_order_100 : decode cX7_order 100 = .ok (.iload 6, 2) := by decide +kernel
theorem dX7_order_102 : decode cX7_order 102 = .ok (.iaload, 1) := by decide +kernel
theorem dX7_order_103 : decode cX7_order 103 = .ok (.iastore, 1) := by decide +kernel
theorem dX7_order_104 : decode cX7_order 104 = .ok (.iinc 6 1, 3) := by decide +kernel
theorem dX7_order_107 : decode cX7_order 107 = .ok (.goto (-29), 3) := by decide +kernel
theorem dX7_order_110 : decode cX7_order 110 = .ok (.iload 5, 2) := by decide +kernel
theorem dX7_order_112 : decode cX7_order 112 = .ok (.iload_n 3, 1) := by decide +kernel
theorem dX7_order_113 : decode cX7_order 113 = .ok (.if_icmp .ge 8, 3) := by decide +kernel
theorem dX7_order_116 : decode cX7_order 116 = .ok (.iload 5, 2) := by decide +kernel
theorem dX7_order_118 : decode cX7_order 118 = .ok (.goto 4, 3) := by decide +kernel
theorem dX7_order_121 : decode cX7_order 121 = .ok (.iload_n 3, 1) := by decide +kernel
theorem dX7_order_122 : decode cX7_order 122 = .ok (.istore_n 3, 1) := by decide +kernel
theorem dX7_order_123 : decode cX7_order 123 = .ok (.aload_n 0, 1) := by decide +kernel
theorem dX7_order_124 : decode cX7_order 124 = .ok (.iload_n 2, 1) := by decide +kernel
theorem dX7_order_125 : decode cX7_order 125 = .ok (.invokevirtual 203, 3) := by decide +kernel
theorem dX7_order_128 : decode cX7_order 128 = .ok (.istore 4, 2) := by decide +kernel
theorem dX7_order_130 : decode cX7_order 130 = .ok (.goto (-67), 3) := by decide +kernel
theorem dX7_order_133 : decode cX7_order 133 = .ok (.iload_n 3, 1) := by decide +kernel
theorem dX7_order_134 : decode cX7_order 134 = .ok (.iload_n 2, 1) := by decide +kernel
theorem dX7_order_135 : decode cX7_order 135 = .ok (.if_icmp .le 5, 3) := by decide +kernel
theorem dX7_order_138 : decode cX7_order 138 = .ok (.iconst (-1), 1) := by decide +kernel
theorem dX7_order_139 : decode cX7_order 139 = .ok (.ireturn, 1) := by decide +kernel
theorem dX7_order_140 : decode cX7_order 140 = .ok (.iload_n 1, 1) := by decide +kernel
theorem dX7_order_141 : decode cX7_order 141 = .ok (.iconst (-1), 1) := by decide +kernel
theorem dX7_order_142 : decode cX7_order 142 = .ok (.if_icmp .ne 7, 3) := by decide +kernel
theorem dX7_order_145 : decode cX7_order 145 = .ok (.iload_n 3, 1) := by decide +kernel
theorem dX7_order_146 : decode cX7_order 146 = .ok (.goto 21, 3) := by decide +kernel
theorem dX7_order_149 : decode cX7_order 149 = .ok (.aload_n 0, 1) := by decide +kernel
theorem dX7_order_150 : decode cX7_order 150 = .ok (.getfield 48, 3) := by decide +kernel
theorem dX7_order_153 : decode cX7_order 153 = .ok (.iload_n 1, 1) := by decide +kernel
theorem dX7_order_154 : decode cX7_order 154 = .ok (.bipush (-2), 2) := by decide +kernel
theorem dX7_order_156 : decode cX7_order 156 = .ok (.if_icmp .ne 9, 3) := by decide +kernel
theorem dX7_order_159 : decode cX7_order 159 = .ok (.iload_n 3, 1) := by decide +kernel
theorem dX7_order_160 : decode cX7_order 160 = .ok (.iconst 1, 1) := by decide +kernel
theorem dX7_order_161 : decode cX7_order 161 = .ok (.isub, 1) := by decide +kernel
theorem dX7_order_162 : decode cX7_order 162 = .ok (.goto 4, 3) := by decide +kernel
theorem dX7_order_165 : decode cX7_order 165 = .ok (.iload_n 1, 1) := by decide +kernel
theorem dX7_order_166 : decode cX7_order 166 = .ok (.iaload, 1) := by decide +kernel
theorem dX7_order_167 : decode cX7_order 167 = .ok (.ireturn, 1) := by decide +kernel
theorem dX7_isHis_0 : decode cX7_isHis 0 = .ok (.aload_n 0, 1) := by decide +kernel
theorem dX7_isHis_1 : decode cX7_isHis 1 = .ok (.invokevirtual 172, 3) := by decide +kernel
theorem dX7_isHis_4 : decode cX7_isHis 4 = .ok (.iconst 0, 1) := by decide +kernel
theorem dX7_isHis_5 : decode cX7_isHis 5 = .ok (.istore 4, 2) := by decide +kernel
theorem dX7_isHis_7 : decode cX7_isHis 7 = .ok (.iload 4, 2) := by decide +kernel
theorem dX7_isHis_9 : decode cX7_isHis 9 = .ok (.iload_n 2, 1) := by decide +kernel
theorem dX7_isHis_10 : decode cX7_isHis 10 = .ok (.if_icmp .ge 40, 3) := by decide +kernel
theorem dX7_isHis_13 : decode cX7_isHis 13 = .ok (.aload_n 0, 1) := by decide +kernel
theorem dX7_isHis_14 : decode cX7_isHis 14 = .ok (.getfield 22, 3) := by decide +kernel
theorem dX7_isHis_17 : decode cX7_isHis 17 = .ok (.bipush 31, 2) := by decide +kernel
theorem dX7_isHis_19 : decode cX7_isHis 19 = .ok (.iaload, 1) := by decide +kernel
theorem dX7_isHis_20 : decode cX7_isHis 20 = .ok (.iconst (-1), 1) := by decide +kernel
theorem dX7_isHis_21 : decode cX7_isHis 21 = .ok (.if_icmp .ne 29, 3) := by decide +kernel
theorem dX7_isHis_24 : decode cX7_isHis 24 = .ok (.aload_n 0, 1) := by decide +kernel
theorem dX7_isHis_25 : decode cX7_isHis 25 = .ok (.iload_n 1, 1) := by decide +kernel
theorem dX7_isHis_26 : decode cX7_isHis 26 = .ok (.aload_n 0, 1) := by decide +kernel
theorem dX7_isHis_27 : decode cX7_isHis 27 = .ok (.getfield 13, 3) := by decide +kernel
theorem dX7_isHis_30 : decode cX7_isHis 30 = .ok (.iconst 1, 1) := by decide +kernel
theorem dX7_isHis_31 : decode cX7_isHis 31 = .ok (.iaload, 1) := by decide +kernel
theorem dX7_isHis_32 : decode cX7_isHis 32 = .ok (.iload_n 2, 1) := by decide +kernel
theorem dX7_isHis_33 : decode cX7_isHis 33 = .ok (.iload 4, 2) := by decide +kernel
theorem dX7_isHis_35 : decode cX7_isHis 35 = .ok (.invokestatic 206, 3) := by decide +kernel
theorem dX7_isHis_38 : decode cX7_isHis 38 = .ok (.iconst 0, 1) := by decide +kernel
theorem dX7_isHis_39 : decode cX7_isHis 39 = .ok (.invokevirtual 176, 3) := by decide +kernel
theorem dX7_isHis_42 : decode cX7_isHis 42 = .ok (.istore 5, 2) := by decide +kernel
theorem dX7_isHis_44 : decode cX7_isHis 44 = .ok (.iinc 4 1, 3) := by decide +kernel
theorem dX7_isHis_47 : decode cX7_isHis 47 = .ok (.goto (-40), 3) := by decide +kernel
theorem dX7_isHis_50 : decode cX7_isHis 50 = .ok (.aload_n 0, 1) := by decide +kernel
theorem dX7_isHis_51 : decode cX7_isHis 51 = .ok (.getfield 22, 3) := by decide +kernel
theorem dX7_isHis_54 : decode cX7_isHis 54 = .ok (.bipush 31, 2) := by decide +kernel
theorem dX7_isHis_56 : decode cX7_isHis 56 = .ok (.iaload, 1) := by decide +kernel
theorem dX7_isHis_57 : decode cX7_isHis 57 = .ok (.iconst (-1), 1) := by decide +kernel
theorem dX7_isHis_58 : decode cX7_isHis 58 = .ok (.if_icmp .eq 5, 3) := by decide +kernel
theorem dX7_isHis_61 : decode cX7_isHis 61 = .ok (.iconst 0, 1) := by decide +kernel
theorem dX7_isHis_62 : decode cX7_isHis 62 = .ok (.ireturn, 1) := by decide +kernel
theorem dX7_isHis_63 : decode cX7_isHis 63 = .ok (.aload_n 0, 1) := by decide +kernel
theorem dX7_isHis_64 : decode cX7_isHis 64 = .ok (.iload_n 3, 1) := by decide +kernel
theorem dX7_isHis_65 : decode cX7_isHis 65 = .ok (.iconst 0, 1) := by decide +kernel
theorem dX7_isHis_66 : decode cX7_isHis 66 = .ok (.invokevirtual 176, 3) := by decide +kernel
theorem dX7_isHis_69 : decode cX7_isHis 69 = .ok (.istore 4, 2) := by decide +kernel
theorem dX7_isHis_71 : decode cX7_isHis 71 = .ok (.aload_n 0, 1) := by decide +kernel
theorem dX7_isHis_72 : decode cX7_isHis 72 = .ok (.getfield 22, 3) := by decide +kernel
theorem dX7_isHis_75 : decode cX7_isHis 75 = .ok (.bipush 31, 2) := by decide +kernel
theorem dX7_isHis_77 : decode cX7_isHis 77 = .ok (.iaload, 1) := by decide +kernel
theorem dX7_isHis_78 : decode cX7_isHis 78 = .ok (.iload_n 3, 1) := by decide +kernel
theorem dX7_isHis_79 : decode cX7_isHis 79 = .ok (.if_icmp .ne 7, 3) := by decide +kernel
theorem dX7_isHis_82 : decode cX7_isHis 82 = .ok (.iconst 1, 1) := by decide +kernel
theorem dX7_isHis_83 : decode cX7_isHis 83 = .ok (.goto 4, 3) := by decide +kernel
theorem dX7_isHis_86 : decode cX7_isHis 86 = .ok (.iconst 0, 1) := by decide +kernel
theorem dX7_isHis_87 : decode cX7_isHis 87 = .ok (.ireturn, 1) := by decide +kernel
theorem dX7_forOne_0 : decode cX7_forOne 0 = .ok (.aload_n 0, 1) := by decide +kernel
theorem dX7_forOne_1 : decode cX7_forOne 1 = .ok (.iload_n 1, 1) := by decide +kernel
theorem dX7_forOne_2 : decode cX7_forOne 2 = .ok (.invokevirtual 169, 3) := by decide +kernel
theorem dX7_forOne_5 : decode cX7_forOne 5 = .ok (.ifCond .ne 6, 3) := by decide +kernel
theorem dX7_forOne_8 : decode cX7_forOne 8 = .ok (.ldc 161, 2) := by decide +kernel
theorem dX7_forOne_10 : decode cX7_forOne 10 = .ok (.ireturn, 1) := by decide +kernel
theorem dX7_forOne_11 : decode cX7_forOne 11 = .ok (.aload_n 0, 1) := by decide +kernel
theorem dX7_forOne_12 : decode cX7_forOne 12 = .ok (.getfield 19, 3) := by decide +kernel
theorem dX7_forOne_15 : decode cX7_forOne 15 = .ok (.bipush 31, 2) := by decide +kernel
theorem dX7_forOne_17 : decode cX7_forOne 17 = .ok (.iaload, 1) := by decide +kernel
theorem dX7_forOne_18 : decode cX7_forOne 18 = .ok (.iconst (-1), 1) := by decide +kernel
theorem dX7_forOne_19 : decode cX7_forOne 19 = .ok (.if_icmp .ne 8, 3) := by decide +kernel
theorem dX7_forOne_22 : decode cX7_forOne 22 = .ok (.iload_n 2, 1) := by decide +kernel
theorem dX7_forOne_23 : decode cX7_forOne 23 = .ok (.iconst (-1), 1) := by decide +kernel
theorem dX7_forOne_24 : decode cX7_forOne 24 = .ok (.if_icmp .ge 5, 3) := by decide +kernel
theorem dX7_forOne_27 : decode cX7_forOne 27 = .ok (.iconst (-1), 1) := by decide +kernel
theorem dX7_forOne_28 : decode cX7_forOne 28 = .ok (.ireturn, 1) := by decide +kernel
theorem dX7_forOne_29 : decode cX7_forOne 29 = .ok (.iconst 0, 1) := by decide +kernel
theorem dX7_forOne_30 : decode cX7_forOne 30 = .ok (.istore_n 3, 1) := by decide +kernel
theorem dX7_forOne_31 : decode cX7_forOne 31 = .ok (.iload_n 3, 1) := by decide +kernel
theorem dX7_forOne_32 : decode cX7_forOne 32 = .ok (.bipush 6, 2) := by decide +kernel
theorem dX7_forOne_34 : decode cX7_forOne 34 = .ok (.if_icmp .ge 87, 3) := by decide +kernel
theorem dX7_forOne_37 : decode cX7_forOne 37 = .ok (.iconst 0, 1) := by decide +kernel
theorem dX7_forOne_38 : decode cX7_forOne 38 = .ok (.istore 4, 2) := by decide +kernel
theorem dX7_forOne_40 : decode cX7_forOne 40 = .ok (.iload 4, 2) := by decide +kernel
theorem dX7_forOne_42 : decode cX7_forOne 42 = .ok (.aload_n 0, 1) := by decide +kernel
theorem dX7_forOne_43 : decode cX7_forOne 43 = .ok (.getfield 13, 3) := by decide +kernel
theorem dX7_forOne_46 : decode cX7_forOne 46 = .ok (.iconst 1, 1) := by decide +kernel
theorem dX7_forOne_47 : decode cX7_forOne 47 = .ok (.iaload, 1) := by decide +kernel
theorem dX7_forOne_48 : decode cX7_forOne 48 = .ok (.iload_n 3, 1) := by decide +kernel
theorem dX7_forOne_49 : decode cX7_forOne 49 = .ok (.invokestatic 193, 3) := by decide +kernel
theorem dX7_forOne_52 : decode cX7_forOne 52 = .ok (.if_icmp .ge 63, 3) := by decide +kernel
theorem dX7_forOne_55 : decode cX7_forOne 55 = .ok (.aload_n 0, 1) := by decide +kernel
theorem dX7_forOne_56 : decode cX7_forOne 56 = .ok (.iload 4, 2) := by decide +kernel
theorem dX7_forOne_58 : decode cX7_forOne 58 = .ok (.iload_n 3, 1) := by decide +kernel
theorem dX7_forOne_59 : decode cX7_forOne 59 = .ok (.iload_n 1, 1) := by decide +kernel
theorem dX7_forOne_60 : decode cX7_forOne 60 = .ok (.invokevirtual 210, 3) := by decide +kernel
theorem dX7_forOne_63 : decode cX7_forOne 63 = .ok (.ifCond .eq 46, 3) := by decide +kernel
theorem dX7_forOne_66 : decode cX7_forOne 66 = .ok (.iload_n 2, 1) := by decide +kernel
theorem dX7_forOne_67 : decode cX7_forOne 67 = .ok (.iconst (-1), 1) := by decide +kernel
theorem dX7_forOne_68 : decode cX7_forOne 68 = .ok (.if_icmp .ne 9, 3) := by decide +kernel
theorem dX7_forOne_71 : decode cX7_forOne 71 = .ok (.iload_n 3, 1) := by decide +kernel
theorem dX7_forOne_72 : decode cX7_forOne 72 = .ok (.iconst 1, 1) := by decide +kernel
theorem dX7_forOne_73 : decode cX7_forOne 73 = .ok (.iadd, 1) := by decide +kernel
theorem dX7_forOne_74 : decode cX7_forOne 74 = .ok (.goto 34, 3) := by decide +kernel
theorem dX7_forOne_77 : decode cX7_forOne 77 = .ok (.iload_n 2, 1) := by decide +kernel
theorem dX7_forOne_78 : decode cX7_forOne 78 = .ok (.iload_n 3, 1) := by decide +kernel
theorem dX7_forOne_79 : decode cX7_forOne 79 = .ok (.if_icmp .ge 19, 3) := by decide +kernel
theorem dX7_forOne_82 : decode cX7_forOne 82 = .ok (.iload 4, 2) := by decide +kernel
theorem dX7_forOne_84 : decode cX7_forOne 84 = .ok (.aload_n 0, 1) := by decide +kernel
theorem dX7_forOne_85 : decode cX7_forOne 85 = .ok (.getfield 13, 3) := by decide +kernel
theorem dX7_forOne_88 : decode cX7_forOne 88 = .ok (.iconst 1, 1) := by decide +kernel
theorem dX7_forOne_89 : decode cX7_forOne 89 = .ok (.iaload, 1) := by decide +kernel
theorem dX7_forOne_90 : decode cX7_forOne 90 = .ok (.iload_n 3, 1) := by decide +kernel
theorem dX7_forOne_91 : decode cX7_forOne 91 = .ok (.iload_n 2, 1) := by decide +kernel
theorem dX7_forOne_92 : decode cX7_forOne 92 = .ok (.invokestatic 206, 3) := by decide +kernel
theorem dX7_forOne_95 : decode cX7_forOne 95 = .ok (.goto 13, 3) := by decide +kernel
theorem dX7_forOne_98 : decode cX7_forOne 98 = .ok (.iload_n 2, 1) := by decide +kernel
theorem dX7_forOne_99 : decode cX7_forOne 99 = .ok (.iload_n 3, 1) := by decide +kernel
theorem dX7_forOne_100 : decode cX7_forOne 100 = .ok (.if_icmp .ne 7, 3) := by decide +kernel
theorem dX7_forOne_103 : decode cX7_forOne 103 = .ok (.iload_n 1, 1) := by decide +kernel
theorem dX7_forOne_104 : decode cX7_forOne 104 = .ok (.goto 4, 3) := by decide +kernel
theorem dX7_forOne_107 : decode cX7_forOne 107 = .ok (.iconst (-1), 1) := by decide +kernel
theorem dX7_forOne_108 : decode cX7_forOne 108 = .ok (.ireturn, 1) := by decide +kernel
theorem dX7_forOne_109 : decode cX7_forOne 109 = .ok (.iinc 4 1, 3) := by decide +kernel
theorem dX7_forOne_112 : decode cX7_forOne 112 = .ok (.goto (-72), 3) := by decide +kernel
theorem dX7_forOne_115 : decode cX7_forOne 115 = .ok (.iinc 3 1, 3) := by decide +kernel
theorem dX7_forOne_118 : decode cX7_forOne 118 = .ok (.goto (-87), 3) := by decide +kernel
theorem dX7_forOne_121 : decode cX7_forOne 121 = .ok (.iconst (-1), 1) := by decide +kernel
theorem dX7_forOne_122 : decode cX7_forOne 122 = .ok (.ireturn, 1) := by decide +kernel
theorem dX7_worthOf_0 : decode cX7_worthOf 0 = .ok (.aload_n 0, 1) := by decide +kernel
theorem dX7_worthOf_1 : decode cX7_worthOf 1 = .ok (.invokevirtual 172, 3) := by decide +kernel
theorem dX7_worthOf_4 : decode cX7_worthOf 4 = .ok (.iconst 0, 1) := by decide +kernel
theorem dX7_worthOf_5 : decode cX7_worthOf 5 = .ok (.istore_n 2, 1) := by decide +kernel
theorem dX7_worthOf_6 : decode cX7_worthOf 6 = .ok (.iconst 0, 1) := by decide +kernel
theorem dX7_worthOf_7 : decode cX7_worthOf 7 = .ok (.istore_n 3, 1) := by decide +kernel
theorem dX7_worthOf_8 : decode cX7_worthOf 8 = .ok (.iload_n 3, 1) := by decide +kernel
theorem dX7_worthOf_9 : decode cX7_worthOf 9 = .ok (.bipush 36, 2) := by decide +kernel
theorem dX7_worthOf_11 : decode cX7_worthOf 11 = .ok (.if_icmp .ge 109, 3) := by decide +kernel
theorem dX7_worthOf_14 : decode cX7_worthOf 14 = .ok (.iload_n 3, 1) := by decide +kernel
theorem dX7_worthOf_15 : decode cX7_worthOf 15 = .ok (.bipush 6, 2) := by decide +kernel
theorem dX7_worthOf_17 : decode cX7_worthOf 17 = .ok (.irem, 1) := by decide +kernel
theorem dX7_worthOf_18 : decode cX7_worthOf 18 = .ok (.istore 4, 2) := by decide +kernel
theorem dX7_worthOf_20 : decode cX7_worthOf 20 = .ok (.iload 4, 2) := by decide +kernel
theorem dX7_worthOf_22 : decode cX7_worthOf 22 = .ok (.aload_n 0, 1) := by decide +kernel
theorem dX7_worthOf_23 : decode cX7_worthOf 23 = .ok (.getfield 13, 3) := by decide +kernel
theorem dX7_worthOf_26 : decode cX7_worthOf 26 = .ok (.iconst 1, 1) := by decide +kernel
theorem dX7_worthOf_27 : decode cX7_worthOf 27 = .ok (.iaload, 1) := by decide +kernel
theorem dX7_worthOf_28 : decode cX7_worthOf 28 = .ok (.if_icmp .ge 86, 3) := by decide +kernel
theorem dX7_worthOf_31 : decode cX7_worthOf 31 = .ok (.aload_n 0, 1) := by decide +kernel
theorem dX7_worthOf_32 : decode cX7_worthOf 32 = .ok (.getfield 51, 3) := by decide +kernel
theorem dX7_worthOf_35 : decode cX7_worthOf 35 = .ok (.iload 4, 2) := by decide +kernel
theorem dX7_worthOf_37 : decode cX7_worthOf 37 = .ok (.iaload, 1) := by decide +kernel
theorem dX7_worthOf_38 : decode cX7_worthOf 38 = .ok (.iload_n 3, 1) := by decide +kernel
theorem dX7_worthOf_39 : decode cX7_worthOf 39 = .ok (.bipush 6, 2) := by decide +kernel
theorem dX7_worthOf_41 : decode cX7_worthOf 41 = .ok (.idiv, 1) := by decide +kernel
theorem dX7_worthOf_42 : decode cX7_worthOf 42 = .ok (.if_icmp .ne 72, 3) := by decide +kernel
theorem dX7_worthOf_45 : decode cX7_worthOf 45 = .ok (.aload_n 0, 1) := by decide +kernel
theorem dX7_worthOf_46 : decode cX7_worthOf 46 = .ok (.getfield 22, 3) := by decide +kernel
theorem dX7_worthOf_49 : decode cX7_worthOf 49 = .ok (.bipush 31, 2) := by decide +kernel
theorem dX7_worthOf_51 : decode cX7_worthOf 51 = .ok (.iaload, 1) := by decide +kernel
theorem dX7_worthOf_52 : decode cX7_worthOf 52 = .ok (.iconst (-1), 1) := by decide +kernel
theorem dX7_worthOf_53 : decode cX7_worthOf 53 = .ok (.if_icmp .ne 61, 3) := by decide +kernel
theorem dX7_worthOf_56 : decode cX7_worthOf 56 = .ok (.aload_n 0, 1) := by decide +kernel
theorem dX7_worthOf_57 : decode cX7_worthOf 57 = .ok (.iload 4, 2) := by decide +kernel
theorem dX7_worthOf_59 : decode cX7_worthOf 59 = .ok (.iconst 0, 1) := by decide +kernel
theorem dX7_worthOf_60 : decode cX7_worthOf 60 = .ok (.invokevirtual 176, 3) := by decide +kernel
theorem dX7_worthOf_63 : decode cX7_worthOf 63 = .ok (.istore 5, 2) := by decide +kernel
theorem dX7_worthOf_65 : decode cX7_worthOf 65 = .ok (.iload_n 2, 1) := by decide +kernel
theorem dX7_worthOf_66 : decode cX7_worthOf 66 = .ok (.iload 4, 2) := by decide +kernel
theorem dX7_worthOf_68 : decode cX7_worthOf 68 = .ok (.iload_n 1, 1) := by decide +kernel
theorem dX7_worthOf_69 : decode cX7_worthOf 69 = .ok (.if_icmp .ne 12, 3) := by decide +kernel
theorem dX7_worthOf_72 : decode cX7_worthOf 72 = .ok (.aload_n 0, 1) := by decide +kernel
theorem dX7_worthOf_73 : decode cX7_worthOf 73 = .ok (.getfield 13, 3) := by decide +kernel
theorem dX7_worthOf_76 : decode cX7_worthOf 76 = .ok (.iconst 3, 1) := by decide +kernel
theorem dX7_worthOf_77 : decode cX7_worthOf 77 = .ok (.iaload, 1) := by decide +kernel
theorem dX7_worthOf_78 : decode cX7_worthOf 78 = .ok (.goto 4, 3) := by decide +kernel
theorem dX7_worthOf_81 : decode cX7_worthOf 81 = .ok (.iconst 0, 1) := by decide +kernel
theorem dX7_worthOf_82 : decode cX7_worthOf 82 = .ok (.isub, 1) := by decide +kernel
theorem dX7_worthOf_83 : decode cX7_worthOf 83 = .ok (.istore_n 2, 1) := by decide +kernel
theorem dX7_worthOf_84 : decode cX7_worthOf 84 = .ok (.iload_n 2, 1) := by decide +kernel
theorem dX7_worthOf_85 : decode cX7_worthOf 85 = .ok (.iload 4, 2) := by decide +kernel
theorem dX7_worthOf_87 : decode cX7_worthOf 87 = .ok (.iload_n 1, 1) := by decide +kernel
theorem dX7_worthOf_88 : decode cX7_worthOf 88 = .ok (.if_icmp .ne 23, 3) := by decide +kernel
theorem dX7_worthOf_91 : decode cX7_worthOf 91 = .ok (.aload_n 0, 1) := by decide +kernel
theorem dX7_worthOf_92 : decode cX7_worthOf 92 = .ok (.getfield 22, 3) := by decide +kernel
theorem dX7_worthOf_95 : decode cX7_worthOf 95 = .ok (.bipush 31, 2) := by decide +kernel
theorem dX7_worthOf_97 : decode cX7_worthOf 97 = .ok (.iaload, 1) := by decide +kernel
theorem dX7_worthOf_98 : decode cX7_worthOf 98 = .ok (.iload_n 1, 1) := by decide +kernel
theorem dX7_worthOf_99 : decode cX7_worthOf 99 = .ok (.if_icmp .ne 12, 3) := by decide +kernel
theorem dX7_worthOf_102 : decode cX7_worthOf 102 = .ok (.aload_n 0, 1) := by decide +kernel
theorem dX7_worthOf_103 : decode cX7_worthOf 103 = .ok (.getfield 13, 3) := by decide +kernel
theorem dX7_worthOf_106 : decode cX7_worthOf 106 = .ok (.iconst 2, 1) := by decide +kernel
theorem dX7_worthOf_107 : decode cX7_worthOf 107 = .ok (.iaload, 1) := by decide +kernel
theorem dX7_worthOf_108 : decode cX7_worthOf 108 = .ok (.goto 4, 3) := by decide +kernel
theorem dX7_worthOf_111 : decode cX7_worthOf 111 = .ok (.iconst 0, 1) := by decide +kernel
theorem dX7_worthOf_112 : decode cX7_worthOf 112 = .ok (.iadd, 1) := by decide +kernel
theorem dX7_worthOf_113 : decode cX7_worthOf 113 = .ok (.istore_n 2, 1) := by decide +kernel
theorem dX7_worthOf_114 : decode cX7_worthOf 114 = .ok (.iinc 3 1, 3) := by decide +kernel
theorem dX7_worthOf_117 : decode cX7_worthOf 117 = .ok (.goto (-109), 3) := by decide +kernel
theorem dX7_worthOf_120 : decode cX7_worthOf 120 = .ok (.iload_n 2, 1) := by decide +kernel
theorem dX7_worthOf_121 : decode cX7_worthOf 121 = .ok (.ireturn, 1) := by decide +kernel
theorem dX7_bestTurn_0 : decode cX7_bestTurn 0 = .ok (.bipush 6, 2) := by decide +kernel
theorem dX7_bestTurn_2 : decode cX7_bestTurn 2 = .ok (.istore_n 2, 1) := by decide +kernel
theorem dX7_bestTurn_3 : decode cX7_bestTurn 3 = .ok (.iconst 0, 1) := by decide +kernel
theorem dX7_bestTurn_4 : decode cX7_bestTurn 4 = .ok (.istore_n 3, 1) := by decide +kernel
theorem dX7_bestTurn_5 : decode cX7_bestTurn 5 = .ok (.bipush 6, 2) := by decide +kernel
theorem dX7_bestTurn_7 : decode cX7_bestTurn 7 = .ok (.istore 4, 2) := by decide +kernel
theorem dX7_bestTurn_9 : decode cX7_bestTurn 9 = .ok (.iload 4, 2) := by decide +kernel
theorem dX7_bestTurn_11 : decode cX7_bestTurn 11 = .ok (.ifCond .lt 64, 3) := by decide +kernel
theorem dX7_bestTurn_14 : decode cX7_bestTurn 14 = .ok (.aload_n 0, 1) := by decide +kernel
theorem dX7_bestTurn_15 : decode cX7_bestTurn 15 = .ok (.getfield 51, 3) := by decide +kernel
theorem dX7_bestTurn_18 : decode cX7_bestTurn 18 = .ok (.iload_n 1, 1) := by decide +kernel
theorem dX7_bestTurn_19 : decode cX7_bestTurn 19 = .ok (.iload 4, 2) := by decide +kernel
theorem dX7_bestTurn_21 : decode cX7_bestTurn 21 = .ok (.iastore, 1) := by decide +kernel
theorem dX7_bestTurn_22 : decode cX7_bestTurn 22 = .ok (.aload_n 0, 1) := by decide +kernel
theorem dX7_bestTurn_23 : decode cX7_bestTurn 23 = .ok (.iload_n 1, 1) := by decide +kernel
theorem dX7_bestTurn_24 : decode cX7_bestTurn 24 = .ok (.invokevirtual 213, 3) := by decide +kernel
theorem dX7_bestTurn_27 : decode cX7_bestTurn 27 = .ok (.istore 5, 2) := by decide +kernel
theorem dX7_bestTurn_29 : decode cX7_bestTurn 29 = .ok (.iload 4, 2) := by decide +kernel
theorem dX7_bestTurn_31 : decode cX7_bestTurn 31 = .ok (.bipush 6, 2) := by decide +kernel
theorem dX7_bestTurn_33 : decode cX7_bestTurn 33 = .ok (.if_icmp .eq 9, 3) := by decide +kernel
theorem dX7_bestTurn_36 : decode cX7_bestTurn 36 = .ok (.iload 5, 2) := by decide +kernel
theorem dX7_bestTurn_38 : decode cX7_bestTurn 38 = .ok (.iload_n 3, 1) := by decide +kernel
theorem dX7_bestTurn_39 : decode cX7_bestTurn 39 = .ok (.if_icmp .le 8, 3) := by decide +kernel
theorem dX7_bestTurn_42 : decode cX7_bestTurn 42 = .ok (.iload 4, 2) := by decide +kernel
theorem dX7_bestTurn_44 : decode cX7_bestTurn 44 = .ok (.goto 4, 3) := by decide +kernel
theorem dX7_bestTurn_47 : decode cX7_bestTurn 47 = .ok (.iload_n 2, 1) := by decide +kernel
theorem dX7_bestTurn_48 : decode cX7_bestTurn 48 = .ok (.istore_n 2, 1) := by decide +kernel
theorem dX7_bestTurn_49 : decode cX7_bestTurn 49 = .ok (.iload 4, 2) := by decide +kernel
theorem dX7_bestTurn_51 : decode cX7_bestTurn 51 = .ok (.bipush 6, 2) := by decide +kernel
theorem dX7_bestTurn_53 : decode cX7_bestTurn 53 = .ok (.if_icmp .eq 9, 3) := by decide +kernel
theorem dX7_bestTurn_56 : decode cX7_bestTurn 56 = .ok (.iload 5, 2) := by decide +kernel
theorem dX7_bestTurn_58 : decode cX7_bestTurn 58 = .ok (.iload_n 3, 1) := by decide +kernel
theorem dX7_bestTurn_59 : decode cX7_bestTurn 59 = .ok (.if_icmp .le 8, 3) := by decide +kernel
theorem dX7_bestTurn_62 : decode cX7_bestTurn 62 = .ok (.iload 5, 2) := by decide +kernel
theorem dX7_bestTurn_64 : decode cX7_bestTurn 64 = .ok (.goto 4, 3) := by decide +kernel
theorem dX7_bestTurn_67 : decode cX7_bestTurn 67 = .ok (.iload_n 3, 1) := by decide +kernel
theorem dX7_bestTurn_68 : decode cX7_bestTurn 68 = .ok (.istore_n 3, 1) := by decide +kernel
theorem dX7_bestTurn_69 : decode cX7_bestTurn 69 = .ok (.iinc 4 (-1), 3) := by decide +kernel
theorem dX7_bestTurn_72 : decode cX7_bestTurn 72 = .ok (.goto (-63), 3) := by decide +kernel
theorem dX7_bestTurn_75 : decode cX7_bestTurn 75 = .ok (.iload_n 2, 1) := by decide +kernel
theorem dX7_bestTurn_76 : decode cX7_bestTurn 76 = .ok (.ireturn, 1) := by decide +kernel
theorem dX7_rests_0 : decode cX7_rests 0 = .ok (.iload_n 1, 1) := by decide +kernel
theorem dX7_rests_1 : decode cX7_rests 1 = .ok (.iconst (-1), 1) := by decide +kernel
theorem dX7_rests_2 : decode cX7_rests 2 = .ok (.aload_n 0, 1) := by decide +kernel
theorem dX7_rests_3 : decode cX7_rests 3 = .ok (.getfield 13, 3) := by decide +kernel
theorem dX7_rests_6 : decode cX7_rests 6 = .ok (.iconst 1, 1) := by decide +kernel
theorem dX7_rests_7 : decode cX7_rests 7 = .ok (.iaload, 1) := by decide +kernel
theorem dX7_rests_8 : decode cX7_rests 8 = .ok (.iconst 1, 1) := by decide +kernel
theorem dX7_rests_9 : decode cX7_rests 9 = .ok (.isub, 1) := by decide +kernel
theorem dX7_rests_10 : decode cX7_rests 10 = .ok (.invokestatic 61, 3) := by decide +kernel
theorem dX7_rests_13 : decode cX7_rests 13 = .ok (.ifCond .ne 6, 3) := by decide +kernel
theorem dX7_rests_16 : decode cX7_rests 16 = .ok (.ldc 161, 2) := by decide +kernel
theorem dX7_rests_18 : decode cX7_rests 18 = .ok (.ireturn, 1) := by decide +kernel
theorem dX7_rests_19 : decode cX7_rests 19 = .ok (.iconst 0, 1) := by decide +kernel
theorem dX7_rests_20 : decode cX7_rests 20 = .ok (.istore_n 2, 1) := by decide +kernel
theorem dX7_rests_21 : decode cX7_rests 21 = .ok (.iload_n 2, 1) := by decide +kernel
theorem dX7_rests_22 : decode cX7_rests 22 = .ok (.bipush 6, 2) := by decide +kernel
theorem dX7_rests_24 : decode cX7_rests 24 = .ok (.if_icmp .ge 17, 3) := by decide +kernel
theorem dX7_rests_27 : decode cX7_rests 27 = .ok (.aload_n 0, 1) := by decide +kernel
theorem dX7_rests_28 : decode cX7_rests 28 = .ok (.getfield 51, 3) := by decide +kernel
theorem dX7_rests_31 : decode cX7_rests 31 = .ok (.iload_n 2, 1) := by decide +kernel
theorem dX7_rests_32 : decode cX7_rests 32 = .ok (.bipush 6, 2) := by decide +kernel
theorem dX7_rests_34 : decode cX7_rests 34 = .ok (.iastore, 1) := by decide +kernel
theorem dX7_rests_35 : decode cX7_rests 35 = .ok (.iinc 2 1, 3) := by decide +kernel
theorem dX7_rests_38 : decode cX7_rests 38 = .ok (.goto (-17), 3) := by decide +kernel
theorem dX7_rests_41 : decode cX7_rests 41 = .ok (.iconst 0, 1) := by decide +kernel
theorem dX7_rests_42 : decode cX7_rests 42 = .ok (.istore_n 2, 1) := by decide +kernel
theorem dX7_rests_43 : decode cX7_rests 43 = .ok (.aload_n 0, 1) := by decide +kernel
theorem dX7_rests_44 : decode cX7_rests 44 = .ok (.getfield 19, 3) := by decide +kernel
theorem dX7_rests_47 : decode cX7_rests 47 = .ok (.bipush 31, 2) := by decide +kernel
theorem dX7_rests_49 : decode cX7_rests 49 = .ok (.iaload, 1) := by decide +kernel
theorem dX7_rests_50 : decode cX7_rests 50 = .ok (.iconst (-1), 1) := by decide +kernel
theorem dX7_rests_51 : decode cX7_rests 51 = .ok (.if_icmp .ne 7, 3) := by decide +kernel
theorem dX7_rests_54 : decode cX7_rests 54 = .ok (.iconst 1, 1) := by decide +kernel
theorem dX7_rests_55 : decode cX7_rests 55 = .ok (.goto 4, 3) := by decide +kernel
theorem dX7_rests_58 : decode cX7_rests 58 = .ok (.iconst 0, 1) := by decide +kernel
theorem dX7_rests_59 : decode cX7_rests 59 = .ok (.istore_n 3, 1) := by decide +kernel
theorem dX7_rests_60 : decode cX7_rests 60 = .ok (.iload_n 3, 1) := by decide +kernel
theorem dX7_rests_61 : decode cX7_rests 61 = .ok (.ifCond .eq 90, 3) := by decide +kernel
theorem dX7_rests_64 : decode cX7_rests 64 = .ok (.iload_n 2, 1) := by decide +kernel
theorem dX7_rests_65 : decode cX7_rests 65 = .ok (.bipush 20, 2) := by decide +kernel
theorem dX7_rests_67 : decode cX7_rests 67 = .ok (.if_icmp .ge 84, 3) := by decide +kernel
theorem dX7_rests_70 : decode cX7_rests 70 = .ok (.iconst 0, 1) := by decide +kernel
theorem dX7_rests_71 : decode cX7_rests 71 = .ok (.istore_n 3, 1) := by decide +kernel
theorem dX7_rests_72 : decode cX7_rests 72 = .ok (.iconst 0, 1) := by decide +kernel
theorem dX7_rests_73 : decode cX7_rests 73 = .ok (.istore 4, 2) := by decide +kernel
theorem dX7_rests_75 : decode cX7_rests 75 = .ok (.iload 4, 2) := by decide +kernel
theorem dX7_rests_77 : decode cX7_rests 77 = .ok (.aload_n 0, 1) := by decide +kernel
theorem dX7_rests_78 : decode cX7_rests 78 = .ok (.getfield 13, 3) := by decide +kernel
theorem dX7_rests_81 : decode cX7_rests 81 = .ok (.iconst 1, 1) := by decide +kernel
theorem dX7_rests_82 : decode cX7_rests 82 = .ok (.iaload, 1) := by decide +kernel
theorem dX7_rests_83 : decode cX7_rests 83 = .ok (.if_icmp .ge 53, 3) := by decide +kernel
theorem dX7_rests_86 : decode cX7_rests 86 = .ok (.aload_n 0, 1) := by decide +kernel
theorem dX7_rests_87 : decode cX7_rests 87 = .ok (.getfield 51, 3) := by decide +kernel
theorem dX7_rests_90 : decode cX7_rests 90 = .ok (.iload 4, 2) := by decide +kernel
theorem dX7_rests_92 : decode cX7_rests 92 = .ok (.iaload, 1) := by decide +kernel
theorem dX7_rests_93 : decode cX7_rests 93 = .ok (.istore 5, 2) := by decide +kernel
theorem dX7_rests_95 : decode cX7_rests 95 = .ok (.aload_n 0, 1) := by decide +kernel
theorem dX7_rests_96 : decode cX7_rests 96 = .ok (.getfield 51, 3) := by decide +kernel
theorem dX7_rests_99 : decode cX7_rests 99 = .ok (.iload 4, 2) := by decide +kernel
theorem dX7_rests_101 : decode cX7_rests 101 = .ok (.aload_n 0, 1) := by decide +kernel
theorem dX7_rests_102 : decode cX7_rests 102 = .ok (.iload 4, 2) := by decide +kernel
theorem dX7_rests_104 : decode cX7_rests 104 = .ok (.invokevirtual 216, 3) := by decide +kernel
theorem dX7_rests_107 : decode cX7_rests 107 = .ok (.iastore, 1) := by decide +kernel
theorem dX7_rests_108 : decode cX7_rests 108 = .ok (.iload_n 3, 1) := by decide +kernel
theorem dX7_rests_109 : decode cX7_rests 109 = .ok (.ifCond .ne 15, 3) := by decide +kernel
theorem dX7_rests_112 : decode cX7_rests 112 = .ok (.aload_n 0, 1) := by decide +kernel
theorem dX7_rests_113 : decode cX7_rests 113 = .ok (.getfield 51, 3) := by decide +kernel
theorem dX7_rests_116 : decode cX7_rests 116 = .ok (.iload 4, 2) := by decide +kernel
theorem dX7_rests_118 : decode cX7_rests 118 = .ok (.iaload, 1) := by decide +kernel
theorem dX7_rests_119 : decode cX7_rests 119 = .ok (.iload 5, 2) := by decide +kernel
theorem dX7_rests_121 : decode cX7_rests 121 = .ok (.if_icmp .eq 7, 3) := by decide +kernel
theorem dX7_rests_124 : decode cX7_rests 124 = .ok (.iconst 1, 1) := by decide +kernel
theorem dX7_rests_125 : decode cX7_rests 125 = .ok (.goto 4, 3) := by decide +kernel
theorem dX7_rests_128 : decode cX7_rests 128 = .ok (.iconst 0, 1) := by decide +kernel
theorem dX7_rests_129 : decode cX7_rests 129 = .ok (.istore_n 3, 1) := by decide +kernel
theorem dX7_rests_130 : decode cX7_rests 130 = .ok (.iinc 4 1, 3) := by decide +kernel
theorem dX7_rests_133 : decode cX7_rests 133 = .ok (.goto (-58), 3) := by decide +kernel
theorem dX7_rests_136 : decode cX7_rests 136 = .ok (.iload_n 2, 1) := by decide +kernel
theorem dX7_rests_137 : decode cX7_rests 137 = .ok (.iload_n 3, 1) := by decide +kernel
theorem dX7_rests_138 : decode cX7_rests 138 = .ok (.ifCond .eq 7, 3) := by decide +kernel
theorem dX7_rests_141 : decode cX7_rests 141 = .ok (.iconst 1, 1) := by decide +kernel
theorem dX7_rests_142 : decode cX7_rests 142 = .ok (.goto 4, 3) := by decide +kernel
theorem dX7_rests_145 : decode cX7_rests 145 = .ok (.iconst 0, 1) := by decide +kernel
theorem dX7_rests_146 : decode cX7_rests 146 = .ok (.iadd, 1) := by decide +kernel
theorem dX7_rests_147 : decode cX7_rests 147 = .ok (.istore_n 2, 1) := by decide +kernel
theorem dX7_rests_148 : decode cX7_rests 148 = .ok (.goto (-88), 3) := by decide +kernel
theorem dX7_rests_151 : decode cX7_rests 151 = .ok (.iload_n 3, 1) := by decide +kernel
theorem dX7_rests_152 : decode cX7_rests 152 = .ok (.ifCond .eq 5, 3) := by decide +kernel
theorem dX7_rests_155 : decode cX7_rests 155 = .ok (.iconst (-1), 1) := by decide +kernel
theorem dX7_rests_156 : decode cX7_rests 156 = .ok (.ireturn, 1) := by decide +kernel
theorem dX7_rests_157 : decode cX7_rests 157 = .ok (.iload_n 1, 1) := by decide +kernel
theorem dX7_rests_158 : decode cX7_rests 158 = .ok (.iconst (-1), 1) := by decide +kernel
theorem dX7_rests_159 : decode cX7_rests 159 = .ok (.if_icmp .ne 7, 3) := by decide +kernel
theorem dX7_rests_162 : decode cX7_rests 162 = .ok (.iload_n 2, 1) := by decide +kernel
theorem dX7_rests_163 : decode cX7_rests 163 = .ok (.goto 24, 3) := by decide +kernel
theorem dX7_rests_166 : decode cX7_rests 166 = .ok (.aload_n 0, 1) := by decide +kernel
theorem dX7_rests_167 : decode cX7_rests 167 = .ok (.getfield 51, 3) := by decide +kernel
theorem dX7_rests_170 : decode cX7_rests 170 = .ok (.iload_n 1, 1) := by decide +kernel
theorem dX7_rests_171 : decode cX7_rests 171 = .ok (.iaload, 1) := by decide +kernel
theorem dX7_rests_172 : decode cX7_rests 172 = .ok (.bipush 6, 2) := by decide +kernel
theorem dX7_rests_174 : decode cX7_rests 174 = .ok (.if_icmp .ne 7, 3) := by decide +kernel
theorem dX7_rests_177 : decode cX7_rests 177 = .ok (.iconst (-1), 1) := by decide +kernel
theorem dX7_rests_178 : decode cX7_rests 178 = .ok (.goto 9, 3) := by decide +kernel
theorem dX7_rests_181 : decode cX7_rests 181 = .ok (.aload_n 0, 1) := by decide +kernel
theorem dX7_rests_182 : decode cX7_rests 182 = .ok (.getfield 51, 3) := by decide +kernel
theorem dX7_rests_185 : decode cX7_rests 185 = .ok (.iload_n 1, 1) := by decide +kernel
theorem dX7_rests_186 : decode cX7_rests 186 = .ok (.iaload, 1) := by decide +kernel
theorem dX7_rests_187 : decode cX7_rests 187 = .ok (.ireturn, 1) := by decide +kernel
theorem dX7_tower_0 : decode cX7_tower 0 = .ok (.aload_n 0, 1) := by decide +kernel
theorem dX7_tower_1 : decode cX7_tower 1 = .ok (.iload_n 1, 1) := by decide +kernel
theorem dX7_tower_2 : decode cX7_tower 2 = .ok (.invokevirtual 169, 3) := by decide +kernel
theorem dX7_tower_5 : decode cX7_tower 5 = .ok (.ifCond .eq 16, 3) := by decide +kernel
theorem dX7_tower_8 : decode cX7_tower 8 = .ok (.aload_n 0, 1) := by decide +kernel
theorem dX7_tower_9 : decode cX7_tower 9 = .ok (.iload_n 2, 1) := by decide +kernel
theorem dX7_tower_10 : decode cX7_tower 10 = .ok (.invokevirtual 169, 3) := by decide +kernel
theorem dX7_tower_13 : decode cX7_tower 13 = .ok (.ifCond .eq 8, 3) := by decide +kernel
theorem dX7_tower_16 : decode cX7_tower 16 = .ok (.iload_n 1, 1) := by decide +kernel
theorem dX7_tower_17 : decode cX7_tower 17 = .ok (.iload_n 2, 1) := by decide +kernel
theorem dX7_tower_18 : decode cX7_tower 18 = .ok (.if_icmp .ne 6, 3) := by decide +kernel
theorem dX7_tower_21 : decode cX7_tower 21 = .ok (.ldc 161, 2) := by decide +kernel
theorem dX7_tower_23 : decode cX7_tower 23 = .ok (.ireturn, 1) := by decide +kernel
theorem dX7_tower_24 : decode cX7_tower 24 = .ok (.aload_n 0, 1) := by decide +kernel
theorem dX7_tower_25 : decode cX7_tower 25 = .ok (.getfield 13, 3) := by decide +kernel
theorem dX7_tower_28 : decode cX7_tower 28 = .ok (.iconst 0, 1) := by decide +kernel
theorem dX7_tower_29 : decode cX7_tower 29 = .ok (.iaload, 1) := by decide +kernel
theorem dX7_tower_30 : decode cX7_tower 30 = .ok (.ifCond .ne 6, 3) := by decide +kernel
theorem dX7_tower_33 : decode cX7_tower 33 = .ok (.ldc 175, 2) := by decide +kernel
theorem dX7_tower_35 : decode cX7_tower 35 = .ok (.ireturn, 1) := by decide +kernel
theorem dX7_tower_36 : decode cX7_tower 36 = .ok (.aload_n 0, 1) := by decide +kernel
theorem dX7_tower_37 : decode cX7_tower 37 = .ok (.invokevirtual 172, 3) := by decide +kernel
theorem dX7_tower_40 : decode cX7_tower 40 = .ok (.aload_n 0, 1) := by decide +kernel
theorem dX7_tower_41 : decode cX7_tower 41 = .ok (.getfield 13, 3) := by decide +kernel
theorem dX7_tower_44 : decode cX7_tower 44 = .ok (.bipush 12, 2) := by decide +kernel
theorem dX7_tower_46 : decode cX7_tower 46 = .ok (.iload_n 1, 1) := by decide +kernel
theorem dX7_tower_47 : decode cX7_tower 47 = .ok (.iadd, 1) := by decide +kernel
theorem dX7_tower_48 : decode cX7_tower 48 = .ok (.iaload, 1) := by decide +kernel
theorem dX7_tower_49 : decode cX7_tower 49 = .ok (.iconst 2, 1) := by decide +kernel
theorem dX7_tower_50 : decode cX7_tower 50 = .ok (.aload_n 0, 1) := by decide +kernel
theorem dX7_tower_51 : decode cX7_tower 51 = .ok (.getfield 13, 3) := by decide +kernel
theorem dX7_tower_54 : decode cX7_tower 54 = .ok (.bipush 6, 2) := by decide +kernel
theorem dX7_tower_56 : decode cX7_tower 56 = .ok (.iload_n 2, 1) := by decide +kernel
theorem dX7_tower_57 : decode cX7_tower 57 = .ok (.iadd, 1) := by decide +kernel
theorem dX7_tower_58 : decode cX7_tower 58 = .ok (.iaload, 1) := by decide +kernel
theorem dX7_tower_59 : decode cX7_tower 59 = .ok (.imul, 1) := by decide +kernel
theorem dX7_tower_60 : decode cX7_tower 60 = .ok (.if_icmp .ge 7, 3) := by decide +kernel
theorem dX7_tower_63 : decode cX7_tower 63 = .ok (.iconst (-1), 1) := by decide +kernel
theorem dX7_tower_64 : decode cX7_tower 64 = .ok (.goto 24, 3) := by decide +kernel
theorem dX7_tower_67 : decode cX7_tower 67 = .ok (.aload_n 0, 1) := by decide +kernel
theorem dX7_tower_68 : decode cX7_tower 68 = .ok (.iload_n 2, 1) := by decide +kernel
theorem dX7_tower_69 : decode cX7_tower 69 = .ok (.aload_n 0, 1) := by decide +kernel
theorem dX7_tower_70 : decode cX7_tower 70 = .ok (.getfield 13, 3) := by decide +kernel
theorem dX7_tower_73 : decode cX7_tower 73 = .ok (.iconst 0, 1) := by decide +kernel
theorem dX7_tower_74 : decode cX7_tower 74 = .ok (.iaload, 1) := by decide +kernel
theorem dX7_tower_75 : decode cX7_tower 75 = .ok (.iconst 5, 1) := by decide +kernel
theorem dX7_tower_76 : decode cX7_tower 76 = .ok (.if_icmp .gt 7, 3) := by decide +kernel
theorem dX7_tower_79 : decode cX7_tower 79 = .ok (.iconst 0, 1) := by decide +kernel
theorem dX7_tower_80 : decode cX7_tower 80 = .ok (.goto 4, 3) := by decide +kernel
theorem dX7_tower_83 : decode cX7_tower 83 = .ok (.iconst 5, 1) := by decide +kernel
theorem dX7_tower_84 : decode cX7_tower 84 = .ok (.iconst 0, 1) := by decide +kernel
theorem dX7_tower_85 : decode cX7_tower 85 = .ok (.invokevirtual 165, 3) := by decide +kernel
theorem dX7_tower_88 : decode cX7_tower 88 = .ok (.ireturn, 1) := by decide +kernel
theorem dX7_list_0 : decode cX7_list 0 = .ok (.aload_n 0, 1) := by decide +kernel
theorem dX7_list_1 : decode cX7_list 1 = .ok (.iload_n 1, 1) := by decide +kernel
theorem dX7_list_2 : decode cX7_list 2 = .ok (.invokevirtual 169, 3) := by decide +kernel
theorem dX7_list_5 : decode cX7_list 5 = .ok (.ifCond .ne 6, 3) := by decide +kernel
theorem dX7_list_8 : decode cX7_list 8 = .ok (.ldc 161, 2) := by decide +kernel
theorem dX7_list_10 : decode cX7_list 10 = .ok (.ireturn, 1) := by decide +kernel
theorem dX7_list_11 : decode cX7_list 11 = .ok (.iload_n 2, 1) := by decide +kernel
theorem dX7_list_12 : decode cX7_list 12 = .ok (.iconst 0, 1) := by decide +kernel
theorem dX7_list_13 : decode cX7_list 13 = .ok (.bipush 30, 2) := by decide +kernel
theorem dX7_list_15 : decode cX7_list 15 = .ok (.invokestatic 61, 3) := by decide +kernel
theorem dX7_list_18 : decode cX7_list 18 = .ok (.ifCond .ne 6, 3) := by decide +kernel
theorem dX7_list_21 : decode cX7_list 21 = .ok (.ldc 65, 2) := by decide +kernel
theorem dX7_list_23 : decode cX7_list 23 = .ok (.ireturn, 1) := by decide +kernel
theorem dX7_list_24 : decode cX7_list 24 = .ok (.aload_n 0, 1) := by decide +kernel
theorem dX7_list_25 : decode cX7_list 25 = .ok (.getfield 151, 3) := by decide +kernel
theorem dX7_list_28 : decode cX7_list 28 = .ok (.bipush 12, 2) := by decide +kernel
theorem dX7_list_30 : decode cX7_list 30 = .ok (.if_icmp .ne 6, 3) := by decide +kernel
theorem dX7_list_33 : decode cX7_list 33 = .ok (.ldc 69, 2) := by decide +kernel
theorem dX7_list_35 : decode cX7_list 35 = .ok (.ireturn, 1) := by decide +kernel
theorem dX7_list_36 : decode cX7_list 36 = .ok (.aload_n 0, 1) := by decide +kernel
theorem dX7_list_37 : decode cX7_list 37 = .ok (.getfield 35, 3) := by decide +kernel
theorem dX7_list_40 : decode cX7_list 40 = .ok (.aload_n 0, 1) := by decide +kernel
theorem dX7_list_41 : decode cX7_list 41 = .ok (.getfield 151, 3) := by decide +kernel
theorem dX7_list_44 : decode cX7_list 44 = .ok (.iload_n 1, 1) := by decide +kernel
theorem dX7_list_45 : decode cX7_list 45 = .ok (.iastore, 1) := by decide +kernel
theorem dX7_list_46 : decode cX7_list 46 = .ok (.aload_n 0, 1) := by decide +kernel
theorem dX7_list_47 : decode cX7_list 47 = .ok (.getfield 38, 3) := by decide +kernel
theorem dX7_list_50 : decode cX7_list 50 = .ok (.aload_n 0, 1) := by decide +kernel
theorem dX7_list_51 : decode cX7_list 51 = .ok (.getfield 151, 3) := by decide +kernel
theorem dX7_list_54 : decode cX7_list 54 = .ok (.iload_n 2, 1) := by decide +kernel
theorem dX7_list_55 : decode cX7_list 55 = .ok (.iastore, 1) := by decide +kernel
theorem dX7_list_56 : decode cX7_list 56 = .ok (.aload_n 0, 1) := by decide +kernel
theorem dX7_list_57 : decode cX7_list 57 = .ok (.dup, 1) := by decide +kernel
theorem dX7_list_58 : decode cX7_list 58 = .ok (.getfield 151, 3) := by decide +kernel
theorem dX7_list_61 : decode cX7_list 61 = .ok (.iconst 1, 1) := by decide +kernel
theorem dX7_list_62 : decode cX7_list 62 = .ok (.iadd, 1) := by decide +kernel
theorem dX7_list_63 : decode cX7_list 63 = .ok (.putfield 151, 3) := by decide +kernel
theorem dX7_list_66 : decode cX7_list 66 = .ok (.aload_n 0, 1) := by decide +kernel
theorem dX7_list_67 : decode cX7_list 67 = .ok (.getfield 151, 3) := by decide +kernel
theorem dX7_list_70 : decode cX7_list 70 = .ok (.ireturn, 1) := by decide +kernel
theorem dX7_tear_0 : decode cX7_tear 0 = .ok (.aload_n 0, 1) := by decide +kernel
theorem dX7_tear_1 : decode cX7_tear 1 = .ok (.getfield 151, 3) := by decide +kernel
theorem dX7_tear_4 : decode cX7_tear 4 = .ok (.istore_n 1, 1) := by decide +kernel
theorem dX7_tear_5 : decode cX7_tear 5 = .ok (.aload_n 0, 1) := by decide +kernel
theorem dX7_tear_6 : decode cX7_tear 6 = .ok (.iconst 0, 1) := by decide +kernel
theorem dX7_tear_7 : decode cX7_tear 7 = .ok (.putfield 151, 3) := by decide +kernel
theorem dX7_tear_10 : decode cX7_tear 10 = .ok (.iload_n 1, 1) := by decide +kernel
theorem dX7_tear_11 : decode cX7_tear 11 = .ok (.ireturn, 1) := by decide +kernel
theorem dX7_enough_0 : decode cX7_enough 0 = .ok (.iload_n 1, 1) := by decide +kernel
theorem dX7_enough_1 : decode cX7_enough 1 = .ok (.iconst 0, 1) := by decide +kernel
theorem dX7_enough_2 : decode cX7_enough 2 = .ok (.bipush 11, 2) := by decide +kernel
theorem dX7_enough_4 : decode cX7_enough 4 = .ok (.invokestatic 61, 3) := by decide +kernel
theorem dX7_enough_7 : decode cX7_enough 7 = .ok (.ifCond .ne 6, 3) := by decide +kernel
theorem dX7_enough_10 : decode cX7_enough 10 = .ok (.ldc 65, 2) := by decide +kernel
theorem dX7_enough_12 : decode cX7_enough 12 = .ok (.ireturn, 1) := by decide +kernel
theorem dX7_enough_13 : decode cX7_enough 13 = .ok (.iconst 0, 1) := by decide +kernel
theorem dX7_enough_14 : decode cX7_enough 14 = .ok (.istore_n 2, 1) := by decide +kernel
theorem dX7_enough_15 : decode cX7_enough 15 = .ok (.iload_n 2, 1) := by decide +kernel
theorem dX7_enough_16 : decode cX7_enough 16 = .ok (.bipush 99, 2) := by decide +kernel
theorem dX7_enough_18 : decode cX7_enough 18 = .ok (.if_icmp .gt 114, 3) := by decide +kernel
theorem dX7_enough_21 : decode cX7_enough 21 = .ok (.iload_n 1, 1) := by decide +kernel
theorem dX7_enough_22 : decode cX7_enough 22 = .ok (.aload_n 0, 1) := by decide +kernel
theorem dX7_enough_23 : decode cX7_enough 23 = .ok (.getfield 151, 3) := by decide +kernel
theorem dX7_enough_26 : decode cX7_enough 26 = .ok (.if_icmp .ge 106, 3) := by decide +kernel
theorem dX7_enough_29 : decode cX7_enough 29 = .ok (.aload_n 0, 1) := by decide +kernel
theorem dX7_enough_30 : decode cX7_enough 30 = .ok (.getfield 19, 3) := by decide +kernel
theorem dX7_enough_33 : decode cX7_enough 33 = .ok (.bipush 31, 2) := by decide +kernel
theorem dX7_enough_35 : decode cX7_enough 35 = .ok (.iaload, 1) := by decide +kernel
theorem dX7_enough_36 : decode cX7_enough 36 = .ok (.iconst (-1), 1) := by decide +kernel
theorem dX7_enough_37 : decode cX7_enough 37 = .ok (.if_icmp .ne 95, 3) := by decide +kernel
theorem dX7_enough_40 : decode cX7_enough 40 = .ok (.aload_n 0, 1) := by decide +kernel
theorem dX7_enough_41 : decode cX7_enough 41 = .ok (.invokevirtual 172, 3) := by decide +kernel
theorem dX7_enough_44 : decode cX7_enough 44 = .ok (.iconst 0, 1) := by decide +kernel
theorem dX7_enough_45 : decode cX7_enough 45 = .ok (.istore_n 3, 1) := by decide +kernel
theorem dX7_enough_46 : decode cX7_enough 46 = .ok (.iload_n 3, 1) := by decide +kernel
theorem dX7_enough_47 : decode cX7_enough 47 = .ok (.aload_n 0, 1) := by decide +kernel
theorem dX7_enough_48 : decode cX7_enough 48 = .ok (.getfield 13, 3) := by decide +kernel
theorem dX7_enough_51 : decode cX7_enough 51 = .ok (.iconst 0, 1) := by decide +kernel
theorem dX7_enough_52 : decode cX7_enough 52 = .ok (.iaload, 1) := by decide +kernel
theorem dX7_enough_53 : decode cX7_enough 53 = .ok (.if_icmp .ge 16, 3) := by decide +kernel
theorem dX7_enough_56 : decode cX7_enough 56 = .ok (.aload_n 0, 1) := by decide +kernel
theorem dX7_enough_57 : decode cX7_enough 57 = .ok (.getfield 22, 3) := by decide +kernel
theorem dX7_enough_60 : decode cX7_enough 60 = .ok (.iload_n 3, 1) := by decide +kernel
theorem dX7_enough_61 : decode cX7_enough 61 = .ok (.iload_n 2, 1) := by decide +kernel
theorem dX7_enough_62 : decode cX7_enough 62 = .ok (.iastore, 1) := by decide +kernel
theorem dX7_enough_63 : decode cX7_enough 63 = .ok (.iinc 3 1, 3) := by decide +kernel
theorem dX7_enough_66 : decode cX7_enough 66 = .ok (.goto (-20), 3) := by decide +kernel
theorem dX7_enough_69 : decode cX7_enough 69 = .ok (.iconst 0, 1) := by decide +kernel
theorem dX7_enough_70 : decode cX7_enough 70 = .ok (.istore_n 3, 1) := by decide +kernel
theorem dX7_enough_71 : decode cX7_enough 71 = .ok (.iload_n 3, 1) := by decide +kernel
theorem dX7_enough_72 : decode cX7_enough 72 = .ok (.iload_n 1, 1) := by decide +kernel
theorem dX7_enough_73 : decode cX7_enough 73 = .ok (.if_icmp .gt 33, 3) := by decide +kernel
theorem dX7_enough_76 : decode cX7_enough 76 = .ok (.aload_n 0, 1) := by decide +kernel
theorem dX7_enough_77 : decode cX7_enough 77 = .ok (.getfield 22, 3) := by decide +kernel
theorem dX7_enough_80 : decode cX7_enough 80 = .ok (.bipush 31, 2) := by decide +kernel
theorem dX7_enough_82 : decode cX7_enough 82 = .ok (.iaload, 1) := by decide +kernel
theorem dX7_enough_83 : decode cX7_enough 83 = .ok (.iconst (-1), 1) := by decide +kernel
theorem dX7_enough_84 : decode cX7_enough 84 = .ok (.if_icmp .ne 22, 3) := by decide +kernel
theorem dX7_enough_87 : decode cX7_enough 87 = .ok (.aload_n 0, 1) := by decide +kernel
theorem dX7_enough_88 : decode cX7_enough 88 = .ok (.aload_n 0, 1) := by decide +kernel
theorem dX7_enough_89 : decode cX7_enough 89 = .ok (.getfield 35, 3) := by decide +kernel
theorem dX7_enough_92 : decode cX7_enough 92 = .ok (.iload_n 3, 1) := by decide +kernel
theorem dX7_enough_93 : decode cX7_enough 93 = .ok (.iaload, 1) := by decide +kernel
theorem dX7_enough_94 : decode cX7_enough 94 = .ok (.iconst 0, 1) := by decide +kernel
theorem dX7_enough_95 : decode cX7_enough 95 = .ok (.invokevirtual 176, 3) := by decide +kernel
theorem dX7_enough_98 : decode cX7_enough 98 = .ok (.istore 4, 2) := by decide +kernel
theorem dX7_enough_100 : decode cX7_enough 100 = .ok (.iinc 3 1, 3) := by decide +kernel
theorem dX7_enough_103 : decode cX7_enough 103 = .ok (.goto (-32), 3) := by decide +kernel
theorem dX7_enough_106 : decode cX7_enough 106 = .ok (.aload_n 0, 1) := by decide +kernel
theorem dX7_enough_107 : decode cX7_enough 107 = .ok (.getfield 22, 3) := by decide +kernel
theorem dX7_enough_110 : decode cX7_enough 110 = .ok (.bipush 31, 2) := by decide +kernel
theorem dX7_enough_112 : decode cX7_enough 112 = .ok (.iaload, 1) := by decide +kernel
theorem dX7_enough_113 : decode cX7_enough 113 = .ok (.iconst (-1), 1) := by decide +kernel
theorem dX7_enough_114 : decode cX7_enough 114 = .ok (.if_icmp .eq 12, 3) := by decide +kernel
theorem dX7_enough_117 : decode cX7_enough 117 = .ok (.iload_n 3, 1) := by decide +kernel
theorem dX7_enough_118 : decode cX7_enough 118 = .ok (.iload_n 1, 1) := by decide +kernel
theorem dX7_enough_119 : decode cX7_enough 119 = .ok (.iconst 1, 1) := by decide +kernel
theorem dX7_enough_120 : decode cX7_enough 120 = .ok (.iadd, 1) := by decide +kernel
theorem dX7_enough_121 : decode cX7_enough 121 = .ok (.if_icmp .ne 5, 3) := by decide +kernel
theorem dX7_enough_124 : decode cX7_enough 124 = .ok (.iload_n 2, 1) := by decide +kernel
theorem dX7_enough_125 : decode cX7_enough 125 = .ok (.ireturn, 1) := by decide +kernel
theorem dX7_enough_126 : decode cX7_enough 126 = .ok (.iinc 2 1, 3) := by decide +kernel
theorem dX7_enough_129 : decode cX7_enough 129 = .ok (.goto (-114), 3) := by decide +kernel
theorem dX7_enough_132 : decode cX7_enough 132 = .ok (.iconst (-1), 1) := by decide +kernel
theorem dX7_enough_133 : decode cX7_enough 133 = .ok (.ireturn, 1) := by decide +kernel
theorem dX7_wrongOf_0 : decode cX7_wrongOf 0 = .ok (.aload_n 0, 1) := by decide +kernel
theorem dX7_wrongOf_1 : decode cX7_wrongOf 1 = .ok (.invokevirtual 172, 3) := by decide +kernel
theorem dX7_wrongOf_4 : decode cX7_wrongOf 4 = .ok (.iconst 0, 1) := by decide +kernel
theorem dX7_wrongOf_5 : decode cX7_wrongOf 5 = .ok (.istore_n 2, 1) := by decide +kernel
theorem dX7_wrongOf_6 : decode cX7_wrongOf 6 = .ok (.iload_n 2, 1) := by decide +kernel
theorem dX7_wrongOf_7 : decode cX7_wrongOf 7 = .ok (.aload_n 0, 1) := by decide +kernel
theorem dX7_wrongOf_8 : decode cX7_wrongOf 8 = .ok (.getfield 151, 3) := by decide +kernel
theorem dX7_wrongOf_11 : decode cX7_wrongOf 11 = .ok (.if_icmp .ge 45, 3) := by decide +kernel
theorem dX7_wrongOf_14 : decode cX7_wrongOf 14 = .ok (.aload_n 0, 1) := by decide +kernel
theorem dX7_wrongOf_15 : decode cX7_wrongOf 15 = .ok (.aload_n 0, 1) := by decide +kernel
theorem dX7_wrongOf_16 : decode cX7_wrongOf 16 = .ok (.getfield 35, 3) := by decide +kernel
theorem dX7_wrongOf_19 : decode cX7_wrongOf 19 = .ok (.iload_n 2, 1) := by decide +kernel
theorem dX7_wrongOf_20 : decode cX7_wrongOf 20 = .ok (.iaload, 1) := by decide +kernel
theorem dX7_wrongOf_21 : decode cX7_wrongOf 21 = .ok (.aload_n 0, 1) := by decide +kernel
theorem dX7_wrongOf_22 : decode cX7_wrongOf 22 = .ok (.getfield 35, 3) := by decide +kernel
theorem dX7_wrongOf_25 : decode cX7_wrongOf 25 = .ok (.iload_n 2, 1) := by decide +kernel
theorem dX7_wrongOf_26 : decode cX7_wrongOf 26 = .ok (.iaload, 1) := by decide +kernel
theorem dX7_wrongOf_27 : decode cX7_wrongOf 27 = .ok (.iload_n 1, 1) := by decide +kernel
theorem dX7_wrongOf_28 : decode cX7_wrongOf 28 = .ok (.if_icmp .ne 7, 3) := by decide +kernel
theorem dX7_wrongOf_31 : decode cX7_wrongOf 31 = .ok (.iconst 1, 1) := by decide +kernel
theorem dX7_wrongOf_32 : decode cX7_wrongOf 32 = .ok (.goto 4, 3) := by decide +kernel
theorem dX7_wrongOf_35 : decode cX7_wrongOf 35 = .ok (.iconst 0, 1) := by decide +kernel
theorem dX7_wrongOf_36 : decode cX7_wrongOf 36 = .ok (.invokevirtual 176, 3) := by decide +kernel
theorem dX7_wrongOf_39 : decode cX7_wrongOf 39 = .ok (.aload_n 0, 1) := by decide +kernel
theorem dX7_wrongOf_40 : decode cX7_wrongOf 40 = .ok (.getfield 38, 3) := by decide +kernel
theorem dX7_wrongOf_43 : decode cX7_wrongOf 43 = .ok (.iload_n 2, 1) := by decide +kernel
theorem dX7_wrongOf_44 : decode cX7_wrongOf 44 = .ok (.iaload, 1) := by decide +kernel
theorem dX7_wrongOf_45 : decode cX7_wrongOf 45 = .ok (.if_icmp .eq 5, 3) := by decide +kernel
theorem dX7_wrongOf_48 : decode cX7_wrongOf 48 = .ok (.iload_n 2, 1) := by decide +kernel
theorem dX7_wrongOf_49 : decode cX7_wrongOf 49 = .ok (.ireturn, 1) := by decide +kernel
theorem dX7_wrongOf_50 : decode cX7_wrongOf 50 = .ok (.iinc 2 1, 3) := by decide +kernel
theorem dX7_wrongOf_53 : decode cX7_wrongOf 53 = .ok (.goto (-47), 3) := by decide +kernel
theorem dX7_wrongOf_56 : decode cX7_wrongOf 56 = .ok (.iconst (-1), 1) := by decide +kernel
theorem dX7_wrongOf_57 : decode cX7_wrongOf 57 = .ok (.ireturn, 1) := by decide +kernel
theorem dX7_judge_0 : decode cX7_judge 0 = .ok (.aload_n 0, 1) := by decide +kernel
theorem dX7_judge_1 : decode cX7_judge 1 = .ok (.iconst (-1), 1) := by decide +kernel
theorem dX7_judge_2 : decode cX7_judge 2 = .ok (.invokevirtual 219, 3) := by decide +kernel
theorem dX7_judge_5 : decode cX7_judge 5 = .ok (.ireturn, 1) := by decide +kernel
theorem dX7_sand_0 : decode cX7_sand 0 = .ok (.iconst 0, 1) := by decide +kernel
theorem dX7_sand_1 : decode cX7_sand 1 = .ok (.istore_n 1, 1) := by decide +kernel
theorem dX7_sand_2 : decode cX7_sand 2 = .ok (.iconst 0, 1) := by decide +kernel
theorem dX7_sand_3 : decode cX7_sand 3 = .ok (.istore_n 2, 1) := by decide +kernel
theorem dX7_sand_4 : decode cX7_sand 4 = .ok (.iload_n 2, 1) := by decide +kernel
theorem dX7_sand_5 : decode cX7_sand 5 = .ok (.aload_n 0, 1) := by decide +kernel
theorem dX7_sand_6 : decode cX7_sand 6 = .ok (.getfield 13, 3) := by decide +kernel
theorem dX7_sand_9 : decode cX7_sand 9 = .ok (.iconst 1, 1) := by decide +kernel
theorem dX7_sand_10 : decode cX7_sand 10 = .ok (.iaload, 1) := by decide +kernel
theorem dX7_sand_11 : decode cX7_sand 11 = .ok (.if_icmp .ge 28, 3) := by decide +kernel
theorem dX7_sand_14 : decode cX7_sand 14 = .ok (.iload_n 1, 1) := by decide +kernel
theorem dX7_sand_15 : decode cX7_sand 15 = .ok (.aload_n 0, 1) := by decide +kernel
theorem dX7_sand_16 : decode cX7_sand 16 = .ok (.iload_n 2, 1) := by decide +kernel
theorem dX7_sand_17 : decode cX7_sand 17 = .ok (.invokevirtual 219, 3) := by decide +kernel
theorem dX7_sand_20 : decode cX7_sand 20 = .ok (.iconst (-1), 1) := by decide +kernel
theorem dX7_sand_21 : decode cX7_sand 21 = .ok (.if_icmp .ne 9, 3) := by decide +kernel
theorem dX7_sand_24 : decode cX7_sand 24 = .ok (.iconst 1, 1) := by decide +kernel
theorem dX7_sand_25 : decode cX7_sand 25 = .ok (.iload_n 2, 1) := by decide +kernel
theorem dX7_sand_26 : decode cX7_sand 26 = .ok (.ishl, 1) := by decide +kernel
theorem dX7_sand_27 : decode cX7_sand 27 = .ok (.goto 4, 3) := by decide +kernel
theorem dX7_sand_30 : decode cX7_sand 30 = .ok (.iconst 0, 1) := by decide +kernel
theorem dX7_sand_31 : decode cX7_sand 31 = .ok (.ior, 1) := by decide +kernel
theorem dX7_sand_32 : decode cX7_sand 32 = .ok (.istore_n 1, 1) := by decide +kernel
theorem dX7_sand_33 : decode cX7_sand 33 = .ok (.iinc 2 1, 3) := by decide +kernel
theorem dX7_sand_36 : decode cX7_sand 36 = .ok (.goto (-32), 3) := by decide +kernel
theorem dX7_sand_39 : decode cX7_sand 39 = .ok (.iload_n 1, 1) := by decide +kernel
theorem dX7_sand_40 : decode cX7_sand 40 = .ok (.ireturn, 1) := by decide +kernel
theorem dX7_seed_0 : decode cX7_seed 0 = .ok (.iload_n 1, 1) := by decide +kernel
theorem dX7_seed_1 : decode cX7_seed 1 = .ok (.ifCond .ge 6, 3) := by decide +kernel
theorem dX7_seed_4 : decode cX7_seed 4 = .ok (.ldc 65, 2) := by decide +kernel
theorem dX7_seed_6 : decode cX7_seed 6 = .ok (.ireturn, 1) := by decide +kernel
theorem dX7_seed_7 : decode cX7_seed 7 = .ok (.aload_n 0, 1) := by decide +kernel
theorem dX7_seed_8 : decode cX7_seed 8 = .ok (.getfield 183, 3) := by decide +kernel
theorem dX7_seed_11 : decode cX7_seed 11 = .ok (.istore_n 2, 1) := by decide +kernel
theorem dX7_seed_12 : decode cX7_seed 12 = .ok (.aload_n 0, 1) := by decide +kernel
theorem dX7_seed_13 : decode cX7_seed 13 = .ok (.iload_n 1, 1) := by decide +kernel
theorem dX7_seed_14 : decode cX7_seed 14 = .ok (.putfield 183, 3) := by decide +kernel
theorem dX7_seed_17 : decode cX7_seed 17 = .ok (.iload_n 2, 1) := by decide +kernel
theorem dX7_seed_18 : decode cX7_seed 18 = .ok (.ireturn, 1) := by decide +kernel
theorem dX7_keep_0 : decode cX7_keep 0 = .ok (.iload_n 1, 1) := by decide +kernel
theorem dX7_keep_1 : decode cX7_keep 1 = .ok (.iconst 0, 1) := by decide +kernel
theorem dX7_keep_2 : decode cX7_keep 2 = .ok (.iconst 1, 1) := by decide +kernel
theorem dX7_keep_3 : decode cX7_keep 3 = .ok (.invokestatic 61, 3) := by decide +kernel
theorem dX7_keep_6 : decode cX7_keep 6 = .ok (.ifCond .ne 6, 3) := by decide +kernel
theorem dX7_keep_9 : decode cX7_keep 9 = .ok (.ldc 161, 2) := by decide +kernel
theorem dX7_keep_11 : decode cX7_keep 11 = .ok (.ireturn, 1) := by decide +kernel
theorem dX7_keep_12 : decode cX7_keep 12 = .ok (.iconst 0, 1) := by decide +kernel
theorem dX7_keep_13 : decode cX7_keep 13 = .ok (.istore_n 2, 1) := by decide +kernel
theorem dX7_keep_14 : decode cX7_keep 14 = .ok (.iload_n 2, 1) := by decide +kernel
theorem dX7_keep_15 : decode cX7_keep 15 = .ok (.bipush 32, 2) := by decide +kernel
theorem dX7_keep_17 : decode cX7_keep 17 = .ok (.if_icmp .ge 26, 3) := by decide +kernel
theorem dX7_keep_20 : decode cX7_keep 20 = .ok (.aload_n 0, 1) := by decide +kernel
theorem dX7_keep_21 : decode cX7_keep 21 = .ok (.getfield 25, 3) := by decide +kernel
theorem dX7_keep_24 : decode cX7_keep 24 = .ok (.bipush 32, 2) := by decide +kernel
theorem dX7_keep_26 : decode cX7_keep 26 = .ok (.iload_n 1, 1) := by decide +kernel
theorem dX7_keep_27 : decode cX7_keep 27 = .ok (.imul, 1) := by decide +kernel
theorem dX7_keep_28 : decode cX7_keep 28 = .ok (.iload_n 2, 1) := by decide +kernel
theorem dX7_keep_29 : decode cX7_keep 29 = .ok (.iadd, 1) := by decide +kernel
theorem dX7_keep_30 : decode cX7_keep 30 = .ok (.aload_n 0, 1) := by decide +kernel
theorem dX7_keep_31 : decode cX7_keep 31 = .ok (.getfield 19, 3) := by decide +kernel
theorem dX7_keep_34 : decode cX7_keep 34 = .ok (.iload_n 2, 1) := by decide +kernel
theorem dX7_keep_35 : decode cX7_keep 35 = .ok (.iaload, 1) := by decide +kernel
theorem dX7_keep_36 : decode cX7_keep 36 = .ok (.iastore, 1) := by decide +kernel
theorem dX7_keep_37 : decode cX7_keep 37 = .ok (.iinc 2 1, 3) := by decide +kernel
theorem dX7_keep_40 : decode cX7_keep 40 = .ok (.goto (-26), 3) := by decide +kernel
theorem dX7_keep_43 : decode cX7_keep 43 = .ok (.aload_n 0, 1) := by decide +kernel
theorem dX7_keep_44 : decode cX7_keep 44 = .ok (.getfield 28, 3) := by decide +kernel
theorem dX7_keep_47 : decode cX7_keep 47 = .ok (.iload_n 1, 1) := by decide +kernel
theorem dX7_keep_48 : decode cX7_keep 48 = .ok (.aload_n 0, 1) := by decide +kernel
theorem dX7_keep_49 : decode cX7_keep 49 = .ok (.getfield 183, 3) := by decide +kernel
theorem dX7_keep_52 : decode cX7_keep 52 = .ok (.iastore, 1) := by decide +kernel
theorem dX7_keep_53 : decode cX7_keep 53 = .ok (.aload_n 0, 1) := by decide +kernel
theorem dX7_keep_54 : decode cX7_keep 54 = .ok (.getfield 31, 3) := by decide +kernel
theorem dX7_keep_57 : decode cX7_keep 57 = .ok (.iload_n 1, 1) := by decide +kernel
theorem dX7_keep_58 : decode cX7_keep 58 = .ok (.iconst 1, 1) := by decide +kernel
theorem dX7_keep_59 : decode cX7_keep 59 = .ok (.bastore, 1) := by decide +kernel
theorem dX7_keep_60 : decode cX7_keep 60 = .ok (.iconst 1, 1) := by decide +kernel
theorem dX7_keep_61 : decode cX7_keep 61 = .ok (.ireturn, 1) := by decide +kernel
theorem dX7_goBack_0 : decode cX7_goBack 0 = .ok (.iload_n 1, 1) := by decide +kernel
theorem dX7_goBack_1 : decode cX7_goBack 1 = .ok (.iconst 0, 1) := by decide +kernel
theorem dX7_goBack_2 : decode cX7_goBack 2 = .ok (.iconst 1, 1) := by decide +kernel
theorem dX7_goBack_3 : decode cX7_goBack 3 = .ok (.invokestatic 61, 3) := by decide +kernel
theorem dX7_goBack_6 : decode cX7_goBack 6 = .ok (.ifCond .ne 6, 3) := by decide +kernel
theorem dX7_goBack_9 : decode cX7_goBack 9 = .ok (.ldc 161, 2) := by decide +kernel
theorem dX7_goBack_11 : decode cX7_goBack 11 = .ok (.ireturn, 1) := by decide +kernel
theorem dX7_goBack_12 : decode cX7_goBack 12 = .ok (.aload_n 0, 1) := by decide +kernel
theorem dX7_goBack_13 : decode cX7_goBack 13 = .ok (.getfield 31, 3) := by decide +kernel
theorem dX7_goBack_16 : decode cX7_goBack 16 = .ok (.iload_n 1, 1) := by decide +kernel
theorem dX7_goBack_17 : decode cX7_goBack 17 = .ok (.baload, 1) := by decide +kernel
theorem dX7_goBack_18 : decode cX7_goBack 18 = .ok (.ifCond .ne 6, 3) := by decide +kernel
theorem dX7_goBack_21 : decode cX7_goBack 21 = .ok (.ldc 175, 2) := by decide +kernel
theorem dX7_goBack_23 : decode cX7_goBack 23 = .ok (.ireturn, 1) := by decide +kernel
theorem dX7_goBack_24 : decode cX7_goBack 24 = .ok (.iconst 0, 1) := by decide +kernel
theorem dX7_goBack_25 : decode cX7_goBack 25 = .ok (.istore_n 2, 1) := by decide +kernel
theorem dX7_goBack_26 : decode cX7_goBack 26 = .ok (.iload_n 2, 1) := by decide +kernel
theorem dX7_goBack_27 : decode cX7_goBack 27 = .ok (.bipush 32, 2) := by decide +kernel
theorem dX7_goBack_29 : decode cX7_goBack 29 = .ok (.if_icmp .ge 26, 3) := by decide +kernel
theorem dX7_goBack_32 : decode cX7_goBack 32 = .ok (.aload_n 0, 1) := by decide +kernel
theorem dX7_goBack_33 : decode cX7_goBack 33 = .ok (.getfield 19, 3) := by decide +kernel
theorem dX7_goBack_36 : decode cX7_goBack 36 = .ok (.iload_n 2, 1) := by decide +kernel
theorem dX7_goBack_37 : decode cX7_goBack 37 = .ok (.aload_n 0, 1) := by decide +kernel
theorem dX7_goBack_38 : decode cX7_goBack 38 = .ok (.getfield 25, 3) := by decide +kernel
theorem dX7_goBack_41 : decode cX7_goBack 41 = .ok (.bipush 32, 2) := by decide +kernel
theorem dX7_goBack_43 : decode cX7_goBack 43 = .ok (.iload_n 1, 1) := by decide +kernel
theorem dX7_goBack_44 : decode cX7_goBack 44 = .ok (.imul, 1) := by decide +kernel
theorem dX7_goBack_45 : decode cX7_goBack 45 = .ok (.iload_n 2, 1) := by decide +kernel
theorem dX7_goBack_46 : decode cX7_goBack 46 = .ok (.iadd, 1) := by decide +kernel
theorem dX7_goBack_47 : decode cX7_goBack 47 = .ok (.iaload, 1) := by decide +kernel
theorem dX7_goBack_48 : decode cX7_goBack 48 = .ok (.iastore, 1) := by decide +kernel
theorem dX7_goBack_49 : decode cX7_goBack 49 = .ok (.iinc 2 1, 3) := by decide +kernel
theorem dX7_goBack_52 : decode cX7_goBack 52 = .ok (.goto (-26), 3) := by decide +kernel
theorem dX7_goBack_55 : decode cX7_goBack 55 = .ok (.aload_n 0, 1) := by decide +kernel
theorem dX7_goBack_56 : decode cX7_goBack 56 = .ok (.aload_n 0, 1) := by decide +kernel
theorem dX7_goBack_57 : decode cX7_goBack 57 = .ok (.getfield 28, 3) := by decide +kernel
theorem dX7_goBack_60 : decode cX7_goBack 60 = .ok (.iload_n 1, 1) := by decide +kernel
theorem dX7_goBack_61 : decode cX7_goBack 61 = .ok (.iaload, 1) := by decide +kernel
theorem dX7_goBack_62 : decode cX7_goBack 62 = .ok (.putfield 183, 3) := by decide +kernel
theorem dX7_goBack_65 : decode cX7_goBack 65 = .ok (.iconst 1, 1) := by decide +kernel
theorem dX7_goBack_66 : decode cX7_goBack 66 = .ok (.ireturn, 1) := by decide +kernel
theorem dL_law_0 : decode cL_law 0 = .ok (.new 7, 3) := by decide +kernel
theorem dL_law_3 : decode cL_law 3 = .ok (.dup, 1) := by decide +kernel
theorem dL_law_4 : decode cL_law 4 = .ok (.invokespecial 9, 3) := by decide +kernel
theorem dL_law_7 : decode cL_law 7 = .ok (.astore_n 1, 1) := by decide +kernel
theorem dL_law_8 : decode cL_law 8 = .ok (.new 10, 3) := by decide +kernel
theorem dL_law_11 : decode cL_law 11 = .ok (.dup, 1) := by decide +kernel
theorem dL_law_12 : decode cL_law 12 = .ok (.invokespecial 12, 3) := by decide +kernel
theorem dL_law_15 : decode cL_law 15 = .ok (.astore_n 2, 1) := by decide +kernel
theorem dL_law_16 : decode cL_law 16 = .ok (.iconst 0, 1) := by decide +kernel
theorem dL_law_17 : decode cL_law 17 = .ok (.istore_n 3, 1) := by decide +kernel
theorem dL_law_18 : decode cL_law 18 = .ok (.iload_n 3, 1) := by decide +kernel
theorem dL_law_19 : decode cL_law 19 = .ok (.aload_n 0, 1) := by decide +kernel
theorem dL_law_20 : decode cL_law 20 = .ok (.arraylength, 1) := by decide +kernel
theorem dL_law_21 : decode cL_law 21 = .ok (.iconst 4, 1) := by decide +kernel
theorem dL_law_22 : decode cL_law 22 = .ok (.isub, 1) := by decide +kernel
theorem dL_law_23 : decode cL_law 23 = .ok (.if_icmp .gt 682, 3) := by decide +kernel
theorem dL_law_26 : decode cL_law 26 = .ok (.aload_n 0, 1) := by decide +kernel
theorem dL_law_27 : decode cL_law 27 = .ok (.iload_n 3, 1) := by decide +kernel
theorem dL_law_28 : decode cL_law 28 = .ok (.iaload, 1) := by decide +kernel
theorem dL_law_29 : decode cL_law 29 = .ok (.bipush 31, 2) := by decide +kernel
theorem dL_law_31 : decode cL_law 31 = .ok (.iand, 1) := by decide +kernel
theorem dL_law_32 : decode cL_law 32 = .ok (.tableswitch 667 0 22 #[108, 171, 184, 197, 220, 243, 276, 299, 342, 355, 368, 391, 414, 447, 470, 503, 536, 549, 572, 585, 598, 621, 644], 108) := by decide +kernel
theorem dL_law_140 : decode cL_law 140 = .ok (.aload_n 1, 1) := by decide +kernel
theorem dL_law_141 : decode cL_law 141 = .ok (.aload_n 0, 1) := by decide +kernel
theorem dL_law_142 : decode cL_law 142 = .ok (.iload_n 3, 1) := by decide +kernel
theorem dL_law_143 : decode cL_law 143 = .ok (.iconst 1, 1) := by decide +kernel
theorem dL_law_144 : decode cL_law 144 = .ok (.iadd, 1) := by decide +kernel
theorem dL_law_145 : decode cL_law 145 = .ok (.iaload, 1) := by decide +kernel
theorem dL_law_146 : decode cL_law 146 = .ok (.aload_n 0, 1) := by decide +kernel
theorem dL_law_147 : decode cL_law 147 = .ok (.iload_n 3, 1) := by decide +kernel
theorem dL_law_148 : decode cL_law 148 = .ok (.iconst 2, 1) := by decide +kernel
theorem dL_law_149 : decode cL_law 149 = .ok (.iadd, 1) := by decide +kernel
theorem dL_law_150 : decode cL_law 150 = .ok (.iaload, 1) := by decide +kernel
theorem dL_law_151 : decode cL_law 151 = .ok (.i2l, 1) := by decide +kernel
theorem dL_law_152 : decode cL_law 152 = .ok (.bipush 32, 2) := by decide +kernel
theorem dL_law_154 : decode cL_law 154 = .ok (.lshl, 1) := by decide +kernel
theorem dL_law_155 : decode cL_law 155 = .ok (.aload_n 0, 1) := by decide +kernel
theorem dL_law_156 : decode cL_law 156 = .ok (.iload_n 3, 1) := by decide +kernel
theorem dL_law_157 : decode cL_law 157 = .ok (.iconst 3, 1) := by decide +kernel
theorem dL_law_158 : decode cL_law 158 = .ok (.iadd, 1) := by decide +kernel
theorem dL_law_159 : decode cL_law 159 = .ok (.iaload, 1) := by decide +kernel
theorem dL_law_160 : decode cL_law 160 = .ok (.i2l, 1) := by decide +kernel
theorem dL_law_161 : decode cL_law 161 = .ok (.ldc2_w 13, 3) := by decide +kernel
theorem dL_law_164 : decode cL_law 164 = .ok (.land, 1) := by decide +kernel
theorem dL_law_165 : decode cL_law 165 = .ok (.lor, 1) := by decide +kernel
theorem dL_law_166 : decode cL_law 166 = .ok (.invokevirtual 15, 3) := by decide +kernel
theorem dL_law_169 : decode cL_law 169 = .ok (.aload_n 2, 1) := by decide +kernel
theorem dL_law_170 : decode cL_law 170 = .ok (.aload_n 0, 1) := by decide +kernel
theorem dL_law_171 : decode cL_law 171 = .ok (.iload_n 3, 1) := by decide +kernel
theorem dL_law_172 : decode cL_law 172 = .ok (.iconst 1, 1) := by decide +kernel
theorem dL_law_173 : decode cL_law 173 = .ok (.iadd, 1) := by decide +kernel
theorem dL_law_174 : decode cL_law 174 = .ok (.iaload, 1) := by decide +kernel
theorem dL_law_175 : decode cL_law 175 = .ok (.aload_n 0, 1) := by decide +kernel
theorem dL_law_176 : decode cL_law 176 = .ok (.iload_n 3, 1) := by decide +kernel
theorem dL_law_177 : decode cL_law 177 = .ok (.iconst 2, 1) := by decide +kernel
theorem dL_law_178 : decode cL_law 178 = .ok (.iadd, 1) := by decide +kernel
theorem dL_law_179 : decode cL_law 179 = .ok (.iaload, 1) := by decide +kernel
theorem dL_law_180 : decode cL_law 180 = .ok (.i2l, 1) := by decide +kernel
theorem dL_law_181 : decode cL_law 181 = .ok (.bipush 32, 2) := by decide +kernel
theorem dL_law_183 : decode cL_law 183 = .ok (.lshl, 1) := by decide +kernel
theorem dL_law_184 : decode cL_law 184 = .ok (.aload_n 0, 1) := by decide +kernel
theorem dL_law_185 : decode cL_law 185 = .ok (.iload_n 3, 1) := by decide +kernel
theorem dL_law_186 : decode cL_law 186 = .ok (.iconst 3, 1) := by decide +kernel
theorem dL_law_187 : decode cL_law 187 = .ok (.iadd, 1) := by decide +kernel
theorem dL_law_188 : decode cL_law 188 = .ok (.iaload, 1) := by decide +kernel
theorem dL_law_189 : decode cL_law 189 = .ok (.i2l, 1) := by decide +kernel
theorem dL_law_190 : decode cL_law 190 = .ok (.ldc2_w 13, 3) := by decide +kernel
theorem dL_law_193 : decode cL_law 193 = .ok (.land, 1) := by decide +kernel
theorem dL_law_194 : decode cL_law 194 = .ok (.lor, 1) := by decide +kernel
theorem dL_law_195 : decode cL_law 195 = .ok (.invokevirtual 19, 3) := by decide +kernel
theorem dL_law_198 : decode cL_law 198 = .ok (.if_icmp .eq 501, 3) := by decide +kernel
theorem dL_law_201 : decode cL_law 201 = .ok (.iconst 0, 1) := by decide +kernel
theorem dL_law_202 : decode cL_law 202 = .ok (.ireturn, 1) := by decide +kernel
theorem dL_law_203 : decode cL_law 203 = .ok (.aload_n 1, 1) := by decide +kernel
theorem dL_law_204 : decode cL_law 204 = .ok (.invokevirtual 20, 3) := by decide +kernel
theorem dL_law_207 : decode cL_law 207 = .ok (.aload_n 2, 1) := by decide +kernel
theorem dL_law_208 : decode cL_law 208 = .ok (.invokevirtual 24, 3) := by decide +kernel
theorem dL_law_211 : decode cL_law 211 = .ok (.if_icmp .eq 488, 3) := by decide +kernel
theorem dL_law_214 : decode cL_law 214 = .ok (.iconst 0, 1) := by decide +kernel
theorem dL_law_215 : decode cL_law 215 = .ok (.ireturn, 1) := by decide +kernel
theorem dL_law_216 : decode cL_law 216 = .ok (.aload_n 1, 1) := by decide +kernel
theorem dL_law_217 : decode cL_law 217 = .ok (.invokevirtual 25, 3) := by decide +kernel
theorem dL_law_220 : decode cL_law 220 = .ok (.aload_n 2, 1) := by decide +kernel
theorem dL_law_221 : decode cL_law 221 = .ok (.invokevirtual 28, 3) := by decide +kernel
theorem dL_law_224 : decode cL_law 224 = .ok (.if_icmp .eq 475, 3) := by decide +kernel
theorem dL_law_227 : decode cL_law 227 = .ok (.iconst 0, 1) := by decide +kernel
theorem dL_law_228 : decode cL_law 228 = .ok (.ireturn, 1) := by decide +kernel
theorem dL_law_229 : decode cL_law 229 = .ok (.aload_n 1, 1) := by decide +kernel
theorem dL_law_230 : decode cL_law 230 = .ok (.aload_n 0, 1) := by decide +kernel
theorem dL_law_231 : decode cL_law 231 = .ok (.iload_n 3, 1) := by decide +kernel
theorem dL_law_232 : decode cL_law 232 = .ok (.iconst 1, 1) := by decide +kernel
theorem dL_law_233 : decode cL_law 233 = .ok (.iadd, 1) := by decide +kernel
theorem dL_law_234 : decode cL_law 234 = .ok (.iaload, 1) := by decide +kernel
theorem dL_law_235 : decode cL_law 235 = .ok (.invokevirtual 29, 3) := by decide +kernel
theorem dL_law_238 : decode cL_law 238 = .ok (.aload_n 2, 1) := by decide +kernel
theorem dL_law_239 : decode cL_law 239 = .ok (.aload_n 0, 1) := by decide +kernel
theorem dL_law_240 : decode cL_law 240 = .ok (.iload_n 3, 1) := by decide +kernel
theorem dL_law_241 : decode cL_law 241 = .ok (.iconst 1, 1) := by decide +kernel
theorem dL_law_242 : decode cL_law 242 = .ok (.iadd, 1) := by decide +kernel
theorem dL_law_243 : decode cL_law 243 = .ok (.iaload, 1) := by decide +kernel
theorem dL_law_244 : decode cL_law 244 = .ok (.invokevirtual 33, 3) := by decide +kernel
theorem dL_law_247 : decode cL_law 247 = .ok (.if_icmp .eq 452, 3) := by decide +kernel
theorem dL_law_250 : decode cL_law 250 = .ok (.iconst 0, 1) := by decide +kernel
theorem dL_law_251 : decode cL_law 251 = .ok (.ireturn, 1) := by decide +kernel
theorem dL_law_252 : decode cL_law 252 = .ok (.aload_n 1, 1) := by decide +kernel
theorem dL_law_253 : decode cL_law 253 = .ok (.aload_n 0, 1) := by decide +kernel
theorem dL_law_254 : decode cL_law 254 = .ok (.iload_n 3, 1) := by decide +kernel
theorem dL_law_255 : decode cL_law 255 = .ok (.iconst 1, 1) := by decide +kernel
theorem dL_law_256 : decode cL_law 256 = .ok (.iadd, 1) := by decide +kernel
theorem dL_law_257 : decode cL_law 257 = .ok (.iaload, 1) := by decide +kernel
theorem dL_law_258 : decode cL_law 258 = .ok (.invokevirtual 34, 3) := by decide +kernel
theorem dL_law_261 : decode cL_law 261 = .ok (.aload_n 2, 1) := by decide +kernel
theorem dL_law_262 : decode cL_law 262 = .ok (.aload_n 0, 1) := by decide +kernel
theorem dL_law_263 : decode cL_law 263 = .ok (.iload_n 3, 1) := by decide +kernel
theorem dL_law_264 : decode cL_law 264 = .ok (.iconst 1, 1) := by decide +kernel
theorem dL_law_265 : decode cL_law 265 = .ok (.iadd, 1) := by decide +kernel
theorem dL_law_266 : decode cL_law 266 = .ok (.iaload, 1) := by decide +kernel
theorem dL_law_267 : decode cL_law 267 = .ok (.invokevirtual 37, 3) := by decide +kernel
theorem dL_law_270 : decode cL_law 270 = .ok (.if_icmp .eq 429, 3) := by decide +kernel
theorem dL_law_273 : decode cL_law 273 = .ok (.iconst 0, 1) := by decide +kernel
theorem dL_law_274 : decode cL_law 274 = .ok (.ireturn, 1) := by decide +kernel
theorem dL_law_275 : decode cL_law 275 = .ok (.aload_n 1, 1) := by decide +kernel
theorem dL_law_276 : decode cL_law 276 = .ok (.aload_n 0, 1) := by decide +kernel
theorem dL_law_277 : decode cL_law 277 = .ok (.iload_n 3, 1) := by decide +kernel
theorem dL_law_278 : decode cL_law 278 = .ok (.iconst 1, 1) := by decide +kernel
theorem dL_law_279 : decode cL_law 279 = .ok (.iadd, 1) := by decide +kernel
theorem dL_law_280 : decode cL_law 280 = .ok (.iaload, 1) := by decide +kernel
theorem dL_law_281 : decode cL_law 281 = .ok (.aload_n 0, 1) := by decide +kernel
theorem dL_law_282 : decode cL_law 282 = .ok (.iload_n 3, 1) := by decide +kernel
theorem dL_law_283 : decode cL_law 283 = .ok (.iconst 2, 1) := by decide +kernel
theorem dL_law_284 : decode cL_law 284 = .ok (.iadd, 1) := by decide +kernel
theorem dL_law_285 : decode cL_law 285 = .ok (.iaload, 1) := by decide +kernel
theorem dL_law_286 : decode cL_law 286 = .ok (.invokevirtual 38, 3) := by decide +kernel
theorem dL_law_289 : decode cL_law 289 = .ok (.aload_n 2, 1) := by decide +kernel
theorem dL_law_290 : decode cL_law 290 = .ok (.aload_n 0, 1) := by decide +kernel
theorem dL_law_291 : decode cL_law 291 = .ok (.iload_n 3, 1) := by decide +kernel
theorem dL_law_292 : decode cL_law 292 = .ok (.iconst 1, 1) := by decide +kernel
theorem dL_law_293 : decode cL_law 293 = .ok (.iadd, 1) := by decide +kernel
theorem dL_law_294 : decode cL_law 294 = .ok (.iaload, 1) := by decide +kernel
theorem dL_law_295 : decode cL_law 295 = .ok (.aload_n 0, 1) := by decide +kernel
theorem dL_law_296 : decode cL_law 296 = .ok (.iload_n 3, 1) := by decide +kernel
theorem dL_law_297 : decode cL_law 297 = .ok (.iconst 2, 1) := by decide +kernel
theorem dL_law_298 : decode cL_law 298 = .ok (.iadd, 1) := by decide +kernel
theorem dL_law_299 : decode cL_law 299 = .ok (.iaload, 1) := by decide +kernel
theorem dL_law_300 : decode cL_law 300 = .ok (.invokevirtual 42, 3) := by decide +kernel
theorem dL_law_303 : decode cL_law 303 = .ok (.if_icmp .eq 396, 3) := by decide +kernel
theorem dL_law_306 : decode cL_law 306 = .ok (.iconst 0, 1) := by decide +kernel
theorem dL_law_307 : decode cL_law 307 = .ok (.ireturn, 1) := by decide +kernel
theorem dL_law_308 : decode cL_law 308 = .ok (.aload_n 1, 1) := by decide +kernel
theorem dL_law_309 : decode cL_law 309 = .ok (.aload_n 0, 1) := by decide +kernel
theorem dL_law_310 : decode cL_law 310 = .ok (.iload_n 3, 1) := by decide +kernel
theorem dL_law_311 : decode cL_law 311 = .ok (.iconst 1, 1) := by decide +kernel
theorem dL_law_312 : decode cL_law 312 = .ok (.iadd, 1) := by decide +kernel
theorem dL_law_313 : decode cL_law 313 = .ok (.iaload, 1) := by decide +kernel
theorem dL_law_314 : decode cL_law 314 = .ok (.invokevirtual 43, 3) := by decide +kernel
theorem dL_law_317 : decode cL_law 317 = .ok (.aload_n 2, 1) := by decide +kernel
theorem dL_law_318 : decode cL_law 318 = .ok (.aload_n 0, 1) := by decide +kernel
theorem dL_law_319 : decode cL_law 319 = .ok (.iload_n 3, 1) := by decide +kernel
theorem dL_law_320 : decode cL_law 320 = .ok (.iconst 1, 1) := by decide +kernel
theorem dL_law_321 : decode cL_law 321 = .ok (.iadd, 1) := by decide +kernel
theorem dL_law_322 : decode cL_law 322 = .ok (.iaload, 1) := by decide +kernel
theorem dL_law_323 : decode cL_law 323 = .ok (.invokevirtual 46, 3) := by decide +kernel
theorem dL_law_326 : decode cL_law 326 = .ok (.if_icmp .eq 373, 3) := by decide +kernel
theorem dL_law_329 : decode cL_law 329 = .ok (.iconst 0, 1) := by decide +kernel
theorem dL_law_330 : decode cL_law 330 = .ok (.ireturn, 1) := by decide +kernel
theorem dL_law_331 : decode cL_law 331 = .ok (.aload_n 1, 1) := by decide +kernel
theorem dL_law_332 : decode cL_law 332 = .ok (.aload_n 0, 1) := by decide +kernel
theorem dL_law_333 : decode cL_law 333 = .ok (.iload_n 3, 1) := by decide +kernel
theorem dL_law_334 : decode cL_law 334 = .ok (.iconst 1, 1) := by decide +kernel
theorem dL_law_335 : decode cL_law 335 = .ok (.iadd, 1) := by decide +kernel
theorem dL_law_336 : decode cL_law 336 = .ok (.iaload, 1) := by decide +kernel
theorem dL_law_337 : decode cL_law 337 = .ok (.aload_n 0, 1) := by decide +kernel
theorem dL_law_338 : decode cL_law 338 = .ok (.iload_n 3, 1) := by decide +kernel
theorem dL_law_339 : decode cL_law 339 = .ok (.iconst 2, 1) := by decide +kernel
theorem dL_law_340 : decode cL_law 340 = .ok (.iadd, 1) := by decide +kernel
theorem dL_law_341 : decode cL_law 341 = .ok (.iaload, 1) := by decide +kernel
theorem dL_law_342 : decode cL_law 342 = .ok (.aload_n 0, 1) := by decide +kernel
theorem dL_law_343 : decode cL_law 343 = .ok (.iload_n 3, 1) := by decide +kernel
theorem dL_law_344 : decode cL_law 344 = .ok (.iconst 3, 1) := by decide +kernel
theorem dL_law_345 : decode cL_law 345 = .ok (.iadd, 1) := by decide +kernel
theorem dL_law_346 : decode cL_law 346 = .ok (.iaload, 1) := by decide +kernel
theorem dL_law_347 : decode cL_law 347 = .ok (.invokevirtual 47, 3) := by decide +kernel
theorem dL_law_350 : decode cL_law 350 = .ok (.aload_n 2, 1) := by decide +kernel
theorem dL_law_351 : decode cL_law 351 = .ok (.aload_n 0, 1) := by decide +kernel
theorem dL_law_352 : decode cL_law 352 = .ok (.iload_n 3, 1) := by decide +kernel
theorem dL_law_353 : decode cL_law 353 = .ok (.iconst 1, 1) := by decide +kernel
theorem dL_law_354 : decode cL_law 354 = .ok (.iadd, 1) := by decide +kernel
theorem dL_law_355 : decode cL_law 355 = .ok (.iaload, 1) := by decide +kernel
theorem dL_law_356 : decode cL_law 356 = .ok (.aload_n 0, 1) := by decide +kernel
theorem dL_law_357 : decode cL_law 357 = .ok (.iload_n 3, 1) := by decide +kernel
theorem dL_law_358 : decode cL_law 358 = .ok (.iconst 2, 1) := by decide +kernel
theorem dL_law_359 : decode cL_law 359 = .ok (.iadd, 1) := by decide +kernel
theorem dL_law_360 : decode cL_law 360 = .ok (.iaload, 1) := by decide +kernel
theorem dL_law_361 : decode cL_law 361 = .ok (.aload_n 0, 1) := by decide +kernel
theorem dL_law_362 : decode cL_law 362 = .ok (.iload_n 3, 1) := by decide +kernel
theorem dL_law_363 : decode cL_law 363 = .ok (.iconst 3, 1) := by decide +kernel
theorem dL_law_364 : decode cL_law 364 = .ok (.iadd, 1) := by decide +kernel
theorem dL_law_365 : decode cL_law 365 = .ok (.iaload, 1) := by decide +kernel
theorem dL_law_366 : decode cL_law 366 = .ok (.invokevirtual 51, 3) := by decide +kernel
theorem dL_law_369 : decode cL_law 369 = .ok (.if_icmp .eq 330, 3) := by decide +kernel
theorem dL_law_372 : decode cL_law 372 = .ok (.iconst 0, 1) := by decide +kernel
theorem dL_law_373 : decode cL_law 373 = .ok (.ireturn, 1) := by decide +kernel
theorem dL_law_374 : decode cL_law 374 = .ok (.aload_n 1, 1) := by decide +kernel
theorem dL_law_375 : decode cL_law 375 = .ok (.invokevirtual 52, 3) := by decide +kernel
theorem dL_law_378 : decode cL_law 378 = .ok (.aload_n 2, 1) := by decide +kernel
theorem dL_law_379 : decode cL_law 379 = .ok (.invokevirtual 55, 3) := by decide +kernel
theorem dL_law_382 : decode cL_law 382 = .ok (.if_icmp .eq 317, 3) := by decide +kernel
theorem dL_law_385 : decode cL_law 385 = .ok (.iconst 0, 1) := by decide +kernel
theorem dL_law_386 : decode cL_law 386 = .ok (.ireturn, 1) := by decide +kernel
theorem dL_law_387 : decode cL_law 387 = .ok (.aload_n 1, 1) := by decide +kernel
theorem dL_law_388 : decode cL_law 388 = .ok (.invokevirtual 56, 3) := by decide +kernel
theorem dL_law_391 : decode cL_law 391 = .ok (.aload_n 2, 1) := by decide +kernel
theorem dL_law_392 : decode cL_law 392 = .ok (.invokevirtual 59, 3) := by decide +kernel
theorem dL_law_395 : decode cL_law 395 = .ok (.if_icmp .eq 304, 3) := by decide +kernel
theorem dL_law_398 : decode cL_law 398 = .ok (.iconst 0, 1) := by decide +kernel
theorem dL_law_399 : decode cL_law 399 = .ok (.ireturn, 1) := by decide +kernel
theorem dL_law_400 : decode cL_law 400 = .ok (.aload_n 1, 1) := by decide +kernel
theorem dL_law_401 : decode cL_law 401 = .ok (.aload_n 0, 1) := by decide +kernel
theorem dL_law_402 : decode cL_law 402 = .ok (.iload_n 3, 1) := by decide +kernel
theorem dL_law_403 : decode cL_law 403 = .ok (.iconst 1, 1) := by decide +kernel
theorem dL_law_404 : decode cL_law 404 = .ok (.iadd, 1) := by decide +kernel
theorem dL_law_405 : decode cL_law 405 = .ok (.iaload, 1) := by decide +kernel
theorem dL_law_406 : decode cL_law 406 = .ok (.invokevirtual 60, 3) := by decide +kernel
theorem dL_law_409 : decode cL_law 409 = .ok (.aload_n 2, 1) := by decide +kernel
theorem dL_law_410 : decode cL_law 410 = .ok (.aload_n 0, 1) := by decide +kernel
theorem dL_law_411 : decode cL_law 411 = .ok (.iload_n 3, 1) := by decide +kernel
theorem dL_law_412 : decode cL_law 412 = .ok (.iconst 1, 1) := by decide +kernel
theorem dL_law_413 : decode cL_law 413 = .ok (.iadd, 1) := by decide +kernel
theorem dL_law_414 : decode cL_law 414 = .ok (.iaload, 1) := by decide +kernel
theorem dL_law_415 : decode cL_law 415 = .ok (.invokevirtual 63, 3) := by decide +kernel
theorem dL_law_418 : decode cL_law 418 = .ok (.if_icmp .eq 281, 3) := by decide +kernel
theorem dL_law_421 : decode cL_law 421 = .ok (.iconst 0, 1) := by decide +kernel
theorem dL_law_422 : decode cL_law 422 = .ok (.ireturn, 1) := by decide +kernel
theorem dL_law_423 : decode cL_law 423 = .ok (.aload_n 1, 1) := by decide +kernel
theorem dL_law_424 : decode cL_law 424 = .ok (.aload_n 0, 1) := by decide +kernel
theorem dL_law_425 : decode cL_law 425 = .ok (.iload_n 3, 1) := by decide +kernel
theorem dL_law_426 : decode cL_law 426 = .ok (.iconst 1, 1) := by decide +kernel
theorem dL_law_427 : decode cL_law 427 = .ok (.iadd, 1) := by decide +kernel
theorem dL_law_428 : decode cL_law 428 = .ok (.iaload, 1) := by decide +kernel
theorem dL_law_429 : decode cL_law 429 = .ok (.invokevirtual 64, 3) := by decide +kernel
theorem dL_law_432 : decode cL_law 432 = .ok (.aload_n 2, 1) := by decide +kernel
theorem dL_law_433 : decode cL_law 433 = .ok (.aload_n 0, 1) := by decide +kernel
theorem dL_law_434 : decode cL_law 434 = .ok (.iload_n 3, 1) := by decide +kernel
theorem dL_law_435 : decode cL_law 435 = .ok (.iconst 1, 1) := by decide +kernel
theorem dL_law_436 : decode cL_law 436 = .ok (.iadd, 1) := by decide +kernel
theorem dL_law_437 : decode cL_law 437 = .ok (.iaload, 1) := by decide +kernel
theorem dL_law_438 : decode cL_law 438 = .ok (.invokevirtual 67, 3) := by decide +kernel
theorem dL_law_441 : decode cL_law 441 = .ok (.if_icmp .eq 258, 3) := by decide +kernel
theorem dL_law_444 : decode cL_law 444 = .ok (.iconst 0, 1) := by decide +kernel
theorem dL_law_445 : decode cL_law 445 = .ok (.ireturn, 1) := by decide +kernel
theorem dL_law_446 : decode cL_law 446 = .ok (.aload_n 1, 1) := by decide +kernel
theorem dL_law_447 : decode cL_law 447 = .ok (.aload_n 0, 1) := by decide +kernel
theorem dL_law_448 : decode cL_law 448 = .ok (.iload_n 3, 1) := by decide +kernel
theorem dL_law_449 : decode cL_law 449 = .ok (.iconst 1, 1) := by decide +kernel
theorem dL_law_450 : decode cL_law 450 = .ok (.iadd, 1) := by decide +kernel
theorem dL_law_451 : decode cL_law 451 = .ok (.iaload, 1) := by decide +kernel
theorem dL_law_452 : decode cL_law 452 = .ok (.aload_n 0, 1) := by decide +kernel
theorem dL_law_453 : decode cL_law 453 = .ok (.iload_n 3, 1) := by decide +kernel
theorem dL_law_454 : decode cL_law 454 = .ok (.iconst 2, 1) := by decide +kernel
theorem dL_law_455 : decode cL_law 455 = .ok (.iadd, 1) := by decide +kernel
theorem dL_law_456 : decode cL_law 456 = .ok (.iaload, 1) := by decide +kernel
theorem dL_law_457 : decode cL_law 457 = .ok (.invokevirtual 68, 3) := by decide +kernel
theorem dL_law_460 : decode cL_law 460 = .ok (.aload_n 2, 1) := by decide +kernel
theorem dL_law_461 : decode cL_law 461 = .ok (.aload_n 0, 1) := by decide +kernel
theorem dL_law_462 : decode cL_law 462 = .ok (.iload_n 3, 1) := by decide +kernel
theorem dL_law_463 : decode cL_law 463 = .ok (.iconst 1, 1) := by decide +kernel
theorem dL_law_464 : decode cL_law 464 = .ok (.iadd, 1) := by decide +kernel
theorem dL_law_465 : decode cL_law 465 = .ok (.iaload, 1) := by decide +kernel
theorem dL_law_466 : decode cL_law 466 = .ok (.aload_n 0, 1) := by decide +kernel
theorem dL_law_467 : decode cL_law 467 = .ok (.iload_n 3, 1) := by decide +kernel
theorem dL_law_468 : decode cL_law 468 = .ok (.iconst 2, 1) := by decide +kernel
theorem dL_law_469 : decode cL_law 469 = .ok (.iadd, 1) := by decide +kernel
theorem dL_law_470 : decode cL_law 470 = .ok (.iaload, 1) := by decide +kernel
theorem dL_law_471 : decode cL_law 471 = .ok (.invokevirtual 71, 3) := by decide +kernel
theorem dL_law_474 : decode cL_law 474 = .ok (.if_icmp .eq 225, 3) := by decide +kernel
theorem dL_law_477 : decode cL_law 477 = .ok (.iconst 0, 1) := by decide +kernel
theorem dL_law_478 : decode cL_law 478 = .ok (.ireturn, 1) := by decide +kernel
theorem dL_law_479 : decode cL_law 479 = .ok (.aload_n 1, 1) := by decide +kernel
theorem dL_law_480 : decode cL_law 480 = .ok (.aload_n 0, 1) := by decide +kernel
theorem dL_law_481 : decode cL_law 481 = .ok (.iload_n 3, 1) := by decide +kernel
theorem dL_law_482 : decode cL_law 482 = .ok (.iconst 1, 1) := by decide +kernel
theorem dL_law_483 : decode cL_law 483 = .ok (.iadd, 1) := by decide +kernel
theorem dL_law_484 : decode cL_law 484 = .ok (.iaload, 1) := by decide +kernel
theorem dL_law_485 : decode cL_law 485 = .ok (.invokevirtual 72, 3) := by decide +kernel
theorem dL_law_488 : decode cL_law 488 = .ok (.aload_n 2, 1) := by decide +kernel
theorem dL_law_489 : decode cL_law 489 = .ok (.aload_n 0, 1) := by decide +kernel
theorem dL_law_490 : decode cL_law 490 = .ok (.iload_n 3, 1) := by decide +kernel
theorem dL_law_491 : decode cL_law 491 = .ok (.iconst 1, 1) := by decide +kernel
theorem dL_law_492 : decode cL_law 492 = .ok (.iadd, 1) := by decide +kernel
theorem dL_law_493 : decode cL_law 493 = .ok (.iaload, 1) := by decide +kernel
theorem dL_law_494 : decode cL_law 494 = .ok (.invokevirtual 75, 3) := by decide +kernel
theorem dL_law_497 : decode cL_law 497 = .ok (.if_icmp .eq 202, 3) := by decide +kernel
theorem dL_law_500 : decode cL_law 500 = .ok (.iconst 0, 1) := by decide +kernel
theorem dL_law_501 : decode cL_law 501 = .ok (.ireturn, 1) := by decide +kernel
theorem dL_law_502 : decode cL_law 502 = .ok (.aload_n 1, 1) := by decide +kernel
theorem dL_law_503 : decode cL_law 503 = .ok (.aload_n 0, 1) := by decide +kernel
theorem dL_law_504 : decode cL_law 504 = .ok (.iload_n 3, 1) := by decide +kernel
theorem dL_law_505 : decode cL_law 505 = .ok (.iconst 1, 1) := by decide +kernel
theorem dL_law_506 : decode cL_law 506 = .ok (.iadd, 1) := by decide +kernel
theorem dL_law_507 : decode cL_law 507 = .ok (.iaload, 1) := by decide +kernel
theorem dL_law_508 : decode cL_law 508 = .ok (.aload_n 0, 1) := by decide +kernel
theorem dL_law_509 : decode cL_law 509 = .ok (.iload_n 3, 1) := by decide +kernel
theorem dL_law_510 : decode cL_law 510 = .ok (.iconst 2, 1) := by decide +kernel
theorem dL_law_511 : decode cL_law 511 = .ok (.iadd, 1) := by decide +kernel
theorem dL_law_512 : decode cL_law 512 = .ok (.iaload, 1) := by decide +kernel
theorem dL_law_513 : decode cL_law 513 = .ok (.invokevirtual 76, 3) := by decide +kernel
theorem dL_law_516 : decode cL_law 516 = .ok (.aload_n 2, 1) := by decide +kernel
theorem dL_law_517 : decode cL_law 517 = .ok (.aload_n 0, 1) := by decide +kernel
theorem dL_law_518 : decode cL_law 518 = .ok (.iload_n 3, 1) := by decide +kernel
theorem dL_law_519 : decode cL_law 519 = .ok (.iconst 1, 1) := by decide +kernel
theorem dL_law_520 : decode cL_law 520 = .ok (.iadd, 1) := by decide +kernel
theorem dL_law_521 : decode cL_law 521 = .ok (.iaload, 1) := by decide +kernel
theorem dL_law_522 : decode cL_law 522 = .ok (.aload_n 0, 1) := by decide +kernel
theorem dL_law_523 : decode cL_law 523 = .ok (.iload_n 3, 1) := by decide +kernel
theorem dL_law_524 : decode cL_law 524 = .ok (.iconst 2, 1) := by decide +kernel
theorem dL_law_525 : decode cL_law 525 = .ok (.iadd, 1) := by decide +kernel
theorem dL_law_526 : decode cL_law 526 = .ok (.iaload, 1) := by decide +kernel
theorem dL_law_527 : decode cL_law 527 = .ok (.invokevirtual 79, 3) := by decide +kernel
theorem dL_law_530 : decode cL_law 530 = .ok (.if_icmp .eq 169, 3) := by decide +kernel
theorem dL_law_533 : decode cL_law 533 = .ok (.iconst 0, 1) := by decide +kernel
theorem dL_law_534 : decode cL_law 534 = .ok (.ireturn, 1) := by decide +kernel
theorem dL_law_535 : decode cL_law 535 = .ok (.aload_n 1, 1) := by decide +kernel
theorem dL_law_536 : decode cL_law 536 = .ok (.aload_n 0, 1) := by decide +kernel
theorem dL_law_537 : decode cL_law 537 = .ok (.iload_n 3, 1) := by decide +kernel
theorem dL_law_538 : decode cL_law 538 = .ok (.iconst 1, 1) := by decide +kernel
theorem dL_law_539 : decode cL_law 539 = .ok (.iadd, 1) := by decide +kernel
theorem dL_law_540 : decode cL_law 540 = .ok (.iaload, 1) := by decide +kernel
theorem dL_law_541 : decode cL_law 541 = .ok (.aload_n 0, 1) := by decide +kernel
theorem dL_law_542 : decode cL_law 542 = .ok (.iload_n 3, 1) := by decide +kernel
theorem dL_law_543 : decode cL_law 543 = .ok (.iconst 2, 1) := by decide +kernel
theorem dL_law_544 : decode cL_law 544 = .ok (.iadd, 1) := by decide +kernel
theorem dL_law_545 : decode cL_law 545 = .ok (.iaload, 1) := by decide +kernel
theorem dL_law_546 : decode cL_law 546 = .ok (.invokevirtual 80, 3) := by decide +kernel
theorem dL_law_549 : decode cL_law 549 = .ok (.aload_n 2, 1) := by decide +kernel
theorem dL_law_550 : decode cL_law 550 = .ok (.aload_n 0, 1) := by decide +kernel
theorem dL_law_551 : decode cL_law 551 = .ok (.iload_n 3, 1) := by decide +kernel
theorem dL_law_552 : decode cL_law 552 = .ok (.iconst 1, 1) := by decide +kernel
theorem dL_law_553 : decode cL_law 553 = .ok (.iadd, 1) := by decide +kernel
theorem dL_law_554 : decode cL_law 554 = .ok (.iaload, 1) := by decide +kernel
theorem dL_law_555 : decode cL_law 555 = .ok (.aload_n 0, 1) := by decide +kernel
theorem dL_law_556 : decode cL_law 556 = .ok (.iload_n 3, 1) := by decide +kernel
theorem dL_law_557 : decode cL_law 557 = .ok (.iconst 2, 1) := by decide +kernel
theorem dL_law_558 : decode cL_law 558 = .ok (.iadd, 1) := by decide +kernel
theorem dL_law_559 : decode cL_law 559 = .ok (.iaload, 1) := by decide +kernel
theorem dL_law_560 : decode cL_law 560 = .ok (.invokevirtual 83, 3) := by decide +kernel
theorem dL_law_563 : decode cL_law 563 = .ok (.if_icmp .eq 136, 3) := by decide +kernel
theorem dL_law_566 : decode cL_law 566 = .ok (.iconst 0, 1) := by decide +kernel
theorem dL_law_567 : decode cL_law 567 = .ok (.ireturn, 1) := by decide +kernel
theorem dL_law_568 : decode cL_law 568 = .ok (.aload_n 1, 1) := by decide +kernel
theorem dL_law_569 : decode cL_law 569 = .ok (.invokevirtual 84, 3) := by decide +kernel
theorem dL_law_572 : decode cL_law 572 = .ok (.aload_n 2, 1) := by decide +kernel
theorem dL_law_573 : decode cL_law 573 = .ok (.invokevirtual 87, 3) := by decide +kernel
theorem dL_law_576 : decode cL_law 576 = .ok (.if_icmp .eq 123, 3) := by decide +kernel
theorem dL_law_579 : decode cL_law 579 = .ok (.iconst 0, 1) := by decide +kernel
theorem dL_law_580 : decode cL_law 580 = .ok (.ireturn, 1) := by decide +kernel
theorem dL_law_581 : decode cL_law 581 = .ok (.aload_n 1, 1) := by decide +kernel
theorem dL_law_582 : decode cL_law 582 = .ok (.aload_n 0, 1) := by decide +kernel
theorem dL_law_583 : decode cL_law 583 = .ok (.iload_n 3, 1) := by decide +kernel
theorem dL_law_584 : decode cL_law 584 = .ok (.iconst 1, 1) := by decide +kernel
theorem dL_law_585 : decode cL_law 585 = .ok (.iadd, 1) := by decide +kernel
theorem dL_law_586 : decode cL_law 586 = .ok (.iaload, 1) := by decide +kernel
theorem dL_law_587 : decode cL_law 587 = .ok (.invokevirtual 88, 3) := by decide +kernel
theorem dL_law_590 : decode cL_law 590 = .ok (.aload_n 2, 1) := by decide +kernel
theorem dL_law_591 : decode cL_law 591 = .ok (.aload_n 0, 1) := by decide +kernel
theorem dL_law_592 : decode cL_law 592 = .ok (.iload_n 3, 1) := by decide +kernel
theorem dL_law_593 : decode cL_law 593 = .ok (.iconst 1, 1) := by decide +kernel
theorem dL_law_594 : decode cL_law 594 = .ok (.iadd, 1) := by decide +kernel
theorem dL_law_595 : decode cL_law 595 = .ok (.iaload, 1) := by decide +kernel
theorem dL_law_596 : decode cL_law 596 = .ok (.invokevirtual 91, 3) := by decide +kernel
theorem dL_law_599 : decode cL_law 599 = .ok (.if_icmp .eq 100, 3) := by decide +kernel
theorem dL_law_602 : decode cL_law 602 = .ok (.iconst 0, 1) := by decide +kernel
theorem dL_law_603 : decode cL_law 603 = .ok (.ireturn, 1) := by decide +kernel
theorem dL_law_604 : decode cL_law 604 = .ok (.aload_n 1, 1) := by decide +kernel
theorem dL_law_605 : decode cL_law 605 = .ok (.invokevirtual 92, 3) := by decide +kernel
theorem dL_law_608 : decode cL_law 608 = .ok (.aload_n 2, 1) := by decide +kernel
theorem dL_law_609 : decode cL_law 609 = .ok (.invokevirtual 95, 3) := by decide +kernel
theorem dL_law_612 : decode cL_law 612 = .ok (.if_icmp .eq 87, 3) := by decide +kernel
theorem dL_law_615 : decode cL_law 615 = .ok (.iconst 0, 1) := by decide +kernel
theorem dL_law_616 : decode cL_law 616 = .ok (.ireturn, 1) := by decide +kernel
theorem dL_law_617 : decode cL_law 617 = .ok (.aload_n 1, 1) := by decide +kernel
theorem dL_law_618 : decode cL_law 618 = .ok (.invokevirtual 96, 3) := by decide +kernel
theorem dL_law_621 : decode cL_law 621 = .ok (.aload_n 2, 1) := by decide +kernel
theorem dL_law_622 : decode cL_law 622 = .ok (.invokevirtual 99, 3) := by decide +kernel
theorem dL_law_625 : decode cL_law 625 = .ok (.if_icmp .eq 74, 3) := by decide +kernel
theorem dL_law_628 : decode cL_law 628 = .ok (.iconst 0, 1) := by decide +kernel
theorem dL_law_629 : decode cL_law 629 = .ok (.ireturn, 1) := by decide +kernel
theorem dL_law_630 : decode cL_law 630 = .ok (.aload_n 1, 1) := by decide +kernel
theorem dL_law_631 : decode cL_law 631 = .ok (.aload_n 0, 1) := by decide +kernel
theorem dL_law_632 : decode cL_law 632 = .ok (.iload_n 3, 1) := by decide +kernel
theorem dL_law_633 : decode cL_law 633 = .ok (.iconst 1, 1) := by decide +kernel
theorem dL_law_634 : decode cL_law 634 = .ok (.iadd, 1) := by decide +kernel
theorem dL_law_635 : decode cL_law 635 = .ok (.iaload, 1) := by decide +kernel
theorem dL_law_636 : decode cL_law 636 = .ok (.invokevirtual 100, 3) := by decide +kernel
theorem dL_law_639 : decode cL_law 639 = .ok (.aload_n 2, 1) := by decide +kernel
theorem dL_law_640 : decode cL_law 640 = .ok (.aload_n 0, 1) := by decide +kernel
theorem dL_law_641 : decode cL_law 641 = .ok (.iload_n 3, 1) := by decide +kernel
theorem dL_law_642 : decode cL_law 642 = .ok (.iconst 1, 1) := by decide +kernel
theorem dL_law_643 : decode cL_law 643 = .ok (.iadd, 1) := by decide +kernel
theorem dL_law_644 : decode cL_law 644 = .ok (.iaload, 1) := by decide +kernel
theorem dL_law_645 : decode cL_law 645 = .ok (.invokevirtual 103, 3) := by decide +kernel
theorem dL_law_648 : decode cL_law 648 = .ok (.if_icmp .eq 51, 3) := by decide +kernel
theorem dL_law_651 : decode cL_law 651 = .ok (.iconst 0, 1) := by decide +kernel
theorem dL_law_652 : decode cL_law 652 = .ok (.ireturn, 1) := by decide +kernel
theorem dL_law_653 : decode cL_law 653 = .ok (.aload_n 1, 1) := by decide +kernel
theorem dL_law_654 : decode cL_law 654 = .ok (.aload_n 0, 1) := by decide +kernel
theorem dL_law_655 : decode cL_law 655 = .ok (.iload_n 3, 1) := by decide +kernel
theorem dL_law_656 : decode cL_law 656 = .ok (.iconst 1, 1) := by decide +kernel
theorem dL_law_657 : decode cL_law 657 = .ok (.iadd, 1) := by decide +kernel
theorem dL_law_658 : decode cL_law 658 = .ok (.iaload, 1) := by decide +kernel
theorem dL_law_659 : decode cL_law 659 = .ok (.invokevirtual 104, 3) := by decide +kernel
theorem dL_law_662 : decode cL_law 662 = .ok (.aload_n 2, 1) := by decide +kernel
theorem dL_law_663 : decode cL_law 663 = .ok (.aload_n 0, 1) := by decide +kernel
theorem dL_law_664 : decode cL_law 664 = .ok (.iload_n 3, 1) := by decide +kernel
theorem dL_law_665 : decode cL_law 665 = .ok (.iconst 1, 1) := by decide +kernel
theorem dL_law_666 : decode cL_law 666 = .ok (.iadd, 1) := by decide +kernel
theorem dL_law_667 : decode cL_law 667 = .ok (.iaload, 1) := by decide +kernel
theorem dL_law_668 : decode cL_law 668 = .ok (.invokevirtual 107, 3) := by decide +kernel
theorem dL_law_671 : decode cL_law 671 = .ok (.if_icmp .eq 28, 3) := by decide +kernel
theorem dL_law_674 : decode cL_law 674 = .ok (.iconst 0, 1) := by decide +kernel
theorem dL_law_675 : decode cL_law 675 = .ok (.ireturn, 1) := by decide +kernel
theorem dL_law_676 : decode cL_law 676 = .ok (.aload_n 1, 1) := by decide +kernel
theorem dL_law_677 : decode cL_law 677 = .ok (.aload_n 0, 1) := by decide +kernel
theorem dL_law_678 : decode cL_law 678 = .ok (.iload_n 3, 1) := by decide +kernel
theorem dL_law_679 : decode cL_law 679 = .ok (.iconst 1, 1) := by decide +kernel
theorem dL_law_680 : decode cL_law 680 = .ok (.iadd, 1) := by decide +kernel
theorem dL_law_681 : decode cL_law 681 = .ok (.iaload, 1) := by decide +kernel
theorem dL_law_682 : decode cL_law 682 = .ok (.invokevirtual 108, 3) := by decide +kernel
theorem dL_law_685 : decode cL_law 685 = .ok (.aload_n 2, 1) := by decide +kernel
theorem dL_law_686 : decode cL_law 686 = .ok (.aload_n 0, 1) := by decide +kernel
theorem dL_law_687 : decode cL_law 687 = .ok (.iload_n 3, 1) := by decide +kernel
theorem dL_law_688 : decode cL_law 688 = .ok (.iconst 1, 1) := by decide +kernel
theorem dL_law_689 : decode cL_law 689 = .ok (.iadd, 1) := by decide +kernel
theorem dL_law_690 : decode cL_law 690 = .ok (.iaload, 1) := by decide +kernel
theorem dL_law_691 : decode cL_law 691 = .ok (.invokevirtual 111, 3) := by decide +kernel
theorem dL_law_694 : decode cL_law 694 = .ok (.if_icmp .eq 5, 3) := by decide +kernel
theorem dL_law_697 : decode cL_law 697 = .ok (.iconst 0, 1) := by decide +kernel
theorem dL_law_698 : decode cL_law 698 = .ok (.ireturn, 1) := by decide +kernel
theorem dL_law_699 : decode cL_law 699 = .ok (.iinc 3 4, 3) := by decide +kernel
theorem dL_law_702 : decode cL_law 702 = .ok (.goto (-684), 3) := by decide +kernel
theorem dL_law_705 : decode cL_law 705 = .ok (.iconst 1, 1) := by decide +kernel
theorem dL_law_706 : decode cL_law 706 = .ok (.ireturn, 1) := by decide +kernel
end
section
/-! the tables' words: those that hold in every later machine; field links, method links, constants, by their places -/
def T0 : List Cond := lw_tbl.filter goodWord
theorem T0_at {w : Cond} (i : Nat) (h : lw_tbl[i]? = some w) (g : goodWord w = true) : w ∈ T0 := List.mem_filter.mpr ⟨List.mem_of_getElem? h, g⟩
theorem T0_good : T0.all goodWord = true := List.all_eq_true.mpr (fun _ h => (List.mem_filter.mp h).2)
theorem T0_tbl {w : Cond} (h : w ∈ T0) : w ∈ lw_tbl := (List.mem_filter.mp h).1
/-- a field link: own class, pool number; the class's place, the field's place, its type, whether it is final -/
def FL (own : String) (idx ci k : Nat) (ty : FieldType) (fin : Bool) : Prop := ∃ (C : String) (T : u_T) (N : Nat) (ty0 : Nat → FieldType), vwCl[ci]? = some (C, T, N) ∧ k < N ∧ (∀ w ∈ u_ws C T N, w ∈ T0) ∧ Cond.fieldLink own idx C (T k).2.1 (T k).2.2.1 ∈ T0 ∧ (T k).1 = C ∧ (∀ j, j < N → parseFieldDescriptor (T j).2.2.1 = some (ty0 j)) ∧ (∀ a, a < N → ∀ b, b < N → a ≠ b → (T a).2.1 ≠ (T b).2.1) ∧ parseFieldDescriptor (T k).2.2.1 = some ty ∧ (T k).2.2.2 = fin
/-- what every call of a method needs -/
def MA (y : MethodName) (cc : ByteArray) (nL : Nat) (rt : Option FieldType) (n : Nat) : Prop := Cond.code y cc nL rt ∈ T0 ∧ Cond.initialized y.cls ∈ T0 ∧ (y.cls ≠ "java/lang/invoke/MethodHandle" ∧ y.cls ≠ "java/lang/invoke/VarHandle") ∧ (parseMethodDescriptor y.desc).map (fun d => d.parameters.length) = some n
/-- a call by invokevirtual -/
def MV (own : String) (idx : Nat) (ci : Nat) (y : MethodName) : Prop := Cond.methodLink own idx y ∈ T0 ∧ Cond.instanceMethod y ∈ T0 ∧ Cond.selects y.cls y y ∈ T0 ∧ ∃ (T : u_T) (N : Nat), vwCl[ci]? = some (y.cls, T, N)
/-- a call by invokestatic, in the own class -/
def MS (own : String) (idx : Nat) (y : MethodName) : Prop := Cond.methodLink own idx y ∈ T0 ∧ Cond.static y ∈ T0
/-- the links to nest mates -/
def zNest : List (String × Nat × MethodName × String) := [(RX0, 46, yX6_copyRow, "SoapPole"), (RX1, 25, yX6_copyRow, "SoapPole"), (RX4, 70, yX6_copyRow, "SoapPole")]
/-- a call by invokestatic of a nest mate's private method -/
def MN (own : String) (idx : Nat) (y : MethodName) (host : String) : Prop := Cond.static y ∈ T0 ∧ (own, idx, y, host) ∈ zNest
/-- a constructor's call -/
def MI (own : String) (idx : Nat) (y : MethodName) : Prop := Cond.methodLink own idx y ∈ T0 ∧ Cond.instanceMethod y ∈ T0 ∧ y.name = "<init>"
/-- a making -/
def NW (own : String) (idx ci : Nat) (N : Nat) (ty0 : Nat → FieldType) : Prop := ∃ (C : String) (T : u_T), vwCl[ci]? = some (C, T, N) ∧ Cond.classLink own idx C ∈ T0 ∧ Cond.instantiable C N ∈ T0 ∧ Cond.initialized C ∈ T0 ∧ (∀ w ∈ u_ws C T N, w ∈ T0) ∧ (∀ j, j < N → parseFieldDescriptor (T j).2.2.1 = some (ty0 j))
theorem inT_X0 : ∀ w ∈ u_ws RX0 TX0 10, w ∈ T0 := fun w h => of_decide_eq_true (List.all_eq_true.mp (show (u_ws RX0 TX0 10).all (fun w => decide (w ∈ T0)) = true by decide +kernel) w h)
theorem inT_X1 : ∀ w ∈ u_ws RX1 TX1 4, w ∈ T0 := fun w h => of_decide_eq_true (List.all_eq_true.mp (show (u_ws RX1 TX1 4).all (fun w => decide (w ∈ T0)) = true by decide +kernel) w h)
theorem inT_X2 : ∀ w ∈ u_ws RX2 TX2 11, w ∈ T0 := fun w h => of_decide_eq_true (List.all_eq_true.mp (show (u_ws RX2 TX2 11).all (fun w => decide (w ∈ T0)) = true by decide +kernel) w h)
theorem inT_X3 : ∀ w ∈ u_ws RX3 TX3 4, w ∈ T0 := fun w h => of_decide_eq_true (List.all_eq_true.mp (show (u_ws RX3 TX3 4).all (fun w => decide (w ∈ T0)) = true by decide +kernel) w h)
theorem inT_X4 : ∀ w ∈ u_ws RX4 TX4 11, w ∈ T0 := fun w h => of_decide_eq_true (List.all_eq_true.mp (show (u_ws RX4 TX4 11).all (fun w => decide (w ∈ T0)) = true by decide +kernel) w h)
theorem inT_X5 : ∀ w ∈ u_ws RX5 TX5 4, w ∈ T0 := fun w h => of_decide_eq_true (List.all_eq_true.mp (show (u_ws RX5 TX5 4).all (fun w => decide (w ∈ T0)) = true by decide +kernel) w h)
theorem inT_X6 : ∀ w ∈ u_ws RX6 TX6 12, w ∈ T0 := fun w h => of_decide_eq_true (List.all_eq_true.mp (show (u_ws RX6 TX6 12).all (fun w => decide (w ∈ T0)) = true by decide +kernel) w h)
theorem inT_X7 : ∀ w ∈ u_ws RX7 TX7 25, w ∈ T0 := fun w h => of_decide_eq_true (List.all_eq_true.mp (show (u_ws RX7 TX7 25).all (fun w => decide (w ∈ T0)) = true by decide +kernel) w h)
theorem f_X2_9 : FL RX2 9 2 0 (.array .byte) true := ⟨RX2, TX2, 11, tyX2, rfl, by decide, inT_X2, T0_at 85 (by decide +kernel) (by decide +kernel), rfl, tyX2_ok, nmX2, rfl, rfl⟩
theorem f_X2_15 : FL RX2 15 2 1 (.array .boolean) true := ⟨RX2, TX2, 11, tyX2, rfl, by decide, inT_X2, T0_at 86 (by decide +kernel) (by decide +kernel), rfl, tyX2_ok, nmX2, rfl, rfl⟩
theorem f_X2_19 : FL RX2 19 2 2 (.array .int) true := ⟨RX2, TX2, 11, tyX2, rfl, by decide, inT_X2, T0_at 87 (by decide +kernel) (by decide +kernel), rfl, tyX2_ok, nmX2, rfl, rfl⟩
theorem f_X2_27 : FL RX2 27 2 3 .int false := ⟨RX2, TX2, 11, tyX2, rfl, by decide, inT_X2, T0_at 88 (by decide +kernel) (by decide +kernel), rfl, tyX2_ok, nmX2, rfl, rfl⟩
theorem f_X6_119 : FL RX6 119 2 3 .int false := ⟨RX2, TX2, 11, tyX2, rfl, by decide, inT_X2, T0_at 89 (by decide +kernel) (by decide +kernel), rfl, tyX2_ok, nmX2, rfl, rfl⟩
theorem f_X2_44 : FL RX2 44 2 4 .int false := ⟨RX2, TX2, 11, tyX2, rfl, by decide, inT_X2, T0_at 90 (by decide +kernel) (by decide +kernel), rfl, tyX2_ok, nmX2, rfl, rfl⟩
theorem f_X2_41 : FL RX2 41 2 5 .int false := ⟨RX2, TX2, 11, tyX2, rfl, by decide, inT_X2, T0_at 91 (by decide +kernel) (by decide +kernel), rfl, tyX2_ok, nmX2, rfl, rfl⟩
theorem f_X2_23 : FL RX2 23 2 6 .int false := ⟨RX2, TX2, 11, tyX2, rfl, by decide, inT_X2, T0_at 92 (by decide +kernel) (by decide +kernel), rfl, tyX2_ok, nmX2, rfl, rfl⟩
theorem f_X6_87 : FL RX6 87 2 6 .int false := ⟨RX2, TX2, 11, tyX2, rfl, by decide, inT_X2, T0_at 93 (by decide +kernel) (by decide +kernel), rfl, tyX2_ok, nmX2, rfl, rfl⟩
theorem f_X2_51 : FL RX2 51 2 7 .int false := ⟨RX2, TX2, 11, tyX2, rfl, by decide, inT_X2, T0_at 94 (by decide +kernel) (by decide +kernel), rfl, tyX2_ok, nmX2, rfl, rfl⟩
theorem f_X2_54 : FL RX2 54 2 8 .boolean false := ⟨RX2, TX2, 11, tyX2, rfl, by decide, inT_X2, T0_at 95 (by decide +kernel) (by decide +kernel), rfl, tyX2_ok, nmX2, rfl, rfl⟩
theorem f_X2_58 : FL RX2 58 2 9 .boolean false := ⟨RX2, TX2, 11, tyX2, rfl, by decide, inT_X2, T0_at 96 (by decide +kernel) (by decide +kernel), rfl, tyX2_ok, nmX2, rfl, rfl⟩
theorem f_X2_61 : FL RX2 61 2 10 .boolean false := ⟨RX2, TX2, 11, tyX2, rfl, by decide, inT_X2, T0_at 97 (by decide +kernel) (by decide +kernel), rfl, tyX2_ok, nmX2, rfl, rfl⟩
theorem f_X0_9 : FL RX0 9 0 0 (.array .int) true := ⟨RX0, TX0, 10, tyX0, rfl, by decide, inT_X0, T0_at 134 (by decide +kernel) (by decide +kernel), rfl, tyX0_ok, nmX0, rfl, rfl⟩
theorem f_X1_29 : FL RX1 29 0 0 (.array .int) true := ⟨RX0, TX0, 10, tyX0, rfl, by decide, inT_X0, T0_at 135 (by decide +kernel) (by decide +kernel), rfl, tyX0_ok, nmX0, rfl, rfl⟩
theorem f_X0_15 : FL RX0 15 0 1 (.array .int) true := ⟨RX0, TX0, 10, tyX0, rfl, by decide, inT_X0, T0_at 136 (by decide +kernel) (by decide +kernel), rfl, tyX0_ok, nmX0, rfl, rfl⟩
theorem f_X0_18 : FL RX0 18 0 2 (.array .int) true := ⟨RX0, TX0, 10, tyX0, rfl, by decide, inT_X0, T0_at 137 (by decide +kernel) (by decide +kernel), rfl, tyX0_ok, nmX0, rfl, rfl⟩
theorem f_X0_21 : FL RX0 21 0 3 (.array .int) true := ⟨RX0, TX0, 10, tyX0, rfl, by decide, inT_X0, T0_at 138 (by decide +kernel) (by decide +kernel), rfl, tyX0_ok, nmX0, rfl, rfl⟩
theorem f_X0_27 : FL RX0 27 0 4 .int false := ⟨RX0, TX0, 10, tyX0, rfl, by decide, inT_X0, T0_at 139 (by decide +kernel) (by decide +kernel), rfl, tyX0_ok, nmX0, rfl, rfl⟩
theorem f_X6_101 : FL RX6 101 0 4 .int false := ⟨RX0, TX0, 10, tyX0, rfl, by decide, inT_X0, T0_at 140 (by decide +kernel) (by decide +kernel), rfl, tyX0_ok, nmX0, rfl, rfl⟩
theorem f_X4_96 : FL RX4 96 0 4 .int false := ⟨RX0, TX0, 10, tyX0, rfl, by decide, inT_X0, T0_at 141 (by decide +kernel) (by decide +kernel), rfl, tyX0_ok, nmX0, rfl, rfl⟩
theorem f_X1_48 : FL RX1 48 0 4 .int false := ⟨RX0, TX0, 10, tyX0, rfl, by decide, inT_X0, T0_at 142 (by decide +kernel) (by decide +kernel), rfl, tyX0_ok, nmX0, rfl, rfl⟩
theorem f_X2_134 : FL RX2 134 0 4 .int false := ⟨RX0, TX0, 10, tyX0, rfl, by decide, inT_X0, T0_at 143 (by decide +kernel) (by decide +kernel), rfl, tyX0_ok, nmX0, rfl, rfl⟩
theorem f_X0_31 : FL RX0 31 0 5 .int false := ⟨RX0, TX0, 10, tyX0, rfl, by decide, inT_X0, T0_at 144 (by decide +kernel) (by decide +kernel), rfl, tyX0_ok, nmX0, rfl, rfl⟩
theorem f_X4_55 : FL RX4 55 0 5 .int false := ⟨RX0, TX0, 10, tyX0, rfl, by decide, inT_X0, T0_at 145 (by decide +kernel) (by decide +kernel), rfl, tyX0_ok, nmX0, rfl, rfl⟩
theorem f_X3_41 : FL RX3 41 0 5 .int false := ⟨RX0, TX0, 10, tyX0, rfl, by decide, inT_X0, T0_at 146 (by decide +kernel) (by decide +kernel), rfl, tyX0_ok, nmX0, rfl, rfl⟩
theorem f_X6_104 : FL RX6 104 0 5 .int false := ⟨RX0, TX0, 10, tyX0, rfl, by decide, inT_X0, T0_at 147 (by decide +kernel) (by decide +kernel), rfl, tyX0_ok, nmX0, rfl, rfl⟩
theorem f_X2_117 : FL RX2 117 0 5 .int false := ⟨RX0, TX0, 10, tyX0, rfl, by decide, inT_X0, T0_at 148 (by decide +kernel) (by decide +kernel), rfl, tyX0_ok, nmX0, rfl, rfl⟩
theorem f_X0_34 : FL RX0 34 0 6 .int false := ⟨RX0, TX0, 10, tyX0, rfl, by decide, inT_X0, T0_at 149 (by decide +kernel) (by decide +kernel), rfl, tyX0_ok, nmX0, rfl, rfl⟩
theorem f_X6_107 : FL RX6 107 0 6 .int false := ⟨RX0, TX0, 10, tyX0, rfl, by decide, inT_X0, T0_at 150 (by decide +kernel) (by decide +kernel), rfl, tyX0_ok, nmX0, rfl, rfl⟩
theorem f_X3_62 : FL RX3 62 0 6 .int false := ⟨RX0, TX0, 10, tyX0, rfl, by decide, inT_X0, T0_at 151 (by decide +kernel) (by decide +kernel), rfl, tyX0_ok, nmX0, rfl, rfl⟩
theorem f_X2_147 : FL RX2 147 0 6 .int false := ⟨RX0, TX0, 10, tyX0, rfl, by decide, inT_X0, T0_at 152 (by decide +kernel) (by decide +kernel), rfl, tyX0_ok, nmX0, rfl, rfl⟩
theorem f_X0_37 : FL RX0 37 0 7 .int false := ⟨RX0, TX0, 10, tyX0, rfl, by decide, inT_X0, T0_at 153 (by decide +kernel) (by decide +kernel), rfl, tyX0_ok, nmX0, rfl, rfl⟩
theorem f_X6_110 : FL RX6 110 0 7 .int false := ⟨RX0, TX0, 10, tyX0, rfl, by decide, inT_X0, T0_at 154 (by decide +kernel) (by decide +kernel), rfl, tyX0_ok, nmX0, rfl, rfl⟩
theorem f_X3_65 : FL RX3 65 0 7 .int false := ⟨RX0, TX0, 10, tyX0, rfl, by decide, inT_X0, T0_at 155 (by decide +kernel) (by decide +kernel), rfl, tyX0_ok, nmX0, rfl, rfl⟩
theorem f_X2_150 : FL RX2 150 0 7 .int false := ⟨RX0, TX0, 10, tyX0, rfl, by decide, inT_X0, T0_at 156 (by decide +kernel) (by decide +kernel), rfl, tyX0_ok, nmX0, rfl, rfl⟩
theorem f_X0_40 : FL RX0 40 0 8 .int false := ⟨RX0, TX0, 10, tyX0, rfl, by decide, inT_X0, T0_at 157 (by decide +kernel) (by decide +kernel), rfl, tyX0_ok, nmX0, rfl, rfl⟩
theorem f_X6_113 : FL RX6 113 0 8 .int false := ⟨RX0, TX0, 10, tyX0, rfl, by decide, inT_X0, T0_at 158 (by decide +kernel) (by decide +kernel), rfl, tyX0_ok, nmX0, rfl, rfl⟩
theorem f_X1_65 : FL RX1 65 0 8 .int false := ⟨RX0, TX0, 10, tyX0, rfl, by decide, inT_X0, T0_at 159 (by decide +kernel) (by decide +kernel), rfl, tyX0_ok, nmX0, rfl, rfl⟩
theorem f_X2_153 : FL RX2 153 0 8 .int false := ⟨RX0, TX0, 10, tyX0, rfl, by decide, inT_X0, T0_at 160 (by decide +kernel) (by decide +kernel), rfl, tyX0_ok, nmX0, rfl, rfl⟩
theorem f_X0_43 : FL RX0 43 0 9 .int false := ⟨RX0, TX0, 10, tyX0, rfl, by decide, inT_X0, T0_at 161 (by decide +kernel) (by decide +kernel), rfl, tyX0_ok, nmX0, rfl, rfl⟩
theorem f_X6_116 : FL RX6 116 0 9 .int false := ⟨RX0, TX0, 10, tyX0, rfl, by decide, inT_X0, T0_at 162 (by decide +kernel) (by decide +kernel), rfl, tyX0_ok, nmX0, rfl, rfl⟩
theorem f_X1_68 : FL RX1 68 0 9 .int false := ⟨RX0, TX0, 10, tyX0, rfl, by decide, inT_X0, T0_at 163 (by decide +kernel) (by decide +kernel), rfl, tyX0_ok, nmX0, rfl, rfl⟩
theorem f_X2_156 : FL RX2 156 0 9 .int false := ⟨RX0, TX0, 10, tyX0, rfl, by decide, inT_X0, T0_at 164 (by decide +kernel) (by decide +kernel), rfl, tyX0_ok, nmX0, rfl, rfl⟩
theorem f_X1_9 : FL RX1 9 1 0 (.array .int) true := ⟨RX1, TX1, 4, tyX1, rfl, by decide, inT_X1, T0_at 192 (by decide +kernel) (by decide +kernel), rfl, tyX1_ok, nmX1, rfl, rfl⟩
theorem f_X1_19 : FL RX1 19 1 1 .int false := ⟨RX1, TX1, 4, tyX1, rfl, by decide, inT_X1, T0_at 193 (by decide +kernel) (by decide +kernel), rfl, tyX1_ok, nmX1, rfl, rfl⟩
theorem f_X6_122 : FL RX6 122 1 1 .int false := ⟨RX1, TX1, 4, tyX1, rfl, by decide, inT_X1, T0_at 194 (by decide +kernel) (by decide +kernel), rfl, tyX1_ok, nmX1, rfl, rfl⟩
theorem f_X1_15 : FL RX1 15 1 2 .int false := ⟨RX1, TX1, 4, tyX1, rfl, by decide, inT_X1, T0_at 195 (by decide +kernel) (by decide +kernel), rfl, tyX1_ok, nmX1, rfl, rfl⟩
theorem f_X3_38 : FL RX3 38 1 2 .int false := ⟨RX1, TX1, 4, tyX1, rfl, by decide, inT_X1, T0_at 196 (by decide +kernel) (by decide +kernel), rfl, tyX1_ok, nmX1, rfl, rfl⟩
theorem f_X6_125 : FL RX6 125 1 2 .int false := ⟨RX1, TX1, 4, tyX1, rfl, by decide, inT_X1, T0_at 197 (by decide +kernel) (by decide +kernel), rfl, tyX1_ok, nmX1, rfl, rfl⟩
theorem f_X4_74 : FL RX4 74 1 2 .int false := ⟨RX1, TX1, 4, tyX1, rfl, by decide, inT_X1, T0_at 198 (by decide +kernel) (by decide +kernel), rfl, tyX1_ok, nmX1, rfl, rfl⟩
theorem f_X5_42 : FL RX5 42 1 2 .int false := ⟨RX1, TX1, 4, tyX1, rfl, by decide, inT_X1, T0_at 199 (by decide +kernel) (by decide +kernel), rfl, tyX1_ok, nmX1, rfl, rfl⟩
theorem f_X1_22 : FL RX1 22 1 3 .int false := ⟨RX1, TX1, 4, tyX1, rfl, by decide, inT_X1, T0_at 200 (by decide +kernel) (by decide +kernel), rfl, tyX1_ok, nmX1, rfl, rfl⟩
theorem f_X6_205 : FL RX6 205 1 3 .int false := ⟨RX1, TX1, 4, tyX1, rfl, by decide, inT_X1, T0_at 201 (by decide +kernel) (by decide +kernel), rfl, tyX1_ok, nmX1, rfl, rfl⟩
theorem f_X5_9 : FL RX5 9 5 0 (.array .int) true := ⟨RX5, TX5, 4, tyX5, rfl, by decide, inT_X5, T0_at 220 (by decide +kernel) (by decide +kernel), rfl, tyX5_ok, nmX5, rfl, rfl⟩
theorem f_X5_15 : FL RX5 15 5 1 (.array .int) true := ⟨RX5, TX5, 4, tyX5, rfl, by decide, inT_X5, T0_at 221 (by decide +kernel) (by decide +kernel), rfl, tyX5_ok, nmX5, rfl, rfl⟩
theorem f_X5_21 : FL RX5 21 5 2 (.object "SoapPole$Pole") true := ⟨RX5, TX5, 4, tyX5, rfl, by decide, inT_X5, T0_at 222 (by decide +kernel) (by decide +kernel), rfl, tyX5_ok, nmX5, rfl, rfl⟩
theorem f_X5_25 : FL RX5 25 5 3 .int false := ⟨RX5, TX5, 4, tyX5, rfl, by decide, inT_X5, T0_at 223 (by decide +kernel) (by decide +kernel), rfl, tyX5_ok, nmX5, rfl, rfl⟩
theorem f_X6_128 : FL RX6 128 5 3 .int false := ⟨RX5, TX5, 4, tyX5, rfl, by decide, inT_X5, T0_at 224 (by decide +kernel) (by decide +kernel), rfl, tyX5_ok, nmX5, rfl, rfl⟩
theorem f_X4_17 : FL RX4 17 4 0 (.array (.object "SoapPole$Pole")) true := ⟨RX4, TX4, 11, tyX4, rfl, by decide, inT_X4, T0_at 247 (by decide +kernel) (by decide +kernel), rfl, tyX4_ok, nmX4, rfl, rfl⟩
theorem f_X4_24 : FL RX4 24 4 1 (.array .int) true := ⟨RX4, TX4, 11, tyX4, rfl, by decide, inT_X4, T0_at 248 (by decide +kernel) (by decide +kernel), rfl, tyX4_ok, nmX4, rfl, rfl⟩
theorem f_X4_81 : FL RX4 81 4 2 .int false := ⟨RX4, TX4, 11, tyX4, rfl, by decide, inT_X4, T0_at 249 (by decide +kernel) (by decide +kernel), rfl, tyX4_ok, nmX4, rfl, rfl⟩
theorem f_X4_63 : FL RX4 63 4 3 .int false := ⟨RX4, TX4, 11, tyX4, rfl, by decide, inT_X4, T0_at 250 (by decide +kernel) (by decide +kernel), rfl, tyX4_ok, nmX4, rfl, rfl⟩
theorem f_X4_60 : FL RX4 60 4 4 .boolean false := ⟨RX4, TX4, 11, tyX4, rfl, by decide, inT_X4, T0_at 251 (by decide +kernel) (by decide +kernel), rfl, tyX4_ok, nmX4, rfl, rfl⟩
theorem f_X4_28 : FL RX4 28 4 5 (.array .int) true := ⟨RX4, TX4, 11, tyX4, rfl, by decide, inT_X4, T0_at 252 (by decide +kernel) (by decide +kernel), rfl, tyX4_ok, nmX4, rfl, rfl⟩
theorem f_X4_51 : FL RX4 51 4 6 .int false := ⟨RX4, TX4, 11, tyX4, rfl, by decide, inT_X4, T0_at 253 (by decide +kernel) (by decide +kernel), rfl, tyX4_ok, nmX4, rfl, rfl⟩
theorem f_X4_43 : FL RX4 43 4 7 .boolean false := ⟨RX4, TX4, 11, tyX4, rfl, by decide, inT_X4, T0_at 254 (by decide +kernel) (by decide +kernel), rfl, tyX4_ok, nmX4, rfl, rfl⟩
theorem f_X4_33 : FL RX4 33 4 8 (.array (.array .int)) true := ⟨RX4, TX4, 11, tyX4, rfl, by decide, inT_X4, T0_at 255 (by decide +kernel) (by decide +kernel), rfl, tyX4_ok, nmX4, rfl, rfl⟩
theorem f_X4_36 : FL RX4 36 4 9 (.array .int) true := ⟨RX4, TX4, 11, tyX4, rfl, by decide, inT_X4, T0_at 256 (by decide +kernel) (by decide +kernel), rfl, tyX4_ok, nmX4, rfl, rfl⟩
theorem f_X4_39 : FL RX4 39 4 10 (.array .boolean) true := ⟨RX4, TX4, 11, tyX4, rfl, by decide, inT_X4, T0_at 257 (by decide +kernel) (by decide +kernel), rfl, tyX4_ok, nmX4, rfl, rfl⟩
theorem f_X3_9 : FL RX3 9 3 0 (.array .int) true := ⟨RX3, TX3, 4, tyX3, rfl, by decide, inT_X3, T0_at 289 (by decide +kernel) (by decide +kernel), rfl, tyX3_ok, nmX3, rfl, rfl⟩
theorem f_X3_18 : FL RX3 18 3 1 (.object "SoapPole$Pole") true := ⟨RX3, TX3, 4, tyX3, rfl, by decide, inT_X3, T0_at 290 (by decide +kernel) (by decide +kernel), rfl, tyX3_ok, nmX3, rfl, rfl⟩
theorem f_X3_30 : FL RX3 30 3 2 .int false := ⟨RX3, TX3, 4, tyX3, rfl, by decide, inT_X3, T0_at 291 (by decide +kernel) (by decide +kernel), rfl, tyX3_ok, nmX3, rfl, rfl⟩
theorem f_X3_22 : FL RX3 22 3 3 .boolean false := ⟨RX3, TX3, 4, tyX3, rfl, by decide, inT_X3, T0_at 292 (by decide +kernel) (by decide +kernel), rfl, tyX3_ok, nmX3, rfl, rfl⟩
theorem f_X6_10 : FL RX6 10 6 0 (.object "SoapPole$Reader") true := ⟨RX6, TX6, 12, tyX6, rfl, by decide, inT_X6, T0_at 302 (by decide +kernel) (by decide +kernel), rfl, tyX6_ok, nmX6, rfl, rfl⟩
theorem f_X6_19 : FL RX6 19 6 1 (.object "SoapPole$Plan") true := ⟨RX6, TX6, 12, tyX6, rfl, by decide, inT_X6, T0_at 303 (by decide +kernel) (by decide +kernel), rfl, tyX6_ok, nmX6, rfl, rfl⟩
theorem f_X6_23 : FL RX6 23 6 2 (.object "SoapPole$Plan") true := ⟨RX6, TX6, 12, tyX6, rfl, by decide, inT_X6, T0_at 304 (by decide +kernel) (by decide +kernel), rfl, tyX6_ok, nmX6, rfl, rfl⟩
theorem f_X6_29 : FL RX6 29 6 3 (.object "SoapPole$Pole") true := ⟨RX6, TX6, 12, tyX6, rfl, by decide, inT_X6, T0_at 305 (by decide +kernel) (by decide +kernel), rfl, tyX6_ok, nmX6, rfl, rfl⟩
theorem f_X6_33 : FL RX6 33 6 4 (.array (.object "SoapPole$Pole")) true := ⟨RX6, TX6, 12, tyX6, rfl, by decide, inT_X6, T0_at 306 (by decide +kernel) (by decide +kernel), rfl, tyX6_ok, nmX6, rfl, rfl⟩
theorem f_X6_37 : FL RX6 37 6 5 (.array .boolean) true := ⟨RX6, TX6, 12, tyX6, rfl, by decide, inT_X6, T0_at 307 (by decide +kernel) (by decide +kernel), rfl, tyX6_ok, nmX6, rfl, rfl⟩
theorem f_X6_44 : FL RX6 44 6 6 (.object "SoapPole$Tale") true := ⟨RX6, TX6, 12, tyX6, rfl, by decide, inT_X6, T0_at 308 (by decide +kernel) (by decide +kernel), rfl, tyX6_ok, nmX6, rfl, rfl⟩
theorem f_X6_51 : FL RX6 51 6 7 (.object "SoapPole$Rows") true := ⟨RX6, TX6, 12, tyX6, rfl, by decide, inT_X6, T0_at 309 (by decide +kernel) (by decide +kernel), rfl, tyX6_ok, nmX6, rfl, rfl⟩
theorem f_X6_58 : FL RX6 58 6 8 (.object "SoapPole$Rests") true := ⟨RX6, TX6, 12, tyX6, rfl, by decide, inT_X6, T0_at 310 (by decide +kernel) (by decide +kernel), rfl, tyX6_ok, nmX6, rfl, rfl⟩
theorem f_X6_62 : FL RX6 62 6 9 (.object "SoapPole$Pole") true := ⟨RX6, TX6, 12, tyX6, rfl, by decide, inT_X6, T0_at 311 (by decide +kernel) (by decide +kernel), rfl, tyX6_ok, nmX6, rfl, rfl⟩
theorem f_X6_65 : FL RX6 65 6 10 .boolean false := ⟨RX6, TX6, 12, tyX6, rfl, by decide, inT_X6, T0_at 312 (by decide +kernel) (by decide +kernel), rfl, tyX6_ok, nmX6, rfl, rfl⟩
theorem f_X6_69 : FL RX6 69 6 11 .int false := ⟨RX6, TX6, 12, tyX6, rfl, by decide, inT_X6, T0_at 313 (by decide +kernel) (by decide +kernel), rfl, tyX6_ok, nmX6, rfl, rfl⟩
theorem f_X7_7 : FL RX7 7 7 0 (.array .int) true := ⟨RX7, TX7, 25, tyX7, rfl, by decide, inT_X7, T0_at 853 (by decide +kernel) (by decide +kernel), rfl, tyX7_ok, nmX7, rfl, rfl⟩
theorem f_X7_66 : FL RX7 66 7 1 .int false := ⟨RX7, TX7, 25, tyX7, rfl, by decide, inT_X7, T0_at 854 (by decide +kernel) (by decide +kernel), rfl, tyX7_ok, nmX7, rfl, rfl⟩
theorem f_X7_13 : FL RX7 13 7 2 (.array .int) true := ⟨RX7, TX7, 25, tyX7, rfl, by decide, inT_X7, T0_at 855 (by decide +kernel) (by decide +kernel), rfl, tyX7_ok, nmX7, rfl, rfl⟩
theorem f_X7_16 : FL RX7 16 7 3 (.array .int) true := ⟨RX7, TX7, 25, tyX7, rfl, by decide, inT_X7, T0_at 856 (by decide +kernel) (by decide +kernel), rfl, tyX7_ok, nmX7, rfl, rfl⟩
theorem f_X7_19 : FL RX7 19 7 4 (.array .int) true := ⟨RX7, TX7, 25, tyX7, rfl, by decide, inT_X7, T0_at 857 (by decide +kernel) (by decide +kernel), rfl, tyX7_ok, nmX7, rfl, rfl⟩
theorem f_X7_22 : FL RX7 22 7 5 (.array .int) true := ⟨RX7, TX7, 25, tyX7, rfl, by decide, inT_X7, T0_at 858 (by decide +kernel) (by decide +kernel), rfl, tyX7_ok, nmX7, rfl, rfl⟩
theorem f_X7_25 : FL RX7 25 7 6 (.array .int) true := ⟨RX7, TX7, 25, tyX7, rfl, by decide, inT_X7, T0_at 859 (by decide +kernel) (by decide +kernel), rfl, tyX7_ok, nmX7, rfl, rfl⟩
theorem f_X7_28 : FL RX7 28 7 7 (.array .int) true := ⟨RX7, TX7, 25, tyX7, rfl, by decide, inT_X7, T0_at 860 (by decide +kernel) (by decide +kernel), rfl, tyX7_ok, nmX7, rfl, rfl⟩
theorem f_X7_31 : FL RX7 31 7 8 (.array .boolean) true := ⟨RX7, TX7, 25, tyX7, rfl, by decide, inT_X7, T0_at 861 (by decide +kernel) (by decide +kernel), rfl, tyX7_ok, nmX7, rfl, rfl⟩
theorem f_X7_35 : FL RX7 35 7 9 (.array .int) true := ⟨RX7, TX7, 25, tyX7, rfl, by decide, inT_X7, T0_at 862 (by decide +kernel) (by decide +kernel), rfl, tyX7_ok, nmX7, rfl, rfl⟩
theorem f_X7_38 : FL RX7 38 7 10 (.array .int) true := ⟨RX7, TX7, 25, tyX7, rfl, by decide, inT_X7, T0_at 863 (by decide +kernel) (by decide +kernel), rfl, tyX7_ok, nmX7, rfl, rfl⟩
theorem f_X7_151 : FL RX7 151 7 11 .int false := ⟨RX7, TX7, 25, tyX7, rfl, by decide, inT_X7, T0_at 864 (by decide +kernel) (by decide +kernel), rfl, tyX7_ok, nmX7, rfl, rfl⟩
theorem f_X7_183 : FL RX7 183 7 12 .int false := ⟨RX7, TX7, 25, tyX7, rfl, by decide, inT_X7, T0_at 865 (by decide +kernel) (by decide +kernel), rfl, tyX7_ok, nmX7, rfl, rfl⟩
theorem f_X7_41 : FL RX7 41 7 13 .int false := ⟨RX7, TX7, 25, tyX7, rfl, by decide, inT_X7, T0_at 866 (by decide +kernel) (by decide +kernel), rfl, tyX7_ok, nmX7, rfl, rfl⟩
theorem f_X7_72 : FL RX7 72 7 14 .int false := ⟨RX7, TX7, 25, tyX7, rfl, by decide, inT_X7, T0_at 867 (by decide +kernel) (by decide +kernel), rfl, tyX7_ok, nmX7, rfl, rfl⟩
theorem f_X7_85 : FL RX7 85 7 15 .int false := ⟨RX7, TX7, 25, tyX7, rfl, by decide, inT_X7, T0_at 868 (by decide +kernel) (by decide +kernel), rfl, tyX7_ok, nmX7, rfl, rfl⟩
theorem f_X7_79 : FL RX7 79 7 16 .int false := ⟨RX7, TX7, 25, tyX7, rfl, by decide, inT_X7, T0_at 869 (by decide +kernel) (by decide +kernel), rfl, tyX7_ok, nmX7, rfl, rfl⟩
theorem f_X7_88 : FL RX7 88 7 17 .int false := ⟨RX7, TX7, 25, tyX7, rfl, by decide, inT_X7, T0_at 870 (by decide +kernel) (by decide +kernel), rfl, tyX7_ok, nmX7, rfl, rfl⟩
theorem f_X7_93 : FL RX7 93 7 18 .int false := ⟨RX7, TX7, 25, tyX7, rfl, by decide, inT_X7, T0_at 871 (by decide +kernel) (by decide +kernel), rfl, tyX7_ok, nmX7, rfl, rfl⟩
theorem f_X7_109 : FL RX7 109 7 19 .boolean false := ⟨RX7, TX7, 25, tyX7, rfl, by decide, inT_X7, T0_at 872 (by decide +kernel) (by decide +kernel), rfl, tyX7_ok, nmX7, rfl, rfl⟩
theorem f_X7_113 : FL RX7 113 7 20 .boolean false := ⟨RX7, TX7, 25, tyX7, rfl, by decide, inT_X7, T0_at 873 (by decide +kernel) (by decide +kernel), rfl, tyX7_ok, nmX7, rfl, rfl⟩
theorem f_X7_162 : FL RX7 162 7 21 .int false := ⟨RX7, TX7, 25, tyX7, rfl, by decide, inT_X7, T0_at 874 (by decide +kernel) (by decide +kernel), rfl, tyX7_ok, nmX7, rfl, rfl⟩
theorem f_X7_45 : FL RX7 45 7 22 (.array .int) true := ⟨RX7, TX7, 25, tyX7, rfl, by decide, inT_X7, T0_at 875 (by decide +kernel) (by decide +kernel), rfl, tyX7_ok, nmX7, rfl, rfl⟩
theorem f_X7_48 : FL RX7 48 7 23 (.array .int) true := ⟨RX7, TX7, 25, tyX7, rfl, by decide, inT_X7, T0_at 876 (by decide +kernel) (by decide +kernel), rfl, tyX7_ok, nmX7, rfl, rfl⟩
theorem f_X7_51 : FL RX7 51 7 24 (.array .int) true := ⟨RX7, TX7, 25, tyX7, rfl, by decide, inT_X7, T0_at 877 (by decide +kernel) (by decide +kernel), rfl, tyX7_ok, nmX7, rfl, rfl⟩
theorem a_X6_init : MA yX6_init cX6_init 2 none 0 := ⟨T0_at 75 (by decide +kernel) (by decide +kernel), T0_at 57 (by decide +kernel) (by decide +kernel), by decide +kernel, by decide +kernel⟩
theorem a_X2_init : MA yX2_init cX2_init 1 none 0 := ⟨T0_at 83 (by decide +kernel) (by decide +kernel), T0_at 58 (by decide +kernel) (by decide +kernel), by decide +kernel, by decide +kernel⟩
theorem a_X0_init : MA yX0_init cX0_init 1 none 0 := ⟨T0_at 128 (by decide +kernel) (by decide +kernel), T0_at 59 (by decide +kernel) (by decide +kernel), by decide +kernel, by decide +kernel⟩
theorem a_X0_empty : MA yX0_empty cX0_empty 1 none 0 := ⟨T0_at 133 (by decide +kernel) (by decide +kernel), T0_at 59 (by decide +kernel) (by decide +kernel), by decide +kernel, by decide +kernel⟩
theorem a_X1_init : MA yX1_init cX1_init 1 none 0 := ⟨T0_at 190 (by decide +kernel) (by decide +kernel), T0_at 60 (by decide +kernel) (by decide +kernel), by decide +kernel, by decide +kernel⟩
theorem a_X5_init : MA yX5_init cX5_init 1 none 0 := ⟨T0_at 216 (by decide +kernel) (by decide +kernel), T0_at 61 (by decide +kernel) (by decide +kernel), by decide +kernel, by decide +kernel⟩
theorem a_X4_init : MA yX4_init cX4_init 3 none 0 := ⟨T0_at 238 (by decide +kernel) (by decide +kernel), T0_at 62 (by decide +kernel) (by decide +kernel), by decide +kernel, by decide +kernel⟩
theorem a_J9_max_7cf53 : MA yJ9_max_7cf53 cJ9_max_7cf53 2 (some .int) 2 := ⟨T0_at 242 (by decide +kernel) (by decide +kernel), T0_at 63 (by decide +kernel) (by decide +kernel), by decide +kernel, by decide +kernel⟩
theorem a_X3_init : MA yX3_init cX3_init 1 none 0 := ⟨T0_at 285 (by decide +kernel) (by decide +kernel), T0_at 64 (by decide +kernel) (by decide +kernel), by decide +kernel, by decide +kernel⟩
theorem a_X6_feed : MA yX6_feed cX6_feed 4 (some .int) 2 := ⟨T0_at 342 (by decide +kernel) (by decide +kernel), T0_at 57 (by decide +kernel) (by decide +kernel), by decide +kernel, by decide +kernel⟩
theorem a_X2_room : MA yX2_room cX2_room 1 (some .int) 0 := ⟨T0_at 347 (by decide +kernel) (by decide +kernel), T0_at 58 (by decide +kernel) (by decide +kernel), by decide +kernel, by decide +kernel⟩
theorem a_X2_append : MA yX2_append cX2_append 5 (some .int) 2 := ⟨T0_at 352 (by decide +kernel) (by decide +kernel), T0_at 58 (by decide +kernel) (by decide +kernel), by decide +kernel, by decide +kernel⟩
theorem a_X6_pole : MA yX6_pole cX6_pole 3 (some .int) 0 := ⟨T0_at 356 (by decide +kernel) (by decide +kernel), T0_at 57 (by decide +kernel) (by decide +kernel), by decide +kernel, by decide +kernel⟩
theorem a_X2_read : MA yX2_read cX2_read 3 (some .int) 1 := ⟨T0_at 360 (by decide +kernel) (by decide +kernel), T0_at 58 (by decide +kernel) (by decide +kernel), by decide +kernel, by decide +kernel⟩
theorem a_X2_start : MA yX2_start cX2_start 2 none 0 := ⟨T0_at 364 (by decide +kernel) (by decide +kernel), T0_at 58 (by decide +kernel) (by decide +kernel), by decide +kernel, by decide +kernel⟩
theorem a_X2_skipBlanks : MA yX2_skipBlanks cX2_skipBlanks 1 none 0 := ⟨T0_at 369 (by decide +kernel) (by decide +kernel), T0_at 58 (by decide +kernel) (by decide +kernel), by decide +kernel, by decide +kernel⟩
theorem a_X2_byteAt : MA yX2_byteAt cX2_byteAt 2 (some .int) 1 := ⟨T0_at 373 (by decide +kernel) (by decide +kernel), T0_at 58 (by decide +kernel) (by decide +kernel), by decide +kernel, by decide +kernel⟩
theorem a_X2_readClause : MA yX2_readClause cX2_readClause 6 none 1 := ⟨T0_at 377 (by decide +kernel) (by decide +kernel), T0_at 58 (by decide +kernel) (by decide +kernel), by decide +kernel, by decide +kernel⟩
theorem a_X2_skipLetters : MA yX2_skipLetters cX2_skipLetters 1 none 0 := ⟨T0_at 381 (by decide +kernel) (by decide +kernel), T0_at 58 (by decide +kernel) (by decide +kernel), by decide +kernel, by decide +kernel⟩
theorem a_X2_isLetter : MA yX2_isLetter cX2_isLetter 1 (some .boolean) 1 := ⟨T0_at 384 (by decide +kernel) (by decide +kernel), T0_at 58 (by decide +kernel) (by decide +kernel), by decide +kernel, by decide +kernel⟩
theorem a_X2_kindOf : MA yX2_kindOf cX2_kindOf 3 (some .int) 2 := ⟨T0_at 388 (by decide +kernel) (by decide +kernel), T0_at 58 (by decide +kernel) (by decide +kernel), by decide +kernel, by decide +kernel⟩
theorem a_X2_isWord : MA yX2_isWord cX2_isWord 5 (some .boolean) 3 := ⟨T0_at 393 (by decide +kernel) (by decide +kernel), T0_at 58 (by decide +kernel) (by decide +kernel), by decide +kernel, by decide +kernel⟩
theorem a_J0_length_8abf5 : MA yJ0_length_8abf5 cJ0_length_8abf5 1 (some .int) 0 := ⟨T0_at 397 (by decide +kernel) (by decide +kernel), T0_at 66 (by decide +kernel) (by decide +kernel), by decide +kernel, by decide +kernel⟩
theorem a_J0_coder_7d493 : MA yJ0_coder_7d493 cJ0_coder_7d493 1 (some .byte) 0 := ⟨T0_at 401 (by decide +kernel) (by decide +kernel), T0_at 66 (by decide +kernel) (by decide +kernel), by decide +kernel, by decide +kernel⟩
theorem a_J0_charAt_5068e : MA yJ0_charAt_5068e cJ0_charAt_5068e 2 (some .char) 1 := ⟨T0_at 407 (by decide +kernel) (by decide +kernel), T0_at 66 (by decide +kernel) (by decide +kernel), by decide +kernel, by decide +kernel⟩
theorem a_J0_isLatin1_aae02 : MA yJ0_isLatin1_aae02 cJ0_isLatin1_aae02 1 (some .boolean) 0 := ⟨T0_at 411 (by decide +kernel) (by decide +kernel), T0_at 66 (by decide +kernel) (by decide +kernel), by decide +kernel, by decide +kernel⟩
theorem a_J1_charAt_3b067 : MA yJ1_charAt_3b067 cJ1_charAt_3b067 2 (some .char) 2 := ⟨T0_at 414 (by decide +kernel) (by decide +kernel), T0_at 67 (by decide +kernel) (by decide +kernel), by decide +kernel, by decide +kernel⟩
theorem a_J0_checkIndex_df160 : MA yJ0_checkIndex_df160 cJ0_checkIndex_df160 2 none 2 := ⟨T0_at 417 (by decide +kernel) (by decide +kernel), T0_at 66 (by decide +kernel) (by decide +kernel), by decide +kernel, by decide +kernel⟩
theorem a_J3_checkIndex_8e157 : MA yJ3_checkIndex_8e157 cJ3_checkIndex_8e157 3 (some .int) 3 := ⟨T0_at 422 (by decide +kernel) (by decide +kernel), T0_at 68 (by decide +kernel) (by decide +kernel), by decide +kernel, by decide +kernel⟩
theorem a_J2_charAt_3b067 : MA yJ2_charAt_3b067 cJ2_charAt_3b067 2 (some .char) 2 := ⟨T0_at 425 (by decide +kernel) (by decide +kernel), T0_at 69 (by decide +kernel) (by decide +kernel), by decide +kernel, by decide +kernel⟩
theorem a_J2_checkIndex_2214a : MA yJ2_checkIndex_2214a cJ2_checkIndex_2214a 2 none 2 := ⟨T0_at 428 (by decide +kernel) (by decide +kernel), T0_at 69 (by decide +kernel) (by decide +kernel), by decide +kernel, by decide +kernel⟩
theorem a_J2_length_9d52b : MA yJ2_length_9d52b cJ2_length_9d52b 1 (some .int) 1 := ⟨T0_at 431 (by decide +kernel) (by decide +kernel), T0_at 69 (by decide +kernel) (by decide +kernel), by decide +kernel, by decide +kernel⟩
theorem a_J2_getChar_3b067 : MA yJ2_getChar_3b067 cJ2_getChar_3b067 2 (some .char) 2 := ⟨T0_at 435 (by decide +kernel) (by decide +kernel), T0_at 69 (by decide +kernel) (by decide +kernel), by decide +kernel, by decide +kernel⟩
theorem a_X2_fail : MA yX2_fail cX2_fail 3 none 2 := ⟨T0_at 449 (by decide +kernel) (by decide +kernel), T0_at 58 (by decide +kernel) (by decide +kernel), by decide +kernel, by decide +kernel⟩
theorem a_X2_isTooOften : MA yX2_isTooOften cX2_isTooOften 3 (some .boolean) 2 := ⟨T0_at 453 (by decide +kernel) (by decide +kernel), T0_at 58 (by decide +kernel) (by decide +kernel), by decide +kernel, by decide +kernel⟩
theorem a_X2_readNumber : MA yX2_readNumber cX2_readNumber 6 none 3 := ⟨T0_at 457 (by decide +kernel) (by decide +kernel), T0_at 58 (by decide +kernel) (by decide +kernel), by decide +kernel, by decide +kernel⟩
theorem a_X2_isFigure : MA yX2_isFigure cX2_isFigure 1 (some .boolean) 1 := ⟨T0_at 460 (by decide +kernel) (by decide +kernel), T0_at 58 (by decide +kernel) (by decide +kernel), by decide +kernel, by decide +kernel⟩
theorem a_X2_least : MA yX2_least cX2_least 2 (some .int) 2 := ⟨T0_at 463 (by decide +kernel) (by decide +kernel), T0_at 58 (by decide +kernel) (by decide +kernel), by decide +kernel, by decide +kernel⟩
theorem a_X2_most : MA yX2_most cX2_most 3 (some .int) 3 := ⟨T0_at 466 (by decide +kernel) (by decide +kernel), T0_at 58 (by decide +kernel) (by decide +kernel), by decide +kernel, by decide +kernel⟩
theorem a_X2_isFootTold : MA yX2_isFootTold cX2_isFootTold 2 (some .boolean) 1 := ⟨T0_at 470 (by decide +kernel) (by decide +kernel), T0_at 58 (by decide +kernel) (by decide +kernel), by decide +kernel, by decide +kernel⟩
theorem a_X2_readEnd : MA yX2_readEnd cX2_readEnd 1 none 0 := ⟨T0_at 474 (by decide +kernel) (by decide +kernel), T0_at 58 (by decide +kernel) (by decide +kernel), by decide +kernel, by decide +kernel⟩
theorem a_X2_take : MA yX2_take cX2_take 5 none 2 := ⟨T0_at 478 (by decide +kernel) (by decide +kernel), T0_at 58 (by decide +kernel) (by decide +kernel), by decide +kernel, by decide +kernel⟩
theorem a_X0_setFeet : MA yX0_setFeet cX0_setFeet 4 none 2 := ⟨T0_at 482 (by decide +kernel) (by decide +kernel), T0_at 59 (by decide +kernel) (by decide +kernel), by decide +kernel, by decide +kernel⟩
theorem a_X0_setSlip : MA yX0_setSlip cX0_setSlip 3 none 2 := ⟨T0_at 486 (by decide +kernel) (by decide +kernel), T0_at 59 (by decide +kernel) (by decide +kernel), by decide +kernel, by decide +kernel⟩
theorem a_X0_addClimber : MA yX0_addClimber cX0_addClimber 5 none 3 := ⟨T0_at 490 (by decide +kernel) (by decide +kernel), T0_at 59 (by decide +kernel) (by decide +kernel), by decide +kernel, by decide +kernel⟩
theorem a_X2_empty : MA yX2_empty cX2_empty 1 none 0 := ⟨T0_at 494 (by decide +kernel) (by decide +kernel), T0_at 58 (by decide +kernel) (by decide +kernel), by decide +kernel, by decide +kernel⟩
theorem a_X0_become : MA yX0_become cX0_become 2 none 1 := ⟨T0_at 498 (by decide +kernel) (by decide +kernel), T0_at 59 (by decide +kernel) (by decide +kernel), by decide +kernel, by decide +kernel⟩
theorem a_X6_copyRow : MA yX6_copyRow cX6_copyRow 2 none 2 := ⟨T0_at 501 (by decide +kernel) (by decide +kernel), T0_at 57 (by decide +kernel) (by decide +kernel), by decide +kernel, by decide +kernel⟩
theorem a_J9_min_7cf53 : MA yJ9_min_7cf53 cJ9_min_7cf53 2 (some .int) 2 := ⟨T0_at 504 (by decide +kernel) (by decide +kernel), T0_at 63 (by decide +kernel) (by decide +kernel), by decide +kernel, by decide +kernel⟩
theorem a_X1_becomeAsTold : MA yX1_becomeAsTold cX1_becomeAsTold 2 none 1 := ⟨T0_at 511 (by decide +kernel) (by decide +kernel), T0_at 60 (by decide +kernel) (by decide +kernel), by decide +kernel, by decide +kernel⟩
theorem a_X5_empty : MA yX5_empty cX5_empty 1 none 0 := ⟨T0_at 516 (by decide +kernel) (by decide +kernel), T0_at 61 (by decide +kernel) (by decide +kernel), by decide +kernel, by decide +kernel⟩
theorem a_X6_fault : MA yX6_fault cX6_fault 1 (some .int) 0 := ⟨T0_at 520 (by decide +kernel) (by decide +kernel), T0_at 57 (by decide +kernel) (by decide +kernel), by decide +kernel, by decide +kernel⟩
theorem a_X6_told : MA yX6_told cX6_told 2 (some .int) 1 := ⟨T0_at 524 (by decide +kernel) (by decide +kernel), T0_at 57 (by decide +kernel) (by decide +kernel), by decide +kernel, by decide +kernel⟩
theorem a_X1_slipTogether : MA yX1_slipTogether cX1_slipTogether 5 (some .int) 2 := ⟨T0_at 528 (by decide +kernel) (by decide +kernel), T0_at 60 (by decide +kernel) (by decide +kernel), by decide +kernel, by decide +kernel⟩
theorem a_X6_slip : MA yX6_slip cX6_slip 2 (some .int) 1 := ⟨T0_at 533 (by decide +kernel) (by decide +kernel), T0_at 57 (by decide +kernel) (by decide +kernel), by decide +kernel, by decide +kernel⟩
theorem a_X0_hasFoot : MA yX0_hasFoot cX0_hasFoot 2 (some .boolean) 1 := ⟨T0_at 537 (by decide +kernel) (by decide +kernel), T0_at 59 (by decide +kernel) (by decide +kernel), by decide +kernel, by decide +kernel⟩
theorem a_X1_slipOn : MA yX1_slipOn cX1_slipOn 2 (some .int) 1 := ⟨T0_at 541 (by decide +kernel) (by decide +kernel), T0_at 60 (by decide +kernel) (by decide +kernel), by decide +kernel, by decide +kernel⟩
theorem a_X6_climber : MA yX6_climber cX6_climber 3 (some .int) 2 := ⟨T0_at 546 (by decide +kernel) (by decide +kernel), T0_at 57 (by decide +kernel) (by decide +kernel), by decide +kernel, by decide +kernel⟩
theorem a_X0_hasClimber : MA yX0_hasClimber cX0_hasClimber 2 (some .boolean) 1 := ⟨T0_at 550 (by decide +kernel) (by decide +kernel), T0_at 59 (by decide +kernel) (by decide +kernel), by decide +kernel, by decide +kernel⟩
theorem a_X0_weightOf : MA yX0_weightOf cX0_weightOf 2 (some .int) 1 := ⟨T0_at 554 (by decide +kernel) (by decide +kernel), T0_at 59 (by decide +kernel) (by decide +kernel), by decide +kernel, by decide +kernel⟩
theorem a_X0_armsOf : MA yX0_armsOf cX0_armsOf 2 (some .int) 1 := ⟨T0_at 558 (by decide +kernel) (by decide +kernel), T0_at 59 (by decide +kernel) (by decide +kernel), by decide +kernel, by decide +kernel⟩
theorem a_X0_rubsOf : MA yX0_rubsOf cX0_rubsOf 2 (some .int) 1 := ⟨T0_at 562 (by decide +kernel) (by decide +kernel), T0_at 59 (by decide +kernel) (by decide +kernel), by decide +kernel, by decide +kernel⟩
theorem a_X1_reach : MA yX1_reach cX1_reach 9 (some .int) 4 := ⟨T0_at 566 (by decide +kernel) (by decide +kernel), T0_at 60 (by decide +kernel) (by decide +kernel), by decide +kernel, by decide +kernel⟩
theorem a_X6_go : MA yX6_go cX6_go 2 (some .int) 1 := ⟨T0_at 572 (by decide +kernel) (by decide +kernel), T0_at 57 (by decide +kernel) (by decide +kernel), by decide +kernel, by decide +kernel⟩
theorem a_X1_climb : MA yX1_climb cX1_climb 6 (some .int) 3 := ⟨T0_at 577 (by decide +kernel) (by decide +kernel), T0_at 60 (by decide +kernel) (by decide +kernel), by decide +kernel, by decide +kernel⟩
theorem a_X1_rub : MA yX1_rub cX1_rub 6 (some .int) 2 := ⟨T0_at 583 (by decide +kernel) (by decide +kernel), T0_at 60 (by decide +kernel) (by decide +kernel), by decide +kernel, by decide +kernel⟩
theorem a_X1_smear : MA yX1_smear cX1_smear 7 none 2 := ⟨T0_at 588 (by decide +kernel) (by decide +kernel), T0_at 60 (by decide +kernel) (by decide +kernel), by decide +kernel, by decide +kernel⟩
theorem a_X1_addSlip : MA yX1_addSlip cX1_addSlip 5 none 3 := ⟨T0_at 592 (by decide +kernel) (by decide +kernel), T0_at 60 (by decide +kernel) (by decide +kernel), by decide +kernel, by decide +kernel⟩
theorem a_X6_soap : MA yX6_soap cX6_soap 4 (some .int) 3 := ⟨T0_at 596 (by decide +kernel) (by decide +kernel), T0_at 57 (by decide +kernel) (by decide +kernel), by decide +kernel, by decide +kernel⟩
theorem a_X6_hang : MA yX6_hang cX6_hang 2 (some .int) 0 := ⟨T0_at 601 (by decide +kernel) (by decide +kernel), T0_at 57 (by decide +kernel) (by decide +kernel), by decide +kernel, by decide +kernel⟩
theorem a_X6_begin : MA yX6_begin cX6_begin 2 (some .int) 0 := ⟨T0_at 605 (by decide +kernel) (by decide +kernel), T0_at 57 (by decide +kernel) (by decide +kernel), by decide +kernel, by decide +kernel⟩
theorem a_X6_drift : MA yX6_drift cX6_drift 3 (some .int) 1 := ⟨T0_at 609 (by decide +kernel) (by decide +kernel), T0_at 57 (by decide +kernel) (by decide +kernel), by decide +kernel, by decide +kernel⟩
theorem a_X1_draw : MA yX1_draw cX1_draw 2 (some .int) 1 := ⟨T0_at 613 (by decide +kernel) (by decide +kernel), T0_at 60 (by decide +kernel) (by decide +kernel), by decide +kernel, by decide +kernel⟩
theorem a_X6_order : MA yX6_order cX6_order 2 (some .int) 1 := ⟨T0_at 620 (by decide +kernel) (by decide +kernel), T0_at 57 (by decide +kernel) (by decide +kernel), by decide +kernel, by decide +kernel⟩
theorem a_X6_lookAgain : MA yX6_lookAgain cX6_lookAgain 1 none 0 := ⟨T0_at 624 (by decide +kernel) (by decide +kernel), T0_at 57 (by decide +kernel) (by decide +kernel), by decide +kernel, by decide +kernel⟩
theorem a_X1_isLike : MA yX1_isLike cX1_isLike 3 (some .boolean) 1 := ⟨T0_at 628 (by decide +kernel) (by decide +kernel), T0_at 60 (by decide +kernel) (by decide +kernel), by decide +kernel, by decide +kernel⟩
theorem a_X1_become : MA yX1_become cX1_become 2 none 1 := ⟨T0_at 632 (by decide +kernel) (by decide +kernel), T0_at 60 (by decide +kernel) (by decide +kernel), by decide +kernel, by decide +kernel⟩
theorem a_X4_forget : MA yX4_forget cX4_forget 2 none 0 := ⟨T0_at 636 (by decide +kernel) (by decide +kernel), T0_at 62 (by decide +kernel) (by decide +kernel), by decide +kernel, by decide +kernel⟩
theorem a_X3_forget : MA yX3_forget cX3_forget 1 none 0 := ⟨T0_at 640 (by decide +kernel) (by decide +kernel), T0_at 64 (by decide +kernel) (by decide +kernel), by decide +kernel, by decide +kernel⟩
theorem a_X4_ofAll : MA yX4_ofAll cX4_ofAll 5 (some .int) 3 := ⟨T0_at 644 (by decide +kernel) (by decide +kernel), T0_at 62 (by decide +kernel) (by decide +kernel), by decide +kernel, by decide +kernel⟩
theorem a_X4_findAll : MA yX4_findAll cX4_findAll 6 none 2 := ⟨T0_at 648 (by decide +kernel) (by decide +kernel), T0_at 62 (by decide +kernel) (by decide +kernel), by decide +kernel, by decide +kernel⟩
theorem a_X4_fewestGoes : MA yX4_fewestGoes cX4_fewestGoes 5 (some .int) 3 := ⟨T0_at 652 (by decide +kernel) (by decide +kernel), T0_at 62 (by decide +kernel) (by decide +kernel), by decide +kernel, by decide +kernel⟩
theorem a_X4_findFrom : MA yX4_findFrom cX4_findFrom 8 (some .boolean) 3 := ⟨T0_at 657 (by decide +kernel) (by decide +kernel), T0_at 62 (by decide +kernel) (by decide +kernel), by decide +kernel, by decide +kernel⟩
theorem a_X4_isHopeless : MA yX4_isHopeless cX4_isHopeless 6 (some .boolean) 2 := ⟨T0_at 661 (by decide +kernel) (by decide +kernel), T0_at 62 (by decide +kernel) (by decide +kernel), by decide +kernel, by decide +kernel⟩
theorem a_X0_mostRub : MA yX0_mostRub cX0_mostRub 3 (some .int) 0 := ⟨T0_at 665 (by decide +kernel) (by decide +kernel), T0_at 59 (by decide +kernel) (by decide +kernel), by decide +kernel, by decide +kernel⟩
theorem a_X1_mayReach : MA yX1_mayReach cX1_mayReach 7 (some .boolean) 3 := ⟨T0_at 670 (by decide +kernel) (by decide +kernel), T0_at 60 (by decide +kernel) (by decide +kernel), by decide +kernel, by decide +kernel⟩
theorem a_X6_forOne : MA yX6_forOne cX6_forOne 3 (some .int) 2 := ⟨T0_at 676 (by decide +kernel) (by decide +kernel), T0_at 57 (by decide +kernel) (by decide +kernel), by decide +kernel, by decide +kernel⟩
theorem a_X4_ofOne : MA yX4_ofOne cX4_ofOne 5 (some .int) 4 := ⟨T0_at 680 (by decide +kernel) (by decide +kernel), T0_at 62 (by decide +kernel) (by decide +kernel), by decide +kernel, by decide +kernel⟩
theorem a_X6_rests : MA yX6_rests cX6_rests 2 (some .int) 1 := ⟨T0_at 685 (by decide +kernel) (by decide +kernel), T0_at 57 (by decide +kernel) (by decide +kernel), by decide +kernel, by decide +kernel⟩
theorem a_X3_answer : MA yX3_answer cX3_answer 4 (some .int) 3 := ⟨T0_at 689 (by decide +kernel) (by decide +kernel), T0_at 64 (by decide +kernel) (by decide +kernel), by decide +kernel, by decide +kernel⟩
theorem a_X3_find : MA yX3_find cX3_find 7 none 2 := ⟨T0_at 693 (by decide +kernel) (by decide +kernel), T0_at 64 (by decide +kernel) (by decide +kernel), by decide +kernel, by decide +kernel⟩
theorem a_X3_bestTurn : MA yX3_bestTurn cX3_bestTurn 8 (some .int) 3 := ⟨T0_at 697 (by decide +kernel) (by decide +kernel), T0_at 64 (by decide +kernel) (by decide +kernel), by decide +kernel, by decide +kernel⟩
theorem a_X3_gainAt : MA yX3_gainAt cX3_gainAt 8 (some .int) 4 := ⟨T0_at 701 (by decide +kernel) (by decide +kernel), T0_at 64 (by decide +kernel) (by decide +kernel), by decide +kernel, by decide +kernel⟩
theorem a_X3_turnOf : MA yX3_turnOf cX3_turnOf 2 (some .int) 1 := ⟨T0_at 706 (by decide +kernel) (by decide +kernel), T0_at 64 (by decide +kernel) (by decide +kernel), by decide +kernel, by decide +kernel⟩
theorem a_X6_tower : MA yX6_tower cX6_tower 4 (some .int) 2 := ⟨T0_at 711 (by decide +kernel) (by decide +kernel), T0_at 57 (by decide +kernel) (by decide +kernel), by decide +kernel, by decide +kernel⟩
theorem a_X6_list : MA yX6_list cX6_list 3 (some .int) 2 := ⟨T0_at 715 (by decide +kernel) (by decide +kernel), T0_at 57 (by decide +kernel) (by decide +kernel), by decide +kernel, by decide +kernel⟩
theorem a_X5_append : MA yX5_append cX5_append 4 (some .int) 2 := ⟨T0_at 719 (by decide +kernel) (by decide +kernel), T0_at 61 (by decide +kernel) (by decide +kernel), by decide +kernel, by decide +kernel⟩
theorem a_X6_tear : MA yX6_tear cX6_tear 2 (some .int) 0 := ⟨T0_at 724 (by decide +kernel) (by decide +kernel), T0_at 57 (by decide +kernel) (by decide +kernel), by decide +kernel, by decide +kernel⟩
theorem a_X6_enough : MA yX6_enough cX6_enough 2 (some .int) 1 := ⟨T0_at 728 (by decide +kernel) (by decide +kernel), T0_at 57 (by decide +kernel) (by decide +kernel), by decide +kernel, by decide +kernel⟩
theorem a_X5_leastSlipFor : MA yX5_leastSlipFor cX5_leastSlipFor 5 (some .int) 3 := ⟨T0_at 732 (by decide +kernel) (by decide +kernel), T0_at 61 (by decide +kernel) (by decide +kernel), by decide +kernel, by decide +kernel⟩
theorem a_X1_coat : MA yX1_coat cX1_coat 3 none 1 := ⟨T0_at 737 (by decide +kernel) (by decide +kernel), T0_at 60 (by decide +kernel) (by decide +kernel), by decide +kernel, by decide +kernel⟩
theorem a_X5_goThatHasIt : MA yX5_goThatHasIt cX5_goThatHasIt 4 (some .int) 2 := ⟨T0_at 741 (by decide +kernel) (by decide +kernel), T0_at 61 (by decide +kernel) (by decide +kernel), by decide +kernel, by decide +kernel⟩
theorem a_X5_climberOf : MA yX5_climberOf cX5_climberOf 2 (some .int) 1 := ⟨T0_at 745 (by decide +kernel) (by decide +kernel), T0_at 61 (by decide +kernel) (by decide +kernel), by decide +kernel, by decide +kernel⟩
theorem a_X6_judge : MA yX6_judge cX6_judge 1 (some .int) 0 := ⟨T0_at 750 (by decide +kernel) (by decide +kernel), T0_at 57 (by decide +kernel) (by decide +kernel), by decide +kernel, by decide +kernel⟩
theorem a_X5_firstOtherwise : MA yX5_firstOtherwise cX5_firstOtherwise 6 (some .int) 3 := ⟨T0_at 754 (by decide +kernel) (by decide +kernel), T0_at 61 (by decide +kernel) (by decide +kernel), by decide +kernel, by decide +kernel⟩
theorem a_X6_sand : MA yX6_sand cX6_sand 3 (some .int) 0 := ⟨T0_at 758 (by decide +kernel) (by decide +kernel), T0_at 57 (by decide +kernel) (by decide +kernel), by decide +kernel, by decide +kernel⟩
theorem a_X6_seed : MA yX6_seed cX6_seed 3 (some .int) 1 := ⟨T0_at 762 (by decide +kernel) (by decide +kernel), T0_at 57 (by decide +kernel) (by decide +kernel), by decide +kernel, by decide +kernel⟩
theorem a_X6_keep : MA yX6_keep cX6_keep 2 (some .int) 1 := ⟨T0_at 766 (by decide +kernel) (by decide +kernel), T0_at 57 (by decide +kernel) (by decide +kernel), by decide +kernel, by decide +kernel⟩
theorem a_X6_isImage : MA yX6_isImage cX6_isImage 2 (some .boolean) 1 := ⟨T0_at 770 (by decide +kernel) (by decide +kernel), T0_at 57 (by decide +kernel) (by decide +kernel), by decide +kernel, by decide +kernel⟩
theorem a_X6_goBack : MA yX6_goBack cX6_goBack 2 (some .int) 1 := ⟨T0_at 774 (by decide +kernel) (by decide +kernel), T0_at 57 (by decide +kernel) (by decide +kernel), by decide +kernel, by decide +kernel⟩
theorem a_X7_init : MA yX7_init cX7_init 1 none 0 := ⟨T0_at 779 (by decide +kernel) (by decide +kernel), T0_at 65 (by decide +kernel) (by decide +kernel), by decide +kernel, by decide +kernel⟩
theorem a_X7_reads : MA yX7_reads cX7_reads 2 (some .boolean) 0 := ⟨T0_at 784 (by decide +kernel) (by decide +kernel), T0_at 65 (by decide +kernel) (by decide +kernel), by decide +kernel, by decide +kernel⟩
theorem a_X7_token : MA yX7_token cX7_token 1 none 0 := ⟨T0_at 788 (by decide +kernel) (by decide +kernel), T0_at 65 (by decide +kernel) (by decide +kernel), by decide +kernel, by decide +kernel⟩
theorem a_X7_byteAt : MA yX7_byteAt cX7_byteAt 2 (some .int) 1 := ⟨T0_at 792 (by decide +kernel) (by decide +kernel), T0_at 65 (by decide +kernel) (by decide +kernel), by decide +kernel, by decide +kernel⟩
theorem a_X7_sortOf : MA yX7_sortOf cX7_sortOf 1 (some .int) 1 := ⟨T0_at 795 (by decide +kernel) (by decide +kernel), T0_at 65 (by decide +kernel) (by decide +kernel), by decide +kernel, by decide +kernel⟩
theorem a_X7_in : MA yX7_in cX7_in 3 (some .boolean) 3 := ⟨T0_at 798 (by decide +kernel) (by decide +kernel), T0_at 65 (by decide +kernel) (by decide +kernel), by decide +kernel, by decide +kernel⟩
theorem a_X7_readsClause : MA yX7_readsClause cX7_readsClause 3 (some .boolean) 0 := ⟨T0_at 802 (by decide +kernel) (by decide +kernel), T0_at 65 (by decide +kernel) (by decide +kernel), by decide +kernel, by decide +kernel⟩
theorem a_X7_word : MA yX7_word cX7_word 4 (some .long) 0 := ⟨T0_at 806 (by decide +kernel) (by decide +kernel), T0_at 65 (by decide +kernel) (by decide +kernel), by decide +kernel, by decide +kernel⟩
theorem a_X7_readsPole : MA yX7_readsPole cX7_readsPole 2 (some .boolean) 0 := ⟨T0_at 812 (by decide +kernel) (by decide +kernel), T0_at 65 (by decide +kernel) (by decide +kernel), by decide +kernel, by decide +kernel⟩
theorem a_X7_wrong : MA yX7_wrong cX7_wrong 2 (some .boolean) 1 := ⟨T0_at 816 (by decide +kernel) (by decide +kernel), T0_at 65 (by decide +kernel) (by decide +kernel), by decide +kernel, by decide +kernel⟩
theorem a_X7_number : MA yX7_number cX7_number 6 (some .boolean) 3 := ⟨T0_at 820 (by decide +kernel) (by decide +kernel), T0_at 65 (by decide +kernel) (by decide +kernel), by decide +kernel, by decide +kernel⟩
theorem a_X7_stops : MA yX7_stops cX7_stops 1 (some .boolean) 0 := ⟨T0_at 824 (by decide +kernel) (by decide +kernel), T0_at 65 (by decide +kernel) (by decide +kernel), by decide +kernel, by decide +kernel⟩
theorem a_X7_readsFoot : MA yX7_readsFoot cX7_readsFoot 4 (some .boolean) 0 := ⟨T0_at 829 (by decide +kernel) (by decide +kernel), T0_at 65 (by decide +kernel) (by decide +kernel), by decide +kernel, by decide +kernel⟩
theorem a_X7_readsClimber : MA yX7_readsClimber cX7_readsClimber 2 (some .boolean) 0 := ⟨T0_at 834 (by decide +kernel) (by decide +kernel), T0_at 65 (by decide +kernel) (by decide +kernel), by decide +kernel, by decide +kernel⟩
theorem a_X7_readsHam : MA yX7_readsHam cX7_readsHam 1 (some .boolean) 0 := ⟨T0_at 839 (by decide +kernel) (by decide +kernel), T0_at 65 (by decide +kernel) (by decide +kernel), by decide +kernel, by decide +kernel⟩
theorem a_X7_readsSun : MA yX7_readsSun cX7_readsSun 1 (some .boolean) 0 := ⟨T0_at 844 (by decide +kernel) (by decide +kernel), T0_at 65 (by decide +kernel) (by decide +kernel), by decide +kernel, by decide +kernel⟩
theorem a_X7_tells : MA yX7_tells cX7_tells 2 none 0 := ⟨T0_at 848 (by decide +kernel) (by decide +kernel), T0_at 65 (by decide +kernel) (by decide +kernel), by decide +kernel, by decide +kernel⟩
theorem a_X7_begins : MA yX7_begins cX7_begins 2 none 0 := ⟨T0_at 852 (by decide +kernel) (by decide +kernel), T0_at 65 (by decide +kernel) (by decide +kernel), by decide +kernel, by decide +kernel⟩
theorem a_X7_feed : MA yX7_feed cX7_feed 5 (some .int) 2 := ⟨T0_at 932 (by decide +kernel) (by decide +kernel), T0_at 65 (by decide +kernel) (by decide +kernel), by decide +kernel, by decide +kernel⟩
theorem a_X7_pole : MA yX7_pole cX7_pole 2 (some .int) 0 := ⟨T0_at 939 (by decide +kernel) (by decide +kernel), T0_at 65 (by decide +kernel) (by decide +kernel), by decide +kernel, by decide +kernel⟩
theorem a_X7_fault : MA yX7_fault cX7_fault 1 (some .int) 0 := ⟨T0_at 943 (by decide +kernel) (by decide +kernel), T0_at 65 (by decide +kernel) (by decide +kernel), by decide +kernel, by decide +kernel⟩
theorem a_X7_told : MA yX7_told cX7_told 2 (some .int) 1 := ⟨T0_at 947 (by decide +kernel) (by decide +kernel), T0_at 65 (by decide +kernel) (by decide +kernel), by decide +kernel, by decide +kernel⟩
theorem a_X7_together : MA yX7_together cX7_together 5 (some .int) 2 := ⟨T0_at 951 (by decide +kernel) (by decide +kernel), T0_at 65 (by decide +kernel) (by decide +kernel), by decide +kernel, by decide +kernel⟩
theorem a_X7_slip : MA yX7_slip cX7_slip 2 (some .int) 1 := ⟨T0_at 955 (by decide +kernel) (by decide +kernel), T0_at 65 (by decide +kernel) (by decide +kernel), by decide +kernel, by decide +kernel⟩
theorem a_X7_isFoot : MA yX7_isFoot cX7_isFoot 2 (some .boolean) 1 := ⟨T0_at 959 (by decide +kernel) (by decide +kernel), T0_at 65 (by decide +kernel) (by decide +kernel), by decide +kernel, by decide +kernel⟩
theorem a_X7_climber : MA yX7_climber cX7_climber 3 (some .int) 2 := ⟨T0_at 964 (by decide +kernel) (by decide +kernel), T0_at 65 (by decide +kernel) (by decide +kernel), by decide +kernel, by decide +kernel⟩
theorem a_X7_isClimber : MA yX7_isClimber cX7_isClimber 2 (some .boolean) 1 := ⟨T0_at 968 (by decide +kernel) (by decide +kernel), T0_at 65 (by decide +kernel) (by decide +kernel), by decide +kernel, by decide +kernel⟩
theorem a_X7_lays : MA yX7_lays cX7_lays 2 none 0 := ⟨T0_at 972 (by decide +kernel) (by decide +kernel), T0_at 65 (by decide +kernel) (by decide +kernel), by decide +kernel, by decide +kernel⟩
theorem a_X7_climbs : MA yX7_climbs cX7_climbs 8 (some .int) 3 := ⟨T0_at 976 (by decide +kernel) (by decide +kernel), T0_at 65 (by decide +kernel) (by decide +kernel), by decide +kernel, by decide +kernel⟩
theorem a_X7_go : MA yX7_go cX7_go 3 (some .int) 1 := ⟨T0_at 980 (by decide +kernel) (by decide +kernel), T0_at 65 (by decide +kernel) (by decide +kernel), by decide +kernel, by decide +kernel⟩
theorem a_X7_goes : MA yX7_goes cX7_goes 6 (some .int) 2 := ⟨T0_at 985 (by decide +kernel) (by decide +kernel), T0_at 65 (by decide +kernel) (by decide +kernel), by decide +kernel, by decide +kernel⟩
theorem a_X7_takes : MA yX7_takes cX7_takes 2 none 0 := ⟨T0_at 989 (by decide +kernel) (by decide +kernel), T0_at 65 (by decide +kernel) (by decide +kernel), by decide +kernel, by decide +kernel⟩
theorem a_X7_soap : MA yX7_soap cX7_soap 5 (some .int) 3 := ⟨T0_at 993 (by decide +kernel) (by decide +kernel), T0_at 65 (by decide +kernel) (by decide +kernel), by decide +kernel, by decide +kernel⟩
theorem a_X7_hang : MA yX7_hang cX7_hang 2 (some .int) 0 := ⟨T0_at 997 (by decide +kernel) (by decide +kernel), T0_at 65 (by decide +kernel) (by decide +kernel), by decide +kernel, by decide +kernel⟩
theorem a_X7_begin : MA yX7_begin cX7_begin 2 (some .int) 0 := ⟨T0_at 1001 (by decide +kernel) (by decide +kernel), T0_at 65 (by decide +kernel) (by decide +kernel), by decide +kernel, by decide +kernel⟩
theorem a_X7_drift : MA yX7_drift cX7_drift 4 (some .int) 1 := ⟨T0_at 1005 (by decide +kernel) (by decide +kernel), T0_at 65 (by decide +kernel) (by decide +kernel), by decide +kernel, by decide +kernel⟩
theorem a_X7_order : MA yX7_order cX7_order 7 (some .int) 1 := ⟨T0_at 1013 (by decide +kernel) (by decide +kernel), T0_at 65 (by decide +kernel) (by decide +kernel), by decide +kernel, by decide +kernel⟩
theorem a_X7_hadBy : MA yX7_hadBy cX7_hadBy 4 (some .int) 1 := ⟨T0_at 1017 (by decide +kernel) (by decide +kernel), T0_at 65 (by decide +kernel) (by decide +kernel), by decide +kernel, by decide +kernel⟩
theorem a_X7_nextOrder : MA yX7_nextOrder cX7_nextOrder 6 (some .boolean) 1 := ⟨T0_at 1021 (by decide +kernel) (by decide +kernel), T0_at 65 (by decide +kernel) (by decide +kernel), by decide +kernel, by decide +kernel⟩
theorem a_X7_swaps : MA yX7_swaps cX7_swaps 4 none 2 := ⟨T0_at 1025 (by decide +kernel) (by decide +kernel), T0_at 65 (by decide +kernel) (by decide +kernel), by decide +kernel, by decide +kernel⟩
theorem a_X7_forOne : MA yX7_forOne cX7_forOne 5 (some .int) 2 := ⟨T0_at 1029 (by decide +kernel) (by decide +kernel), T0_at 65 (by decide +kernel) (by decide +kernel), by decide +kernel, by decide +kernel⟩
theorem a_X7_power : MA yX7_power cX7_power 4 (some .int) 2 := ⟨T0_at 1032 (by decide +kernel) (by decide +kernel), T0_at 65 (by decide +kernel) (by decide +kernel), by decide +kernel, by decide +kernel⟩
theorem a_X7_isHis : MA yX7_isHis cX7_isHis 6 (some .boolean) 3 := ⟨T0_at 1036 (by decide +kernel) (by decide +kernel), T0_at 65 (by decide +kernel) (by decide +kernel), by decide +kernel, by decide +kernel⟩
theorem a_X7_figure : MA yX7_figure cX7_figure 4 (some .int) 4 := ⟨T0_at 1039 (by decide +kernel) (by decide +kernel), T0_at 65 (by decide +kernel) (by decide +kernel), by decide +kernel, by decide +kernel⟩
theorem a_X7_rests : MA yX7_rests cX7_rests 6 (some .int) 1 := ⟨T0_at 1043 (by decide +kernel) (by decide +kernel), T0_at 65 (by decide +kernel) (by decide +kernel), by decide +kernel, by decide +kernel⟩
theorem a_X7_bestTurn : MA yX7_bestTurn cX7_bestTurn 6 (some .int) 1 := ⟨T0_at 1047 (by decide +kernel) (by decide +kernel), T0_at 65 (by decide +kernel) (by decide +kernel), by decide +kernel, by decide +kernel⟩
theorem a_X7_worthOf : MA yX7_worthOf cX7_worthOf 6 (some .int) 1 := ⟨T0_at 1051 (by decide +kernel) (by decide +kernel), T0_at 65 (by decide +kernel) (by decide +kernel), by decide +kernel, by decide +kernel⟩
theorem a_X7_tower : MA yX7_tower cX7_tower 3 (some .int) 2 := ⟨T0_at 1055 (by decide +kernel) (by decide +kernel), T0_at 65 (by decide +kernel) (by decide +kernel), by decide +kernel, by decide +kernel⟩
theorem a_X7_list : MA yX7_list cX7_list 3 (some .int) 2 := ⟨T0_at 1059 (by decide +kernel) (by decide +kernel), T0_at 65 (by decide +kernel) (by decide +kernel), by decide +kernel, by decide +kernel⟩
theorem a_X7_tear : MA yX7_tear cX7_tear 2 (some .int) 0 := ⟨T0_at 1063 (by decide +kernel) (by decide +kernel), T0_at 65 (by decide +kernel) (by decide +kernel), by decide +kernel, by decide +kernel⟩
theorem a_X7_enough : MA yX7_enough cX7_enough 5 (some .int) 1 := ⟨T0_at 1067 (by decide +kernel) (by decide +kernel), T0_at 65 (by decide +kernel) (by decide +kernel), by decide +kernel, by decide +kernel⟩
theorem a_X7_judge : MA yX7_judge cX7_judge 1 (some .int) 0 := ⟨T0_at 1071 (by decide +kernel) (by decide +kernel), T0_at 65 (by decide +kernel) (by decide +kernel), by decide +kernel, by decide +kernel⟩
theorem a_X7_wrongOf : MA yX7_wrongOf cX7_wrongOf 3 (some .int) 1 := ⟨T0_at 1075 (by decide +kernel) (by decide +kernel), T0_at 65 (by decide +kernel) (by decide +kernel), by decide +kernel, by decide +kernel⟩
theorem a_X7_sand : MA yX7_sand cX7_sand 3 (some .int) 0 := ⟨T0_at 1079 (by decide +kernel) (by decide +kernel), T0_at 65 (by decide +kernel) (by decide +kernel), by decide +kernel, by decide +kernel⟩
theorem a_X7_seed : MA yX7_seed cX7_seed 3 (some .int) 1 := ⟨T0_at 1083 (by decide +kernel) (by decide +kernel), T0_at 65 (by decide +kernel) (by decide +kernel), by decide +kernel, by decide +kernel⟩
theorem a_X7_keep : MA yX7_keep cX7_keep 3 (some .int) 1 := ⟨T0_at 1087 (by decide +kernel) (by decide +kernel), T0_at 65 (by decide +kernel) (by decide +kernel), by decide +kernel, by decide +kernel⟩
theorem a_X7_goBack : MA yX7_goBack cX7_goBack 3 (some .int) 1 := ⟨T0_at 1091 (by decide +kernel) (by decide +kernel), T0_at 65 (by decide +kernel) (by decide +kernel), by decide +kernel, by decide +kernel⟩
theorem m_L_9 : MI RL 9 yX6_init := ⟨T0_at 73 (by decide +kernel) (by decide +kernel), T0_at 74 (by decide +kernel) (by decide +kernel), rfl⟩
theorem m_X6_9 : MI RX6 9 yX2_init := ⟨T0_at 81 (by decide +kernel) (by decide +kernel), T0_at 82 (by decide +kernel) (by decide +kernel), rfl⟩
theorem m_X6_18 : MI RX6 18 yX0_init := ⟨T0_at 126 (by decide +kernel) (by decide +kernel), T0_at 127 (by decide +kernel) (by decide +kernel), rfl⟩
theorem m_X0_24 : MV RX0 24 0 yX0_empty := ⟨T0_at 130 (by decide +kernel) (by decide +kernel), T0_at 131 (by decide +kernel) (by decide +kernel), T0_at 132 (by decide +kernel) (by decide +kernel), _, _, rfl⟩
theorem m_X6_28 : MI RX6 28 yX1_init := ⟨T0_at 188 (by decide +kernel) (by decide +kernel), T0_at 189 (by decide +kernel) (by decide +kernel), rfl⟩
theorem m_X6_43 : MI RX6 43 yX5_init := ⟨T0_at 214 (by decide +kernel) (by decide +kernel), T0_at 215 (by decide +kernel) (by decide +kernel), rfl⟩
theorem m_X5_20 : MI RX5 20 yX1_init := ⟨T0_at 219 (by decide +kernel) (by decide +kernel), T0_at 189 (by decide +kernel) (by decide +kernel), rfl⟩
theorem m_X6_50 : MI RX6 50 yX4_init := ⟨T0_at 236 (by decide +kernel) (by decide +kernel), T0_at 237 (by decide +kernel) (by decide +kernel), rfl⟩
theorem m_X4_9 : MS RX4 9 yJ9_max_7cf53 := ⟨T0_at 240 (by decide +kernel) (by decide +kernel), T0_at 241 (by decide +kernel) (by decide +kernel)⟩
theorem m_X4_23 : MI RX4 23 yX1_init := ⟨T0_at 244 (by decide +kernel) (by decide +kernel), T0_at 189 (by decide +kernel) (by decide +kernel), rfl⟩
theorem m_X6_57 : MI RX6 57 yX3_init := ⟨T0_at 283 (by decide +kernel) (by decide +kernel), T0_at 284 (by decide +kernel) (by decide +kernel), rfl⟩
theorem m_X3_17 : MI RX3 17 yX1_init := ⟨T0_at 288 (by decide +kernel) (by decide +kernel), T0_at 189 (by decide +kernel) (by decide +kernel), rfl⟩
theorem m_L_15 : MV RL 15 6 yX6_feed := ⟨T0_at 339 (by decide +kernel) (by decide +kernel), T0_at 340 (by decide +kernel) (by decide +kernel), T0_at 341 (by decide +kernel) (by decide +kernel), _, _, rfl⟩
theorem m_X6_74 : MV RX6 74 2 yX2_room := ⟨T0_at 344 (by decide +kernel) (by decide +kernel), T0_at 345 (by decide +kernel) (by decide +kernel), T0_at 346 (by decide +kernel) (by decide +kernel), _, _, rfl⟩
theorem m_X6_79 : MV RX6 79 2 yX2_append := ⟨T0_at 349 (by decide +kernel) (by decide +kernel), T0_at 350 (by decide +kernel) (by decide +kernel), T0_at 351 (by decide +kernel) (by decide +kernel), _, _, rfl⟩
theorem m_L_20 : MV RL 20 6 yX6_pole := ⟨T0_at 353 (by decide +kernel) (by decide +kernel), T0_at 354 (by decide +kernel) (by decide +kernel), T0_at 355 (by decide +kernel) (by decide +kernel), _, _, rfl⟩
theorem m_X6_83 : MV RX6 83 2 yX2_read := ⟨T0_at 357 (by decide +kernel) (by decide +kernel), T0_at 358 (by decide +kernel) (by decide +kernel), T0_at 359 (by decide +kernel) (by decide +kernel), _, _, rfl⟩
theorem m_X2_30 : MV RX2 30 2 yX2_start := ⟨T0_at 361 (by decide +kernel) (by decide +kernel), T0_at 363 (by decide +kernel) (by decide +kernel), T0_at 0 (by decide +kernel) (by decide +kernel), _, _, rfl⟩
theorem m_X2_33 : MV RX2 33 0 yX0_empty := ⟨T0_at 365 (by decide +kernel) (by decide +kernel), T0_at 131 (by decide +kernel) (by decide +kernel), T0_at 132 (by decide +kernel) (by decide +kernel), _, _, rfl⟩
theorem m_X2_38 : MV RX2 38 2 yX2_skipBlanks := ⟨T0_at 366 (by decide +kernel) (by decide +kernel), T0_at 368 (by decide +kernel) (by decide +kernel), T0_at 1 (by decide +kernel) (by decide +kernel), _, _, rfl⟩
theorem m_X2_109 : MV RX2 109 2 yX2_byteAt := ⟨T0_at 370 (by decide +kernel) (by decide +kernel), T0_at 372 (by decide +kernel) (by decide +kernel), T0_at 2 (by decide +kernel) (by decide +kernel), _, _, rfl⟩
theorem m_X2_47 : MV RX2 47 2 yX2_readClause := ⟨T0_at 374 (by decide +kernel) (by decide +kernel), T0_at 376 (by decide +kernel) (by decide +kernel), T0_at 3 (by decide +kernel) (by decide +kernel), _, _, rfl⟩
theorem m_X2_64 : MV RX2 64 2 yX2_skipLetters := ⟨T0_at 378 (by decide +kernel) (by decide +kernel), T0_at 380 (by decide +kernel) (by decide +kernel), T0_at 4 (by decide +kernel) (by decide +kernel), _, _, rfl⟩
theorem m_X2_159 : MS RX2 159 yX2_isLetter := ⟨T0_at 382 (by decide +kernel) (by decide +kernel), T0_at 383 (by decide +kernel) (by decide +kernel)⟩
theorem m_X2_67 : MV RX2 67 2 yX2_kindOf := ⟨T0_at 385 (by decide +kernel) (by decide +kernel), T0_at 387 (by decide +kernel) (by decide +kernel), T0_at 5 (by decide +kernel) (by decide +kernel), _, _, rfl⟩
theorem m_X2_92 : MV RX2 92 2 yX2_isWord := ⟨T0_at 390 (by decide +kernel) (by decide +kernel), T0_at 392 (by decide +kernel) (by decide +kernel), T0_at 6 (by decide +kernel) (by decide +kernel), _, _, rfl⟩
theorem m_J0_495 : MS RJ0 495 yJ1_charAt_3b067 := ⟨T0_at 412 (by decide +kernel) (by decide +kernel), T0_at 413 (by decide +kernel) (by decide +kernel)⟩
theorem m_J1_9 : MS RJ1 9 yJ0_checkIndex_df160 := ⟨T0_at 415 (by decide +kernel) (by decide +kernel), T0_at 416 (by decide +kernel) (by decide +kernel)⟩
theorem m_J0_1059 : MS RJ0 1059 yJ3_checkIndex_8e157 := ⟨T0_at 420 (by decide +kernel) (by decide +kernel), T0_at 421 (by decide +kernel) (by decide +kernel)⟩
theorem m_J0_498 : MS RJ0 498 yJ2_charAt_3b067 := ⟨T0_at 423 (by decide +kernel) (by decide +kernel), T0_at 424 (by decide +kernel) (by decide +kernel)⟩
theorem m_J2_67 : MS RJ2 67 yJ2_checkIndex_2214a := ⟨T0_at 426 (by decide +kernel) (by decide +kernel), T0_at 427 (by decide +kernel) (by decide +kernel)⟩
theorem m_J2_48 : MS RJ2 48 yJ2_length_9d52b := ⟨T0_at 429 (by decide +kernel) (by decide +kernel), T0_at 430 (by decide +kernel) (by decide +kernel)⟩
theorem m_J2_414 : MS RJ2 414 yJ0_checkIndex_df160 := ⟨T0_at 432 (by decide +kernel) (by decide +kernel), T0_at 416 (by decide +kernel) (by decide +kernel)⟩
theorem m_J2_71 : MS RJ2 71 yJ2_getChar_3b067 := ⟨T0_at 433 (by decide +kernel) (by decide +kernel), T0_at 434 (by decide +kernel) (by decide +kernel)⟩
theorem m_X2_71 : MV RX2 71 2 yX2_fail := ⟨T0_at 446 (by decide +kernel) (by decide +kernel), T0_at 448 (by decide +kernel) (by decide +kernel), T0_at 7 (by decide +kernel) (by decide +kernel), _, _, rfl⟩
theorem m_X2_75 : MV RX2 75 2 yX2_isTooOften := ⟨T0_at 450 (by decide +kernel) (by decide +kernel), T0_at 452 (by decide +kernel) (by decide +kernel), T0_at 8 (by decide +kernel) (by decide +kernel), _, _, rfl⟩
theorem m_X2_79 : MV RX2 79 2 yX2_readNumber := ⟨T0_at 454 (by decide +kernel) (by decide +kernel), T0_at 456 (by decide +kernel) (by decide +kernel), T0_at 9 (by decide +kernel) (by decide +kernel), _, _, rfl⟩
theorem m_X2_120 : MS RX2 120 yX2_isFigure := ⟨T0_at 458 (by decide +kernel) (by decide +kernel), T0_at 459 (by decide +kernel) (by decide +kernel)⟩
theorem m_X2_124 : MS RX2 124 yX2_least := ⟨T0_at 461 (by decide +kernel) (by decide +kernel), T0_at 462 (by decide +kernel) (by decide +kernel)⟩
theorem m_X2_127 : MS RX2 127 yX2_most := ⟨T0_at 464 (by decide +kernel) (by decide +kernel), T0_at 465 (by decide +kernel) (by decide +kernel)⟩
theorem m_X2_131 : MV RX2 131 2 yX2_isFootTold := ⟨T0_at 467 (by decide +kernel) (by decide +kernel), T0_at 469 (by decide +kernel) (by decide +kernel), T0_at 10 (by decide +kernel) (by decide +kernel), _, _, rfl⟩
theorem m_X2_83 : MV RX2 83 2 yX2_readEnd := ⟨T0_at 471 (by decide +kernel) (by decide +kernel), T0_at 473 (by decide +kernel) (by decide +kernel), T0_at 11 (by decide +kernel) (by decide +kernel), _, _, rfl⟩
theorem m_X2_86 : MV RX2 86 2 yX2_take := ⟨T0_at 475 (by decide +kernel) (by decide +kernel), T0_at 477 (by decide +kernel) (by decide +kernel), T0_at 12 (by decide +kernel) (by decide +kernel), _, _, rfl⟩
theorem m_X2_137 : MV RX2 137 0 yX0_setFeet := ⟨T0_at 479 (by decide +kernel) (by decide +kernel), T0_at 480 (by decide +kernel) (by decide +kernel), T0_at 481 (by decide +kernel) (by decide +kernel), _, _, rfl⟩
theorem m_X2_140 : MV RX2 140 0 yX0_setSlip := ⟨T0_at 483 (by decide +kernel) (by decide +kernel), T0_at 484 (by decide +kernel) (by decide +kernel), T0_at 485 (by decide +kernel) (by decide +kernel), _, _, rfl⟩
theorem m_X2_143 : MV RX2 143 0 yX0_addClimber := ⟨T0_at 487 (by decide +kernel) (by decide +kernel), T0_at 488 (by decide +kernel) (by decide +kernel), T0_at 489 (by decide +kernel) (by decide +kernel), _, _, rfl⟩
theorem m_X6_90 : MV RX6 90 2 yX2_empty := ⟨T0_at 491 (by decide +kernel) (by decide +kernel), T0_at 492 (by decide +kernel) (by decide +kernel), T0_at 493 (by decide +kernel) (by decide +kernel), _, _, rfl⟩
theorem m_X6_93 : MV RX6 93 0 yX0_become := ⟨T0_at 495 (by decide +kernel) (by decide +kernel), T0_at 496 (by decide +kernel) (by decide +kernel), T0_at 497 (by decide +kernel) (by decide +kernel), _, _, rfl⟩
theorem m_X6_211 : MS RX6 211 yJ9_min_7cf53 := ⟨T0_at 502 (by decide +kernel) (by decide +kernel), T0_at 503 (by decide +kernel) (by decide +kernel)⟩
theorem m_X6_97 : MV RX6 97 1 yX1_becomeAsTold := ⟨T0_at 508 (by decide +kernel) (by decide +kernel), T0_at 509 (by decide +kernel) (by decide +kernel), T0_at 510 (by decide +kernel) (by decide +kernel), _, _, rfl⟩
theorem m_X6_100 : MV RX6 100 5 yX5_empty := ⟨T0_at 513 (by decide +kernel) (by decide +kernel), T0_at 514 (by decide +kernel) (by decide +kernel), T0_at 515 (by decide +kernel) (by decide +kernel), _, _, rfl⟩
theorem m_L_25 : MV RL 25 6 yX6_fault := ⟨T0_at 517 (by decide +kernel) (by decide +kernel), T0_at 518 (by decide +kernel) (by decide +kernel), T0_at 519 (by decide +kernel) (by decide +kernel), _, _, rfl⟩
theorem m_L_29 : MV RL 29 6 yX6_told := ⟨T0_at 521 (by decide +kernel) (by decide +kernel), T0_at 522 (by decide +kernel) (by decide +kernel), T0_at 523 (by decide +kernel) (by decide +kernel), _, _, rfl⟩
theorem m_X6_131 : MV RX6 131 1 yX1_slipTogether := ⟨T0_at 525 (by decide +kernel) (by decide +kernel), T0_at 526 (by decide +kernel) (by decide +kernel), T0_at 527 (by decide +kernel) (by decide +kernel), _, _, rfl⟩
theorem m_X1_32 : MS RX1 32 yJ9_max_7cf53 := ⟨T0_at 529 (by decide +kernel) (by decide +kernel), T0_at 241 (by decide +kernel) (by decide +kernel)⟩
theorem m_L_34 : MV RL 34 6 yX6_slip := ⟨T0_at 530 (by decide +kernel) (by decide +kernel), T0_at 531 (by decide +kernel) (by decide +kernel), T0_at 532 (by decide +kernel) (by decide +kernel), _, _, rfl⟩
theorem m_X6_135 : MV RX6 135 0 yX0_hasFoot := ⟨T0_at 534 (by decide +kernel) (by decide +kernel), T0_at 535 (by decide +kernel) (by decide +kernel), T0_at 536 (by decide +kernel) (by decide +kernel), _, _, rfl⟩
theorem m_X6_139 : MV RX6 139 1 yX1_slipOn := ⟨T0_at 538 (by decide +kernel) (by decide +kernel), T0_at 539 (by decide +kernel) (by decide +kernel), T0_at 540 (by decide +kernel) (by decide +kernel), _, _, rfl⟩
theorem m_L_38 : MV RL 38 6 yX6_climber := ⟨T0_at 543 (by decide +kernel) (by decide +kernel), T0_at 544 (by decide +kernel) (by decide +kernel), T0_at 545 (by decide +kernel) (by decide +kernel), _, _, rfl⟩
theorem m_X6_144 : MV RX6 144 0 yX0_hasClimber := ⟨T0_at 547 (by decide +kernel) (by decide +kernel), T0_at 548 (by decide +kernel) (by decide +kernel), T0_at 549 (by decide +kernel) (by decide +kernel), _, _, rfl⟩
theorem m_X6_147 : MV RX6 147 0 yX0_weightOf := ⟨T0_at 551 (by decide +kernel) (by decide +kernel), T0_at 552 (by decide +kernel) (by decide +kernel), T0_at 553 (by decide +kernel) (by decide +kernel), _, _, rfl⟩
theorem m_X6_150 : MV RX6 150 0 yX0_armsOf := ⟨T0_at 555 (by decide +kernel) (by decide +kernel), T0_at 556 (by decide +kernel) (by decide +kernel), T0_at 557 (by decide +kernel) (by decide +kernel), _, _, rfl⟩
theorem m_X6_153 : MV RX6 153 0 yX0_rubsOf := ⟨T0_at 559 (by decide +kernel) (by decide +kernel), T0_at 560 (by decide +kernel) (by decide +kernel), T0_at 561 (by decide +kernel) (by decide +kernel), _, _, rfl⟩
theorem m_X6_156 : MV RX6 156 1 yX1_reach := ⟨T0_at 563 (by decide +kernel) (by decide +kernel), T0_at 564 (by decide +kernel) (by decide +kernel), T0_at 565 (by decide +kernel) (by decide +kernel), _, _, rfl⟩
theorem m_X1_41 : MV RX1 41 0 yX0_weightOf := ⟨T0_at 567 (by decide +kernel) (by decide +kernel), T0_at 552 (by decide +kernel) (by decide +kernel), T0_at 553 (by decide +kernel) (by decide +kernel), _, _, rfl⟩
theorem m_X1_45 : MV RX1 45 0 yX0_armsOf := ⟨T0_at 568 (by decide +kernel) (by decide +kernel), T0_at 556 (by decide +kernel) (by decide +kernel), T0_at 557 (by decide +kernel) (by decide +kernel), _, _, rfl⟩
theorem m_L_43 : MV RL 43 6 yX6_go := ⟨T0_at 569 (by decide +kernel) (by decide +kernel), T0_at 570 (by decide +kernel) (by decide +kernel), T0_at 571 (by decide +kernel) (by decide +kernel), _, _, rfl⟩
theorem m_X6_161 : MV RX6 161 1 yX1_climb := ⟨T0_at 574 (by decide +kernel) (by decide +kernel), T0_at 575 (by decide +kernel) (by decide +kernel), T0_at 576 (by decide +kernel) (by decide +kernel), _, _, rfl⟩
theorem m_X1_51 : MV RX1 51 1 yX1_reach := ⟨T0_at 578 (by decide +kernel) (by decide +kernel), T0_at 564 (by decide +kernel) (by decide +kernel), T0_at 565 (by decide +kernel) (by decide +kernel), _, _, rfl⟩
theorem m_X1_55 : MV RX1 55 0 yX0_rubsOf := ⟨T0_at 579 (by decide +kernel) (by decide +kernel), T0_at 560 (by decide +kernel) (by decide +kernel), T0_at 561 (by decide +kernel) (by decide +kernel), _, _, rfl⟩
theorem m_X1_58 : MV RX1 58 1 yX1_rub := ⟨T0_at 580 (by decide +kernel) (by decide +kernel), T0_at 582 (by decide +kernel) (by decide +kernel), T0_at 13 (by decide +kernel) (by decide +kernel), _, _, rfl⟩
theorem m_X1_38 : MS RX1 38 yJ9_min_7cf53 := ⟨T0_at 584 (by decide +kernel) (by decide +kernel), T0_at 503 (by decide +kernel) (by decide +kernel)⟩
theorem m_X1_61 : MV RX1 61 1 yX1_smear := ⟨T0_at 585 (by decide +kernel) (by decide +kernel), T0_at 587 (by decide +kernel) (by decide +kernel), T0_at 14 (by decide +kernel) (by decide +kernel), _, _, rfl⟩
theorem m_X1_71 : MV RX1 71 1 yX1_addSlip := ⟨T0_at 589 (by decide +kernel) (by decide +kernel), T0_at 590 (by decide +kernel) (by decide +kernel), T0_at 591 (by decide +kernel) (by decide +kernel), _, _, rfl⟩
theorem m_L_47 : MV RL 47 6 yX6_soap := ⟨T0_at 593 (by decide +kernel) (by decide +kernel), T0_at 594 (by decide +kernel) (by decide +kernel), T0_at 595 (by decide +kernel) (by decide +kernel), _, _, rfl⟩
theorem m_X6_165 : MV RX6 165 1 yX1_addSlip := ⟨T0_at 597 (by decide +kernel) (by decide +kernel), T0_at 590 (by decide +kernel) (by decide +kernel), T0_at 591 (by decide +kernel) (by decide +kernel), _, _, rfl⟩
theorem m_L_52 : MV RL 52 6 yX6_hang := ⟨T0_at 598 (by decide +kernel) (by decide +kernel), T0_at 599 (by decide +kernel) (by decide +kernel), T0_at 600 (by decide +kernel) (by decide +kernel), _, _, rfl⟩
theorem m_L_56 : MV RL 56 6 yX6_begin := ⟨T0_at 602 (by decide +kernel) (by decide +kernel), T0_at 603 (by decide +kernel) (by decide +kernel), T0_at 604 (by decide +kernel) (by decide +kernel), _, _, rfl⟩
theorem m_L_60 : MV RL 60 6 yX6_drift := ⟨T0_at 606 (by decide +kernel) (by decide +kernel), T0_at 607 (by decide +kernel) (by decide +kernel), T0_at 608 (by decide +kernel) (by decide +kernel), _, _, rfl⟩
theorem m_X6_169 : MV RX6 169 1 yX1_draw := ⟨T0_at 610 (by decide +kernel) (by decide +kernel), T0_at 611 (by decide +kernel) (by decide +kernel), T0_at 612 (by decide +kernel) (by decide +kernel), _, _, rfl⟩
theorem m_L_64 : MV RL 64 6 yX6_order := ⟨T0_at 617 (by decide +kernel) (by decide +kernel), T0_at 618 (by decide +kernel) (by decide +kernel), T0_at 619 (by decide +kernel) (by decide +kernel), _, _, rfl⟩
theorem m_X6_172 : MV RX6 172 6 yX6_lookAgain := ⟨T0_at 621 (by decide +kernel) (by decide +kernel), T0_at 623 (by decide +kernel) (by decide +kernel), T0_at 15 (by decide +kernel) (by decide +kernel), _, _, rfl⟩
theorem m_X6_186 : MV RX6 186 1 yX1_isLike := ⟨T0_at 625 (by decide +kernel) (by decide +kernel), T0_at 626 (by decide +kernel) (by decide +kernel), T0_at 627 (by decide +kernel) (by decide +kernel), _, _, rfl⟩
theorem m_X6_190 : MV RX6 190 1 yX1_become := ⟨T0_at 629 (by decide +kernel) (by decide +kernel), T0_at 630 (by decide +kernel) (by decide +kernel), T0_at 631 (by decide +kernel) (by decide +kernel), _, _, rfl⟩
theorem m_X6_193 : MV RX6 193 4 yX4_forget := ⟨T0_at 633 (by decide +kernel) (by decide +kernel), T0_at 634 (by decide +kernel) (by decide +kernel), T0_at 635 (by decide +kernel) (by decide +kernel), _, _, rfl⟩
theorem m_X6_196 : MV RX6 196 3 yX3_forget := ⟨T0_at 637 (by decide +kernel) (by decide +kernel), T0_at 638 (by decide +kernel) (by decide +kernel), T0_at 639 (by decide +kernel) (by decide +kernel), _, _, rfl⟩
theorem m_X6_175 : MV RX6 175 4 yX4_ofAll := ⟨T0_at 641 (by decide +kernel) (by decide +kernel), T0_at 642 (by decide +kernel) (by decide +kernel), T0_at 643 (by decide +kernel) (by decide +kernel), _, _, rfl⟩
theorem m_X4_47 : MV RX4 47 4 yX4_findAll := ⟨T0_at 645 (by decide +kernel) (by decide +kernel), T0_at 647 (by decide +kernel) (by decide +kernel), T0_at 16 (by decide +kernel) (by decide +kernel), _, _, rfl⟩
theorem m_X4_66 : MV RX4 66 4 yX4_fewestGoes := ⟨T0_at 649 (by decide +kernel) (by decide +kernel), T0_at 651 (by decide +kernel) (by decide +kernel), T0_at 17 (by decide +kernel) (by decide +kernel), _, _, rfl⟩
theorem m_X4_77 : MV RX4 77 1 yX1_become := ⟨T0_at 653 (by decide +kernel) (by decide +kernel), T0_at 630 (by decide +kernel) (by decide +kernel), T0_at 631 (by decide +kernel) (by decide +kernel), _, _, rfl⟩
theorem m_X4_84 : MV RX4 84 4 yX4_findFrom := ⟨T0_at 654 (by decide +kernel) (by decide +kernel), T0_at 656 (by decide +kernel) (by decide +kernel), T0_at 18 (by decide +kernel) (by decide +kernel), _, _, rfl⟩
theorem m_X4_88 : MV RX4 88 4 yX4_isHopeless := ⟨T0_at 658 (by decide +kernel) (by decide +kernel), T0_at 660 (by decide +kernel) (by decide +kernel), T0_at 19 (by decide +kernel) (by decide +kernel), _, _, rfl⟩
theorem m_X4_103 : MV RX4 103 0 yX0_mostRub := ⟨T0_at 662 (by decide +kernel) (by decide +kernel), T0_at 663 (by decide +kernel) (by decide +kernel), T0_at 664 (by decide +kernel) (by decide +kernel), _, _, rfl⟩
theorem m_X0_50 : MS RX0 50 yJ9_max_7cf53 := ⟨T0_at 666 (by decide +kernel) (by decide +kernel), T0_at 241 (by decide +kernel) (by decide +kernel)⟩
theorem m_X4_107 : MV RX4 107 1 yX1_mayReach := ⟨T0_at 667 (by decide +kernel) (by decide +kernel), T0_at 668 (by decide +kernel) (by decide +kernel), T0_at 669 (by decide +kernel) (by decide +kernel), _, _, rfl⟩
theorem m_X4_92 : MV RX4 92 1 yX1_reach := ⟨T0_at 671 (by decide +kernel) (by decide +kernel), T0_at 564 (by decide +kernel) (by decide +kernel), T0_at 565 (by decide +kernel) (by decide +kernel), _, _, rfl⟩
theorem m_X4_99 : MV RX4 99 1 yX1_climb := ⟨T0_at 672 (by decide +kernel) (by decide +kernel), T0_at 575 (by decide +kernel) (by decide +kernel), T0_at 576 (by decide +kernel) (by decide +kernel), _, _, rfl⟩
theorem m_L_68 : MV RL 68 6 yX6_forOne := ⟨T0_at 673 (by decide +kernel) (by decide +kernel), T0_at 674 (by decide +kernel) (by decide +kernel), T0_at 675 (by decide +kernel) (by decide +kernel), _, _, rfl⟩
theorem m_X6_179 : MV RX6 179 4 yX4_ofOne := ⟨T0_at 677 (by decide +kernel) (by decide +kernel), T0_at 678 (by decide +kernel) (by decide +kernel), T0_at 679 (by decide +kernel) (by decide +kernel), _, _, rfl⟩
theorem m_L_72 : MV RL 72 6 yX6_rests := ⟨T0_at 682 (by decide +kernel) (by decide +kernel), T0_at 683 (by decide +kernel) (by decide +kernel), T0_at 684 (by decide +kernel) (by decide +kernel), _, _, rfl⟩
theorem m_X6_183 : MV RX6 183 3 yX3_answer := ⟨T0_at 686 (by decide +kernel) (by decide +kernel), T0_at 687 (by decide +kernel) (by decide +kernel), T0_at 688 (by decide +kernel) (by decide +kernel), _, _, rfl⟩
theorem m_X3_26 : MV RX3 26 3 yX3_find := ⟨T0_at 690 (by decide +kernel) (by decide +kernel), T0_at 692 (by decide +kernel) (by decide +kernel), T0_at 20 (by decide +kernel) (by decide +kernel), _, _, rfl⟩
theorem m_X3_46 : MV RX3 46 3 yX3_bestTurn := ⟨T0_at 694 (by decide +kernel) (by decide +kernel), T0_at 696 (by decide +kernel) (by decide +kernel), T0_at 21 (by decide +kernel) (by decide +kernel), _, _, rfl⟩
theorem m_X3_50 : MV RX3 50 3 yX3_gainAt := ⟨T0_at 698 (by decide +kernel) (by decide +kernel), T0_at 700 (by decide +kernel) (by decide +kernel), T0_at 22 (by decide +kernel) (by decide +kernel), _, _, rfl⟩
theorem m_X3_54 : MV RX3 54 1 yX1_become := ⟨T0_at 702 (by decide +kernel) (by decide +kernel), T0_at 630 (by decide +kernel) (by decide +kernel), T0_at 631 (by decide +kernel) (by decide +kernel), _, _, rfl⟩
theorem m_X3_34 : MV RX3 34 3 yX3_turnOf := ⟨T0_at 703 (by decide +kernel) (by decide +kernel), T0_at 705 (by decide +kernel) (by decide +kernel), T0_at 23 (by decide +kernel) (by decide +kernel), _, _, rfl⟩
theorem m_X3_58 : MV RX3 58 1 yX1_climb := ⟨T0_at 707 (by decide +kernel) (by decide +kernel), T0_at 575 (by decide +kernel) (by decide +kernel), T0_at 576 (by decide +kernel) (by decide +kernel), _, _, rfl⟩
theorem m_L_76 : MV RL 76 6 yX6_tower := ⟨T0_at 708 (by decide +kernel) (by decide +kernel), T0_at 709 (by decide +kernel) (by decide +kernel), T0_at 710 (by decide +kernel) (by decide +kernel), _, _, rfl⟩
theorem m_L_80 : MV RL 80 6 yX6_list := ⟨T0_at 712 (by decide +kernel) (by decide +kernel), T0_at 713 (by decide +kernel) (by decide +kernel), T0_at 714 (by decide +kernel) (by decide +kernel), _, _, rfl⟩
theorem m_X6_197 : MV RX6 197 5 yX5_append := ⟨T0_at 716 (by decide +kernel) (by decide +kernel), T0_at 717 (by decide +kernel) (by decide +kernel), T0_at 718 (by decide +kernel) (by decide +kernel), _, _, rfl⟩
theorem m_L_84 : MV RL 84 6 yX6_tear := ⟨T0_at 721 (by decide +kernel) (by decide +kernel), T0_at 722 (by decide +kernel) (by decide +kernel), T0_at 723 (by decide +kernel) (by decide +kernel), _, _, rfl⟩
theorem m_L_88 : MV RL 88 6 yX6_enough := ⟨T0_at 725 (by decide +kernel) (by decide +kernel), T0_at 726 (by decide +kernel) (by decide +kernel), T0_at 727 (by decide +kernel) (by decide +kernel), _, _, rfl⟩
theorem m_X6_199 : MV RX6 199 5 yX5_leastSlipFor := ⟨T0_at 729 (by decide +kernel) (by decide +kernel), T0_at 730 (by decide +kernel) (by decide +kernel), T0_at 731 (by decide +kernel) (by decide +kernel), _, _, rfl⟩
theorem m_X5_30 : MV RX5 30 1 yX1_become := ⟨T0_at 733 (by decide +kernel) (by decide +kernel), T0_at 630 (by decide +kernel) (by decide +kernel), T0_at 631 (by decide +kernel) (by decide +kernel), _, _, rfl⟩
theorem m_X5_45 : MV RX5 45 1 yX1_coat := ⟨T0_at 734 (by decide +kernel) (by decide +kernel), T0_at 735 (by decide +kernel) (by decide +kernel), T0_at 736 (by decide +kernel) (by decide +kernel), _, _, rfl⟩
theorem m_X5_49 : MV RX5 49 5 yX5_goThatHasIt := ⟨T0_at 738 (by decide +kernel) (by decide +kernel), T0_at 740 (by decide +kernel) (by decide +kernel), T0_at 24 (by decide +kernel) (by decide +kernel), _, _, rfl⟩
theorem m_X5_34 : MV RX5 34 5 yX5_climberOf := ⟨T0_at 742 (by decide +kernel) (by decide +kernel), T0_at 744 (by decide +kernel) (by decide +kernel), T0_at 25 (by decide +kernel) (by decide +kernel), _, _, rfl⟩
theorem m_X5_38 : MV RX5 38 1 yX1_climb := ⟨T0_at 746 (by decide +kernel) (by decide +kernel), T0_at 575 (by decide +kernel) (by decide +kernel), T0_at 576 (by decide +kernel) (by decide +kernel), _, _, rfl⟩
theorem m_L_92 : MV RL 92 6 yX6_judge := ⟨T0_at 747 (by decide +kernel) (by decide +kernel), T0_at 748 (by decide +kernel) (by decide +kernel), T0_at 749 (by decide +kernel) (by decide +kernel), _, _, rfl⟩
theorem m_X6_202 : MV RX6 202 5 yX5_firstOtherwise := ⟨T0_at 751 (by decide +kernel) (by decide +kernel), T0_at 752 (by decide +kernel) (by decide +kernel), T0_at 753 (by decide +kernel) (by decide +kernel), _, _, rfl⟩
theorem m_L_96 : MV RL 96 6 yX6_sand := ⟨T0_at 755 (by decide +kernel) (by decide +kernel), T0_at 756 (by decide +kernel) (by decide +kernel), T0_at 757 (by decide +kernel) (by decide +kernel), _, _, rfl⟩
theorem m_L_100 : MV RL 100 6 yX6_seed := ⟨T0_at 759 (by decide +kernel) (by decide +kernel), T0_at 760 (by decide +kernel) (by decide +kernel), T0_at 761 (by decide +kernel) (by decide +kernel), _, _, rfl⟩
theorem m_L_104 : MV RL 104 6 yX6_keep := ⟨T0_at 763 (by decide +kernel) (by decide +kernel), T0_at 764 (by decide +kernel) (by decide +kernel), T0_at 765 (by decide +kernel) (by decide +kernel), _, _, rfl⟩
theorem m_X6_208 : MV RX6 208 6 yX6_isImage := ⟨T0_at 767 (by decide +kernel) (by decide +kernel), T0_at 769 (by decide +kernel) (by decide +kernel), T0_at 26 (by decide +kernel) (by decide +kernel), _, _, rfl⟩
theorem m_L_108 : MV RL 108 6 yX6_goBack := ⟨T0_at 771 (by decide +kernel) (by decide +kernel), T0_at 772 (by decide +kernel) (by decide +kernel), T0_at 773 (by decide +kernel) (by decide +kernel), _, _, rfl⟩
theorem m_L_12 : MI RL 12 yX7_init := ⟨T0_at 777 (by decide +kernel) (by decide +kernel), T0_at 778 (by decide +kernel) (by decide +kernel), rfl⟩
theorem m_X7_54 : MV RX7 54 7 yX7_reads := ⟨T0_at 781 (by decide +kernel) (by decide +kernel), T0_at 783 (by decide +kernel) (by decide +kernel), T0_at 27 (by decide +kernel) (by decide +kernel), _, _, rfl⟩
theorem m_X7_96 : MV RX7 96 7 yX7_token := ⟨T0_at 785 (by decide +kernel) (by decide +kernel), T0_at 787 (by decide +kernel) (by decide +kernel), T0_at 28 (by decide +kernel) (by decide +kernel), _, _, rfl⟩
theorem m_X7_75 : MV RX7 75 7 yX7_byteAt := ⟨T0_at 789 (by decide +kernel) (by decide +kernel), T0_at 791 (by decide +kernel) (by decide +kernel), T0_at 29 (by decide +kernel) (by decide +kernel), _, _, rfl⟩
theorem m_X7_82 : MS RX7 82 yX7_sortOf := ⟨T0_at 793 (by decide +kernel) (by decide +kernel), T0_at 794 (by decide +kernel) (by decide +kernel)⟩
theorem m_X7_61 : MS RX7 61 yX7_in := ⟨T0_at 796 (by decide +kernel) (by decide +kernel), T0_at 797 (by decide +kernel) (by decide +kernel)⟩
theorem m_X7_145 : MV RX7 145 7 yX7_readsClause := ⟨T0_at 799 (by decide +kernel) (by decide +kernel), T0_at 801 (by decide +kernel) (by decide +kernel), T0_at 30 (by decide +kernel) (by decide +kernel), _, _, rfl⟩
theorem m_X7_116 : MV RX7 116 7 yX7_word := ⟨T0_at 803 (by decide +kernel) (by decide +kernel), T0_at 805 (by decide +kernel) (by decide +kernel), T0_at 31 (by decide +kernel) (by decide +kernel), _, _, rfl⟩
theorem m_X7_122 : MV RX7 122 7 yX7_readsPole := ⟨T0_at 809 (by decide +kernel) (by decide +kernel), T0_at 811 (by decide +kernel) (by decide +kernel), T0_at 32 (by decide +kernel) (by decide +kernel), _, _, rfl⟩
theorem m_X7_99 : MV RX7 99 7 yX7_wrong := ⟨T0_at 813 (by decide +kernel) (by decide +kernel), T0_at 815 (by decide +kernel) (by decide +kernel), T0_at 33 (by decide +kernel) (by decide +kernel), _, _, rfl⟩
theorem m_X7_103 : MV RX7 103 7 yX7_number := ⟨T0_at 817 (by decide +kernel) (by decide +kernel), T0_at 819 (by decide +kernel) (by decide +kernel), T0_at 34 (by decide +kernel) (by decide +kernel), _, _, rfl⟩
theorem m_X7_106 : MV RX7 106 7 yX7_stops := ⟨T0_at 821 (by decide +kernel) (by decide +kernel), T0_at 823 (by decide +kernel) (by decide +kernel), T0_at 35 (by decide +kernel) (by decide +kernel), _, _, rfl⟩
theorem m_X7_127 : MV RX7 127 7 yX7_readsFoot := ⟨T0_at 826 (by decide +kernel) (by decide +kernel), T0_at 828 (by decide +kernel) (by decide +kernel), T0_at 36 (by decide +kernel) (by decide +kernel), _, _, rfl⟩
theorem m_X7_132 : MV RX7 132 7 yX7_readsClimber := ⟨T0_at 831 (by decide +kernel) (by decide +kernel), T0_at 833 (by decide +kernel) (by decide +kernel), T0_at 37 (by decide +kernel) (by decide +kernel), _, _, rfl⟩
theorem m_X7_137 : MV RX7 137 7 yX7_readsHam := ⟨T0_at 836 (by decide +kernel) (by decide +kernel), T0_at 838 (by decide +kernel) (by decide +kernel), T0_at 38 (by decide +kernel) (by decide +kernel), _, _, rfl⟩
theorem m_X7_142 : MV RX7 142 7 yX7_readsSun := ⟨T0_at 841 (by decide +kernel) (by decide +kernel), T0_at 843 (by decide +kernel) (by decide +kernel), T0_at 39 (by decide +kernel) (by decide +kernel), _, _, rfl⟩
theorem m_X7_58 : MV RX7 58 7 yX7_tells := ⟨T0_at 845 (by decide +kernel) (by decide +kernel), T0_at 847 (by decide +kernel) (by decide +kernel), T0_at 40 (by decide +kernel) (by decide +kernel), _, _, rfl⟩
theorem m_X7_148 : MV RX7 148 7 yX7_begins := ⟨T0_at 849 (by decide +kernel) (by decide +kernel), T0_at 851 (by decide +kernel) (by decide +kernel), T0_at 41 (by decide +kernel) (by decide +kernel), _, _, rfl⟩
theorem m_L_19 : MV RL 19 7 yX7_feed := ⟨T0_at 929 (by decide +kernel) (by decide +kernel), T0_at 930 (by decide +kernel) (by decide +kernel), T0_at 931 (by decide +kernel) (by decide +kernel), _, _, rfl⟩
theorem m_L_24 : MV RL 24 7 yX7_pole := ⟨T0_at 936 (by decide +kernel) (by decide +kernel), T0_at 937 (by decide +kernel) (by decide +kernel), T0_at 938 (by decide +kernel) (by decide +kernel), _, _, rfl⟩
theorem m_L_28 : MV RL 28 7 yX7_fault := ⟨T0_at 940 (by decide +kernel) (by decide +kernel), T0_at 941 (by decide +kernel) (by decide +kernel), T0_at 942 (by decide +kernel) (by decide +kernel), _, _, rfl⟩
theorem m_L_33 : MV RL 33 7 yX7_told := ⟨T0_at 944 (by decide +kernel) (by decide +kernel), T0_at 945 (by decide +kernel) (by decide +kernel), T0_at 946 (by decide +kernel) (by decide +kernel), _, _, rfl⟩
theorem m_X7_154 : MV RX7 154 7 yX7_together := ⟨T0_at 948 (by decide +kernel) (by decide +kernel), T0_at 950 (by decide +kernel) (by decide +kernel), T0_at 42 (by decide +kernel) (by decide +kernel), _, _, rfl⟩
theorem m_L_37 : MV RL 37 7 yX7_slip := ⟨T0_at 952 (by decide +kernel) (by decide +kernel), T0_at 953 (by decide +kernel) (by decide +kernel), T0_at 954 (by decide +kernel) (by decide +kernel), _, _, rfl⟩
theorem m_X7_158 : MV RX7 158 7 yX7_isFoot := ⟨T0_at 956 (by decide +kernel) (by decide +kernel), T0_at 958 (by decide +kernel) (by decide +kernel), T0_at 43 (by decide +kernel) (by decide +kernel), _, _, rfl⟩
theorem m_L_42 : MV RL 42 7 yX7_climber := ⟨T0_at 961 (by decide +kernel) (by decide +kernel), T0_at 962 (by decide +kernel) (by decide +kernel), T0_at 963 (by decide +kernel) (by decide +kernel), _, _, rfl⟩
theorem m_X7_169 : MV RX7 169 7 yX7_isClimber := ⟨T0_at 965 (by decide +kernel) (by decide +kernel), T0_at 967 (by decide +kernel) (by decide +kernel), T0_at 44 (by decide +kernel) (by decide +kernel), _, _, rfl⟩
theorem m_X7_172 : MV RX7 172 7 yX7_lays := ⟨T0_at 969 (by decide +kernel) (by decide +kernel), T0_at 971 (by decide +kernel) (by decide +kernel), T0_at 45 (by decide +kernel) (by decide +kernel), _, _, rfl⟩
theorem m_X7_165 : MV RX7 165 7 yX7_climbs := ⟨T0_at 973 (by decide +kernel) (by decide +kernel), T0_at 975 (by decide +kernel) (by decide +kernel), T0_at 46 (by decide +kernel) (by decide +kernel), _, _, rfl⟩
theorem m_L_46 : MV RL 46 7 yX7_go := ⟨T0_at 977 (by decide +kernel) (by decide +kernel), T0_at 978 (by decide +kernel) (by decide +kernel), T0_at 979 (by decide +kernel) (by decide +kernel), _, _, rfl⟩
theorem m_X7_176 : MV RX7 176 7 yX7_goes := ⟨T0_at 982 (by decide +kernel) (by decide +kernel), T0_at 984 (by decide +kernel) (by decide +kernel), T0_at 47 (by decide +kernel) (by decide +kernel), _, _, rfl⟩
theorem m_X7_180 : MV RX7 180 7 yX7_takes := ⟨T0_at 986 (by decide +kernel) (by decide +kernel), T0_at 988 (by decide +kernel) (by decide +kernel), T0_at 48 (by decide +kernel) (by decide +kernel), _, _, rfl⟩
theorem m_L_51 : MV RL 51 7 yX7_soap := ⟨T0_at 990 (by decide +kernel) (by decide +kernel), T0_at 991 (by decide +kernel) (by decide +kernel), T0_at 992 (by decide +kernel) (by decide +kernel), _, _, rfl⟩
theorem m_L_55 : MV RL 55 7 yX7_hang := ⟨T0_at 994 (by decide +kernel) (by decide +kernel), T0_at 995 (by decide +kernel) (by decide +kernel), T0_at 996 (by decide +kernel) (by decide +kernel), _, _, rfl⟩
theorem m_L_59 : MV RL 59 7 yX7_begin := ⟨T0_at 998 (by decide +kernel) (by decide +kernel), T0_at 999 (by decide +kernel) (by decide +kernel), T0_at 1000 (by decide +kernel) (by decide +kernel), _, _, rfl⟩
theorem m_L_63 : MV RL 63 7 yX7_drift := ⟨T0_at 1002 (by decide +kernel) (by decide +kernel), T0_at 1003 (by decide +kernel) (by decide +kernel), T0_at 1004 (by decide +kernel) (by decide +kernel), _, _, rfl⟩
theorem m_L_67 : MV RL 67 7 yX7_order := ⟨T0_at 1010 (by decide +kernel) (by decide +kernel), T0_at 1011 (by decide +kernel) (by decide +kernel), T0_at 1012 (by decide +kernel) (by decide +kernel), _, _, rfl⟩
theorem m_X7_200 : MV RX7 200 7 yX7_hadBy := ⟨T0_at 1014 (by decide +kernel) (by decide +kernel), T0_at 1016 (by decide +kernel) (by decide +kernel), T0_at 49 (by decide +kernel) (by decide +kernel), _, _, rfl⟩
theorem m_X7_203 : MV RX7 203 7 yX7_nextOrder := ⟨T0_at 1018 (by decide +kernel) (by decide +kernel), T0_at 1020 (by decide +kernel) (by decide +kernel), T0_at 50 (by decide +kernel) (by decide +kernel), _, _, rfl⟩
theorem m_X7_196 : MV RX7 196 7 yX7_swaps := ⟨T0_at 1022 (by decide +kernel) (by decide +kernel), T0_at 1024 (by decide +kernel) (by decide +kernel), T0_at 51 (by decide +kernel) (by decide +kernel), _, _, rfl⟩
theorem m_L_71 : MV RL 71 7 yX7_forOne := ⟨T0_at 1026 (by decide +kernel) (by decide +kernel), T0_at 1027 (by decide +kernel) (by decide +kernel), T0_at 1028 (by decide +kernel) (by decide +kernel), _, _, rfl⟩
theorem m_X7_193 : MS RX7 193 yX7_power := ⟨T0_at 1030 (by decide +kernel) (by decide +kernel), T0_at 1031 (by decide +kernel) (by decide +kernel)⟩
theorem m_X7_210 : MV RX7 210 7 yX7_isHis := ⟨T0_at 1033 (by decide +kernel) (by decide +kernel), T0_at 1035 (by decide +kernel) (by decide +kernel), T0_at 52 (by decide +kernel) (by decide +kernel), _, _, rfl⟩
theorem m_X7_206 : MS RX7 206 yX7_figure := ⟨T0_at 1037 (by decide +kernel) (by decide +kernel), T0_at 1038 (by decide +kernel) (by decide +kernel)⟩
theorem m_L_75 : MV RL 75 7 yX7_rests := ⟨T0_at 1040 (by decide +kernel) (by decide +kernel), T0_at 1041 (by decide +kernel) (by decide +kernel), T0_at 1042 (by decide +kernel) (by decide +kernel), _, _, rfl⟩
theorem m_X7_216 : MV RX7 216 7 yX7_bestTurn := ⟨T0_at 1044 (by decide +kernel) (by decide +kernel), T0_at 1046 (by decide +kernel) (by decide +kernel), T0_at 53 (by decide +kernel) (by decide +kernel), _, _, rfl⟩
theorem m_X7_213 : MV RX7 213 7 yX7_worthOf := ⟨T0_at 1048 (by decide +kernel) (by decide +kernel), T0_at 1050 (by decide +kernel) (by decide +kernel), T0_at 54 (by decide +kernel) (by decide +kernel), _, _, rfl⟩
theorem m_L_79 : MV RL 79 7 yX7_tower := ⟨T0_at 1052 (by decide +kernel) (by decide +kernel), T0_at 1053 (by decide +kernel) (by decide +kernel), T0_at 1054 (by decide +kernel) (by decide +kernel), _, _, rfl⟩
theorem m_L_83 : MV RL 83 7 yX7_list := ⟨T0_at 1056 (by decide +kernel) (by decide +kernel), T0_at 1057 (by decide +kernel) (by decide +kernel), T0_at 1058 (by decide +kernel) (by decide +kernel), _, _, rfl⟩
theorem m_L_87 : MV RL 87 7 yX7_tear := ⟨T0_at 1060 (by decide +kernel) (by decide +kernel), T0_at 1061 (by decide +kernel) (by decide +kernel), T0_at 1062 (by decide +kernel) (by decide +kernel), _, _, rfl⟩
theorem m_L_91 : MV RL 91 7 yX7_enough := ⟨T0_at 1064 (by decide +kernel) (by decide +kernel), T0_at 1065 (by decide +kernel) (by decide +kernel), T0_at 1066 (by decide +kernel) (by decide +kernel), _, _, rfl⟩
theorem m_L_95 : MV RL 95 7 yX7_judge := ⟨T0_at 1068 (by decide +kernel) (by decide +kernel), T0_at 1069 (by decide +kernel) (by decide +kernel), T0_at 1070 (by decide +kernel) (by decide +kernel), _, _, rfl⟩
theorem m_X7_219 : MV RX7 219 7 yX7_wrongOf := ⟨T0_at 1072 (by decide +kernel) (by decide +kernel), T0_at 1074 (by decide +kernel) (by decide +kernel), T0_at 55 (by decide +kernel) (by decide +kernel), _, _, rfl⟩
theorem m_L_99 : MV RL 99 7 yX7_sand := ⟨T0_at 1076 (by decide +kernel) (by decide +kernel), T0_at 1077 (by decide +kernel) (by decide +kernel), T0_at 1078 (by decide +kernel) (by decide +kernel), _, _, rfl⟩
theorem m_L_103 : MV RL 103 7 yX7_seed := ⟨T0_at 1080 (by decide +kernel) (by decide +kernel), T0_at 1081 (by decide +kernel) (by decide +kernel), T0_at 1082 (by decide +kernel) (by decide +kernel), _, _, rfl⟩
theorem m_L_107 : MV RL 107 7 yX7_keep := ⟨T0_at 1084 (by decide +kernel) (by decide +kernel), T0_at 1085 (by decide +kernel) (by decide +kernel), T0_at 1086 (by decide +kernel) (by decide +kernel), _, _, rfl⟩
theorem m_L_111 : MV RL 111 7 yX7_goBack := ⟨T0_at 1088 (by decide +kernel) (by decide +kernel), T0_at 1089 (by decide +kernel) (by decide +kernel), T0_at 1090 (by decide +kernel) (by decide +kernel), _, _, rfl⟩
theorem m_X0_46 : MN RX0 46 yX6_copyRow "SoapPole" := ⟨T0_at 500 (by decide +kernel) (by decide +kernel), by decide +kernel⟩
theorem m_X1_25 : MN RX1 25 yX6_copyRow "SoapPole" := ⟨T0_at 500 (by decide +kernel) (by decide +kernel), by decide +kernel⟩
theorem m_X4_70 : MN RX4 70 yX6_copyRow "SoapPole" := ⟨T0_at 500 (by decide +kernel) (by decide +kernel), by decide +kernel⟩
theorem k_X6_73 : Cond.constant RX6 73 (-1000000002) ∈ T0 := T0_at 343 (by decide +kernel) (by decide +kernel)
theorem k_X6_78 : Cond.constant RX6 78 (-1000000004) ∈ T0 := T0_at 348 (by decide +kernel) (by decide +kernel)
theorem k_X6_143 : Cond.constant RX6 143 (-1000000001) ∈ T0 := T0_at 542 (by decide +kernel) (by decide +kernel)
theorem k_X6_160 : Cond.constant RX6 160 (-1000000003) ∈ T0 := T0_at 573 (by decide +kernel) (by decide +kernel)
theorem k_X1_75 : Cond.constant RX1 75 (1103515245) ∈ T0 := T0_at 614 (by decide +kernel) (by decide +kernel)
theorem k_X1_76 : Cond.constant RX1 76 (2147483647) ∈ T0 := T0_at 615 (by decide +kernel) (by decide +kernel)
theorem k_X1_77 : Cond.constant RX1 77 (65536) ∈ T0 := T0_at 616 (by decide +kernel) (by decide +kernel)
theorem k_X5_29 : Cond.constant RX5 29 (-1000000004) ∈ T0 := T0_at 720 (by decide +kernel) (by decide +kernel)
theorem k_X7_91 : Cond.constantLong RX7 91 (256) ∈ T0 := T0_at 807 (by decide +kernel) (by decide +kernel)
theorem k_X7_120 : Cond.constantLong RX7 120 (1886350437) ∈ T0 := T0_at 808 (by decide +kernel) (by decide +kernel)
theorem k_X7_125 : Cond.constantLong RX7 125 (1718579060) ∈ T0 := T0_at 825 (by decide +kernel) (by decide +kernel)
theorem k_X7_130 : Cond.constantLong RX7 130 (27985222756885874) ∈ T0 := T0_at 830 (by decide +kernel) (by decide +kernel)
theorem k_X7_135 : Cond.constantLong RX7 135 (6840685) ∈ T0 := T0_at 835 (by decide +kernel) (by decide +kernel)
theorem k_X7_140 : Cond.constantLong RX7 140 (7566702) ∈ T0 := T0_at 840 (by decide +kernel) (by decide +kernel)
theorem k_X7_65 : Cond.constant RX7 65 (-1000000002) ∈ T0 := T0_at 933 (by decide +kernel) (by decide +kernel)
theorem k_X7_69 : Cond.constant RX7 69 (-1000000004) ∈ T0 := T0_at 934 (by decide +kernel) (by decide +kernel)
theorem k_X7_70 : Cond.constantLong RX7 70 (255) ∈ T0 := T0_at 935 (by decide +kernel) (by decide +kernel)
theorem k_X7_161 : Cond.constant RX7 161 (-1000000001) ∈ T0 := T0_at 960 (by decide +kernel) (by decide +kernel)
theorem k_X7_175 : Cond.constant RX7 175 (-1000000003) ∈ T0 := T0_at 981 (by decide +kernel) (by decide +kernel)
theorem k_X7_186 : Cond.constantLong RX7 186 (1103515245) ∈ T0 := T0_at 1006 (by decide +kernel) (by decide +kernel)
theorem k_X7_188 : Cond.constantLong RX7 188 (12345) ∈ T0 := T0_at 1007 (by decide +kernel) (by decide +kernel)
theorem k_X7_190 : Cond.constantLong RX7 190 (2147483647) ∈ T0 := T0_at 1008 (by decide +kernel) (by decide +kernel)
theorem k_X7_192 : Cond.constant RX7 192 (65536) ∈ T0 := T0_at 1009 (by decide +kernel) (by decide +kernel)
theorem k_L_13 : Cond.constantLong RL 13 (4294967295) ∈ T0 := T0_at 1092 (by decide +kernel) (by decide +kernel)
theorem w_L_7 : NW RL 7 6 12 tyX6 := ⟨RX6, TX6, rfl, T0_at 71 (by decide +kernel) (by decide +kernel), T0_at 72 (by decide +kernel) (by decide +kernel), T0_at 57 (by decide +kernel) (by decide +kernel), inT_X6, tyX6_ok⟩
theorem w_X6_7 : NW RX6 7 2 11 tyX2 := ⟨RX2, TX2, rfl, T0_at 79 (by decide +kernel) (by decide +kernel), T0_at 80 (by decide +kernel) (by decide +kernel), T0_at 58 (by decide +kernel) (by decide +kernel), inT_X2, tyX2_ok⟩
theorem w_X6_16 : NW RX6 16 0 10 tyX0 := ⟨RX0, TX0, rfl, T0_at 124 (by decide +kernel) (by decide +kernel), T0_at 125 (by decide +kernel) (by decide +kernel), T0_at 59 (by decide +kernel) (by decide +kernel), inT_X0, tyX0_ok⟩
theorem w_X6_26 : NW RX6 26 1 4 tyX1 := ⟨RX1, TX1, rfl, T0_at 186 (by decide +kernel) (by decide +kernel), T0_at 187 (by decide +kernel) (by decide +kernel), T0_at 60 (by decide +kernel) (by decide +kernel), inT_X1, tyX1_ok⟩
theorem w_X6_41 : NW RX6 41 5 4 tyX5 := ⟨RX5, TX5, rfl, T0_at 212 (by decide +kernel) (by decide +kernel), T0_at 213 (by decide +kernel) (by decide +kernel), T0_at 61 (by decide +kernel) (by decide +kernel), inT_X5, tyX5_ok⟩
theorem w_X5_18 : NW RX5 18 1 4 tyX1 := ⟨RX1, TX1, rfl, T0_at 218 (by decide +kernel) (by decide +kernel), T0_at 187 (by decide +kernel) (by decide +kernel), T0_at 60 (by decide +kernel) (by decide +kernel), inT_X1, tyX1_ok⟩
theorem w_X6_48 : NW RX6 48 4 11 tyX4 := ⟨RX4, TX4, rfl, T0_at 234 (by decide +kernel) (by decide +kernel), T0_at 235 (by decide +kernel) (by decide +kernel), T0_at 62 (by decide +kernel) (by decide +kernel), inT_X4, tyX4_ok⟩
theorem w_X4_15 : NW RX4 15 1 4 tyX1 := ⟨RX1, TX1, rfl, T0_at 243 (by decide +kernel) (by decide +kernel), T0_at 187 (by decide +kernel) (by decide +kernel), T0_at 60 (by decide +kernel) (by decide +kernel), inT_X1, tyX1_ok⟩
theorem w_X6_55 : NW RX6 55 3 4 tyX3 := ⟨RX3, TX3, rfl, T0_at 281 (by decide +kernel) (by decide +kernel), T0_at 282 (by decide +kernel) (by decide +kernel), T0_at 64 (by decide +kernel) (by decide +kernel), inT_X3, tyX3_ok⟩
theorem w_X3_15 : NW RX3 15 1 4 tyX1 := ⟨RX1, TX1, rfl, T0_at 287 (by decide +kernel) (by decide +kernel), T0_at 187 (by decide +kernel) (by decide +kernel), T0_at 60 (by decide +kernel) (by decide +kernel), inT_X1, tyX1_ok⟩
theorem w_L_10 : NW RL 10 7 25 tyX7 := ⟨RX7, TX7, rfl, T0_at 775 (by decide +kernel) (by decide +kernel), T0_at 776 (by decide +kernel) (by decide +kernel), T0_at 65 (by decide +kernel) (by decide +kernel), inT_X7, tyX7_ok⟩
end
section
/-! G: one judgement for the walk of a method: from pc, locals l, stack st, world ws the method returns with Ψ (answer, world). The machine's state, the class numbers and the frame are inside. -/
abbrev AE : Type := (Nat × vp_A) ⊕ (Nat × List Value)
abbrev AW : Type := List (Nat × AE)
abbrev LV : Type := List (Option Value)
abbrev PS : Type := Option Value → AW → Prop
/-- the kinds of arrays -/
def zTy : Nat → FieldType := fun k => match k with
  | 0 => .int
  | 1 => .byte
  | 2 => .boolean
  | 3 => .object "SoapPole$Pole"
  | _ => .array .int
def zTys (ca : Nat → ClassId) : List (ClassId × FieldType) := [(ca 0, .int), (ca 1, .byte), (ca 2, .boolean), (ca 3, .object "SoapPole$Pole"), (ca 4, .array .int)]
def zE (ca : Nat → ClassId) (e : AE) : va_E := match e with
  | .inl a => .inl (ca a.1, a.2)
  | .inr o => .inr o
def zW (ca : Nat → ClassId) (ws : AW) : va_W := ws.map (fun q => (q.1, zE ca q.2))
theorem zW_get (ca : Nat → ClassId) {ws : AW} {k a : Nat} {e : AE} (h : ws[k]? = some (a, e)) : (zW ca ws)[k]? = some (a, zE ca e) := by
  rw [zW, List.getElem?_map, h]; rfl
theorem zW_set (ca : Nat → ClassId) (ws : AW) (k a : Nat) (e : AE) : (zW ca ws).set k (a, zE ca e) = zW ca (ws.set k (a, e)) := by
  rw [zW, zW, List.map_set]
theorem zW_app (ca : Nat → ClassId) (w1 w2 : AW) : zW ca (w1 ++ w2) = zW ca w1 ++ zW ca w2 := List.map_append
theorem zW_pick (ca : Nat → ClassId) {ws wc : AW} {is : List Nat} (h : is.map (fun i => ws[i]?) = wc.map some) : is.map (fun i => (zW ca ws)[i]?) = (zW ca wc).map some := by
  have e : is.map (fun i => (zW ca ws)[i]?) = (is.map (fun i => ws[i]?)).map (Option.map (fun q => (q.1, zE ca q.2))) := by
    rw [List.map_map]
    apply List.map_congr_left
    intro i _
    show (zW ca ws)[i]? = (ws[i]?).map _
    rw [zW, List.getElem?_map]
  rw [e, h, List.map_map, zW, List.map_map]
  rfl
/-- the locals, by their places -/
def zL (ls : Array Slot) (nL : Nat) (l : LV) : Prop := ls.size = nL ∧ lv_wf ls ∧ ∀ (i : Nat) (v : Value), l[i]? = some (some v) → ls[i]? = some (.val v)
def zPs (l : LV) : List (Nat × Value) := l.zipIdx.filterMap (fun q => q.1.map (fun v => (q.2, v)))
theorem zPs_mem {l : LV} {i : Nat} {v : Value} : (i, v) ∈ zPs l ↔ l[i]? = some (some v) := by
  unfold zPs
  rw [List.mem_filterMap]
  constructor
  · rintro ⟨⟨o, j⟩, h1, h2⟩
    have h3 := List.mem_zipIdx_iff_getElem?.mp h1
    cases o with
    | none => cases h2
    | some w => cases h2; exact h3
  · intro h
    exact ⟨(some v, i), List.mem_zipIdx_iff_getElem?.mpr h, rfl⟩
theorem zL_has {ls : Array Slot} {nL : Nat} {l : LV} (h : zL ls nL l) : lv_has ls nL (zPs l) := ⟨h.1, h.2.1, fun q hq => h.2.2 q.1 q.2 (zPs_mem.mp hq)⟩
/-- no long stands just below -/
def zOk (l : LV) : Nat → Bool
  | 0 => true
  | j + 1 => match l[j]? with
    | some (some v) => !(v.category == 2)
    | _ => true
theorem zL_st {ls : Array Slot} {nL i : Nat} {l : LV} {x : Value} (ho : zOk l i = true) (h : lv_has ls nL ((i, x) :: (zPs l).filter (fun q => !(q.1 == i) && !(q.1 + 1 == i && q.2.category == 2)))) : zL ls nL (l.set i (some x)) := by
  refine ⟨h.1, h.2.1, fun j v hj => ?_⟩
  by_cases hji : i = j
  · subst hji
    rw [List.getElem?_set] at hj
    simp only [if_true] at hj
    by_cases hl : i < l.length
    · rw [if_pos hl] at hj
      cases hj
      exact h.2.2 (i, x) List.mem_cons_self
    · rw [if_neg hl] at hj; cases hj
  · rw [List.getElem?_set_ne hji] at hj
    refine h.2.2 (j, v) (List.mem_cons_of_mem _ (List.mem_filter.mpr ⟨zPs_mem.mpr hj, ?_⟩))
    have h1 : (j == i) = false := beq_eq_false_iff_ne.mpr (fun e => hji e.symm)
    by_cases h2 : j + 1 = i
    · subst h2
      simp only [zOk, hj] at ho
      simp [h1, ho]
    · have h3 : (j + 1 == i) = false := beq_eq_false_iff_ne.mpr h2
      simp [h1, h3]
theorem zL_stL {ls : Array Slot} {nL i : Nat} {l : LV} {x : Int64} (ho : zOk l i = true) (h : lv_has ls nL ((i, Value.long x) :: (zPs l).filter (fun q => !(q.1 == i) && (!(q.1 == i + 1) && !(q.1 + 1 == i && q.2.category == 2))))) : zL ls nL ((l.set i (some (.long x))).set (i + 1) none) := by
  refine ⟨h.1, h.2.1, fun j v hj => ?_⟩
  by_cases hj1 : i + 1 = j
  · subst hj1
    rw [List.getElem?_set] at hj
    simp only [if_true] at hj
    split at hj <;> cases hj
  · rw [List.getElem?_set_ne hj1] at hj
    by_cases hji : i = j
    · subst hji
      rw [List.getElem?_set] at hj
      simp only [if_true] at hj
      by_cases hl : i < l.length
      · rw [if_pos hl] at hj
        cases hj
        exact h.2.2 (i, _) List.mem_cons_self
      · rw [if_neg hl] at hj; cases hj
    · rw [List.getElem?_set_ne hji] at hj
      refine h.2.2 (j, v) (List.mem_cons_of_mem _ (List.mem_filter.mpr ⟨zPs_mem.mpr hj, ?_⟩))
      have h1 : (j == i) = false := beq_eq_false_iff_ne.mpr (fun e => hji e.symm)
      have h4 : (j == i + 1) = false := beq_eq_false_iff_ne.mpr (fun e => hj1 e.symm)
      by_cases h2 : j + 1 = i
      · subst h2
        simp only [zOk, hj] at ho
        simp [h1, h4, ho]
      · have h3 : (j + 1 == i) = false := beq_eq_false_iff_ne.mpr h2
        simp [h1, h3, h4]
def zR (d mc ms : Nat) : Room := { frames := d, cells := mc, slots := ms, locals := 64 * d }
/-- the string constants of the reader: pole, foot, climber, ham, sun -/
def zLen : List Nat := [4, 4, 7, 3, 3]
def zByt : List (List Int32) := [[112, 111, 108, 101], [102, 111, 111, 116], [99, 108, 105, 109, 98, 101, 114], [104, 97, 109], [115, 117, 110]]
def zStr (sk : Nat → Nat) (A : Nat → Prop) (U : State) (H : Heap) : Prop := (∃ sv : Nat → Nat, vk_S 5 zLen zByt sk sv A U H) ∧ va_Z "java/lang/String" "COMPACT_STRINGS" "Z" (.int 1) A U H ∧ va_Zq "jdk/internal/util/Preconditions" "SIOOBE_FORMATTER" "Ljava/util/function/BiFunction;" A U H
/-- what the tables say of the making of arrays of references -/
def zAO (ty : FieldType) (U : State) : Prop := (Cond.arrayOver ty).before #[] U = true
def zArrOf (comp : ClassId) (kd : Kind) : Bool := match kd with
  | .array component _ => component == comp
  | _ => false
def zIs (ty : FieldType) (b : Bool) (kd : Kind) : Bool := match kd with
  | .array _ t => decide (t = ty) && b
  | _ => false
def zAOv (cs : Array Class) (fc : String → Option ClassId) (nm : String) (ty : FieldType) : Option Bool := (fc nm).bind fun comp => (cs.findIdx? fun (x : Class) => zArrOf comp x.kind).bind fun c => (cs[c]?).map fun (k : Class) => zIs ty (decide (fc ("[" ++ ty.toString) = some c)) k.kind
theorem zAO_o (n : String) (U : State) : zAO (.object n) U = ((zAOv U.vm.classes U.vm.findClass n (.object n) == some true) = true) := rfl
theorem zAO_a (t : FieldType) (U : State) : zAO (.array t) U = ((zAOv U.vm.classes U.vm.findClass (FieldType.array t).toString (.array t) == some true) = true) := rfl
theorem zAOv_moved {nm : String} {ty : FieldType} {u U : State} (hvm : u.vm.Alike U.vm) : zAOv U.vm.classes U.vm.findClass nm ty = zAOv u.vm.classes u.vm.findClass nm ty := by
  have hk : ∀ c : ClassId, (U.vm.classes[c]?).map (fun k => k.kind) = (u.vm.classes[c]?).map (fun k => k.kind) := by
    intro c
    cases hc : u.vm.classes[c]? with
    | none =>
      have h1 : u.vm.classes.size ≤ c := Array.getElem?_eq_none_iff.mp hc
      have h2 : U.vm.classes[c]? = none := Array.getElem?_eq_none_iff.mpr (by rw [hvm.2.1]; exact h1)
      rw [h2]
    | some k =>
      obtain ⟨k', hk', he⟩ := hvm.2.2 _ _ hc
      rw [hk', he]
      rfl
  have hK : U.vm.classes.map (fun k => k.kind) = u.vm.classes.map (fun k => k.kind) := by
    apply Array.ext_getElem?
    intro i
    rw [Array.getElem?_map, Array.getElem?_map]
    exact hk i
  have hi : ∀ g : Kind → Bool, (U.vm.classes.findIdx? fun x => g x.kind) = (u.vm.classes.findIdx? fun x => g x.kind) := by
    intro g
    have h1 := Array.findIdx?_map (xs := U.vm.classes) (f := fun k => k.kind) (p := g)
    have h2 := Array.findIdx?_map (xs := u.vm.classes) (f := fun k => k.kind) (p := g)
    rw [hK] at h1
    exact h1.symm.trans h2
  have hm : ∀ (c : ClassId) (g : Kind → Bool), (U.vm.classes[c]?).map (fun k => g k.kind) = (u.vm.classes[c]?).map (fun k => g k.kind) := by
    intro c g
    have := congrArg (Option.map g) (hk c)
    simpa [Option.map_map, Function.comp_def] using this
  have hf : U.vm.findClass = u.vm.findClass := by funext n; rw [hvm.findClass]
  unfold zAOv
  rw [hf]
  congr 1
  funext comp
  rw [hi (zArrOf comp)]
  congr 1
  funext c
  exact hm c (zIs ty _)
theorem zAO.movedO {n : String} {u U : State} (hvm : u.vm.Alike U.vm) (h : zAO (.object n) u) : zAO (.object n) U := by
  rw [zAO_o] at h ⊢
  rw [zAOv_moved hvm]
  exact h
theorem zAO.movedA {t : FieldType} {u U : State} (hvm : u.vm.Alike U.vm) (h : zAO (.array t) u) : zAO (.array t) U := by
  rw [zAO_a] at h ⊢
  rw [zAOv_moved hvm]
  exact h
def zRef (sk : Nat → Nat) (U : State) : Prop := vk_R "SoapPole$Reader" 90 "pole" (sk 0) U ∧ vk_R "SoapPole$Reader" 96 "foot" (sk 1) U ∧ vk_R "SoapPole$Reader" 98 "climber" (sk 2) U ∧ vk_R "SoapPole$Reader" 100 "ham" (sk 3) U ∧ vk_R "SoapPole$Reader" 102 "sun" (sk 4) U ∧ (∀ q ∈ zNest, va_Nw (.methodLinkNest q.1 q.2.1 q.2.2.1 q.2.2.2) U) ∧ zAO (.object "SoapPole$Pole") U ∧ zAO (.array .int) U
theorem zStr.kept {sk : Nat → Nat} {A : Nat → Prop} {U : State} {H H1 : Heap} (h : zStr sk A U H) (hq : ∀ a : Nat, a < H.size → ¬ A a → H1[a]? = H[a]?) : zStr sk A U H1 := ⟨h.1.elim fun sv q => ⟨sv, q.kept hq⟩, h.2.1.kept hq, h.2.2.kept hq⟩
theorem zStr.narrow {sk : Nat → Nat} {A B : Nat → Prop} {U : State} {H : Heap} (h : zStr sk A U H) (hAB : ∀ q, B q → A q) : zStr sk B U H := ⟨h.1.elim fun sv q => ⟨sv, q.narrow hAB⟩, h.2.1.narrow hAB, h.2.2.narrow hAB⟩
theorem zStr.moved {sk : Nat → Nat} {A : Nat → Prop} {u U : State} {H : Heap} (hvm : u.vm.Alike U.vm) (h : zStr sk A u H) : zStr sk A U H := ⟨h.1.elim fun sv q => ⟨sv, q.moved hvm⟩, h.2.1.moved hvm, h.2.2.moved hvm⟩
theorem zRef.warm {sk : Nat → Nat} {s U : State} (hW : s.WarmedH U.vm) (h : zRef sk s) : zRef sk U := ⟨h.1.warm hW, h.2.1.warm hW, h.2.2.1.warm hW, h.2.2.2.1.warm hW, h.2.2.2.2.1.warm hW, fun q hq => (h.2.2.2.2.2.1 q hq).warmM hW, h.2.2.2.2.2.2.1.movedO hW.alike, h.2.2.2.2.2.2.2.movedA hW.alike⟩
theorem zRef.same {sk : Nat → Nat} {s U : State} (hv : U.vm = s.vm) (h : zRef sk s) : zRef sk U := ⟨h.1.same hv, h.2.1.same hv, h.2.2.1.same hv, h.2.2.2.1.same hv, h.2.2.2.2.1.same hv, fun q hq => (h.2.2.2.2.2.1 q hq).same rfl hv.symm, h.2.2.2.2.2.2.1.movedO (by rw [hv]; exact Vm.Alike.refl _), h.2.2.2.2.2.2.2.movedA (by rw [hv]; exact Vm.Alike.refl _)⟩
/-- what holds all through a method -/
def zC (sk : Nat → Nat) (own : String) (y : MethodName) (cc : ByteArray) (nL : Nat) (rt : Option FieldType) (p : Program) (s : State) (m : MethodId) (args : Array Value) (meth : Method) (c : Code) (G : va_G) (ca : Nat → ClassId) (A : Nat → Prop) : Prop :=
  p.tables.exec = Jvm.exec ∧ c.code = cc ∧ meth.sig.returnType = rt ∧ meth.locks = false ∧ c.maxLocals = nL ∧ s.vm.findClass own = some m.cls ∧ meth.name = y.name ∧ (∀ w ∈ T0, w.before args s = true) ∧ va_K G vwCl (zTys ca) s ∧ (∀ q, s.heap.size ≤ q → A q) ∧ zStr sk A s s.heap ∧ zRef sk s
/-- a method's end -/
def zQ (Ψ : PS) (G : va_G) (ca : Nat → ClassId) (A : Nat → Prop) : Array Value → State → Outcome → State → Prop := fun _ st oc t =>
  (∃ (r : Option Value) (ws : AW), oc = .returned r ∧ Ψ r ws ∧ va_P G vwCl (zW ca ws) t.heap ∧ va_D A (zW ca ws)) ∧ va_F A st t
/-- a method's start -/
def zB (sk : Nat → Nat) (G : va_G) (ca : Nat → ClassId) (ws : AW) (sz : Nat) (U : State) : Prop := U.heap.size = sz ∧ va_P G vwCl (zW ca ws) U.heap ∧ va_K G vwCl (zTys ca) U ∧ va_D (fun _ => True) (zW ca ws) ∧ zStr sk (va_A (zW ca ws) sz) U U.heap ∧ zRef sk U
/-- THE CONTRACT: from the world ws, at these arguments, method y returns with Ψ -/
def Ct (sk : Nat → Nat) (y : MethodName) (cc : ByteArray) (nL : Nat) (rt : Option FieldType) (d mc ms : Nat) (ws : AW) (av : List Value) (Ψ : PS) : Prop :=
  ∀ (la : Launch) (G : va_G) (ca : Nat → ClassId) (sz : Nat), Met la y (Cond.code y cc nL rt :: T0) (zR d mc ms) (va_Pc av (zB sk G ca ws sz)) (zQ Ψ G ca (va_A (zW ca ws) sz)) mc ms (va_A (zW ca ws) sz)
/-- THE WALK -/
def GG (sk : Nat → Nat) (own : String) (y : MethodName) (cc : ByteArray) (nL : Nat) (rt : Option FieldType) (d mc ms : Nat) (Ψ : PS) (k n pc : Nat) (l : LV) (st : List Value) (ws : AW) : Prop :=
  ∀ (p : Program) (la : Launch) (e : Env) (s : State) (m : MethodId) (args : Array Value) (below : List Frame) (meth : Method) (c : Code) (G : va_G) (ca : Nat → ClassId) (A : Nat → Prop) (H : Heap) (locs : List Loc) (ls : Array Slot),
    zC sk own y cc nL rt p s m args meth c G ca A → zL ls nL l → va_P G vwCl (zW ca ws) H → va_D A (zW ca ws) → va_S A s.heap H locs →
    W p la e (zR d mc ms) s m args below meth c H locs k n (MQ below (zQ Ψ G ca A) args s mc ms A) (F0 m pc ls st)
/-- the locals at the entry -/
def zA : List Value → LV
  | [] => []
  | v :: vs => if v.category = 2 then some v :: none :: zA vs else some v :: zA vs
theorem zA_in : ∀ (vs : List Value) (b i : Nat) (v : Value), (zA vs)[i]? = some (some v) → (b + i, v) ∈ lv_args b vs
  | [], _, i, v, h => by simp [zA] at h
  | x :: vs, b, i, v, h => by
    rcases lv_cat x with hx | hx
    · rw [zA, if_neg (by rw [hx]; decide)] at h
      cases i with
      | zero =>
        simp at h; subst h
        simp [lv_args]
      | succ i =>
        rw [List.getElem?_cons_succ] at h
        have := zA_in vs (b + 1) i v h
        rw [show b + (i + 1) = b + 1 + i by omega]
        simp [lv_args, hx]
        exact Or.inr this
    · rw [zA, if_pos hx] at h
      cases i with
      | zero =>
        simp at h; subst h
        simp [lv_args]
      | succ i =>
        cases i with
        | zero => simp at h
        | succ i =>
          rw [List.getElem?_cons_succ, List.getElem?_cons_succ] at h
          have := zA_in vs (b + 2) i v h
          rw [show b + (i + 1 + 1) = b + 2 + i by omega]
          simp [lv_args, hx]
          exact Or.inr this
theorem Ct.of {sk : Nat → Nat} {own : String} {y : MethodName} {cc : ByteArray} {nL : Nat} {rt : Option FieldType} {d mc ms : Nat} {ws : AW} {av : List Value} {Ψ : PS} {l : LV} (hy : plainName y.cls = true) (ho : y.cls = own) (hn : (lg_sl av).length ≤ nL) (hl : zA av ++ List.replicate (nL - (zA av).length) none = l)
    (h : GG sk own y cc nL rt d mc ms Ψ 0 0 0 l [] ws) : Ct sk y cc nL rt d mc ms ws av Ψ := by
  intro la G ca sz
  refine Met.ofW (cc := cc) (maxL := nL) (ret := rt) hy rfl ?_
  intro p e s m args below meth c s₁ B hml hv
  obtain ⟨rfl, hsz, hP, hK, hD0, hZ, hZr⟩ := hv
  have hts := atoms_spec (ws := Cond.code y cc nL rt :: T0) B.pre
  have hown : s.vm.findClass own = some m.cls := by rw [← ho]; exact findClass_of_methodNamed B.named
  subst hsz
  have hD := hD0.self (sz := s.heap.size)
  have hen := lv_entry av (n := nL) hn
  rw [lg_entry_eq]
  generalize (lg_sl av ++ List.replicate (nL - (lg_sl av).length) Slot.unset).toArray = ls at hen ⊢
  refine h p la e s m av.toArray below meth c G ca _ s.heap [] ls ⟨B.exec, B.bytes, B.returns, B.notSynchronized, hml, hown, (name_of_methodNamed B.named B.method).1, fun w hw => hts w (List.mem_cons_of_mem _ hw), hK, fun q hq => Or.inr hq, hZ, hZr⟩ ⟨hen.1, hen.2.1, fun i v hi => ?_⟩ hP hD va_S.rf
  rw [← hl] at hi
  refine hen.2.2 (i, v) ?_
  have h0 : (zA av)[i]? = some (some v) := by
    by_cases hlt : i < (zA av).length
    · rwa [List.getElem?_append_left hlt] at hi
    · rw [List.getElem?_append_right (by omega), List.getElem?_replicate] at hi
      split at hi <;> cases hi
  have := zA_in av 0 i v h0
  rwa [Nat.zero_add] at this
end
section
/-! the rows of G: one an instruction -/
section RULES
variable {sk : Nat → Nat} {own : String} {y : MethodName} {cc : ByteArray} {nL : Nat} {rt : Option FieldType} {d mc ms : Nat} {Ψ : PS} {k n pc q : Nat} {l : LV} {st : List Value} {ws : AW}
theorem g_iconst {i : Int} {v : Int32} (hd : decode cc pc = .ok (.iconst i, 1)) (hq : pc + 1 = q) (hv : Int32.ofInt i = v) (kk : GG sk own y cc nL rt d mc ms Ψ k n q l (.int v :: st) ws) : GG sk own y cc nL rt d mc ms Ψ k n pc l st ws := by
  subst hq
  intro p la e s m args below meth c G ca A H locs ls C hl hP hD hS
  exact lv_iconst C.1 C.2.1 hd hv (kk p la e s m args below meth c G ca A H locs ls C hl hP hD hS)
theorem g_bipush {i : Int} {v : Int32} (hd : decode cc pc = .ok (.bipush i, 2)) (hq : pc + 2 = q) (hv : (Int8.ofInt i).toInt32 = v) (kk : GG sk own y cc nL rt d mc ms Ψ k n q l (.int v :: st) ws) : GG sk own y cc nL rt d mc ms Ψ k n pc l st ws := by
  subst hq
  intro p la e s m args below meth c G ca A H locs ls C hl hP hD hS
  exact lv_bipush C.1 C.2.1 hd hv (kk p la e s m args below meth c G ca A H locs ls C hl hP hD hS)
theorem g_sipush {i : Int} {v : Int32} (hd : decode cc pc = .ok (.sipush i, 3)) (hq : pc + 3 = q) (hv : (Int16.ofInt i).toInt32 = v) (kk : GG sk own y cc nL rt d mc ms Ψ k n q l (.int v :: st) ws) : GG sk own y cc nL rt d mc ms Ψ k n pc l st ws := by
  subst hq
  intro p la e s m args below meth c G ca A H locs ls C hl hP hD hS
  exact lv_sipush C.1 C.2.1 hd hv (kk p la e s m args below meth c G ca A H locs ls C hl hP hD hS)
theorem g_lconst {i : Fin 2} {v : Int64} (hd : decode cc pc = .ok (.lconst i, 1)) (hq : pc + 1 = q) (hv : Int64.ofNat (i : Nat) = v) (kk : GG sk own y cc nL rt d mc ms Ψ k n q l (.long v :: st) ws) : GG sk own y cc nL rt d mc ms Ψ k n pc l st ws := by
  subst hq
  intro p la e s m args below meth c G ca A H locs ls C hl hP hD hS
  exact lv_lconst C.1 C.2.1 hd hv (kk p la e s m args below meth c G ca A H locs ls C hl hP hD hS)
theorem g_ldc {i : Nat} {v : Int32} (hd : decode cc pc = .ok (.ldc i, 2)) (hq : pc + 2 = q) (hv : Cond.constant own i v ∈ T0) (kk : GG sk own y cc nL rt d mc ms Ψ k n q l (.int v :: st) ws) : GG sk own y cc nL rt d mc ms Ψ k n pc l st ws := by
  subst hq
  intro p la e s m args below meth c G ca A H locs ls C hl hP hD hS
  exact lv_ldc C.1 C.2.1 C.2.2.2.2.2.1 (C.2.2.2.2.2.2.2.1 _ hv) hd (kk p la e s m args below meth c G ca A H locs ls C hl hP hD hS)
theorem g_ldc2 {i : Nat} {v : Int64} (hd : decode cc pc = .ok (.ldc2_w i, 3)) (hq : pc + 3 = q) (hv : Cond.constantLong own i v ∈ T0) (kk : GG sk own y cc nL rt d mc ms Ψ k n q l (.long v :: st) ws) : GG sk own y cc nL rt d mc ms Ψ k n pc l st ws := by
  subst hq
  intro p la e s m args below meth c G ca A H locs ls C hl hP hD hS
  exact lv_ldc2 C.1 C.2.1 C.2.2.2.2.2.1 (C.2.2.2.2.2.2.2.1 _ hv) hd (kk p la e s m args below meth c G ca A H locs ls C hl hP hD hS)
theorem g_iload_n {i : Fin 4} {x : Int32} (hd : decode cc pc = .ok (.iload_n i, 1)) (hq : pc + 1 = q) (hx : l[(i : Nat)]? = some (some (.int x))) (kk : GG sk own y cc nL rt d mc ms Ψ k n q l (.int x :: st) ws) : GG sk own y cc nL rt d mc ms Ψ k n pc l st ws := by
  subst hq
  intro p la e s m args below meth c G ca A H locs ls C hl hP hD hS
  exact lv_iload_n C.1 C.2.1 hd rfl (hl.2.2 _ _ hx) (kk p la e s m args below meth c G ca A H locs ls C hl hP hD hS)
theorem g_iload {i : Nat} {x : Int32} (hd : decode cc pc = .ok (.iload i, 2)) (hq : pc + 2 = q) (hx : l[i]? = some (some (.int x))) (kk : GG sk own y cc nL rt d mc ms Ψ k n q l (.int x :: st) ws) : GG sk own y cc nL rt d mc ms Ψ k n pc l st ws := by
  subst hq
  intro p la e s m args below meth c G ca A H locs ls C hl hP hD hS
  exact lv_iload C.1 C.2.1 hd (hl.2.2 _ _ hx) (kk p la e s m args below meth c G ca A H locs ls C hl hP hD hS)
theorem g_aload_n {i : Fin 4} {x : Nat} (hd : decode cc pc = .ok (.aload_n i, 1)) (hq : pc + 1 = q) (hx : l[(i : Nat)]? = some (some (.ref x))) (kk : GG sk own y cc nL rt d mc ms Ψ k n q l (.ref x :: st) ws) : GG sk own y cc nL rt d mc ms Ψ k n pc l st ws := by
  subst hq
  intro p la e s m args below meth c G ca A H locs ls C hl hP hD hS
  exact lv_aload_n C.1 C.2.1 hd rfl (hl.2.2 _ _ hx) (kk p la e s m args below meth c G ca A H locs ls C hl hP hD hS)
theorem g_aload {i x : Nat} (hd : decode cc pc = .ok (.aload i, 2)) (hq : pc + 2 = q) (hx : l[i]? = some (some (.ref x))) (kk : GG sk own y cc nL rt d mc ms Ψ k n q l (.ref x :: st) ws) : GG sk own y cc nL rt d mc ms Ψ k n pc l st ws := by
  subst hq
  intro p la e s m args below meth c G ca A H locs ls C hl hP hD hS
  exact lv_aload C.1 C.2.1 hd (hl.2.2 _ _ hx) (kk p la e s m args below meth c G ca A H locs ls C hl hP hD hS)
theorem g_lload_n {i : Fin 4} {x : Int64} (hd : decode cc pc = .ok (.lload_n i, 1)) (hq : pc + 1 = q) (hx : l[(i : Nat)]? = some (some (.long x))) (kk : GG sk own y cc nL rt d mc ms Ψ k n q l (.long x :: st) ws) : GG sk own y cc nL rt d mc ms Ψ k n pc l st ws := by
  subst hq
  intro p la e s m args below meth c G ca A H locs ls C hl hP hD hS
  exact lv_lload_n C.1 C.2.1 hd rfl (hl.2.2 _ _ hx) (kk p la e s m args below meth c G ca A H locs ls C hl hP hD hS)
theorem g_istore_n {i : Fin 4} {x : Int32} (hd : decode cc pc = .ok (.istore_n i, 1)) (hq : pc + 1 = q) (hn : (i : Nat) < nL) (ho : zOk l i = true) {l' : LV} (hl' : l.set i (some (.int x)) = l') (kk : GG sk own y cc nL rt d mc ms Ψ k n q l' st ws) : GG sk own y cc nL rt d mc ms Ψ k n pc l (.int x :: st) ws := by
  subst hq; subst hl'
  intro p la e s m args below meth c G ca A H locs ls C hl hP hD hS
  exact lv_istore_n C.1 C.2.1 hd rfl (zL_has hl) hn rfl (fun ls' h' => kk p la e s m args below meth c G ca A H locs ls' C (zL_st ho h') hP hD hS)
theorem g_istore {i : Nat} {x : Int32} (hd : decode cc pc = .ok (.istore i, 2)) (hq : pc + 2 = q) (hn : i < nL) (ho : zOk l i = true) {l' : LV} (hl' : l.set i (some (.int x)) = l') (kk : GG sk own y cc nL rt d mc ms Ψ k n q l' st ws) : GG sk own y cc nL rt d mc ms Ψ k n pc l (.int x :: st) ws := by
  subst hq; subst hl'
  intro p la e s m args below meth c G ca A H locs ls C hl hP hD hS
  exact lv_istore C.1 C.2.1 hd (zL_has hl) hn rfl (fun ls' h' => kk p la e s m args below meth c G ca A H locs ls' C (zL_st ho h') hP hD hS)
theorem g_astore {i x : Nat} (hd : decode cc pc = .ok (.astore i, 2)) (hq : pc + 2 = q) (hn : i < nL) (ho : zOk l i = true) {l' : LV} (hl' : l.set i (some (.ref x)) = l') (kk : GG sk own y cc nL rt d mc ms Ψ k n q l' st ws) : GG sk own y cc nL rt d mc ms Ψ k n pc l (.ref x :: st) ws := by
  subst hq; subst hl'
  intro p la e s m args below meth c G ca A H locs ls C hl hP hD hS
  exact lv_astore C.1 C.2.1 hd (zL_has hl) hn rfl (fun ls' h' => kk p la e s m args below meth c G ca A H locs ls' C (zL_st ho h') hP hD hS)
theorem g_astore_n {i : Fin 4} {x : Nat} (hd : decode cc pc = .ok (.astore_n i, 1)) (hq : pc + 1 = q) (hn : (i : Nat) < nL) (ho : zOk l i = true) {l' : LV} (hl' : l.set i (some (.ref x)) = l') (kk : GG sk own y cc nL rt d mc ms Ψ k n q l' st ws) : GG sk own y cc nL rt d mc ms Ψ k n pc l (.ref x :: st) ws := by
  subst hq; subst hl'
  intro p la e s m args below meth c G ca A H locs ls C hl hP hD hS
  exact lv_astore_n C.1 C.2.1 hd rfl (zL_has hl) hn rfl (fun ls' h' => kk p la e s m args below meth c G ca A H locs ls' C (zL_st ho h') hP hD hS)
theorem g_lstore_n {i : Fin 4} {x : Int64} (hd : decode cc pc = .ok (.lstore_n i, 1)) (hq : pc + 1 = q) (hn : (i : Nat) + 1 < nL) (ho : zOk l i = true) {l' : LV} (hl' : (l.set i (some (.long x))).set (i + 1) none = l') (kk : GG sk own y cc nL rt d mc ms Ψ k n q l' st ws) : GG sk own y cc nL rt d mc ms Ψ k n pc l (.long x :: st) ws := by
  subst hq; subst hl'
  intro p la e s m args below meth c G ca A H locs ls C hl hP hD hS
  exact lv_lstore_n C.1 C.2.1 hd rfl (zL_has hl) hn rfl (fun ls' h' => kk p la e s m args below meth c G ca A H locs ls' C (zL_stL ho h') hP hD hS)
theorem g_iinc {i : Nat} {b : Int} {x v : Int32} (hd : decode cc pc = .ok (.iinc i b, 3)) (hq : pc + 3 = q) (hx : l[i]? = some (some (.int x))) (hv : x + Int32.ofInt b = v) (hn : i < nL) (ho : zOk l i = true) {l' : LV} (hl' : l.set i (some (.int v)) = l') (kk : GG sk own y cc nL rt d mc ms Ψ k n q l' st ws) : GG sk own y cc nL rt d mc ms Ψ k n pc l st ws := by
  subst hq; subst hl'
  intro p la e s m args below meth c G ca A H locs ls C hl hP hD hS
  obtain ⟨j, hj⟩ := List.getElem?_of_mem (zPs_mem.mpr hx)
  exact lv_iinc C.1 C.2.1 hd (zL_has hl) hj hv hn rfl (fun ls' h' => kk p la e s m args below meth c G ca A H locs ls' C (zL_st ho h') hP hD hS)
theorem g_iadd {a b : Int32} (hd : decode cc pc = .ok (.iadd, 1)) (hq : pc + 1 = q) {v : Int32} (hv : a + b = v) (kk : GG sk own y cc nL rt d mc ms Ψ k n q l (.int v :: st) ws) : GG sk own y cc nL rt d mc ms Ψ k n pc l (.int b :: .int a :: st) ws := by
  subst hq; subst hv
  intro p la e s m args below meth c G ca A H locs ls C hl hP hD hS
  exact lv_iadd C.1 C.2.1 hd (kk p la e s m args below meth c G ca A H locs ls C hl hP hD hS)
theorem g_isub {a b : Int32} (hd : decode cc pc = .ok (.isub, 1)) (hq : pc + 1 = q) {v : Int32} (hv : a - b = v) (kk : GG sk own y cc nL rt d mc ms Ψ k n q l (.int v :: st) ws) : GG sk own y cc nL rt d mc ms Ψ k n pc l (.int b :: .int a :: st) ws := by
  subst hq; subst hv
  intro p la e s m args below meth c G ca A H locs ls C hl hP hD hS
  exact lv_isub C.1 C.2.1 hd (kk p la e s m args below meth c G ca A H locs ls C hl hP hD hS)
theorem g_imul {a b : Int32} (hd : decode cc pc = .ok (.imul, 1)) (hq : pc + 1 = q) {v : Int32} (hv : a * b = v) (kk : GG sk own y cc nL rt d mc ms Ψ k n q l (.int v :: st) ws) : GG sk own y cc nL rt d mc ms Ψ k n pc l (.int b :: .int a :: st) ws := by
  subst hq; subst hv
  intro p la e s m args below meth c G ca A H locs ls C hl hP hD hS
  exact lv_imul C.1 C.2.1 hd (kk p la e s m args below meth c G ca A H locs ls C hl hP hD hS)
theorem g_iand {a b : Int32} (hd : decode cc pc = .ok (.iand, 1)) (hq : pc + 1 = q) {v : Int32} (hv : a &&& b = v) (kk : GG sk own y cc nL rt d mc ms Ψ k n q l (.int v :: st) ws) : GG sk own y cc nL rt d mc ms Ψ k n pc l (.int b :: .int a :: st) ws := by
  subst hq; subst hv
  intro p la e s m args below meth c G ca A H locs ls C hl hP hD hS
  exact lv_iand C.1 C.2.1 hd (kk p la e s m args below meth c G ca A H locs ls C hl hP hD hS)
theorem g_ior {a b : Int32} (hd : decode cc pc = .ok (.ior, 1)) (hq : pc + 1 = q) {v : Int32} (hv : a ||| b = v) (kk : GG sk own y cc nL rt d mc ms Ψ k n q l (.int v :: st) ws) : GG sk own y cc nL rt d mc ms Ψ k n pc l (.int b :: .int a :: st) ws := by
  subst hq; subst hv
  intro p la e s m args below meth c G ca A H locs ls C hl hP hD hS
  exact lv_ior C.1 C.2.1 hd (kk p la e s m args below meth c G ca A H locs ls C hl hP hD hS)
theorem g_ishl {a b : Int32} (hd : decode cc pc = .ok (.ishl, 1)) (hq : pc + 1 = q) {v : Int32} (hv : a <<< (b &&& 31) = v) (kk : GG sk own y cc nL rt d mc ms Ψ k n q l (.int v :: st) ws) : GG sk own y cc nL rt d mc ms Ψ k n pc l (.int b :: .int a :: st) ws := by
  subst hq; subst hv
  intro p la e s m args below meth c G ca A H locs ls C hl hP hD hS
  exact lv_ishl C.1 C.2.1 hd (kk p la e s m args below meth c G ca A H locs ls C hl hP hD hS)
theorem g_ishr {a b : Int32} (hd : decode cc pc = .ok (.ishr, 1)) (hq : pc + 1 = q) {v : Int32} (hv : a >>> (b &&& 31) = v) (kk : GG sk own y cc nL rt d mc ms Ψ k n q l (.int v :: st) ws) : GG sk own y cc nL rt d mc ms Ψ k n pc l (.int b :: .int a :: st) ws := by
  subst hq; subst hv
  intro p la e s m args below meth c G ca A H locs ls C hl hP hD hS
  exact lv_ishr C.1 C.2.1 hd (kk p la e s m args below meth c G ca A H locs ls C hl hP hD hS)
theorem g_idiv {a b : Int32} (hd : decode cc pc = .ok (.idiv, 1)) (hq : pc + 1 = q) (hne : ¬ b = 0) {v : Int32} (hv : a / b = v) (kk : GG sk own y cc nL rt d mc ms Ψ k n q l (.int v :: st) ws) : GG sk own y cc nL rt d mc ms Ψ k n pc l (.int b :: .int a :: st) ws := by
  subst hq; subst hv
  intro p la e s m args below meth c G ca A H locs ls C hl hP hD hS
  exact lv_idiv C.1 C.2.1 hd hne (kk p la e s m args below meth c G ca A H locs ls C hl hP hD hS)
theorem g_irem {a b : Int32} (hd : decode cc pc = .ok (.irem, 1)) (hq : pc + 1 = q) (hne : ¬ b = 0) {v : Int32} (hv : a - a / b * b = v) (kk : GG sk own y cc nL rt d mc ms Ψ k n q l (.int v :: st) ws) : GG sk own y cc nL rt d mc ms Ψ k n pc l (.int b :: .int a :: st) ws := by
  subst hq; subst hv
  intro p la e s m args below meth c G ca A H locs ls C hl hP hD hS
  exact lv_irem C.1 C.2.1 hd hne (kk p la e s m args below meth c G ca A H locs ls C hl hP hD hS)
theorem g_ladd {a b : Int64} (hd : decode cc pc = .ok (.ladd, 1)) (hq : pc + 1 = q) {v : Int64} (hv : a + b = v) (kk : GG sk own y cc nL rt d mc ms Ψ k n q l (.long v :: st) ws) : GG sk own y cc nL rt d mc ms Ψ k n pc l (.long b :: .long a :: st) ws := by
  subst hq; subst hv
  intro p la e s m args below meth c G ca A H locs ls C hl hP hD hS
  exact lv_ladd C.1 C.2.1 hd (kk p la e s m args below meth c G ca A H locs ls C hl hP hD hS)
theorem g_lmul {a b : Int64} (hd : decode cc pc = .ok (.lmul, 1)) (hq : pc + 1 = q) {v : Int64} (hv : a * b = v) (kk : GG sk own y cc nL rt d mc ms Ψ k n q l (.long v :: st) ws) : GG sk own y cc nL rt d mc ms Ψ k n pc l (.long b :: .long a :: st) ws := by
  subst hq; subst hv
  intro p la e s m args below meth c G ca A H locs ls C hl hP hD hS
  exact lv_lmul C.1 C.2.1 hd (kk p la e s m args below meth c G ca A H locs ls C hl hP hD hS)
theorem g_land {a b : Int64} (hd : decode cc pc = .ok (.land, 1)) (hq : pc + 1 = q) {v : Int64} (hv : a &&& b = v) (kk : GG sk own y cc nL rt d mc ms Ψ k n q l (.long v :: st) ws) : GG sk own y cc nL rt d mc ms Ψ k n pc l (.long b :: .long a :: st) ws := by
  subst hq; subst hv
  intro p la e s m args below meth c G ca A H locs ls C hl hP hD hS
  exact lv_land C.1 C.2.1 hd (kk p la e s m args below meth c G ca A H locs ls C hl hP hD hS)
theorem g_lshr {a : Int64} {b : Int32} (hd : decode cc pc = .ok (.lshr, 1)) (hq : pc + 1 = q) {v : Int64} (hv : a >>> (b.toInt64 &&& 63) = v) (kk : GG sk own y cc nL rt d mc ms Ψ k n q l (.long v :: st) ws) : GG sk own y cc nL rt d mc ms Ψ k n pc l (.int b :: .long a :: st) ws := by
  subst hq
  intro p la e s m args below meth c G ca A H locs ls C hl hP hD hS
  exact lv_lshr C.1 C.2.1 hd hv (kk p la e s m args below meth c G ca A H locs ls C hl hP hD hS)
theorem g_i2l {a : Int32} (hd : decode cc pc = .ok (.i2l, 1)) (hq : pc + 1 = q) {v : Int64} (hv : a.toInt64 = v) (kk : GG sk own y cc nL rt d mc ms Ψ k n q l (.long v :: st) ws) : GG sk own y cc nL rt d mc ms Ψ k n pc l (.int a :: st) ws := by
  subst hq
  intro p la e s m args below meth c G ca A H locs ls C hl hP hD hS
  exact lv_i2l C.1 C.2.1 hd hv (kk p la e s m args below meth c G ca A H locs ls C hl hP hD hS)
theorem g_l2i {a : Int64} (hd : decode cc pc = .ok (.l2i, 1)) (hq : pc + 1 = q) {v : Int32} (hv : a.toInt32 = v) (kk : GG sk own y cc nL rt d mc ms Ψ k n q l (.int v :: st) ws) : GG sk own y cc nL rt d mc ms Ψ k n pc l (.long a :: st) ws := by
  subst hq
  intro p la e s m args below meth c G ca A H locs ls C hl hP hD hS
  exact lv_l2i C.1 C.2.1 hd hv (kk p la e s m args below meth c G ca A H locs ls C hl hP hD hS)
theorem g_i2b {a : Int32} (hd : decode cc pc = .ok (.i2b, 1)) (hq : pc + 1 = q) {v : Int32} (hv : a.toInt8.toInt32 = v) (kk : GG sk own y cc nL rt d mc ms Ψ k n q l (.int v :: st) ws) : GG sk own y cc nL rt d mc ms Ψ k n pc l (.int a :: st) ws := by
  subst hq
  intro p la e s m args below meth c G ca A H locs ls C hl hP hD hS
  exact lv_i2b C.1 C.2.1 hd hv (kk p la e s m args below meth c G ca A H locs ls C hl hP hD hS)
theorem g_dup {v : Value} (hd : decode cc pc = .ok (.dup, 1)) (hq : pc + 1 = q) (hv : v.category = 1) (kk : GG sk own y cc nL rt d mc ms Ψ k n q l (v :: v :: st) ws) : GG sk own y cc nL rt d mc ms Ψ k n pc l (v :: st) ws := by
  subst hq
  intro p la e s m args below meth c G ca A H locs ls C hl hP hD hS
  exact lv_dup C.1 C.2.1 hd hv (kk p la e s m args below meth c G ca A H locs ls C hl hP hD hS)
theorem g_pop {v : Value} (hd : decode cc pc = .ok (.pop, 1)) (hq : pc + 1 = q) (hv : v.category = 1) (kk : GG sk own y cc nL rt d mc ms Ψ k n q l st ws) : GG sk own y cc nL rt d mc ms Ψ k n pc l (v :: st) ws := by
  subst hq
  intro p la e s m args below meth c G ca A H locs ls C hl hP hD hS
  exact lv_pop C.1 C.2.1 hd hv (kk p la e s m args below meth c G ca A H locs ls C hl hP hD hS)
theorem g_goto {off : Int} (hd : decode cc pc = .ok (.goto off, 3)) (ht : (pc : Int) + off = (q : Int)) (kk : GG sk own y cc nL rt d mc ms Ψ k n q l st ws) : GG sk own y cc nL rt d mc ms Ψ k n pc l st ws := by
  intro p la e s m args below meth c G ca A H locs ls C hl hP hD hS
  exact lv_goto C.1 C.2.1 hd ht (kk p la e s m args below meth c G ca A H locs ls C hl hP hD hS)
theorem g_icmp_eq {off : Int} {t : Nat} {x y1 : Int32} (hd : decode cc pc = .ok (.if_icmp .eq off, 3)) (ht : (pc : Int) + off = (t : Int)) (hq : pc + 3 = q) (kt : x = y1 → GG sk own y cc nL rt d mc ms Ψ k n t l st ws) (kf : ¬ x = y1 → GG sk own y cc nL rt d mc ms Ψ k n q l st ws) : GG sk own y cc nL rt d mc ms Ψ k n pc l (.int y1 :: .int x :: st) ws := by
  subst hq
  intro p la e s m args below meth c G ca A H locs ls C hl hP hD hS
  exact lv_icmp_eq C.1 C.2.1 hd ht (fun h => kt h p la e s m args below meth c G ca A H locs ls C hl hP hD hS) (fun h => kf h p la e s m args below meth c G ca A H locs ls C hl hP hD hS)
theorem g_icmp_eqN {off : Int} {t : Nat} {a b : Nat} (hd : decode cc pc = .ok (.if_icmp .eq off, 3)) (ht : (pc : Int) + off = (t : Int)) (hq : pc + 3 = q) (ha : a < 2 ^ 31) (hb : b < 2 ^ 31) (kt : a = b → GG sk own y cc nL rt d mc ms Ψ k n t l st ws) (kf : a ≠ b → GG sk own y cc nL rt d mc ms Ψ k n q l st ws) : GG sk own y cc nL rt d mc ms Ψ k n pc l (.int (nI b) :: .int (nI a) :: st) ws :=
  g_icmp_eq hd ht hq (fun h => kt ((nI_eq ha hb).mp h)) (fun h => kf (fun e => h ((nI_eq ha hb).mpr e)))
theorem g_icmp_ne {off : Int} {t : Nat} {x y1 : Int32} (hd : decode cc pc = .ok (.if_icmp .ne off, 3)) (ht : (pc : Int) + off = (t : Int)) (hq : pc + 3 = q) (kt : ¬ x = y1 → GG sk own y cc nL rt d mc ms Ψ k n t l st ws) (kf : x = y1 → GG sk own y cc nL rt d mc ms Ψ k n q l st ws) : GG sk own y cc nL rt d mc ms Ψ k n pc l (.int y1 :: .int x :: st) ws := by
  subst hq
  intro p la e s m args below meth c G ca A H locs ls C hl hP hD hS
  exact lv_icmp_ne C.1 C.2.1 hd ht (fun h => kt h p la e s m args below meth c G ca A H locs ls C hl hP hD hS) (fun h => kf h p la e s m args below meth c G ca A H locs ls C hl hP hD hS)
theorem g_icmp_neN {off : Int} {t : Nat} {a b : Nat} (hd : decode cc pc = .ok (.if_icmp .ne off, 3)) (ht : (pc : Int) + off = (t : Int)) (hq : pc + 3 = q) (ha : a < 2 ^ 31) (hb : b < 2 ^ 31) (kt : a ≠ b → GG sk own y cc nL rt d mc ms Ψ k n t l st ws) (kf : a = b → GG sk own y cc nL rt d mc ms Ψ k n q l st ws) : GG sk own y cc nL rt d mc ms Ψ k n pc l (.int (nI b) :: .int (nI a) :: st) ws :=
  g_icmp_ne hd ht hq (fun h => kt (fun e => h ((nI_eq ha hb).mpr e))) (fun h => kf ((nI_eq ha hb).mp h))
theorem g_icmp_lt {off : Int} {t : Nat} {x y1 : Int32} (hd : decode cc pc = .ok (.if_icmp .lt off, 3)) (ht : (pc : Int) + off = (t : Int)) (hq : pc + 3 = q) (kt : x < y1 → GG sk own y cc nL rt d mc ms Ψ k n t l st ws) (kf : ¬ x < y1 → GG sk own y cc nL rt d mc ms Ψ k n q l st ws) : GG sk own y cc nL rt d mc ms Ψ k n pc l (.int y1 :: .int x :: st) ws := by
  subst hq
  intro p la e s m args below meth c G ca A H locs ls C hl hP hD hS
  exact lv_icmp_lt C.1 C.2.1 hd ht (fun h => kt h p la e s m args below meth c G ca A H locs ls C hl hP hD hS) (fun h => kf h p la e s m args below meth c G ca A H locs ls C hl hP hD hS)
theorem g_icmp_ltN {off : Int} {t : Nat} {a b : Nat} (hd : decode cc pc = .ok (.if_icmp .lt off, 3)) (ht : (pc : Int) + off = (t : Int)) (hq : pc + 3 = q) (ha : a < 2 ^ 31) (hb : b < 2 ^ 31) (kt : a < b → GG sk own y cc nL rt d mc ms Ψ k n t l st ws) (kf : b ≤ a → GG sk own y cc nL rt d mc ms Ψ k n q l st ws) : GG sk own y cc nL rt d mc ms Ψ k n pc l (.int (nI b) :: .int (nI a) :: st) ws :=
  g_icmp_lt hd ht hq (fun h => kt ((nI_ltI ha hb).mp h)) (fun h => kf (Nat.not_lt.mp (fun e => h ((nI_ltI ha hb).mpr e))))
theorem g_icmp_ge {off : Int} {t : Nat} {x y1 : Int32} (hd : decode cc pc = .ok (.if_icmp .ge off, 3)) (ht : (pc : Int) + off = (t : Int)) (hq : pc + 3 = q) (kt : y1 ≤ x → GG sk own y cc nL rt d mc ms Ψ k n t l st ws) (kf : ¬ y1 ≤ x → GG sk own y cc nL rt d mc ms Ψ k n q l st ws) : GG sk own y cc nL rt d mc ms Ψ k n pc l (.int y1 :: .int x :: st) ws := by
  subst hq
  intro p la e s m args below meth c G ca A H locs ls C hl hP hD hS
  exact lv_icmp_ge C.1 C.2.1 hd ht (fun h => kt h p la e s m args below meth c G ca A H locs ls C hl hP hD hS) (fun h => kf h p la e s m args below meth c G ca A H locs ls C hl hP hD hS)
theorem g_icmp_geN {off : Int} {t : Nat} {a b : Nat} (hd : decode cc pc = .ok (.if_icmp .ge off, 3)) (ht : (pc : Int) + off = (t : Int)) (hq : pc + 3 = q) (ha : a < 2 ^ 31) (hb : b < 2 ^ 31) (kt : b ≤ a → GG sk own y cc nL rt d mc ms Ψ k n t l st ws) (kf : a < b → GG sk own y cc nL rt d mc ms Ψ k n q l st ws) : GG sk own y cc nL rt d mc ms Ψ k n pc l (.int (nI b) :: .int (nI a) :: st) ws :=
  g_icmp_ge hd ht hq (fun h => kt ((nI_leI hb ha).mp h)) (fun h => kf (Nat.not_le.mp (fun e => h ((nI_leI hb ha).mpr e))))
theorem g_icmp_gt {off : Int} {t : Nat} {x y1 : Int32} (hd : decode cc pc = .ok (.if_icmp .gt off, 3)) (ht : (pc : Int) + off = (t : Int)) (hq : pc + 3 = q) (kt : y1 < x → GG sk own y cc nL rt d mc ms Ψ k n t l st ws) (kf : ¬ y1 < x → GG sk own y cc nL rt d mc ms Ψ k n q l st ws) : GG sk own y cc nL rt d mc ms Ψ k n pc l (.int y1 :: .int x :: st) ws := by
  subst hq
  intro p la e s m args below meth c G ca A H locs ls C hl hP hD hS
  exact lv_icmp_gt C.1 C.2.1 hd ht (fun h => kt h p la e s m args below meth c G ca A H locs ls C hl hP hD hS) (fun h => kf h p la e s m args below meth c G ca A H locs ls C hl hP hD hS)
theorem g_icmp_gtN {off : Int} {t : Nat} {a b : Nat} (hd : decode cc pc = .ok (.if_icmp .gt off, 3)) (ht : (pc : Int) + off = (t : Int)) (hq : pc + 3 = q) (ha : a < 2 ^ 31) (hb : b < 2 ^ 31) (kt : b < a → GG sk own y cc nL rt d mc ms Ψ k n t l st ws) (kf : a ≤ b → GG sk own y cc nL rt d mc ms Ψ k n q l st ws) : GG sk own y cc nL rt d mc ms Ψ k n pc l (.int (nI b) :: .int (nI a) :: st) ws :=
  g_icmp_gt hd ht hq (fun h => kt ((nI_ltI hb ha).mp h)) (fun h => kf (Nat.not_lt.mp (fun e => h ((nI_ltI hb ha).mpr e))))
theorem g_icmp_le {off : Int} {t : Nat} {x y1 : Int32} (hd : decode cc pc = .ok (.if_icmp .le off, 3)) (ht : (pc : Int) + off = (t : Int)) (hq : pc + 3 = q) (kt : x ≤ y1 → GG sk own y cc nL rt d mc ms Ψ k n t l st ws) (kf : ¬ x ≤ y1 → GG sk own y cc nL rt d mc ms Ψ k n q l st ws) : GG sk own y cc nL rt d mc ms Ψ k n pc l (.int y1 :: .int x :: st) ws := by
  subst hq
  intro p la e s m args below meth c G ca A H locs ls C hl hP hD hS
  exact lv_icmp_le C.1 C.2.1 hd ht (fun h => kt h p la e s m args below meth c G ca A H locs ls C hl hP hD hS) (fun h => kf h p la e s m args below meth c G ca A H locs ls C hl hP hD hS)
theorem g_icmp_leN {off : Int} {t : Nat} {a b : Nat} (hd : decode cc pc = .ok (.if_icmp .le off, 3)) (ht : (pc : Int) + off = (t : Int)) (hq : pc + 3 = q) (ha : a < 2 ^ 31) (hb : b < 2 ^ 31) (kt : a ≤ b → GG sk own y cc nL rt d mc ms Ψ k n t l st ws) (kf : b < a → GG sk own y cc nL rt d mc ms Ψ k n q l st ws) : GG sk own y cc nL rt d mc ms Ψ k n pc l (.int (nI b) :: .int (nI a) :: st) ws :=
  g_icmp_le hd ht hq (fun h => kt ((nI_leI ha hb).mp h)) (fun h => kf (Nat.not_le.mp (fun e => h ((nI_leI ha hb).mpr e))))
theorem g_if_eq {off : Int} {t : Nat} {x : Int32} (hd : decode cc pc = .ok (.ifCond .eq off, 3)) (ht : (pc : Int) + off = (t : Int)) (hq : pc + 3 = q) (kt : x = 0 → GG sk own y cc nL rt d mc ms Ψ k n t l st ws) (kf : ¬ x = 0 → GG sk own y cc nL rt d mc ms Ψ k n q l st ws) : GG sk own y cc nL rt d mc ms Ψ k n pc l (.int x :: st) ws := by
  subst hq
  intro p la e s m args below meth c G ca A H locs ls C hl hP hD hS
  exact lv_if_eq C.1 C.2.1 hd ht (fun h => kt h p la e s m args below meth c G ca A H locs ls C hl hP hD hS) (fun h => kf h p la e s m args below meth c G ca A H locs ls C hl hP hD hS)
theorem g_if_ne {off : Int} {t : Nat} {x : Int32} (hd : decode cc pc = .ok (.ifCond .ne off, 3)) (ht : (pc : Int) + off = (t : Int)) (hq : pc + 3 = q) (kt : ¬ x = 0 → GG sk own y cc nL rt d mc ms Ψ k n t l st ws) (kf : x = 0 → GG sk own y cc nL rt d mc ms Ψ k n q l st ws) : GG sk own y cc nL rt d mc ms Ψ k n pc l (.int x :: st) ws := by
  subst hq
  intro p la e s m args below meth c G ca A H locs ls C hl hP hD hS
  exact lv_if_ne C.1 C.2.1 hd ht (fun h => kt h p la e s m args below meth c G ca A H locs ls C hl hP hD hS) (fun h => kf h p la e s m args below meth c G ca A H locs ls C hl hP hD hS)
theorem g_if_lt {off : Int} {t : Nat} {x : Int32} (hd : decode cc pc = .ok (.ifCond .lt off, 3)) (ht : (pc : Int) + off = (t : Int)) (hq : pc + 3 = q) (kt : x < 0 → GG sk own y cc nL rt d mc ms Ψ k n t l st ws) (kf : ¬ x < 0 → GG sk own y cc nL rt d mc ms Ψ k n q l st ws) : GG sk own y cc nL rt d mc ms Ψ k n pc l (.int x :: st) ws := by
  subst hq
  intro p la e s m args below meth c G ca A H locs ls C hl hP hD hS
  exact lv_if_lt C.1 C.2.1 hd ht (fun h => kt h p la e s m args below meth c G ca A H locs ls C hl hP hD hS) (fun h => kf h p la e s m args below meth c G ca A H locs ls C hl hP hD hS)
theorem g_if_ge {off : Int} {t : Nat} {x : Int32} (hd : decode cc pc = .ok (.ifCond .ge off, 3)) (ht : (pc : Int) + off = (t : Int)) (hq : pc + 3 = q) (kt : 0 ≤ x → GG sk own y cc nL rt d mc ms Ψ k n t l st ws) (kf : ¬ 0 ≤ x → GG sk own y cc nL rt d mc ms Ψ k n q l st ws) : GG sk own y cc nL rt d mc ms Ψ k n pc l (.int x :: st) ws := by
  subst hq
  intro p la e s m args below meth c G ca A H locs ls C hl hP hD hS
  exact lv_if_ge C.1 C.2.1 hd ht (fun h => kt h p la e s m args below meth c G ca A H locs ls C hl hP hD hS) (fun h => kf h p la e s m args below meth c G ca A H locs ls C hl hP hD hS)
theorem g_if_gt {off : Int} {t : Nat} {x : Int32} (hd : decode cc pc = .ok (.ifCond .gt off, 3)) (ht : (pc : Int) + off = (t : Int)) (hq : pc + 3 = q) (kt : 0 < x → GG sk own y cc nL rt d mc ms Ψ k n t l st ws) (kf : ¬ 0 < x → GG sk own y cc nL rt d mc ms Ψ k n q l st ws) : GG sk own y cc nL rt d mc ms Ψ k n pc l (.int x :: st) ws := by
  subst hq
  intro p la e s m args below meth c G ca A H locs ls C hl hP hD hS
  exact lv_if_gt C.1 C.2.1 hd ht (fun h => kt h p la e s m args below meth c G ca A H locs ls C hl hP hD hS) (fun h => kf h p la e s m args below meth c G ca A H locs ls C hl hP hD hS)
theorem g_if_le {off : Int} {t : Nat} {x : Int32} (hd : decode cc pc = .ok (.ifCond .le off, 3)) (ht : (pc : Int) + off = (t : Int)) (hq : pc + 3 = q) (kt : x ≤ 0 → GG sk own y cc nL rt d mc ms Ψ k n t l st ws) (kf : ¬ x ≤ 0 → GG sk own y cc nL rt d mc ms Ψ k n q l st ws) : GG sk own y cc nL rt d mc ms Ψ k n pc l (.int x :: st) ws := by
  subst hq
  intro p la e s m args below meth c G ca A H locs ls C hl hP hD hS
  exact lv_if_le C.1 C.2.1 hd ht (fun h => kt h p la e s m args below meth c G ca A H locs ls C hl hP hD hS) (fun h => kf h p la e s m args below meth c G ca A H locs ls C hl hP hD hS)
/-- a boolean on the stack -/
def zb (b : Bool) : Int32 := match b with
  | true => 1
  | false => 0
theorem zb_t {b : Bool} (h : ¬ zb b = 0) : b = true := by cases b with
  | true => rfl
  | false => exact absurd rfl h
theorem zb_f {b : Bool} (h : zb b = 0) : b = false := by cases b with
  | true => exact absurd h (by decide)
  | false => rfl
theorem g_if_eqB {off : Int} {t : Nat} {b : Bool} (hd : decode cc pc = .ok (.ifCond .eq off, 3)) (ht : (pc : Int) + off = (t : Int)) (hq : pc + 3 = q) (kt : b = false → GG sk own y cc nL rt d mc ms Ψ k n t l st ws) (kf : b = true → GG sk own y cc nL rt d mc ms Ψ k n q l st ws) : GG sk own y cc nL rt d mc ms Ψ k n pc l (.int (zb b) :: st) ws := g_if_eq hd ht hq (fun h => kt (zb_f h)) (fun h => kf (zb_t h))
theorem g_if_neB {off : Int} {t : Nat} {b : Bool} (hd : decode cc pc = .ok (.ifCond .ne off, 3)) (ht : (pc : Int) + off = (t : Int)) (hq : pc + 3 = q) (kt : b = true → GG sk own y cc nL rt d mc ms Ψ k n t l st ws) (kf : b = false → GG sk own y cc nL rt d mc ms Ψ k n q l st ws) : GG sk own y cc nL rt d mc ms Ψ k n pc l (.int (zb b) :: st) ws := g_if_ne hd ht hq (fun h => kt (zb_t h)) (fun h => kf (zb_f h))
theorem g_dup2 {v w : Value} (hd : decode cc pc = .ok (.dup2, 1)) (hq : pc + 1 = q) (hv : v.category = 1) (hw : w.category = 1) (kk : GG sk own y cc nL rt d mc ms Ψ k n q l (v :: w :: v :: w :: st) ws) : GG sk own y cc nL rt d mc ms Ψ k n pc l (v :: w :: st) ws := by
  subst hq
  intro p la e s m args below meth c G ca A H locs ls C hl hP hD hS
  exact lv_dup2_11 C.1 C.2.1 hd hv hw (kk p la e s m args below meth c G ca A H locs ls C hl hP hD hS)
theorem g_tblOut {dflt lo hi : Int} {offs : Array Int} {len : Nat} {x : Int32} (hd : decode cc pc = .ok (.tableswitch dflt lo hi offs, len)) (h : x.toInt < lo ∨ hi < x.toInt) (ht : (pc : Int) + dflt = (q : Int)) (kk : GG sk own y cc nL rt d mc ms Ψ k n q l st ws) : GG sk own y cc nL rt d mc ms Ψ k n pc l (.int x :: st) ws := by
  intro p la e s m args below meth c G ca A H locs ls C hl hP hD hS
  exact lv_tableOut C.1 C.2.1 hd h ht (kk p la e s m args below meth c G ca A H locs ls C hl hP hD hS)
theorem g_tblIn {dflt lo hi : Int} {offs : Array Int} {len : Nat} {x : Int32} {off : Int} (hd : decode cc pc = .ok (.tableswitch dflt lo hi offs, len)) (h1 : ¬ x.toInt < lo) (h2 : ¬ hi < x.toInt) (ho : offs[(x.toInt - lo).toNat]? = some off) (ht : (pc : Int) + off = (q : Int)) (kk : GG sk own y cc nL rt d mc ms Ψ k n q l st ws) : GG sk own y cc nL rt d mc ms Ψ k n pc l (.int x :: st) ws := by
  intro p la e s m args below meth c G ca A H locs ls C hl hP hD hS
  exact lv_tableIn C.1 C.2.1 hd h1 h2 ho ht (kk p la e s m args below meth c G ca A H locs ls C hl hP hD hS)
theorem g_get {i ci kf a : Nat} {ty : FieldType} {fin : Bool} {fs : List Value} {v : Value} (F : FL own i ci kf ty fin) (hd : decode cc pc = .ok (.getfield i, 3)) (hq : pc + 3 = q) (q0 : Nat) (he : ws[q0]? = some (a, .inr (ci, fs))) (hv : fs[kf]? = some v) (kk : GG sk own y cc nL rt d mc ms Ψ k n q l (v :: st) ws) : GG sk own y cc nL rt d mc ms Ψ k n pc l (.ref a :: st) ws := by
  subst hq
  intro p la e s m args below meth c G ca A H locs ls C hl hP hD hS
  obtain ⟨C0, T, N, ty0, h1, h2, h3, h4, h5, h6, h7, h8, h9⟩ := F
  have hts := C.2.2.2.2.2.2.2.1
  exact va_get (ci := ci) C.1 C.2.1 hts h3 C.2.2.2.2.2.1 C.2.2.2.2.2.2.2.2.1 hP q0 (zW_get ca he) h1 kf h2 (hts _ h4) (fun x hx => by rw [h5] at hx; exact hx) hv hd (kk p la e s m args below meth c G ca A H locs ls C hl hP hD hS)
theorem g_put {i ci kf a : Nat} {ty : FieldType} {fs : List Value} {v : Value} (F : FL own i ci kf ty false) (hd : decode cc pc = .ok (.putfield i, 3)) (hq : pc + 3 = q) (q0 : Nat) (he : ws[q0]? = some (a, .inr (ci, fs))) (hn : narrow ty v = v) (hf : fits ty v = true) (hk : kf < fs.length) {ws' : AW} (hw : ws.set q0 (a, .inr (ci, fs.set kf v)) = ws') (kk : GG sk own y cc nL rt d mc ms Ψ k n q l st ws') : GG sk own y cc nL rt d mc ms Ψ k n pc l (v :: .ref a :: st) ws := by
  subst hq; subst hw
  intro p la e s m args below meth c G ca A H locs ls C hl hP hD hS
  obtain ⟨C0, T, N, ty0, h1, h2, h3, h4, h5, h6, h7, h8, h9⟩ := F
  have hts := C.2.2.2.2.2.2.2.1
  refine va_put (ci := ci) C.1 C.2.1 hts h3 ty0 h6 h7 C.2.2.2.2.2.1 C.2.2.2.2.2.2.2.2.1 hP hD hS q0 (zW_get ca he) h1 kf h2 (hts _ h4) (fun x hx => by rw [h5] at hx; exact hx) h9 h8 hn hf hk hd (fun H1 locs1 hP1 hD1 hS1 => ?_)
  have e1 := zW_set ca ws q0 a (.inr (ci, fs.set kf v))
  exact kk p la e s m args below meth c G ca A H1 locs1 ls C hl (e1 ▸ hP1) (e1 ▸ hD1) hS1
theorem g_putI {i ci kf a : Nat} {fs : List Value} {x : Int32} (F : FL own i ci kf .int false) (hd : decode cc pc = .ok (.putfield i, 3)) (hq : pc + 3 = q) (q0 : Nat) (he : ws[q0]? = some (a, .inr (ci, fs))) (hk : kf < fs.length) {ws' : AW} (hw : ws.set q0 (a, .inr (ci, fs.set kf (.int x))) = ws') (kk : GG sk own y cc nL rt d mc ms Ψ k n q l st ws') : GG sk own y cc nL rt d mc ms Ψ k n pc l (.int x :: .ref a :: st) ws := g_put F hd hq q0 he (vp_nar_int x) rfl hk hw kk
theorem zb_nar (b : Bool) : narrow .boolean (.int (zb b)) = .int (zb b) ∧ fits .boolean (.int (zb b)) = true := by cases b <;> exact ⟨by decide, by decide⟩
theorem zb_vnar (b : Bool) : vp_nar .boolean (zb b) = zb b := by cases b <;> decide
theorem g_putZ {i ci kf a : Nat} {fs : List Value} {b : Bool} (F : FL own i ci kf .boolean false) (hd : decode cc pc = .ok (.putfield i, 3)) (hq : pc + 3 = q) (q0 : Nat) (he : ws[q0]? = some (a, .inr (ci, fs))) (hk : kf < fs.length) {ws' : AW} (hw : ws.set q0 (a, .inr (ci, fs.set kf (.int (zb b)))) = ws') (kk : GG sk own y cc nL rt d mc ms Ψ k n q l st ws') : GG sk own y cc nL rt d mc ms Ψ k n pc l (.int (zb b) :: .ref a :: st) ws := g_put F hd hq q0 he (zb_nar b).1 (zb_nar b).2 hk hw kk
theorem g_putF {i ci kf a : Nat} {ty : FieldType} {fs : List Value} {v : Value} (F : FL own i ci kf ty true) (hi : y.name = "<init>") (hC : ∀ (C : String) (T : u_T) (N : Nat), vwCl[ci]? = some (C, T, N) → C = own) (hd : decode cc pc = .ok (.putfield i, 3)) (hq : pc + 3 = q) (q0 : Nat) (he : ws[q0]? = some (a, .inr (ci, fs))) (hn : narrow ty v = v) (hf : fits ty v = true) (hk : kf < fs.length) {ws' : AW} (hw : ws.set q0 (a, .inr (ci, fs.set kf v)) = ws') (kk : GG sk own y cc nL rt d mc ms Ψ k n q l st ws') : GG sk own y cc nL rt d mc ms Ψ k n pc l (v :: .ref a :: st) ws := by
  subst hq; subst hw
  intro p la e s m args below meth c G ca A H locs ls C hl hP hD hS
  obtain ⟨C0, T, N, ty0, h1, h2, h3, h4, h5, h6, h7, h8, h9⟩ := F
  have hts := C.2.2.2.2.2.2.2.1
  refine va_putF (ci := ci) C.1 C.2.1 hts h3 ty0 h6 h7 C.2.2.2.2.2.1 C.2.2.2.2.2.2.2.2.1 hP hD hS q0 (zW_get ca he) h1 kf h2 (hts _ h4) (fun x hx => by rw [h5] at hx; exact hx) h9 (C.2.2.2.2.2.2.1.trans hi) (h5.trans (hC _ _ _ h1)) h8 hn hf hk hd (fun H1 locs1 hP1 hD1 hS1 => ?_)
  have e1 := zW_set ca ws q0 a (.inr (ci, fs.set kf v))
  exact kk p la e s m args below meth c G ca A H1 locs1 ls C hl (e1 ▸ hP1) (e1 ▸ hD1) hS1
theorem g_alen {a t : Nat} {x : vp_A} (hd : decode cc pc = .ok (.arraylength, 1)) (hq : pc + 1 = q) (q0 : Nat) (he : ws[q0]? = some (a, .inl (t, x))) (ht : t < 5) {v : Int32} (hv : nI x.1 = v) (kk : GG sk own y cc nL rt d mc ms Ψ k n q l (.int v :: st) ws) : GG sk own y cc nL rt d mc ms Ψ k n pc l (.ref a :: st) ws := by
  subst hq
  intro p la e s m args below meth c G ca A H locs ls C hl hP hD hS
  have hK := C.2.2.2.2.2.2.2.2.1
  have h5 : ∃ ty, (zTys ca)[t]? = some (ca t, ty) := by
    rcases (show t = 0 ∨ t = 1 ∨ t = 2 ∨ t = 3 ∨ t = 4 by omega) with rfl | rfl | rfl | rfl | rfl <;> exact ⟨_, rfl⟩
  obtain ⟨ty, h5⟩ := h5
  exact va_alen C.1 C.2.1 hK hP q0 t (zW_get ca he) h5 hv hd (kk p la e s m args below meth c G ca A H locs ls C hl hP hD hS)
theorem g_iald {a nn : Nat} {f : Nat → Int32} {i v : Int32} (hd : decode cc pc = .ok (.iaload, 1)) (hq : pc + 1 = q) (q0 : Nat) (he : ws[q0]? = some (a, .inl (0, nn, .inl f))) (hin : vp_in i nn) (hv : f i.toNatClampNeg = v) (kk : GG sk own y cc nL rt d mc ms Ψ k n q l (.int v :: st) ws) : GG sk own y cc nL rt d mc ms Ψ k n pc l (.int i :: .ref a :: st) ws := by
  subst hq; subst hv
  intro p la e s m args below meth c G ca A H locs ls C hl hP hD hS
  exact va_iald C.1 C.2.1 C.2.2.2.2.2.2.2.2.1 hP q0 0 (zW_get ca he) rfl hin hd (kk p la e s m args below meth c G ca A H locs ls C hl hP hD hS)
theorem g_ialdN {a nn j : Nat} {f : Nat → Int32} {v : Int32} (hd : decode cc pc = .ok (.iaload, 1)) (hq : pc + 1 = q) (q0 : Nat) (he : ws[q0]? = some (a, .inl (0, nn, .inl f))) (hj : j < nn) (hn : nn < 2 ^ 31) (hv : f j = v) (kk : GG sk own y cc nL rt d mc ms Ψ k n q l (.int v :: st) ws) : GG sk own y cc nL rt d mc ms Ψ k n pc l (.int (nI j) :: .ref a :: st) ws := g_iald hd hq q0 he (vp_in_nI hj hn) (by rw [nI_clamp (by omega)]; exact hv) kk
theorem g_baldN {a nn j : Nat} {f : Nat → Int32} {v : Int32} (hd : decode cc pc = .ok (.baload, 1)) (hq : pc + 1 = q) (q0 : Nat) (he : ws[q0]? = some (a, .inl (1, nn, .inl f))) (hj : j < nn) (hn : nn < 2 ^ 31) (hv : f j = v) (kk : GG sk own y cc nL rt d mc ms Ψ k n q l (.int v :: st) ws) : GG sk own y cc nL rt d mc ms Ψ k n pc l (.int (nI j) :: .ref a :: st) ws := by
  subst hq; subst hv
  intro p la e s m args below meth c G ca A H locs ls C hl hP hD hS
  refine va_bald C.1 C.2.1 C.2.2.2.2.2.2.2.2.1 hP q0 1 (zW_get ca he) rfl (vp_in_nI hj hn) hd ?_
  rw [nI_clamp (by omega)]
  exact kk p la e s m args below meth c G ca A H locs ls C hl hP hD hS
theorem g_zaldN {a nn j : Nat} {f : Nat → Int32} {v : Int32} (hd : decode cc pc = .ok (.baload, 1)) (hq : pc + 1 = q) (q0 : Nat) (he : ws[q0]? = some (a, .inl (2, nn, .inl f))) (hj : j < nn) (hn : nn < 2 ^ 31) (hv : f j = v) (kk : GG sk own y cc nL rt d mc ms Ψ k n q l (.int v :: st) ws) : GG sk own y cc nL rt d mc ms Ψ k n pc l (.int (nI j) :: .ref a :: st) ws := by
  subst hq; subst hv
  intro p la e s m args below meth c G ca A H locs ls C hl hP hD hS
  refine va_zald C.1 C.2.1 C.2.2.2.2.2.2.2.2.1 hP q0 2 (zW_get ca he) rfl (vp_in_nI hj hn) hd ?_
  rw [nI_clamp (by omega)]
  exact kk p la e s m args below meth c G ca A H locs ls C hl hP hD hS
theorem g_iast {a nn : Nat} {f g : Nat → Int32} {i x : Int32} (hd : decode cc pc = .ok (.iastore, 1)) (hq : pc + 1 = q) (q0 : Nat) (he : ws[q0]? = some (a, .inl (0, nn, .inl f))) (hin : vp_in i nn) (hg : upd f i.toNatClampNeg x = g) {ws' : AW} (hw : ws.set q0 (a, .inl (0, nn, .inl g)) = ws') (kk : GG sk own y cc nL rt d mc ms Ψ k n q l st ws') : GG sk own y cc nL rt d mc ms Ψ k n pc l (.int x :: .int i :: .ref a :: st) ws := by
  subst hq; subst hg; subst hw
  intro p la e s m args below meth c G ca A H locs ls C hl hP hD hS
  refine va_iast C.1 C.2.1 C.2.2.2.2.2.2.2.2.1 hP hD hS q0 0 (zW_get ca he) rfl hin hd (fun H1 locs1 hP1 hD1 hS1 => ?_)
  have e1 := zW_set ca ws q0 a (.inl (0, nn, .inl (upd f i.toNatClampNeg x)))
  exact kk p la e s m args below meth c G ca A H1 locs1 ls C hl (e1 ▸ hP1) (e1 ▸ hD1) hS1
theorem g_iastN {a nn j : Nat} {f g : Nat → Int32} {x : Int32} (hd : decode cc pc = .ok (.iastore, 1)) (hq : pc + 1 = q) (q0 : Nat) (he : ws[q0]? = some (a, .inl (0, nn, .inl f))) (hj : j < nn) (hn : nn < 2 ^ 31) (hg : upd f j x = g) {ws' : AW} (hw : ws.set q0 (a, .inl (0, nn, .inl g)) = ws') (kk : GG sk own y cc nL rt d mc ms Ψ k n q l st ws') : GG sk own y cc nL rt d mc ms Ψ k n pc l (.int x :: .int (nI j) :: .ref a :: st) ws := g_iast hd hq q0 he (vp_in_nI hj hn) (by rw [nI_clamp (by omega)]; exact hg) hw kk
theorem g_bastN {a nn j : Nat} {f g : Nat → Int32} {x : Int32} (hd : decode cc pc = .ok (.bastore, 1)) (hq : pc + 1 = q) (q0 : Nat) (he : ws[q0]? = some (a, .inl (1, nn, .inl f))) (hj : j < nn) (hn : nn < 2 ^ 31) (hg : upd f j x.toInt8.toInt32 = g) {ws' : AW} (hw : ws.set q0 (a, .inl (1, nn, .inl g)) = ws') (kk : GG sk own y cc nL rt d mc ms Ψ k n q l st ws') : GG sk own y cc nL rt d mc ms Ψ k n pc l (.int x :: .int (nI j) :: .ref a :: st) ws := by
  subst hq; subst hg; subst hw
  intro p la e s m args below meth c G ca A H locs ls C hl hP hD hS
  refine va_bast C.1 C.2.1 C.2.2.2.2.2.2.2.2.1 hP hD hS q0 1 (zW_get ca he) rfl (vp_in_nI hj hn) hd (fun H1 locs1 hP1 hD1 hS1 => ?_)
  rw [nI_clamp (by omega), vp_nar_byte] at hP1 hD1
  have e1 := zW_set ca ws q0 a (.inl (1, nn, .inl (upd f j x.toInt8.toInt32)))
  exact kk p la e s m args below meth c G ca A H1 locs1 ls C hl (e1 ▸ hP1) (e1 ▸ hD1) hS1
theorem g_zastN {a nn j : Nat} {f g : Nat → Int32} {b : Bool} (hd : decode cc pc = .ok (.bastore, 1)) (hq : pc + 1 = q) (q0 : Nat) (he : ws[q0]? = some (a, .inl (2, nn, .inl f))) (hj : j < nn) (hn : nn < 2 ^ 31) (hg : upd f j (zb b) = g) {ws' : AW} (hw : ws.set q0 (a, .inl (2, nn, .inl g)) = ws') (kk : GG sk own y cc nL rt d mc ms Ψ k n q l st ws') : GG sk own y cc nL rt d mc ms Ψ k n pc l (.int (zb b) :: .int (nI j) :: .ref a :: st) ws := by
  subst hq; subst hg; subst hw
  intro p la e s m args below meth c G ca A H locs ls C hl hP hD hS
  refine va_zast C.1 C.2.1 C.2.2.2.2.2.2.2.2.1 hP hD hS q0 2 (zW_get ca he) rfl (vp_in_nI hj hn) hd (fun H1 locs1 hP1 hD1 hS1 => ?_)
  rw [nI_clamp (by omega), zb_vnar] at hP1 hD1
  have e1 := zW_set ca ws q0 a (.inl (2, nn, .inl (upd f j (zb b))))
  exact kk p la e s m args below meth c G ca A H1 locs1 ls C hl (e1 ▸ hP1) (e1 ▸ hD1) hS1
theorem g_aldP {a nn j r : Nat} {f : Nat → Option Nat} (hd : decode cc pc = .ok (.aaload, 1)) (hq : pc + 1 = q) (q0 : Nat) (he : ws[q0]? = some (a, .inl (3, nn, .inr (.inr (.inr (.inr f)))))) (hj : j < nn) (hn : nn < 2 ^ 31) (hv : f j = some r) (kk : GG sk own y cc nL rt d mc ms Ψ k n q l (.ref r :: st) ws) : GG sk own y cc nL rt d mc ms Ψ k n pc l (.int (nI j) :: .ref a :: st) ws := by
  subst hq
  intro p la e s m args below meth c G ca A H locs ls C hl hP hD hS
  refine va_aldq C.1 C.2.1 C.2.2.2.2.2.2.2.2.1 hP q0 3 (zW_get ca he) rfl (vp_in_nI hj hn) hd ?_
  rw [nI_clamp (by omega), hv]
  exact kk p la e s m args below meth c G ca A H locs ls C hl hP hD hS
theorem g_iret {v : Int32} (hd : decode cc pc = .ok (.ireturn, 1)) (hr : rt = some .int) (hk : k ≤ mc) (hn : n ≤ ms) (h : Ψ (some (.int v)) ws) : GG sk own y cc nL rt d mc ms Ψ k n pc l [.int v] ws := by
  intro p la e s m args below meth c G ca A H locs ls C hl hP hD hS
  refine W.widen hk hn ?_
  exact W.iret C.1 C.2.1 (C.2.2.1.trans hr) (fun t ht hW => ⟨⟨_, ws, rfl, h, by rw [ht]; exact hP, hD⟩, hS.F ht⟩) hS.2.2 hd C.2.2.2.1
theorem g_zret {b : Bool} (hd : decode cc pc = .ok (.ireturn, 1)) (hr : rt = some .boolean) (hk : k ≤ mc) (hn : n ≤ ms) (h : Ψ (some (.int (zb b))) ws) : GG sk own y cc nL rt d mc ms Ψ k n pc l [.int (zb b)] ws := by
  intro p la e s m args below meth c G ca A H locs ls C hl hP hD hS
  refine W.widen hk hn ?_
  exact W.zret C.1 C.2.1 (C.2.2.1.trans hr) (zb_nar b).1 (fun t ht hW => ⟨⟨_, ws, rfl, h, by rw [ht]; exact hP, hD⟩, hS.F ht⟩) hS.2.2 hd C.2.2.2.1
theorem g_vret (hd : decode cc pc = .ok (.return_, 1)) (hr : rt = none) (hk : k ≤ mc) (hn : n ≤ ms) (h : Ψ none ws) : GG sk own y cc nL rt d mc ms Ψ k n pc l [] ws := by
  intro p la e s m args below meth c G ca A H locs ls C hl hP hD hS
  refine W.widen hk hn ?_
  exact W.vret C.1 C.2.1 (C.2.2.1.trans hr) (fun t ht hW => ⟨⟨_, ws, rfl, h, by rw [ht]; exact hP, hD⟩, hS.F ht⟩) hS.2.2 hd C.2.2.2.1
theorem g_lret {v : Int64} (hd : decode cc pc = .ok (.lreturn, 1)) (hr : rt = some .long) (hk : k ≤ mc) (hn : n ≤ ms) (h : Ψ (some (.long v)) ws) : GG sk own y cc nL rt d mc ms Ψ k n pc l [.long v] ws := by
  intro p la e s m args below meth c G ca A H locs ls C hl hP hD hS
  refine W.widen hk hn ?_
  exact W.lret C.1 C.2.1 (C.2.2.1.trans hr) (fun t ht hW => ⟨⟨_, ws, rfl, h, by rw [ht]; exact hP, hD⟩, hS.F ht⟩) hS.2.2 hd C.2.2.2.1
/-- max and min of the JDK -/
theorem g_max {i : Nat} {a b v : Int32} (M : MS own i Lib.Math.max.name) (hd : decode cc pc = .ok (.invokestatic i, 3)) (hq : pc + 3 = q) (h1 : 1 ≤ d) (hc : k ≤ mc) (hs : n ≤ ms) (hr : (st.map fun v => v.category).sum ≤ 8) (hv : (if a < b then b else a) = v) (kk : GG sk own y cc nL rt d mc ms Ψ k n q l (.int v :: st) ws) : GG sk own y cc nL rt d mc ms Ψ k n pc l (.int b :: .int a :: st) ws := by
  subst hq; subst hv
  intro p la e s m args below meth c G ca A H locs ls C hl hP hD hS
  have hts := C.2.2.2.2.2.2.2.1
  exact va_mmax C.1 C.2.1 (C.2.2.2.2.1.trans hl.1.symm) C.2.2.2.2.2.1 (hts _ M.1) (hts _ M.2) (hts _ a_J9_max_7cf53.2.1) (hts _ a_J9_max_7cf53.1) h1 (by show _ ≤ 64 * d; omega) hc hs hd (kk p la e s m args below meth c G ca A H locs ls C hl hP hD hS)
theorem g_min {i : Nat} {a b v : Int32} (M : MS own i Lib.Math.min.name) (hd : decode cc pc = .ok (.invokestatic i, 3)) (hq : pc + 3 = q) (h1 : 1 ≤ d) (hc : k ≤ mc) (hs : n ≤ ms) (hr : (st.map fun v => v.category).sum ≤ 8) (hv : (if b < a then b else a) = v) (kk : GG sk own y cc nL rt d mc ms Ψ k n q l (.int v :: st) ws) : GG sk own y cc nL rt d mc ms Ψ k n pc l (.int b :: .int a :: st) ws := by
  subst hq; subst hv
  intro p la e s m args below meth c G ca A H locs ls C hl hP hD hS
  have hts := C.2.2.2.2.2.2.2.1
  exact va_mmin C.1 C.2.1 (C.2.2.2.2.1.trans hl.1.symm) C.2.2.2.2.2.1 (hts _ M.1) (hts _ M.2) (hts _ a_J9_min_7cf53.2.1) (hts _ a_J9_min_7cf53.1) h1 (by show _ ≤ 64 * d; omega) hc hs hd (kk p la e s m args below meth c G ca A H locs ls C hl hP hD hS)
/-- another text of the same arrays: only what stands within their lengths counts -/
theorem zCell {c : ClassId} {nn : Nat} {f g : Nat → Int32} (h : ∀ j, j < nn → f j = g j) : vp_cell c (nn, .inl f) = vp_cell c (nn, .inl g) := by
  show arrV c nn (fun j => .int (f j)) = arrV c nn (fun j => .int (g j))
  unfold arrV
  have e : (Array.ofFn (n := nn) fun j => Value.int (f j.val)) = Array.ofFn (n := nn) fun j => Value.int (g j.val) := by
    congr 1
    funext j
    rw [h j.val j.isLt]
  rw [e]
theorem g_cong {a t nn : Nat} {f g : Nat → Int32} (q0 : Nat) (he : ws[q0]? = some (a, .inl (t, nn, .inl f))) (h : ∀ j, j < nn → f j = g j) {ws' : AW} (hw : ws.set q0 (a, .inl (t, nn, .inl g)) = ws') (kk : GG sk own y cc nL rt d mc ms Ψ k n pc l st ws') : GG sk own y cc nL rt d mc ms Ψ k n pc l st ws := by
  subst hw
  intro p la e s m args below meth c G ca A H locs ls C hl hP hD hS
  have e1 := zW_set ca ws q0 a (.inl (t, nn, .inl g))
  have h1 := zW_get ca he
  refine kk p la e s m args below meth c G ca A H locs ls C hl (e1 ▸ hP.set hD h1 ?_ (fun _ _ => rfl)) (e1 ▸ hD.set h1) hS
  have h2 := hP q0 _ h1
  show H[a]? = some (vp_cell (ca t) (nn, .inl g))
  rw [← zCell h]
  exact h2

end RULES
end
section
/-! calls in G: a contract of the callee on some of the world's cells; the others stay -/
def adr (X : AW) : List Nat := X.map Prod.fst
theorem adr_zW (ca : Nat → ClassId) (X : AW) : (zW ca X).map Prod.fst = adr X := by
  unfold zW adr
  rw [List.map_map]
  rfl
theorem vaD_iff {A : Nat → Prop} {X : va_W} : va_D A X ↔ (X.map Prod.fst).Nodup ∧ ∀ a ∈ X.map Prod.fst, A a := by
  constructor
  · intro h
    refine ⟨List.pairwise_iff_getElem.mpr (fun i j hi hj hij e => ?_), fun a ha => ?_⟩
    · rw [List.length_map] at hi hj
      rw [List.getElem_map, List.getElem_map] at e
      have := h.1 i j X[i] X[j] (List.getElem?_eq_getElem hi) (List.getElem?_eq_getElem hj) e
      omega
    · obtain ⟨q, hq, rfl⟩ := List.mem_map.mp ha
      obtain ⟨k, hk⟩ := List.getElem?_of_mem hq
      exact h.2 k q hk
  · intro h
    refine ⟨fun i j p q hi hj e => ?_, fun k q hk => h.2 q.1 (List.mem_map.mpr ⟨q, List.mem_of_getElem? hk, rfl⟩)⟩
    obtain ⟨li, rfl⟩ := List.getElem?_eq_some_iff.mp hi
    obtain ⟨lj, rfl⟩ := List.getElem?_eq_some_iff.mp hj
    have h1 := List.pairwise_iff_getElem.mp h.1
    rcases Nat.lt_trichotomy i j with q | q | q
    · exact absurd (by rw [List.getElem_map, List.getElem_map]; exact e) (h1 i j (by simpa using li) (by simpa using lj) q)
    · exact q
    · exact absurd (by rw [List.getElem_map, List.getElem_map]; exact e.symm) (h1 j i (by simpa using lj) (by simpa using li) q)
/-- the cells w1 in the places is of ws, what is over behind them -/
def puts : AW → List Nat → AW → AW
  | ws, [], w1 => ws ++ w1
  | ws, _ :: _, [] => ws
  | ws, i :: is, c :: w1 => puts (ws.set i c) is w1
theorem puts_mem : ∀ (is : List Nat) (ws w1 : AW) (q : Nat × AE), q ∈ puts ws is w1 → q ∈ w1 ∨ ∃ k : Nat, ws[k]? = some q ∧ (is.length ≤ w1.length → k ∉ is)
  | [], ws, w1, q, h => by
    rw [puts] at h
    rcases List.mem_append.mp h with h | h
    · obtain ⟨k, hk⟩ := List.getElem?_of_mem h
      exact Or.inr ⟨k, hk, fun _ => List.not_mem_nil⟩
    · exact Or.inl h
  | i :: is, ws, [], q, h => by
    rw [puts] at h
    obtain ⟨k, hk⟩ := List.getElem?_of_mem h
    exact Or.inr ⟨k, hk, fun z => absurd z (by simp)⟩
  | i :: is, ws, c :: w1, q, h => by
    rw [puts] at h
    rcases puts_mem is (ws.set i c) w1 q h with h1 | ⟨k, hk, hn⟩
    · exact Or.inl (List.mem_cons_of_mem _ h1)
    · by_cases hki : i = k
      · subst hki
        rw [List.getElem?_set] at hk
        simp only [if_true] at hk
        split at hk
        · cases hk; exact Or.inl List.mem_cons_self
        · cases hk
      · rw [List.getElem?_set_ne hki] at hk
        refine Or.inr ⟨k, hk, fun z hm => ?_⟩
        rcases List.mem_cons.mp hm with e | hm
        · exact hki e.symm
        · exact hn (by simpa using z) hm
theorem puts_adr : ∀ (is : List Nat) (ws w1 : AW), is.map (fun i => (adr ws)[i]?) = ((adr w1).take is.length).map some → is.length ≤ w1.length → adr (puts ws is w1) = adr ws ++ adr (w1.drop is.length)
  | [], ws, w1, _, _ => by rw [puts]; simp [adr]
  | i :: is, ws, [], _, h => absurd h (by simp)
  | i :: is, ws, c :: w1, h, hl => by
    rw [puts]
    have h1 : (adr ws)[i]? = some c.1 := by
      have := congrArg List.head? h
      simpa [adr] using this
    have h2 : adr (ws.set i c) = adr ws := by
      unfold adr
      rw [List.map_set]
      apply List.ext_getElem?
      intro j
      by_cases hj : i = j
      · subst hj
        rw [List.getElem?_set]
        simp only [if_true]
        unfold adr at h1
        split
        · exact h1.symm
        · rename_i z
          rw [List.getElem?_eq_none (by omega)]
      · rw [List.getElem?_set_ne hj]
    have h3 : is.map (fun i => (adr (ws.set i c))[i]?) = is.map (fun i => (adr (ws.set i c))[i]?) := rfl
    rw [puts_adr is (ws.set i c) w1 (by
      rw [h2]
      have := congrArg List.tail h
      simpa [adr] using this) (by simpa using hl), h2]
    rfl
theorem zPuts {G : va_G} {cl : List vw_C} {ca : Nat → ClassId} {A0 : Nat → Prop} {ws wc w1 : AW} {is : List Nat} {H H1 : Heap} (hP : va_P G cl (zW ca ws) H) (hD : va_D A0 (zW ca ws)) (hC : is.map (fun i => ws[i]?) = wc.map some)
    (hk : ∀ q : Nat, q < H.size → ¬ va_A (zW ca wc) H.size q → H1[q]? = H[q]?) (hF : ∀ q, va_A (zW ca wc) H.size q → A0 q) (hP1 : va_P G cl (zW ca w1) H1) (hD1 : va_D (va_A (zW ca wc) H.size) (zW ca w1)) (ha : (adr w1).take is.length = adr wc) :
    va_P G cl (zW ca (puts ws is w1)) H1 ∧ va_D A0 (zW ca (puts ws is w1)) := by
  have hlw : wc.length = is.length := by
    have := congrArg List.length hC
    simpa using this.symm
  have hlen : is.length ≤ w1.length := by
    have := congrArg List.length ha
    simp [adr] at this
    omega
  have inA : ∀ a, a ∈ adr wc ↔ ∃ (k : Nat) (e : va_E), (zW ca wc)[k]? = some (a, e) := by
    intro a
    rw [← adr_zW ca]
    constructor
    · intro h
      obtain ⟨q, hq, rfl⟩ := List.mem_map.mp h
      obtain ⟨k, hk⟩ := List.getElem?_of_mem hq
      exact ⟨k, q.2, hk⟩
    · rintro ⟨k, e, h⟩
      exact List.mem_map.mpr ⟨(a, e), List.mem_of_getElem? h, rfl⟩
  have hlt : ∀ a ∈ adr ws, a < H.size := by
    intro a h
    rw [← adr_zW ca] at h
    obtain ⟨q, hq, rfl⟩ := List.mem_map.mp h
    obtain ⟨k, hk⟩ := List.getElem?_of_mem hq
    exact (hP k q hk).lt
  have hsub : ∀ a ∈ adr wc, ∃ i ∈ is, (adr ws)[i]? = some a := by
    intro a h
    obtain ⟨q, hq, rfl⟩ := List.mem_map.mp h
    have h1 : some q ∈ wc.map some := List.mem_map.mpr ⟨q, hq, rfl⟩
    rw [← hC] at h1
    obtain ⟨i, hi, e⟩ := List.mem_map.mp h1
    refine ⟨i, hi, ?_⟩
    unfold adr
    rw [List.getElem?_map, e]
    rfl
  obtain ⟨hn, hA⟩ := vaD_iff.mp hD
  rw [adr_zW] at hn hA
  obtain ⟨hn1, hA1⟩ := vaD_iff.mp hD1
  rw [adr_zW] at hn1 hA1
  constructor
  · intro k q hq
    unfold zW at hq
    rw [List.getElem?_map] at hq
    obtain ⟨q0, hq0, rfl⟩ := Option.map_eq_some_iff.mp hq
    rcases puts_mem is ws w1 q0 (List.mem_of_getElem? hq0) with h | ⟨j, hj, hnj⟩
    · obtain ⟨j, hj⟩ := List.getElem?_of_mem h
      exact hP1 j _ (zW_get ca hj)
    · have h1 := hP j _ (zW_get ca (a := q0.1) (e := q0.2) hj)
      refine h1.kept (hk _ h1.lt (fun z => ?_))
      rcases z with z | z
      · have z1 := (inA q0.1).mpr z
        obtain ⟨i, hi, e⟩ := hsub _ z1
        have ej : (adr ws)[j]? = some q0.1 := by unfold adr; rw [List.getElem?_map, hj]; rfl
        have hij : i = j := by
          obtain ⟨li, e1⟩ := List.getElem?_eq_some_iff.mp e
          obtain ⟨lj, e2⟩ := List.getElem?_eq_some_iff.mp ej
          have hp := List.pairwise_iff_getElem.mp hn
          rcases Nat.lt_trichotomy i j with q | q | q
          · exact absurd (e1.trans e2.symm) (hp i j li lj q)
          · exact q
          · exact absurd (e2.trans e1.symm) (hp j i lj li q)
        exact hnj hlen (hij ▸ hi)
      · exact absurd h1.lt (Nat.not_lt.mpr z)
  · have hC2 : is.map (fun i => (adr ws)[i]?) = ((adr w1).take is.length).map some := by
      rw [ha]
      have e : is.map (fun i => (adr ws)[i]?) = (is.map (fun i => ws[i]?)).map (Option.map Prod.fst) := by
        rw [List.map_map]
        apply List.map_congr_left
        intro i _
        show (adr ws)[i]? = (ws[i]?).map _
        unfold adr
        rw [List.getElem?_map]
      rw [e, hC, List.map_map]
      unfold adr
      rw [List.map_map]
      rfl
    have hsplit : adr w1 = adr wc ++ adr (w1.drop is.length) := by
      rw [← ha]
      unfold adr
      rw [List.map_drop, List.take_append_drop]
    have hnew : ∀ a ∈ adr (w1.drop is.length), H.size ≤ a := by
      intro a h
      have h1 : a ∈ adr w1 := by rw [hsplit]; exact List.mem_append_right _ h
      rcases hA1 a h1 with z | z
      · have z1 := (inA a).mpr z
        rw [hsplit] at hn1
        exact absurd rfl ((List.nodup_append.mp hn1).2.2 a z1 a h)
      · exact z
    rw [vaD_iff, adr_zW, puts_adr is ws w1 hC2 hlen]
    constructor
    · refine List.nodup_append.mpr ⟨hn, ?_, fun a h1 b h2 => ?_⟩
      · rw [hsplit] at hn1
        exact (List.nodup_append.mp hn1).2.1
      · have := hlt a h1
        have := hnew b h2
        omega
    · intro a h
      rcases List.mem_append.mp h with h | h
      · exact hA a h
      · exact hF a (hA1 a (by rw [hsplit]; exact List.mem_append_right _ h))
section CALLS
variable {sk : Nat → Nat} {own : String} {y : MethodName} {cc : ByteArray} {nL : Nat} {rt : Option FieldType} {d mc ms : Nat} {Ψ : PS} {k n pc q : Nat} {l : LV} {st : List Value} {ws : AW}
variable {p : Program} {la : Launch} {e : Env} {R : Room} {s : State} {m : MethodId} {args : Array Value} {below : List Frame} {meth : Method} {c : Code} {H : Heap} {locs : List Loc} {Q : State → Prop}
theorem z_call {G : va_G} {ca : Nat → ClassId} {A0 A1 free : Nat → Prop} {Ψ1 : PS} {a : Array Value} {mc1 ms1 : Nat} {st0 rest : List Value} {ls : Array Slot} (hr : va_Run p la e R s m args below meth c H locs k n mc1 ms1 (F0 m pc ls st0) rest (zQ Ψ1 G ca A1 a) free)
    (hS : va_S A0 s.heap H locs) (hA : ∀ q, q < H.size → A1 q → A0 q) (hf : ∀ q, free q → A0 q)
    (kk : ∀ (r : Option Value) (w1 : AW) (H1 : Heap) (locs1 : List Loc), Ψ1 r w1 → va_P G vwCl (zW ca w1) H1 → va_D A1 (zW ca w1) → (∀ q : Nat, q < H.size → ¬ A1 q → H1[q]? = H[q]?) → va_S A0 s.heap H1 locs1 → W p la e R s m args below meth c H1 locs1 (k + mc1) (n + ms1) Q (F0 m (pc + 3) ls (r.toList ++ rest))) : W p la e R s m args below meth c H locs k n Q (F0 m pc ls st0) := by
  intro T hT X
  obtain ⟨v, st₀, t, T', L, h0, X', hL, e1, e2, ⟨⟨r, u, hv, hp, hb, hb2⟩, hz, hk⟩, stp⟩ := hr T hT X
  cases hv
  rw [h0] at hz hk
  obtain ⟨t2, a1, b1⟩ := kk v u T'.heap (locs ++ L) hp (by rw [e1]; exact hb) hb2 (fun q h1 h2 => by rw [e1]; exact hk q h1 h2)
    ⟨Nat.le_trans hS.1 (by rw [e1]; exact hz), fun q h1 h2 => by rw [e1, hk q (Nat.lt_of_lt_of_le h1 hS.1) (fun z => h2 (hA q (Nat.lt_of_lt_of_le h1 hS.1) z))]; exact hS.2.1 q h1 h2, fun q hq => by
      rcases List.mem_append.mp hq with h | h
      · exact hS.2.2 q h
      · exact hf _ (hL q h)⟩ T' rfl X'
  exact ⟨t2, stp t2 a1, b1⟩
theorem zB_blind {G : va_G} {ca : Nat → ClassId} {wc : AW} {sz : Nat} {av : List Value} : FrameBlind (va_Pc av (zB sk G ca wc sz)) := fun a U g mk h => by
  obtain ⟨q0, q1, qP, qK, qD, qZ, qR⟩ := h
  exact ⟨q0, q1, qP, va_K.moved (u := U) (U := U.calling g mk a) (Vm.Alike.refl U.vm) qK, qD, zStr.moved (u := U) (U := U.calling g mk a) (Vm.Alike.refl U.vm) qZ, zRef.same rfl qR⟩
theorem zW_free {ca : Nat → ClassId} {A0 : Nat → Prop} {ws wc : AW} {is : List Nat} (hC : is.map (fun i => ws[i]?) = wc.map some) (hD : va_D A0 (zW ca ws)) (hS : va_S A0 s.heap H locs) (hA : ∀ q, s.heap.size ≤ q → A0 q) : ∀ q, va_A (zW ca wc) H.size q → A0 q := va_free (wc := zW ca wc) hD hS hA is (zW_pick ca hC)
theorem zP_pick {G : va_G} {ca : Nat → ClassId} {ws wc : AW} {is : List Nat} (hC : is.map (fun i => ws[i]?) = wc.map some) (hP : va_P G vwCl (zW ca ws) H) : va_P G vwCl (zW ca wc) H := by
  intro j q hj
  have h1 := zW_pick ca hC
  have h2 : (is.map (fun i => (zW ca ws)[i]?))[j]? = some (some q) := by rw [h1, List.getElem?_map, hj]; rfl
  rw [List.getElem?_map] at h2
  obtain ⟨i, hi, e⟩ := Option.map_eq_some_iff.mp h2
  exact hP i q e
theorem zB_at {G : va_G} {ca : Nat → ClassId} {A : Nat → Prop} {wc : AW} {is : List Nat} (C : zC sk own y cc nL rt p s m args meth c G ca A) (hC : is.map (fun i => ws[i]?) = wc.map some) (hn : va_nd is = true) (hP : va_P G vwCl (zW ca ws) H) (hD : va_D A (zW ca ws)) (hS : va_S A s.heap H locs) (U : State) (hU : U.heap = H) (hW : s.WarmedH U.vm) : zB sk G ca wc H.size U := by
  have hP1 := zP_pick hC hP
  have hD1 := hD.sub (ws' := zW ca wc) is hn (zW_pick ca hC)
  refine ⟨by rw [hU], by rw [hU]; exact hP1, va_K.moved hW.alike C.2.2.2.2.2.2.2.2.1, hD1.weaken (fun _ _ _ _ => trivial), ?_, C.2.2.2.2.2.2.2.2.2.2.2.warm hW⟩
  have h1 := (C.2.2.2.2.2.2.2.2.2.2.1.kept hS.2.1).narrow (zW_free hC hD hS C.2.2.2.2.2.2.2.2.2.1)
  rw [hU]
  exact h1.moved hW.alike
theorem zT_warm (hts : ∀ w ∈ T0, w.before args s = true) {w : Cond} (h : w ∈ T0) (a' : Array Value) (U : State) (hW : s.WarmedH U.vm) : w.before a' U = true := word_at hW (good_of_word (List.all_eq_true.mp T0_good w h)) (hts w h)
theorem zT_cons {y1 : MethodName} {cc1 : ByteArray} {nL1 : Nat} {rt1 : Option FieldType} (hts : ∀ w ∈ T0, w.before args s = true) (h : Cond.code y1 cc1 nL1 rt1 ∈ T0) : ∀ w ∈ Cond.code y1 cc1 nL1 rt1 :: T0, ∀ (a' : Array Value) (U : State), s.WarmedH U.vm → w.before a' U = true := fun w hw a' U hW => by
  rcases List.mem_cons.mp hw with e | hw
  · rw [e]; exact zT_warm hts h a' U hW
  · exact zT_warm hts hw a' U hW
theorem g_callV {i ci na d1 mc1 ms1 nL1 b : Nat} {y1 : MethodName} {cc1 : ByteArray} {rt1 : Option FieldType} {wc : AW} {As rest : List Value} {Ψ1 : PS} {fs : List Value} (K : Ct sk y1 cc1 nL1 rt1 d1 mc1 ms1 wc (.ref b :: As) Ψ1) (M : MV own i ci y1) (Ma : MA y1 cc1 nL1 rt1 na) (hd : decode cc pc = .ok (.invokevirtual i, 3)) (hq : pc + 3 = q)
    (is : List Nat) (hC : is.map (fun i => ws[i]?) = wc.map some) (hn : va_nd is = true) (q0 : Nat) (he : wc[q0]? = some (b, .inr (ci, fs))) (hst : st = As.reverse ++ .ref b :: rest) (hna : As.length = na) (hd1 : d1 + 1 ≤ d) (hL : nL1 ≤ 45) (hk : k + mc1 ≤ mc) (hs : n + ms1 ≤ ms) (hr : (rest.map fun v => v.category).sum ≤ 8)
    (kk : ∀ (r : Option Value) (w1 : AW), Ψ1 r w1 → (adr w1).take is.length = adr wc ∧ GG sk own y cc nL rt d mc ms Ψ (k + mc1) (n + ms1) q l (r.toList ++ rest) (puts ws is w1)) : GG sk own y cc nL rt d mc ms Ψ k n pc l st ws := by
  subst hq; subst hst
  intro p la e s m args below meth c G ca A H locs ls C hl hP hD hS
  have hts := C.2.2.2.2.2.2.2.1
  have hF := zW_free hC hD hS C.2.2.2.2.2.2.2.2.2.1
  obtain ⟨T, N, hcl⟩ := M.2.2.2
  refine z_call (va_runV (As := As) (rest := rest) (n := na) ⟨C.1, C.2.1, C.2.2.2.2.1, C.2.2.2.2.2.1, hts⟩ (K la G ca H.size) ⟨⟨rfl, rfl, hd1, by show 8 + (nL1 + 11) + 64 * d1 ≤ 64 * d; omega, zT_cons hts Ma.1, List.mem_cons_self, hts _ Ma.1, hts _ Ma.2.1, Ma.2.2.1, fun sig h => by have h9 := Ma.2.2.2; rw [h] at h9; exact (Option.some.inj h9).symm, hts _ M.1⟩, hts _ M.2.1, hts _ M.2.2.1⟩ ⟨zB_blind, va_recv C.2.2.2.2.2.2.2.2.1 (zP_pick hC hP) hcl (zW_get ca he), fun U hU hW => ⟨rfl, zB_at C hC hn hP hD hS U hU hW⟩⟩ rfl hna hl.1 rfl (lv_room hr) hd ⟨hk, hs⟩) hS (fun q _ h => hF q h) hF (fun r w1 H1 locs1 hΨ hP1 hD1 hk1 hS1 => ?_)
  obtain ⟨ha, hg⟩ := kk r w1 hΨ
  obtain ⟨hP2, hD2⟩ := zPuts hP hD hC hk1 hF hP1 hD1 ha
  exact hg p la e s m args below meth c G ca A H1 locs1 ls C hl hP2 hD2 hS1
theorem g_callS {i na d1 mc1 ms1 nL1 : Nat} {y1 : MethodName} {cc1 : ByteArray} {rt1 : Option FieldType} {wc : AW} {As rest : List Value} {Ψ1 : PS} (K : Ct sk y1 cc1 nL1 rt1 d1 mc1 ms1 wc As Ψ1) (M : MS own i y1) (Ma : MA y1 cc1 nL1 rt1 na) (hd : decode cc pc = .ok (.invokestatic i, 3)) (hq : pc + 3 = q)
    (is : List Nat) (hC : is.map (fun i => ws[i]?) = wc.map some) (hn : va_nd is = true) (hst : st = As.reverse ++ rest) (hna : As.length = na) (hd1 : d1 + 1 ≤ d) (hL : nL1 ≤ 45) (hk : k + mc1 ≤ mc) (hs : n + ms1 ≤ ms) (hr : (rest.map fun v => v.category).sum ≤ 8)
    (kk : ∀ (r : Option Value) (w1 : AW), Ψ1 r w1 → (adr w1).take is.length = adr wc ∧ GG sk own y cc nL rt d mc ms Ψ (k + mc1) (n + ms1) q l (r.toList ++ rest) (puts ws is w1)) : GG sk own y cc nL rt d mc ms Ψ k n pc l st ws := by
  subst hq; subst hst
  intro p la e s m args below meth c G ca A H locs ls C hl hP hD hS
  have hts := C.2.2.2.2.2.2.2.1
  have hF := zW_free hC hD hS C.2.2.2.2.2.2.2.2.2.1
  refine z_call (va_runS (As := As) (rest := rest) (n := na) ⟨C.1, C.2.1, C.2.2.2.2.1, C.2.2.2.2.2.1, hts⟩ (K la G ca H.size) ⟨⟨rfl, rfl, hd1, by show 8 + (nL1 + 11) + 64 * d1 ≤ 64 * d; omega, zT_cons hts Ma.1, List.mem_cons_self, hts _ Ma.1, hts _ Ma.2.1, Ma.2.2.1, fun sig h => by have h9 := Ma.2.2.2; rw [h] at h9; exact (Option.some.inj h9).symm, hts _ M.1⟩, hts _ M.2⟩ ⟨zB_blind, fun U hU hW => ⟨rfl, zB_at C hC hn hP hD hS U hU hW⟩⟩ rfl hna hl.1 rfl (lv_room hr) hd ⟨hk, hs⟩) hS (fun q _ h => hF q h) hF (fun r w1 H1 locs1 hΨ hP1 hD1 hk1 hS1 => ?_)
  obtain ⟨ha, hg⟩ := kk r w1 hΨ
  obtain ⟨hP2, hD2⟩ := zPuts hP hD hC hk1 hF hP1 hD1 ha
  exact hg p la e s m args below meth c G ca A H1 locs1 ls C hl hP2 hD2 hS1
theorem g_callN {i na d1 mc1 ms1 nL1 : Nat} {host : String} {y1 : MethodName} {cc1 : ByteArray} {rt1 : Option FieldType} {wc : AW} {As rest : List Value} {Ψ1 : PS} (K : Ct sk y1 cc1 nL1 rt1 d1 mc1 ms1 wc As Ψ1) (M : MN own i y1 host) (Ma : MA y1 cc1 nL1 rt1 na) (hd : decode cc pc = .ok (.invokestatic i, 3)) (hq : pc + 3 = q)
    (is : List Nat) (hC : is.map (fun i => ws[i]?) = wc.map some) (hn : va_nd is = true) (hst : st = As.reverse ++ rest) (hna : As.length = na) (hd1 : d1 + 1 ≤ d) (hL : nL1 ≤ 45) (hk : k + mc1 ≤ mc) (hs : n + ms1 ≤ ms) (hr : (rest.map fun v => v.category).sum ≤ 8)
    (kk : ∀ (r : Option Value) (w1 : AW), Ψ1 r w1 → (adr w1).take is.length = adr wc ∧ GG sk own y cc nL rt d mc ms Ψ (k + mc1) (n + ms1) q l (r.toList ++ rest) (puts ws is w1)) : GG sk own y cc nL rt d mc ms Ψ k n pc l st ws := by
  subst hq; subst hst
  intro p la e s m args below meth c G ca A H locs ls C hl hP hD hS
  have hts := C.2.2.2.2.2.2.2.1
  have hF := zW_free hC hD hS C.2.2.2.2.2.2.2.2.2.1
  refine z_call (va_runSN (As := As) (rest := rest) (n := na) ⟨C.1, C.2.1, C.2.2.2.2.1, C.2.2.2.2.2.1, hts⟩ (K la G ca H.size) ⟨va_cnB na hts (fun w hw => ?_) rfl rfl rfl (C.2.2.2.2.2.2.2.2.2.2.2.2.2.2.2.2.1 _ M.2) (hts _ Ma.2.1) ⟨Ma.2.2.1.1, Ma.2.2.1.2, Ma.2.2.2⟩ ⟨hd1, by show 8 + (nL1 + 11) + 64 * d1 ≤ 64 * d; omega⟩, hts _ M.1, trivial⟩ ⟨zB_blind, fun U hU hW => ⟨rfl, zB_at C hC hn hP hD hS U hU hW⟩⟩ rfl hna hl.1 rfl (lv_room hr) hd ⟨hk, hs⟩) hS (fun q _ h => hF q h) hF (fun r w1 H1 locs1 hΨ hP1 hD1 hk1 hS1 => ?_)
  · rcases List.mem_cons.mp hw with e | hw
    · rw [e]; exact ⟨Ma.1, good_of_word (List.all_eq_true.mp T0_good _ Ma.1)⟩
    · exact ⟨hw, good_of_word (List.all_eq_true.mp T0_good _ hw)⟩
  obtain ⟨ha, hg⟩ := kk r w1 hΨ
  obtain ⟨hP2, hD2⟩ := zPuts hP hD hC hk1 hF hP1 hD1 ha
  exact hg p la e s m args below meth c G ca A H1 locs1 ls C hl hP2 hD2 hS1
theorem g_callI {i na d1 mc1 ms1 nL1 b : Nat} {y1 : MethodName} {cc1 : ByteArray} {wc : AW} {As rest : List Value} {Ψ1 : PS} (K : Ct sk y1 cc1 nL1 none d1 mc1 ms1 wc (.ref b :: As) Ψ1) (M : MI own i y1) (Ma : MA y1 cc1 nL1 none na) (hd : decode cc pc = .ok (.invokespecial i, 3)) (hq : pc + 3 = q)
    (is : List Nat) (hC : is.map (fun i => ws[i]?) = wc.map some) (hn : va_nd is = true) (hst : st = As.reverse ++ .ref b :: rest) (hna : As.length = na) (hd1 : d1 + 1 ≤ d) (hL : nL1 ≤ 45) (hk : k + mc1 ≤ mc) (hs : n + ms1 ≤ ms) (hr : (rest.map fun v => v.category).sum ≤ 8)
    (kk : ∀ (r : Option Value) (w1 : AW), Ψ1 r w1 → (adr w1).take is.length = adr wc ∧ GG sk own y cc nL rt d mc ms Ψ (k + mc1) (n + ms1) q l (r.toList ++ rest) (puts ws is w1)) : GG sk own y cc nL rt d mc ms Ψ k n pc l st ws := by
  subst hq; subst hst
  intro p la e s m args below meth c G ca A H locs ls C hl hP hD hS
  have hts := C.2.2.2.2.2.2.2.1
  have hF := zW_free hC hD hS C.2.2.2.2.2.2.2.2.2.1
  refine z_call (va_runI (As := As) (rest := rest) (n := na) ⟨C.1, C.2.1, C.2.2.2.2.1, C.2.2.2.2.2.1, hts⟩ (K la G ca H.size) ⟨⟨rfl, rfl, hd1, by show 8 + (nL1 + 11) + 64 * d1 ≤ 64 * d; omega, zT_cons hts Ma.1, List.mem_cons_self, hts _ Ma.1, hts _ Ma.2.1, Ma.2.2.1, fun sig h => by have h9 := Ma.2.2.2; rw [h] at h9; exact (Option.some.inj h9).symm, hts _ M.1⟩, M.2.2, hts _ M.2.1⟩ ⟨zB_blind, fun U hU hW => ⟨rfl, zB_at C hC hn hP hD hS U hU hW⟩⟩ rfl hna hl.1 rfl (lv_room hr) hd ⟨hk, hs⟩) hS (fun q _ h => hF q h) hF (fun r w1 H1 locs1 hΨ hP1 hD1 hk1 hS1 => ?_)
  obtain ⟨ha, hg⟩ := kk r w1 hΨ
  obtain ⟨hP2, hD2⟩ := zPuts hP hD hC hk1 hF hP1 hD1 ha
  exact hg p la e s m args below meth c G ca A H1 locs1 ls C hl hP2 hD2 hS1
end CALLS
/-- one answer, one world -/
abbrev zD (v : Option Value) (w : AW) : PS := fun r w1 => r = v ∧ w1 = w
end
section
/-! more rows of G, numbers, and the cells' names -/
section BASE
variable {sk : Nat → Nat} {own : String} {y : MethodName} {cc : ByteArray} {nL : Nat} {rt : Option FieldType} {d mc ms : Nat} {Ψ : PS} {k n pc q : Nat} {l : LV} {st : List Value} {ws : AW}
/-- a local that isn't needed any more -/
theorem g_drop (i : Nat) {l' : LV} (hl' : l.set i none = l') (kk : GG sk own y cc nL rt d mc ms Ψ k n pc l' st ws) : GG sk own y cc nL rt d mc ms Ψ k n pc l st ws := by
  subst hl'
  intro p la e s m args below meth c G ca A H locs ls C hl hP hD hS
  refine kk p la e s m args below meth c G ca A H locs ls C ⟨hl.1, hl.2.1, fun j v hj => hl.2.2 j v ?_⟩ hP hD hS
  by_cases hij : i = j
  · subst hij
    rw [List.getElem?_set] at hj
    simp only [if_true] at hj
    split at hj <;> cases hj
  · rwa [List.getElem?_set_ne hij] at hj
theorem zmaxN {a b : Nat} (ha : a < 2 ^ 31) (hb : b < 2 ^ 31) : (if nI a < nI b then nI b else nI a) = nI (max a b) := by
  by_cases h : a < b
  · rw [if_pos ((nI_ltI ha hb).mpr h), Nat.max_eq_right (Nat.le_of_lt h)]
  · rw [if_neg (fun z => h ((nI_ltI ha hb).mp z)), Nat.max_eq_left (by omega)]
theorem zminN {a b : Nat} (ha : a < 2 ^ 31) (hb : b < 2 ^ 31) : (if nI b < nI a then nI b else nI a) = nI (min a b) := by
  by_cases h : b < a
  · rw [if_pos ((nI_ltI hb ha).mpr h), Nat.min_eq_right (Nat.le_of_lt h)]
  · rw [if_neg (fun z => h ((nI_ltI hb ha).mp z)), Nat.min_eq_left (by omega)]
theorem zsub_ge {a b : Nat} (ha : a < 2 ^ 30) (hb : b < 2 ^ 30) : 0 ≤ nI a - nI b ↔ b ≤ a := by
  rw [Int32.le_iff_toInt_le, pk_sub_toInt ha hb, Int32.toInt_zero]
  omega
theorem zsub_lt {a b : Nat} (ha : a < 2 ^ 30) (hb : b < 2 ^ 30) : nI a - nI b < 0 ↔ a < b := by
  rw [Int32.lt_iff_toInt_lt, pk_sub_toInt ha hb, Int32.toInt_zero]
  omega
theorem nI_0le {a : Nat} (ha : a < 2 ^ 31) : 0 ≤ nI a := nI_pos' ha
theorem nI_nlt0 {a : Nat} (ha : a < 2 ^ 31) : ¬ nI a < 0 := nI_pos ha
end BASE
theorem m_X6_216 : Cond.methodLink RX6 216 arraycopyName ∈ T0 := T0_at 505 (by decide +kernel) (by decide +kernel)
theorem t_acN : Cond.native arraycopyName ∈ T0 := T0_at 507 (by decide +kernel) (by decide +kernel)
theorem t_acS : Cond.static arraycopyName ∈ T0 := T0_at 506 (by decide +kernel) (by decide +kernel)
theorem t_acI : Cond.initialized "java/lang/System" ∈ T0 := T0_at 70 (by decide +kernel) (by decide +kernel)
theorem m_X6_1 : Cond.methodLink RX6 1 objectInit ∈ T0 := T0_at 76 (by decide +kernel) (by decide +kernel)
theorem m_X2_3 : Cond.methodLink RX2 3 objectInit ∈ T0 := T0_at 84 (by decide +kernel) (by decide +kernel)
theorem m_X0_3 : Cond.methodLink RX0 3 objectInit ∈ T0 := T0_at 129 (by decide +kernel) (by decide +kernel)
theorem m_X1_3 : Cond.methodLink RX1 3 objectInit ∈ T0 := T0_at 191 (by decide +kernel) (by decide +kernel)
theorem m_X5_3 : Cond.methodLink RX5 3 objectInit ∈ T0 := T0_at 217 (by decide +kernel) (by decide +kernel)
theorem m_X4_3 : Cond.methodLink RX4 3 objectInit ∈ T0 := T0_at 239 (by decide +kernel) (by decide +kernel)
theorem m_X3_3 : Cond.methodLink RX3 3 objectInit ∈ T0 := T0_at 286 (by decide +kernel) (by decide +kernel)
theorem m_X7_1 : Cond.methodLink RX7 1 objectInit ∈ T0 := T0_at 780 (by decide +kernel) (by decide +kernel)
theorem t_oiI : Cond.instanceMethod objectInit ∈ T0 := T0_at 77 (by decide +kernel) (by decide +kernel)
theorem t_oiC : Cond.code objectInit ⟨#[0xb1]⟩ 1 none ∈ T0 := T0_at 78 (by decide +kernel) (by decide +kernel)
section BASE2
variable {sk : Nat → Nat} {own : String} {y : MethodName} {cc : ByteArray} {nL : Nat} {rt : Option FieldType} {d mc ms : Nat} {Ψ : PS} {k n pc q : Nat} {l : LV} {st : List Value} {ws : AW}
/-- System.arraycopy of a whole row of ints -/
theorem g_copyI {i a0 a nn : Nat} {f g : Nat → Int32} (M : Cond.methodLink own i arraycopyName ∈ T0) (hd : decode cc pc = .ok (.invokestatic i, 3)) (hq : pc + 3 = q) (q0 q1 : Nat) (he0 : ws[q0]? = some (a0, .inl (0, nn, .inl f))) (he1 : ws[q1]? = some (a, .inl (0, nn, .inl g))) (hn : nn < 2 ^ 31) (h1 : 1 ≤ d) (hl2 : (st.map fun v => v.category).sum + (nativeFrameWords "java/lang/System" "arraycopy" 5 + 11) ≤ 64 * d) {ws' : AW} (hw : ws.set q1 (a, .inl (0, nn, .inl f)) = ws') (kk : GG sk own y cc nL rt d mc ms Ψ k n q l st ws') : GG sk own y cc nL rt d mc ms Ψ k n pc l (.int (nI nn) :: .int (nI 0) :: .ref a :: .int (nI 0) :: .ref a0 :: st) ws := by
  subst hq; subst hw
  intro p la e s m args below meth c G ca A H locs ls C hl hP hD hS
  have hts := C.2.2.2.2.2.2.2.1
  have z0 : (nI 0).toNatClampNeg = 0 := nI_clamp (by decide)
  have zn : (nI nn).toNatClampNeg = nn := nI_clamp hn
  refine va_copyi C.1 C.2.1 (C.2.2.2.2.1.trans hl.1.symm) C.2.2.2.2.2.1 (hts _ M) (hts _ t_acN) (hts _ t_acS) (hts _ t_acI) C.2.2.2.2.2.2.2.2.1 hP hD hS q0 q1 0 0 (zW_get ca he0) (zW_get ca he1) rfl rfl rfl (nI_pos (by decide)) (nI_pos (by decide)) (nI_pos hn) (by rw [z0, zn]; omega) (by rw [z0, zn]; omega) (fun i _ => rfl) h1 hl2 hd (fun H1 locs1 hP1 hD1 hS1 => ?_)
  rw [z0, zn] at hP1 hD1
  have e1 := zW_set ca ws q1 a (.inl (0, nn, .inl (va_cpy f g 0 0 nn)))
  have hP2 : va_P G vwCl (zW ca (ws.set q1 (a, .inl (0, nn, .inl (va_cpy f g 0 0 nn))))) H1 := e1 ▸ hP1
  have hD2 : va_D A (zW ca (ws.set q1 (a, .inl (0, nn, .inl (va_cpy f g 0 0 nn))))) := e1 ▸ hD1
  have hlt : q1 < ws.length := (List.getElem?_eq_some_iff.mp he1).1
  refine g_cong (ws := ws.set q1 (a, .inl (0, nn, .inl (va_cpy f g 0 0 nn)))) q1 (List.getElem?_set_self hlt) (g := f) (fun j hj => ?_) (by rw [List.set_set]) kk p la e s m args below meth c G ca A H1 locs1 ls C hl hP2 hD2 hS1
  show (if 0 ≤ j ∧ j < 0 + nn then f (0 + (j - 0)) else g j) = f j
  rw [if_pos ⟨Nat.zero_le _, by omega⟩]
  simp
theorem g_obj {i a : Nat} (hd : decode cc pc = .ok (.invokespecial i, 3)) (hq : pc + 3 = q) (M : Cond.methodLink own i objectInit ∈ T0) (h1 : 1 ≤ d) (hr : (st.map fun v => v.category).sum ≤ 8) (kk : GG sk own y cc nL rt d mc ms Ψ k n q l st ws) : GG sk own y cc nL rt d mc ms Ψ k n pc l (.ref a :: st) ws := by
  subst hq
  intro p la e s m args below meth c G ca A H locs ls C hl hP hD hS
  have hts := C.2.2.2.2.2.2.2.1
  refine W.objInit C.1 C.2.1 C.2.2.2.2.2.1 (hts _ M) (hts _ t_oiI) (hts _ t_oiC) rfl (hl.1.trans C.2.2.2.2.1.symm) rfl hd h1 ?_ ?_
  · have := lv_room (m := m) (pc := pc) (ls := ls) (rest := .ref a :: st) hr
    show _ ≤ 64 * d
    omega
  · exact kk p la e s m args below meth c G ca A H locs ls C hl hP hD hS
end BASE2
/-- an array of ints that holds these numbers -/
def fI (f : Nat → Nat) : Nat → Int32 := fun j => nI (f j)
def nup (f : Nat → Nat) (k v : Nat) : Nat → Nat := fun j => if j = k then v else f j
theorem fI_up (f : Nat → Nat) (k v : Nat) : upd (fI f) k (nI v) = fI (nup f k v) := by
  funext j
  unfold upd fI nup
  split <;> rfl
theorem fI_up2 {f g : Nat → Nat} {k v : Nat} (h : nup f k v = g) : upd (fI f) k (nI v) = fI g := by rw [fI_up, h]
theorem nup_s (f : Nat → Nat) (k v : Nat) : nup f k v k = v := if_pos rfl
theorem nup_n (f : Nat → Nat) {j k : Nat} (h : j ≠ k) (v : Nat) : nup f k v j = f j := if_neg h
-- the cells
abbrev cI (h n : Nat) (f : Nat → Int32) : Nat × AE := (h, .inl (0, n, .inl f))
abbrev cB (h n : Nat) (f : Nat → Int32) : Nat × AE := (h, .inl (1, n, .inl f))
abbrev cZ (h n : Nat) (f : Nat → Int32) : Nat × AE := (h, .inl (2, n, .inl f))
abbrev cP (h n : Nat) (f : Nat → Option Nat) : Nat × AE := (h, .inl (3, n, .inr (.inr (.inr (.inr f)))))
abbrev cA (h n : Nat) (f : Nat → Option Nat) : Nat × AE := (h, .inl (4, n, .inr (.inr (.inr (.inr f)))))
abbrev oPlan (h s w a r : Nat) (F C V E N S : Int32) : Nat × AE := (h, .inr (0, [.ref s, .ref w, .ref a, .ref r, .int F, .int C, .int V, .int E, .int N, .int S]))
abbrev oPole (h s : Nat) (g o d : Int32) : Nat × AE := (h, .inr (1, [.ref s, .int g, .int o, .int d]))
abbrev oReader (h t f u : Nat) (n a fa fp fc : Int32) (p hm sn : Bool) : Nat × AE := (h, .inr (2, [.ref t, .ref f, .ref u, .int n, .int a, .int fa, .int fp, .int fc, .int (zb p), .int (zb hm), .int (zb sn)]))
abbrev oRests (h t p : Nat) (r : Int32) (f : Bool) : Nat × AE := (h, .inr (3, [.ref t, .ref p, .int r, .int (zb f)]))
abbrev oRows (h s r : Nat) (g lo : Int32) (o : Bool) (ar : Nat) (ag : Int32) (af : Bool) (r1 g1 f1 : Nat) : Nat × AE := (h, .inr (4, [.ref s, .ref r, .int g, .int lo, .int (zb o), .ref ar, .int ag, .int (zb af), .ref r1, .ref g1, .ref f1]))
abbrev oTale (h c f t : Nat) (n : Int32) : Nat × AE := (h, .inr (5, [.ref c, .ref f, .ref t, .int n]))
abbrev oMain (h rd pl sp nw im kp tl ro rs ak : Nat) (st : Bool) (fp : Int32) : Nat × AE := (h, .inr (6, [.ref rd, .ref pl, .ref sp, .ref nw, .ref im, .ref kp, .ref tl, .ref ro, .ref rs, .ref ak, .int (zb st), .int fp]))
/-- what a foot takes of the arms, with sand or without -/
def tk (sand : Bool) (s w : Nat) : Nat := match sand with
  | false => s * w / 50 + 1
  | true => max 1 ((s * w / 50 + 1) / 2)
/-- how far one comes from foot i on, n feet left, with so much of his arms -/
def farR (w : Nat) (sand : Bool) (sl : Nat → Nat) : Nat → Nat → Nat → Nat
  | 0, i, _ => i
  | n + 1, i, left => if left < tk sand (sl i) w then i else farR w sand sl n (i + 1) (left - tk sand (sl i) w)
theorem farR_stop {w : Nat} {sand : Bool} {sl : Nat → Nat} {n i left : Nat} (h : left < tk sand (sl i) w) : farR w sand sl (n + 1) i left = i := if_pos h
theorem farR_on {w : Nat} {sand : Bool} {sl : Nat → Nat} {n i left : Nat} (h : ¬ left < tk sand (sl i) w) : farR w sand sl (n + 1) i left = farR w sand sl n (i + 1) (left - tk sand (sl i) w) := if_neg h
theorem farR_le (w : Nat) (sand : Bool) (sl : Nat → Nat) : ∀ (n i left : Nat), i ≤ farR w sand sl n i left ∧ farR w sand sl n i left ≤ i + n
  | 0, i, _ => ⟨Nat.le_refl _, Nat.le_refl _⟩
  | n + 1, i, left => by
    by_cases h : left < tk sand (sl i) w
    · rw [farR_stop h]; omega
    · rw [farR_on h]
      have := farR_le w sand sl n (i + 1) (left - tk sand (sl i) w)
      omega
theorem zmax0 {a : Nat} (ha : a < 2 ^ 31) : (if nI a < nI 0 then nI 0 else nI a) = nI a := if_neg (fun z => absurd ((nI_ltI ha (by decide)).mp z) (Nat.not_lt_zero _))
/-- whether an answer of the caller's names one of n -/
def inR (x : Int32) (n : Nat) : Bool := decide (¬ x < 0) && decide (x < nI n)
theorem inR_t {x : Int32} {n : Nat} (hn : n < 2 ^ 31) (h : inR x n = true) : ∃ j : Nat, j < n ∧ x = nI j := by
  unfold inR at h
  simp only [Bool.and_eq_true, decide_eq_true_eq] at h
  obtain ⟨j, hj, rfl⟩ := nI_of h.1
  exact ⟨j, (nI_ltI hj hn).mp h.2, rfl⟩
theorem inR_N {j n : Nat} (hj : j < n) (hn : n < 2 ^ 31) : inR (nI j) n = true := by
  unfold inR
  simp only [Bool.and_eq_true, decide_eq_true_eq]
  exact ⟨nI_pos (by omega), (nI_ltI (by omega) hn).mpr hj⟩
/-- what one rubs off the feet below far -/
def rubS (far most : Nat) (sl : Nat → Nat) : Nat → Nat := fun j => if j < far then sl j - min most (sl j) else sl j
def rubT (most : Nat) (sl : Nat → Nat) : Nat → Nat
  | 0 => 0
  | n + 1 => rubT most sl n + min most (sl n)
theorem rubS_0 (most : Nat) (sl : Nat → Nat) : rubS 0 most sl = sl := by funext j; simp [rubS]
theorem rubS_at (i most : Nat) (sl : Nat → Nat) : rubS i most sl i = sl i := by simp [rubS]
theorem rubS_up (i most : Nat) (sl : Nat → Nat) : nup (rubS i most sl) i (sl i - min most (sl i)) = rubS (i + 1) most sl := by
  funext j
  unfold nup rubS
  by_cases h : j = i
  · subst h; simp
  · by_cases h2 : j < i
    · simp [h, h2, show j < i + 1 by omega]
    · simp [h, h2, show ¬ j < i + 1 by omega]
theorem rubT_le (most : Nat) (sl : Nat → Nat) (hm : most ≤ 20) : ∀ n, rubT most sl n ≤ 20 * n
  | 0 => Nat.le_refl _
  | n + 1 => by have := rubT_le most sl hm n; rw [rubT]; omega
/-- what he smears on the feet below far -/
def smS (far q : Nat) (sl : Nat → Nat) (i : Nat) : Nat → Nat := fun j => if j < i then min 99 (sl j + (if j < q % far then q / far + 1 else q / far)) else sl j
theorem smS_0 (far q : Nat) (sl : Nat → Nat) : smS far q sl 0 = sl := by funext j; simp [smS]
theorem smS_at (far q : Nat) (sl : Nat → Nat) (i : Nat) : smS far q sl i i = sl i := by simp [smS]
theorem smS_up (far q : Nat) (sl : Nat → Nat) (i : Nat) : nup (smS far q sl i) i (min 99 (sl i + (if i < q % far then q / far + 1 else q / far))) = smS far q sl (i + 1) := by
  funext j
  unfold nup smS
  by_cases h : j = i
  · subst h; simp
  · by_cases h2 : j < i
    · simp [h, h2, show j < i + 1 by omega]
    · simp [h, h2, show ¬ j < i + 1 by omega]
/-- so much more on the feet from a on, below e -/
def adS (a e n : Nat) (sl : Nat → Nat) : Nat → Nat := fun j => if a ≤ j ∧ j < e then min 99 (sl j + n) else sl j
theorem adS_0 (a n : Nat) (sl : Nat → Nat) : adS a a n sl = sl := by funext j; unfold adS; rw [if_neg (by omega)]
theorem adS_at (a i n : Nat) (sl : Nat → Nat) : adS a i n sl i = sl i := by unfold adS; rw [if_neg (by omega)]
theorem adS_up (a i n : Nat) (sl : Nat → Nat) (h : a ≤ i) : nup (adS a i n sl) i (min 99 (sl i + n)) = adS a (i + 1) n sl := by
  funext j
  unfold nup adS
  by_cases h1 : j = i
  · subst h1; rw [if_pos rfl, if_pos ⟨h, by omega⟩]
  · by_cases h2 : a ≤ j ∧ j < i
    · rw [if_neg h1, if_pos h2, if_pos ⟨h2.1, by omega⟩]
    · rw [if_neg h1, if_neg h2, if_neg (by omega)]
/-- the sum of n feet from i on -/
def sumR (sl : Nat → Nat) : Nat → Nat → Nat
  | 0, _ => 0
  | n + 1, i => sl i + sumR sl n (i + 1)
theorem sumR_le (sl : Nat → Nat) (h : ∀ j, j < 30 → sl j ≤ 99) : ∀ (n i : Nat), i + n ≤ 30 → sumR sl n i ≤ 99 * n
  | 0, _, _ => Nat.le_refl _
  | n + 1, i, hi => by
    have h1 := h i (by omega)
    have h2 := sumR_le sl h n (i + 1) (by omega)
    rw [sumR]
    omega
def coS (v : Nat) (sl : Nat → Nat) (i : Nat) : Nat → Nat := fun j => if j < i then v else sl j
theorem coS_0 (v : Nat) (sl : Nat → Nat) : coS v sl 0 = sl := by funext j; simp [coS]
theorem coS_up (v : Nat) (sl : Nat → Nat) (i : Nat) : nup (coS v sl i) i v = coS v sl (i + 1) := by
  funext j
  unfold nup coS
  by_cases h : j = i
  · subst h; simp
  · by_cases h2 : j < i
    · simp [h, h2, show j < i + 1 by omega]
    · simp [h, h2, show ¬ j < i + 1 by omega]
/-- what n feet from i on take at the least, if so much less is on each -/
def lessR (w less : Nat) (sl : Nat → Nat) : Nat → Nat → Nat
  | 0, _ => 0
  | n + 1, i => (sl i - less) * w / 50 + lessR w less sl n (i + 1)
def maxR (r : Nat → Nat) : Nat → Nat
  | 0 => 0
  | n + 1 => max (maxR r n) (r n)
/-- a go: how far -/
def goF (F W A : Nat) (sand : Bool) (sl : Nat → Nat) : Nat := farR W sand sl F 0 A
/-- the slips behind it, ahead of the sun -/
def goS1 (e R : Nat) (sl : Nat → Nat) : Nat → Nat := smS e (rubT R sl e / 4) (rubS e R sl) e
def sunB (g : Int32) (N : Nat) : Bool := decide (g - g / nI N * nI N = 0)
def goS (F N S e R : Nat) (sl : Nat → Nat) (g : Int32) : Nat → Nat := match sunB g N with
  | true => adS 0 F S (goS1 e R sl)
  | false => goS1 e R sl
def goH (F e : Nat) (o : Int32) (c : Nat) : Int32 := if e = F ∧ o = -1 then nI c else o
theorem nI_0lt {a : Nat} (ha : a < 2 ^ 31) : 0 < nI a ↔ 0 < a := nI_ltI (a := 0) (by decide) ha
theorem zmaxsub {a b : Nat} (ha : a < 2 ^ 30) (hb : b < 2 ^ 30) : (if nI 0 < nI a - nI b then nI a - nI b else nI 0) = nI (a - b) := by
  by_cases h : b ≤ a
  · rw [pk_sub h]
    by_cases h2 : 0 < a - b
    · rw [if_pos ((nI_ltI (by decide) (by omega)).mpr h2)]
    · rw [if_neg (fun z => h2 ((nI_ltI (by decide) (by omega)).mp z)), show a - b = 0 by omega]
  · rw [if_neg, show a - b = 0 by omega]
    intro z
    have z1 : 0 ≤ nI a - nI b := by
      have : nI 0 < nI a - nI b := z
      rw [Int32.lt_iff_toInt_lt] at this
      rw [Int32.le_iff_toInt_le]
      have e0 : (nI 0).toInt = 0 := nI_toInt (by decide)
      rw [e0] at this
      rw [Int32.toInt_zero]
      omega
    exact h ((zsub_ge ha hb).mp z1)
theorem nI_lt_pred {i e : Nat} (hi : i < 2 ^ 30) (he : e < 2 ^ 30) : nI e - nI 1 < nI i ↔ e ≤ i := by
  rw [Int32.lt_iff_toInt_lt, pk_sub_toInt he (by decide), nI_toInt (by omega)]
  omega
theorem sub_sub32 (a b c : Int32) : a - b - c = a - (b + c) := by
  apply Int32.toBitVec_inj.mp
  simp only [Int32.toBitVec_sub, Int32.toBitVec_add]
  apply BitVec.eq_of_toNat_eq
  simp only [BitVec.toNat_sub, BitVec.toNat_add]
  have h1 := a.toBitVec.isLt
  have h2 := b.toBitVec.isLt
  have h3 := c.toBitVec.isLt
  omega
def eqR (f g : Nat → Nat) : Nat → Nat → Bool
  | 0, _ => true
  | n + 1, i => decide (f i = g i) && eqR f g n (i + 1)
def likeB (g o g2 o2 : Int32) (sl sl2 : Nat → Nat) : Bool := decide (g = g2) && (decide (o = o2) && eqR sl sl2 30 0)
def nxI (s : Int32) : Int32 := (s * 1103515245 + nI 12345) &&& 2147483647
def pkI (s : Int32) (C : Nat) : Int32 := s / 65536 - s / 65536 / nI C * nI C
theorem goF_le (F W A : Nat) (sand : Bool) (sl : Nat → Nat) : goF F W A sand sl ≤ F := by
  have := (farR_le W sand sl F 0 A).2
  unfold goF
  omega
theorem rubS_le (e R : Nat) (sl : Nat → Nat) (h : ∀ j, j < 30 → sl j ≤ 99) : ∀ j, j < 30 → rubS e R sl j ≤ 99 := fun j hj => by
  have := h j hj
  unfold rubS
  split <;> omega
theorem smS_le (f q : Nat) (sl : Nat → Nat) (i : Nat) (h : ∀ j, j < 30 → sl j ≤ 99) : ∀ j, j < 30 → smS f q sl i j ≤ 99 := fun j hj => by
  have := h j hj
  unfold smS
  split <;> omega
theorem adS_le (a e n : Nat) (sl : Nat → Nat) (h : ∀ j, j < 30 → sl j ≤ 99) : ∀ j, j < 30 → adS a e n sl j ≤ 99 := fun j hj => by
  have := h j hj
  unfold adS
  split <;> omega
theorem goS1_le (e R : Nat) (sl : Nat → Nat) (h : ∀ j, j < 30 → sl j ≤ 99) : ∀ j, j < 30 → goS1 e R sl j ≤ 99 := smS_le _ _ _ _ (rubS_le e R sl h)
theorem goS_le (F N S e R : Nat) (sl : Nat → Nat) (g : Int32) (h : ∀ j, j < 30 → sl j ≤ 99) : ∀ j, j < 30 → goS F N S e R sl g j ≤ 99 := fun j hj => by
  unfold goS
  cases sunB g N with
  | true => exact adS_le _ _ _ _ (goS1_le e R sl h) j hj
  | false => exact goS1_le e R sl h j hj
/-- the feet of a pole as it is told -/
def stF (F v i : Nat) (f : Nat → Int32) : Nat → Int32 := fun j => if j < i then nI (if j < F then v else 0) else f j
theorem stF_0 (F v : Nat) (f : Nat → Int32) : stF F v 0 f = f := by funext j; simp [stF]
theorem stF_up (F v i : Nat) (f : Nat → Int32) : upd (stF F v i f) i (nI (if i < F then v else 0)) = stF F v (i + 1) f := by
  funext j
  unfold upd stF
  by_cases h : j = i
  · subst h; simp
  · by_cases h2 : j < i
    · simp [h, h2, show j < i + 1 by omega]
    · simp [h, h2, show ¬ j < i + 1 by omega]
end
section
/-! Plan and Pole of the class -/
set_option maxRecDepth 20000 in
theorem c_X0_weightOf (sk : Nat → Nat) {hl ls hw ha hr c : Nat} {F C V E N S : Int32} {f : Nat → Nat} (hc : c < 6) : Ct sk yX0_weightOf cX0_weightOf 2 (some .int) 0 0 0 [oPlan hl ls hw ha hr F C V E N S, cI hw 6 (fI f)] [.ref hl, .int (nI c)] (zD (some (.int (nI (f c)))) [oPlan hl ls hw ha hr F C V E N S, cI hw 6 (fI f)]) := by
  refine Ct.of (own := RX0) (l := [some (.ref hl), some (.int (nI c))]) (by decide) rfl (Nat.le_of_ble_eq_true rfl) rfl ?_
  refine g_iload_n dX0_weightOf_0 rfl rfl ?_
  refine g_if_lt (t := 22) dX0_weightOf_1 (by decide) rfl (fun h1 => ?_) (fun h1 => ?_)
  · exact absurd h1 (nI_nlt0 (by omega))
  · skip
    refine g_iload_n dX0_weightOf_4 rfl rfl ?_
    refine g_aload_n dX0_weightOf_5 rfl rfl ?_
    refine g_get f_X0_15 dX0_weightOf_6 rfl 0 rfl rfl ?_
    refine g_alen dX0_weightOf_9 rfl 1 rfl (Nat.le_of_ble_eq_true rfl) rfl ?_
    refine g_icmp_geN (t := 22) dX0_weightOf_10 (by decide) rfl (by omega) (by omega) (fun h10 => ?_) (fun h10 => ?_)
    · exact absurd h10 (by omega)
    · skip
      refine g_aload_n dX0_weightOf_13 rfl rfl ?_
      refine g_get f_X0_15 dX0_weightOf_14 rfl 0 rfl rfl ?_
      refine g_iload_n dX0_weightOf_17 rfl rfl ?_
      refine g_ialdN (v := nI _) dX0_weightOf_18 rfl 1 rfl (by omega) (by decide) (rfl) ?_
      refine g_goto (q := 23) dX0_weightOf_19 (by decide) ?_
      exact g_iret dX0_weightOf_23 rfl (Nat.le_refl _) (Nat.le_refl _) (⟨rfl, rfl⟩)
set_option maxRecDepth 20000 in
theorem c_X0_armsOf (sk : Nat → Nat) {hl ls hw ha hr c : Nat} {F C V E N S : Int32} {f : Nat → Nat} (hc : c < 6) : Ct sk yX0_armsOf cX0_armsOf 2 (some .int) 0 0 0 [oPlan hl ls hw ha hr F C V E N S, cI ha 6 (fI f)] [.ref hl, .int (nI c)] (zD (some (.int (nI (f c)))) [oPlan hl ls hw ha hr F C V E N S, cI ha 6 (fI f)]) := by
  refine Ct.of (own := RX0) (l := [some (.ref hl), some (.int (nI c))]) (by decide) rfl (Nat.le_of_ble_eq_true rfl) rfl ?_
  refine g_iload_n dX0_armsOf_0 rfl rfl ?_
  refine g_if_lt (t := 22) dX0_armsOf_1 (by decide) rfl (fun h1 => ?_) (fun h1 => ?_)
  · exact absurd h1 (nI_nlt0 (by omega))
  · skip
    refine g_iload_n dX0_armsOf_4 rfl rfl ?_
    refine g_aload_n dX0_armsOf_5 rfl rfl ?_
    refine g_get f_X0_18 dX0_armsOf_6 rfl 0 rfl rfl ?_
    refine g_alen dX0_armsOf_9 rfl 1 rfl (Nat.le_of_ble_eq_true rfl) rfl ?_
    refine g_icmp_geN (t := 22) dX0_armsOf_10 (by decide) rfl (by omega) (by omega) (fun h10 => ?_) (fun h10 => ?_)
    · exact absurd h10 (by omega)
    · skip
      refine g_aload_n dX0_armsOf_13 rfl rfl ?_
      refine g_get f_X0_18 dX0_armsOf_14 rfl 0 rfl rfl ?_
      refine g_iload_n dX0_armsOf_17 rfl rfl ?_
      refine g_ialdN (v := nI _) dX0_armsOf_18 rfl 1 rfl (by omega) (by decide) (rfl) ?_
      refine g_goto (q := 23) dX0_armsOf_19 (by decide) ?_
      exact g_iret dX0_armsOf_23 rfl (Nat.le_refl _) (Nat.le_refl _) (⟨rfl, rfl⟩)
set_option maxRecDepth 20000 in
theorem c_X0_rubsOf (sk : Nat → Nat) {hl ls hw ha hr c : Nat} {F C V E N S : Int32} {f : Nat → Nat} (hc : c < 6) : Ct sk yX0_rubsOf cX0_rubsOf 2 (some .int) 0 0 0 [oPlan hl ls hw ha hr F C V E N S, cI hr 6 (fI f)] [.ref hl, .int (nI c)] (zD (some (.int (nI (f c)))) [oPlan hl ls hw ha hr F C V E N S, cI hr 6 (fI f)]) := by
  refine Ct.of (own := RX0) (l := [some (.ref hl), some (.int (nI c))]) (by decide) rfl (Nat.le_of_ble_eq_true rfl) rfl ?_
  refine g_iload_n dX0_rubsOf_0 rfl rfl ?_
  refine g_if_lt (t := 22) dX0_rubsOf_1 (by decide) rfl (fun h1 => ?_) (fun h1 => ?_)
  · exact absurd h1 (nI_nlt0 (by omega))
  · skip
    refine g_iload_n dX0_rubsOf_4 rfl rfl ?_
    refine g_aload_n dX0_rubsOf_5 rfl rfl ?_
    refine g_get f_X0_21 dX0_rubsOf_6 rfl 0 rfl rfl ?_
    refine g_alen dX0_rubsOf_9 rfl 1 rfl (Nat.le_of_ble_eq_true rfl) rfl ?_
    refine g_icmp_geN (t := 22) dX0_rubsOf_10 (by decide) rfl (by omega) (by omega) (fun h10 => ?_) (fun h10 => ?_)
    · exact absurd h10 (by omega)
    · skip
      refine g_aload_n dX0_rubsOf_13 rfl rfl ?_
      refine g_get f_X0_21 dX0_rubsOf_14 rfl 0 rfl rfl ?_
      refine g_iload_n dX0_rubsOf_17 rfl rfl ?_
      refine g_ialdN (v := nI _) dX0_rubsOf_18 rfl 1 rfl (by omega) (by decide) (rfl) ?_
      refine g_goto (q := 23) dX0_rubsOf_19 (by decide) ?_
      exact g_iret dX0_rubsOf_23 rfl (Nat.le_refl _) (Nat.le_refl _) (⟨rfl, rfl⟩)
set_option maxRecDepth 20000 in
theorem c_X0_hasFoot (sk : Nat → Nat) {hl ls hw ha hr f : Nat} {C V E N S x : Int32}  : Ct sk yX0_hasFoot cX0_hasFoot 2 (some .boolean) 0 0 0 [oPlan hl ls hw ha hr (nI f) C V E N S] [.ref hl, .int x] (zD (some (.int (zb (inR x f)))) [oPlan hl ls hw ha hr (nI f) C V E N S]) := by
  refine Ct.of (own := RX0) (l := [some (.ref hl), some (.int x)]) (by decide) rfl (Nat.le_of_ble_eq_true rfl) rfl ?_
  refine g_iload_n dX0_hasFoot_0 rfl rfl ?_
  refine g_if_lt (t := 16) dX0_hasFoot_1 (by decide) rfl (fun h1 => ?_) (fun h1 => ?_)
  · have e : inR x f = false := by unfold inR; rw [decide_eq_false (fun z => z h1)]; rfl
    refine g_iconst (v := nI 0) dX0_hasFoot_16 rfl (by decide) ?_
    exact g_zret (b := false) dX0_hasFoot_17 rfl (Nat.le_refl _) (Nat.le_refl _) (⟨by rw [e], rfl⟩)
  · skip
    refine g_iload_n dX0_hasFoot_4 rfl rfl ?_
    refine g_aload_n dX0_hasFoot_5 rfl rfl ?_
    refine g_get f_X0_27 dX0_hasFoot_6 rfl 0 rfl rfl ?_
    refine g_icmp_ge (t := 16) dX0_hasFoot_9 (by decide) rfl (fun h9 => ?_) (fun h9 => ?_)
    · have e : inR x f = false := by unfold inR; rw [decide_eq_false (fun z => Int32.not_lt.mpr h9 z), Bool.and_false]
      refine g_iconst (v := nI 0) dX0_hasFoot_16 rfl (by decide) ?_
      exact g_zret (b := false) dX0_hasFoot_17 rfl (Nat.le_refl _) (Nat.le_refl _) (⟨by rw [e], rfl⟩)
    · have e : inR x f = true := by unfold inR; rw [decide_eq_true h1, decide_eq_true (Int32.not_le.mp h9)]; rfl
      refine g_iconst (v := nI 1) dX0_hasFoot_12 rfl (by decide) ?_
      refine g_goto (q := 17) dX0_hasFoot_13 (by decide) ?_
      exact g_zret (b := true) dX0_hasFoot_17 rfl (Nat.le_refl _) (Nat.le_refl _) (⟨by rw [e], rfl⟩)
set_option maxRecDepth 20000 in
theorem c_X0_hasClimber (sk : Nat → Nat) {hl ls hw ha hr c : Nat} {F V E N S x : Int32}  : Ct sk yX0_hasClimber cX0_hasClimber 2 (some .boolean) 0 0 0 [oPlan hl ls hw ha hr F (nI c) V E N S] [.ref hl, .int x] (zD (some (.int (zb (inR x c)))) [oPlan hl ls hw ha hr F (nI c) V E N S]) := by
  refine Ct.of (own := RX0) (l := [some (.ref hl), some (.int x)]) (by decide) rfl (Nat.le_of_ble_eq_true rfl) rfl ?_
  refine g_iload_n dX0_hasClimber_0 rfl rfl ?_
  refine g_if_lt (t := 16) dX0_hasClimber_1 (by decide) rfl (fun h1 => ?_) (fun h1 => ?_)
  · have e : inR x c = false := by unfold inR; rw [decide_eq_false (fun z => z h1)]; rfl
    refine g_iconst (v := nI 0) dX0_hasClimber_16 rfl (by decide) ?_
    exact g_zret (b := false) dX0_hasClimber_17 rfl (Nat.le_refl _) (Nat.le_refl _) (⟨by rw [e], rfl⟩)
  · skip
    refine g_iload_n dX0_hasClimber_4 rfl rfl ?_
    refine g_aload_n dX0_hasClimber_5 rfl rfl ?_
    refine g_get f_X0_31 dX0_hasClimber_6 rfl 0 rfl rfl ?_
    refine g_icmp_ge (t := 16) dX0_hasClimber_9 (by decide) rfl (fun h9 => ?_) (fun h9 => ?_)
    · have e : inR x c = false := by unfold inR; rw [decide_eq_false (fun z => Int32.not_lt.mpr h9 z), Bool.and_false]
      refine g_iconst (v := nI 0) dX0_hasClimber_16 rfl (by decide) ?_
      exact g_zret (b := false) dX0_hasClimber_17 rfl (Nat.le_refl _) (Nat.le_refl _) (⟨by rw [e], rfl⟩)
    · have e : inR x c = true := by unfold inR; rw [decide_eq_true h1, decide_eq_true (Int32.not_le.mp h9)]; rfl
      refine g_iconst (v := nI 1) dX0_hasClimber_12 rfl (by decide) ?_
      refine g_goto (q := 17) dX0_hasClimber_13 (by decide) ?_
      exact g_zret (b := true) dX0_hasClimber_17 rfl (Nat.le_refl _) (Nat.le_refl _) (⟨by rw [e], rfl⟩)
set_option maxRecDepth 20000 in
theorem lp_X1_reach (sk : Nat → Nat) {hp hs hl ls hw ha hr F wv : Nat} {g o sd C V E N S x2 x3 : Int32} {sl : Nat → Nat} {fw fa : Nat → Int32} {sand : Bool} {Ψ : PS} (hF : F ≤ 30) (hsl : ∀ j, j < 30 → sl j ≤ 99) (hwv : wv ≤ 99) : ∀ (n i left : Nat), i + n = F → left ≤ 999 → Ψ (some (.int (nI (farR wv sand sl n i left)))) [oPole hp hs g o sd, cI hs 30 (fI sl), oPlan hl ls hw ha hr (nI F) C V E N S, cI hw 6 fw, cI ha 6 fa] → GG sk RX1 yX1_reach cX1_reach 9 (some .int) 1 0 0 Ψ 0 0 21 [some (.ref hp), some (.ref hl), some (.int x2), some (.int x3), some (.int (zb sand)), some (.int (nI wv)), some (.int (nI left)), some (.int (nI i)), none] [] [oPole hp hs g o sd, cI hs 30 (fI sl), oPlan hl ls hw ha hr (nI F) C V E N S, cI hw 6 fw, cI ha 6 fa] := by
  intro n
  induction n with
  | zero =>
    intro i left hi hlf hΨ
    obtain rfl : i = F := by omega
    refine g_iload dX1_reach_21 rfl rfl ?_
    refine g_aload_n dX1_reach_23 rfl rfl ?_
    refine g_get f_X1_48 dX1_reach_24 rfl 2 rfl rfl ?_
    refine g_icmp_geN (t := 94) dX1_reach_27 (by decide) rfl (by omega) (by omega) (fun h27 => ?_) (fun h27 => ?_)
    · skip
      refine g_aload_n dX1_reach_94 rfl rfl ?_
      refine g_get f_X1_48 dX1_reach_95 rfl 2 rfl rfl ?_
      exact g_iret dX1_reach_98 rfl (Nat.le_refl _) (Nat.le_refl _) (hΨ)
    · exact absurd h27 (by omega)
  | succ n ih =>
    intro i left hi hlf hΨ
    refine g_iload dX1_reach_21 rfl rfl ?_
    refine g_aload_n dX1_reach_23 rfl rfl ?_
    refine g_get f_X1_48 dX1_reach_24 rfl 2 rfl rfl ?_
    refine g_icmp_geN (t := 94) dX1_reach_27 (by decide) rfl (by omega) (by omega) (fun h27 => ?_) (fun h27 => ?_)
    · exact absurd h27 (by omega)
    · skip
      refine g_iload dX1_reach_30 rfl rfl ?_
      refine g_aload_n dX1_reach_32 rfl rfl ?_
      refine g_get f_X1_9 dX1_reach_33 rfl 0 rfl rfl ?_
      refine g_alen dX1_reach_36 rfl 1 rfl (Nat.le_of_ble_eq_true rfl) rfl ?_
      refine g_icmp_geN (t := 94) dX1_reach_37 (by decide) rfl (by omega) (by omega) (fun h37 => ?_) (fun h37 => ?_)
      · exact absurd h37 (by omega)
      · skip
        refine g_aload_n dX1_reach_40 rfl rfl ?_
        refine g_get f_X1_9 dX1_reach_41 rfl 0 rfl rfl ?_
        refine g_iload dX1_reach_44 rfl rfl ?_
        refine g_ialdN (v := nI _) dX1_reach_46 rfl 1 rfl (by omega) (by decide) (rfl) ?_
        refine g_iload dX1_reach_47 rfl rfl ?_
        refine g_imul dX1_reach_49 rfl (pk_mul _ _) ?_
        refine g_bipush (v := nI 50) dX1_reach_50 rfl (by decide) ?_
        have hm : sl i * wv ≤ 9801 := Nat.le_trans (Nat.mul_le_mul (hsl i (by omega)) hwv) (by decide)
        refine g_idiv dX1_reach_52 rfl (by decide) (pk_div (by omega) (by omega) (by omega)) ?_
        refine g_iconst (v := nI 1) dX1_reach_53 rfl (by decide) ?_
        refine g_iadd dX1_reach_54 rfl (nI_add _ _) ?_
        refine g_istore dX1_reach_55 rfl (by decide) rfl rfl ?_
        refine g_iload dX1_reach_57 rfl rfl ?_
        refine g_iload dX1_reach_59 rfl rfl ?_
        refine g_if_eqB (t := 75) dX1_reach_61 (by decide) rfl (fun h61 => ?_) (fun h61 => ?_)
        · subst h61
          refine g_iload dX1_reach_75 rfl rfl ?_
          refine g_isub dX1_reach_77 rfl rfl ?_
          refine g_istore dX1_reach_78 rfl (by decide) rfl rfl ?_
          refine g_iload dX1_reach_80 rfl rfl ?_
          refine g_if_ge (t := 88) dX1_reach_82 (by decide) rfl (fun h82 => ?_) (fun h82 => ?_)
          · have hle : sl i * wv / 50 + 1 ≤ left := (zsub_ge (by omega) (by omega)).mp h82
            rw [show nI left - nI (sl i * wv / 50 + 1) = nI (left - (sl i * wv / 50 + 1)) from pk_sub hle]
            refine g_iinc dX1_reach_88 rfl rfl (nI_1 _) (by decide) rfl rfl ?_
            refine g_goto (q := 21) dX1_reach_91 (by decide) ?_
            refine g_drop 8 rfl ?_
            exact ih (i + 1) _ (by omega) (by omega) (by rw [farR_on (show ¬ left < tk false (sl i) wv from Nat.not_lt.mpr hle)] at hΨ; exact hΨ)
          · have hlt : left < sl i * wv / 50 + 1 := Nat.lt_of_not_le (fun z => h82 ((zsub_ge (by omega) (by omega)).mpr z))
            refine g_iload dX1_reach_85 rfl rfl ?_
            exact g_iret dX1_reach_87 rfl (Nat.le_refl _) (Nat.le_refl _) (by rw [farR_stop (show left < tk false (sl i) wv from hlt)] at hΨ; exact hΨ)
        · subst h61
          refine g_iconst (v := nI 1) dX1_reach_64 rfl (by decide) ?_
          refine g_iload dX1_reach_65 rfl rfl ?_
          refine g_iconst (v := nI 2) dX1_reach_67 rfl (by decide) ?_
          refine g_idiv dX1_reach_68 rfl (by decide) (pk_div (by omega) (by omega) (by omega)) ?_
          refine g_max m_X1_32 dX1_reach_69 rfl (by decide) (Nat.le_refl _) (Nat.le_refl _) (Nat.le_of_ble_eq_true rfl) (zmaxN (by omega) (by omega)) ?_
          refine g_goto (q := 77) dX1_reach_72 (by decide) ?_
          refine g_isub dX1_reach_77 rfl rfl ?_
          refine g_istore dX1_reach_78 rfl (by decide) rfl rfl ?_
          refine g_iload dX1_reach_80 rfl rfl ?_
          refine g_if_ge (t := 88) dX1_reach_82 (by decide) rfl (fun h82 => ?_) (fun h82 => ?_)
          · have hle : max 1 ((sl i * wv / 50 + 1) / 2) ≤ left := (zsub_ge (by omega) (by omega)).mp h82
            rw [show nI left - nI (max 1 ((sl i * wv / 50 + 1) / 2)) = nI (left - (max 1 ((sl i * wv / 50 + 1) / 2))) from pk_sub hle]
            refine g_iinc dX1_reach_88 rfl rfl (nI_1 _) (by decide) rfl rfl ?_
            refine g_goto (q := 21) dX1_reach_91 (by decide) ?_
            refine g_drop 8 rfl ?_
            exact ih (i + 1) _ (by omega) (by omega) (by rw [farR_on (show ¬ left < tk true (sl i) wv from Nat.not_lt.mpr hle)] at hΨ; exact hΨ)
          · have hlt : left < max 1 ((sl i * wv / 50 + 1) / 2) := Nat.lt_of_not_le (fun z => h82 ((zsub_ge (by omega) (by omega)).mpr z))
            refine g_iload dX1_reach_85 rfl rfl ?_
            exact g_iret dX1_reach_87 rfl (Nat.le_refl _) (Nat.le_refl _) (by rw [farR_stop (show left < tk true (sl i) wv from hlt)] at hΨ; exact hΨ)
set_option maxRecDepth 20000 in
theorem c_X1_reach (sk : Nat → Nat) {hp hs hl ls hw ha hr F c fr : Nat} {g o sd C V E N S : Int32} {sl w a : Nat → Nat} {sand : Bool} (hF : F ≤ 30) (hc : c < 6) (hsl : ∀ j, j < 30 → sl j ≤ 99) (hwv : w c ≤ 99) (hav : a c ≤ 999) (hfr : fr ≤ F) : Ct sk yX1_reach cX1_reach 9 (some .int) 1 0 0 [oPole hp hs g o sd, cI hs 30 (fI sl), oPlan hl ls hw ha hr (nI F) C V E N S, cI hw 6 (fI w), cI ha 6 (fI a)] [.ref hp, .ref hl, .int (nI c), .int (nI fr), .int (zb sand)] (zD (some (.int (nI (farR (w c) sand sl (F - fr) fr (a c))))) [oPole hp hs g o sd, cI hs 30 (fI sl), oPlan hl ls hw ha hr (nI F) C V E N S, cI hw 6 (fI w), cI ha 6 (fI a)]) := by
  refine Ct.of (own := RX1) (l := [some (.ref hp), some (.ref hl), some (.int (nI c)), some (.int (nI fr)), some (.int (zb sand)), none, none, none, none]) (by decide) rfl (Nat.le_of_ble_eq_true rfl) rfl ?_
  refine g_aload_n dX1_reach_0 rfl rfl ?_
  refine g_iload_n dX1_reach_1 rfl rfl ?_
  refine g_callV (c_X0_weightOf sk hc) m_X1_41 a_X0_weightOf dX1_reach_2 rfl [2, 3] rfl rfl 0 rfl rfl rfl (by decide) (by decide) (by decide) (by decide) (Nat.le_of_ble_eq_true rfl) (fun r w hK => ?_)
  obtain ⟨rfl, rfl⟩ := hK
  refine ⟨rfl, ?_⟩
  dsimp only [puts, List.set, Option.toList, List.cons_append, List.nil_append, List.append_nil]
  refine g_istore dX1_reach_5 rfl (by decide) rfl rfl ?_
  refine g_aload_n dX1_reach_7 rfl rfl ?_
  refine g_iload_n dX1_reach_8 rfl rfl ?_
  refine g_callV (c_X0_armsOf sk hc) m_X1_45 a_X0_armsOf dX1_reach_9 rfl [2, 4] rfl rfl 0 rfl rfl rfl (by decide) (by decide) (by decide) (by decide) (Nat.le_of_ble_eq_true rfl) (fun r w hK => ?_)
  obtain ⟨rfl, rfl⟩ := hK
  refine ⟨rfl, ?_⟩
  dsimp only [puts, List.set, Option.toList, List.cons_append, List.nil_append, List.append_nil]
  refine g_istore dX1_reach_12 rfl (by decide) rfl rfl ?_
  refine g_iload_n dX1_reach_14 rfl rfl ?_
  refine g_iconst (v := nI 0) dX1_reach_15 rfl (by decide) ?_
  refine g_max m_X1_32 dX1_reach_16 rfl (by decide) (Nat.le_refl _) (Nat.le_refl _) (Nat.le_of_ble_eq_true rfl) (zmax0 (by omega)) ?_
  refine g_istore dX1_reach_19 rfl (by decide) rfl rfl ?_
  exact lp_X1_reach sk hF hsl hwv (F - fr) fr (a c) (by omega) hav ⟨rfl, rfl⟩
end
section
set_option maxRecDepth 20000 in
theorem c_X6_copyRow (sk : Nat → Nat) {h1 h2 n : Nat} {f g : Nat → Int32} (hn : n < 2 ^ 31) : Ct sk yX6_copyRow cX6_copyRow 2 none 2 0 0 [cI h1 n f, cI h2 n g] [.ref h1, .ref h2] (zD none [cI h1 n f, cI h2 n f]) := by
  refine Ct.of (own := RX6) (l := [some (.ref h1), some (.ref h2)]) (by decide) rfl (Nat.le_of_ble_eq_true rfl) rfl ?_
  refine g_aload_n dX6_copyRow_0 rfl rfl ?_
  refine g_iconst (v := nI 0) dX6_copyRow_1 rfl (by decide) ?_
  refine g_aload_n dX6_copyRow_2 rfl rfl ?_
  refine g_iconst (v := nI 0) dX6_copyRow_3 rfl (by decide) ?_
  refine g_aload_n dX6_copyRow_4 rfl rfl ?_
  refine g_alen dX6_copyRow_5 rfl 0 rfl (Nat.le_of_ble_eq_true rfl) rfl ?_
  refine g_aload_n dX6_copyRow_6 rfl rfl ?_
  refine g_alen dX6_copyRow_7 rfl 1 rfl (Nat.le_of_ble_eq_true rfl) rfl ?_
  refine g_min (v := nI n) m_X6_211 dX6_copyRow_8 rfl (by decide) (Nat.le_refl _) (Nat.le_refl _) (Nat.le_of_ble_eq_true rfl) (ite_self _) ?_
  refine g_copyI m_X6_216 dX6_copyRow_11 rfl 0 1 rfl rfl hn (by decide) (by decide +kernel) rfl ?_
  exact g_vret dX6_copyRow_14 rfl (Nat.le_refl _) (Nat.le_refl _) ⟨rfl, rfl⟩
set_option maxRecDepth 20000 in
theorem c_X1_become (sk : Nat → Nat) {hp hs hq ht : Nat} {g o sd g2 o2 sd2 : Int32} {f f2 : Nat → Int32}  : Ct sk yX1_become cX1_become 2 none 3 0 0 [oPole hp hs g o sd, cI hs 30 f, oPole hq ht g2 o2 sd2, cI ht 30 f2] [.ref hp, .ref hq] (zD none [oPole hp hs g2 o2 sd2, cI hs 30 f2, oPole hq ht g2 o2 sd2, cI ht 30 f2]) := by
  refine Ct.of (own := RX1) (l := [some (.ref hp), some (.ref hq)]) (by decide) rfl (Nat.le_of_ble_eq_true rfl) rfl ?_
  refine g_aload_n dX1_become_0 rfl rfl ?_
  refine g_aload_n dX1_become_1 rfl rfl ?_
  refine g_get f_X1_19 dX1_become_2 rfl 2 rfl rfl ?_
  refine g_putI f_X1_19 dX1_become_5 rfl 0 rfl (Nat.le_of_ble_eq_true rfl) rfl ?_
  dsimp only [List.set]
  refine g_aload_n dX1_become_8 rfl rfl ?_
  refine g_aload_n dX1_become_9 rfl rfl ?_
  refine g_get f_X1_15 dX1_become_10 rfl 2 rfl rfl ?_
  refine g_putI f_X1_15 dX1_become_13 rfl 0 rfl (Nat.le_of_ble_eq_true rfl) rfl ?_
  dsimp only [List.set]
  refine g_aload_n dX1_become_16 rfl rfl ?_
  refine g_aload_n dX1_become_17 rfl rfl ?_
  refine g_get f_X1_22 dX1_become_18 rfl 2 rfl rfl ?_
  refine g_putI f_X1_22 dX1_become_21 rfl 0 rfl (Nat.le_of_ble_eq_true rfl) rfl ?_
  dsimp only [List.set]
  refine g_aload_n dX1_become_24 rfl rfl ?_
  refine g_get f_X1_9 dX1_become_25 rfl 2 rfl rfl ?_
  refine g_aload_n dX1_become_28 rfl rfl ?_
  refine g_get f_X1_9 dX1_become_29 rfl 0 rfl rfl ?_
  refine g_callN (c_X6_copyRow sk (by decide)) m_X1_25 a_X6_copyRow dX1_become_32 rfl [3, 1] rfl rfl rfl rfl (by decide) (by decide) (by decide) (by decide) (Nat.le_of_ble_eq_true rfl) (fun r w hK => ?_)
  obtain ⟨rfl, rfl⟩ := hK
  refine ⟨rfl, ?_⟩
  dsimp only [puts, List.set, Option.toList, List.cons_append, List.nil_append, List.append_nil]
  exact g_vret dX1_become_35 rfl (Nat.le_refl _) (Nat.le_refl _) (⟨rfl, rfl⟩)
set_option maxRecDepth 20000 in
theorem c_X1_becomeAsTold (sk : Nat → Nat) {hp hs hl ls hw ha hr : Nat} {g o sd F C V E N S : Int32} {f f2 : Nat → Int32}  : Ct sk yX1_becomeAsTold cX1_becomeAsTold 2 none 3 0 0 [oPole hp hs g o sd, cI hs 30 f, oPlan hl ls hw ha hr F C V E N S, cI ls 30 f2] [.ref hp, .ref hl] (zD none [oPole hp hs (nI 0) (-1) sd, cI hs 30 f2, oPlan hl ls hw ha hr F C V E N S, cI ls 30 f2]) := by
  refine Ct.of (own := RX1) (l := [some (.ref hp), some (.ref hl)]) (by decide) rfl (Nat.le_of_ble_eq_true rfl) rfl ?_
  refine g_aload_n dX1_becomeAsTold_0 rfl rfl ?_
  refine g_iconst (v := nI 0) dX1_becomeAsTold_1 rfl (by decide) ?_
  refine g_putI f_X1_19 dX1_becomeAsTold_2 rfl 0 rfl (Nat.le_of_ble_eq_true rfl) rfl ?_
  dsimp only [List.set]
  refine g_aload_n dX1_becomeAsTold_5 rfl rfl ?_
  refine g_iconst (v := -1) dX1_becomeAsTold_6 rfl (by decide) ?_
  refine g_putI f_X1_15 dX1_becomeAsTold_7 rfl 0 rfl (Nat.le_of_ble_eq_true rfl) rfl ?_
  dsimp only [List.set]
  refine g_aload_n dX1_becomeAsTold_10 rfl rfl ?_
  refine g_get f_X1_29 dX1_becomeAsTold_11 rfl 2 rfl rfl ?_
  refine g_aload_n dX1_becomeAsTold_14 rfl rfl ?_
  refine g_get f_X1_9 dX1_becomeAsTold_15 rfl 0 rfl rfl ?_
  refine g_callN (c_X6_copyRow sk (by decide)) m_X1_25 a_X6_copyRow dX1_becomeAsTold_18 rfl [3, 1] rfl rfl rfl rfl (by decide) (by decide) (by decide) (by decide) (Nat.le_of_ble_eq_true rfl) (fun r w hK => ?_)
  obtain ⟨rfl, rfl⟩ := hK
  refine ⟨rfl, ?_⟩
  dsimp only [puts, List.set, Option.toList, List.cons_append, List.nil_append, List.append_nil]
  exact g_vret dX1_becomeAsTold_21 rfl (Nat.le_refl _) (Nat.le_refl _) (⟨rfl, rfl⟩)
set_option maxRecDepth 20000 in
theorem c_X1_slipOn (sk : Nat → Nat) {hp hs i : Nat} {g o sd : Int32} {sl : Nat → Nat} (hi : i < 30) : Ct sk yX1_slipOn cX1_slipOn 2 (some .int) 0 0 0 [oPole hp hs g o sd, cI hs 30 (fI sl)] [.ref hp, .int (nI i)] (zD (some (.int (nI (sl i)))) [oPole hp hs g o sd, cI hs 30 (fI sl)]) := by
  refine Ct.of (own := RX1) (l := [some (.ref hp), some (.int (nI i))]) (by decide) rfl (Nat.le_of_ble_eq_true rfl) rfl ?_
  refine g_iload_n dX1_slipOn_0 rfl rfl ?_
  refine g_if_lt (t := 22) dX1_slipOn_1 (by decide) rfl (fun h1 => ?_) (fun h1 => ?_)
  · exact absurd h1 (nI_nlt0 (by omega))
  · skip
    refine g_iload_n dX1_slipOn_4 rfl rfl ?_
    refine g_aload_n dX1_slipOn_5 rfl rfl ?_
    refine g_get f_X1_9 dX1_slipOn_6 rfl 0 rfl rfl ?_
    refine g_alen dX1_slipOn_9 rfl 1 rfl (Nat.le_of_ble_eq_true rfl) rfl ?_
    refine g_icmp_geN (t := 22) dX1_slipOn_10 (by decide) rfl (by omega) (by omega) (fun h10 => ?_) (fun h10 => ?_)
    · exact absurd h10 (by omega)
    · skip
      refine g_aload_n dX1_slipOn_13 rfl rfl ?_
      refine g_get f_X1_9 dX1_slipOn_14 rfl 0 rfl rfl ?_
      refine g_iload_n dX1_slipOn_17 rfl rfl ?_
      refine g_ialdN (v := nI _) dX1_slipOn_18 rfl 1 rfl (by omega) (by decide) (rfl) ?_
      refine g_goto (q := 23) dX1_slipOn_19 (by decide) ?_
      exact g_iret dX1_slipOn_23 rfl (Nat.le_refl _) (Nat.le_refl _) (⟨rfl, rfl⟩)
set_option maxRecDepth 20000 in
theorem lp_X1_rub (sk : Nat → Nat) {hp hs far most : Nat} {g o sd : Int32} {sl : Nat → Nat} {Ψ : PS} (hf : far ≤ 30) (hm : most ≤ 20) (hsl : ∀ j, j < 30 → sl j ≤ 99) (hΨ : Ψ (some (.int (nI (rubT most sl far)))) [oPole hp hs g o sd, cI hs 30 (fI (rubS far most sl))]) : ∀ (n i : Nat), i + n = far → GG sk RX1 yX1_rub cX1_rub 6 (some .int) 1 0 0 Ψ 0 0 5 [some (.ref hp), some (.int (nI far)), some (.int (nI most)), some (.int (nI (rubT most sl i))), some (.int (nI i)), none] [] [oPole hp hs g o sd, cI hs 30 (fI (rubS i most sl))] := by
  intro n
  induction n with
  | zero =>
    intro i hi
    obtain rfl : i = far := by omega
    refine g_iload dX1_rub_5 rfl rfl ?_
    refine g_iload_n dX1_rub_7 rfl rfl ?_
    refine g_icmp_geN (t := 57) dX1_rub_8 (by decide) rfl (by omega) (by omega) (fun h8 => ?_) (fun h8 => ?_)
    · skip
      refine g_iload_n dX1_rub_57 rfl rfl ?_
      exact g_iret dX1_rub_58 rfl (Nat.le_refl _) (Nat.le_refl _) (hΨ)
    · exact absurd h8 (by omega)
  | succ n ih =>
    intro i hi
    refine g_iload dX1_rub_5 rfl rfl ?_
    refine g_iload_n dX1_rub_7 rfl rfl ?_
    refine g_icmp_geN (t := 57) dX1_rub_8 (by decide) rfl (by omega) (by omega) (fun h8 => ?_) (fun h8 => ?_)
    · exact absurd h8 (by omega)
    · skip
      refine g_iload dX1_rub_11 rfl rfl ?_
      refine g_aload_n dX1_rub_13 rfl rfl ?_
      refine g_get f_X1_9 dX1_rub_14 rfl 0 rfl rfl ?_
      refine g_alen dX1_rub_17 rfl 1 rfl (Nat.le_of_ble_eq_true rfl) rfl ?_
      refine g_icmp_geN (t := 57) dX1_rub_18 (by decide) rfl (by omega) (by omega) (fun h18 => ?_) (fun h18 => ?_)
      · exact absurd h18 (by omega)
      · skip
        refine g_iload_n dX1_rub_21 rfl rfl ?_
        refine g_aload_n dX1_rub_22 rfl rfl ?_
        refine g_get f_X1_9 dX1_rub_23 rfl 0 rfl rfl ?_
        refine g_iload dX1_rub_26 rfl rfl ?_
        have hb := hsl i (by omega)
        have hb2 := rubT_le most sl hm i
        refine g_ialdN (v := nI (sl i)) dX1_rub_28 rfl 1 rfl (by omega) (by decide) (congrArg nI (rubS_at i most sl)) ?_
        refine g_min m_X1_38 dX1_rub_29 rfl (by decide) (Nat.le_refl _) (Nat.le_refl _) (Nat.le_of_ble_eq_true rfl) (zminN (by omega) (by omega)) ?_
        refine g_istore dX1_rub_32 rfl (by decide) rfl rfl ?_
        refine g_aload_n dX1_rub_34 rfl rfl ?_
        refine g_get f_X1_9 dX1_rub_35 rfl 0 rfl rfl ?_
        refine g_iload dX1_rub_38 rfl rfl ?_
        refine g_dup2 dX1_rub_40 rfl rfl rfl ?_
        refine g_ialdN (v := nI (sl i)) dX1_rub_41 rfl 1 rfl (by omega) (by decide) (congrArg nI (rubS_at i most sl)) ?_
        refine g_iload dX1_rub_42 rfl rfl ?_
        refine g_isub dX1_rub_44 rfl (pk_sub (by omega)) ?_
        refine g_iastN dX1_rub_45 rfl 1 rfl (by omega) (by decide) (fI_up2 (rubS_up i most sl)) rfl ?_
        refine g_iload_n dX1_rub_46 rfl rfl ?_
        refine g_iload dX1_rub_47 rfl rfl ?_
        refine g_iadd dX1_rub_49 rfl (nI_add _ _) ?_
        refine g_istore_n dX1_rub_50 rfl (by decide) rfl rfl ?_
        refine g_iinc dX1_rub_51 rfl rfl (nI_1 _) (by decide) rfl rfl ?_
        refine g_goto (q := 5) dX1_rub_54 (by decide) ?_
        refine g_drop 5 rfl ?_
        exact ih (i + 1) (by omega)
set_option maxRecDepth 20000 in
theorem c_X1_rub (sk : Nat → Nat) {hp hs far most : Nat} {g o sd : Int32} {sl : Nat → Nat} (hf : far ≤ 30) (hm : most ≤ 20) (hsl : ∀ j, j < 30 → sl j ≤ 99) : Ct sk yX1_rub cX1_rub 6 (some .int) 1 0 0 [oPole hp hs g o sd, cI hs 30 (fI sl)] [.ref hp, .int (nI far), .int (nI most)] (zD (some (.int (nI (rubT most sl far)))) [oPole hp hs g o sd, cI hs 30 (fI (rubS far most sl))]) := by
  refine Ct.of (own := RX1) (l := [some (.ref hp), some (.int (nI far)), some (.int (nI most)), none, none, none]) (by decide) rfl (Nat.le_of_ble_eq_true rfl) rfl ?_
  refine g_iconst (v := nI 0) dX1_rub_0 rfl (by decide) ?_
  refine g_istore_n dX1_rub_1 rfl (by decide) rfl rfl ?_
  refine g_iconst (v := nI 0) dX1_rub_2 rfl (by decide) ?_
  refine g_istore dX1_rub_3 rfl (by decide) rfl rfl ?_
  have h0 := lp_X1_rub sk (hp := hp) (hs := hs) (g := g) (o := o) (sd := sd) (Ψ := zD (some (.int (nI (rubT most sl far)))) [oPole hp hs g o sd, cI hs 30 (fI (rubS far most sl))]) hf hm hsl ⟨rfl, rfl⟩ far 0 (by omega)
  rw [rubS_0] at h0
  exact h0
theorem smS_upN {far q : Nat} {sl : Nat → Nat} {i : Nat} (h : q % far ≤ i) : nup (smS far q sl i) i (min 99 (sl i + q / far)) = smS far q sl (i + 1) := by rw [← smS_up far q sl i, if_neg (Nat.not_lt.mpr h)]
theorem smS_upP {far q : Nat} {sl : Nat → Nat} {i : Nat} (h : i < q % far) : nup (smS far q sl i) i (min 99 (sl i + (q / far + 1))) = smS far q sl (i + 1) := by rw [← smS_up far q sl i, if_pos h]
set_option maxRecDepth 20000 in
theorem lp_X1_smear (sk : Nat → Nat) {hp hs far q : Nat} {g o sd x2 : Int32} {sl : Nat → Nat} {Ψ : PS} (hf : far ≤ 30) (hq : q ≤ 1000) (hsl : ∀ j, j < 30 → sl j ≤ 99) (hΨ : Ψ none [oPole hp hs g o sd, cI hs 30 (fI (smS far q sl far))]) : ∀ (n i : Nat), i + n = far → GG sk RX1 yX1_smear cX1_smear 7 none 1 0 0 Ψ 0 0 17 [some (.ref hp), some (.int (nI far)), some (.int x2), some (.int (nI (q / far))), some (.int (nI (q % far))), some (.int (nI i)), none] [] [oPole hp hs g o sd, cI hs 30 (fI (smS far q sl i))] := by
  intro n
  induction n with
  | zero =>
    intro i hi
    obtain rfl : i = far := by omega
    refine g_iload dX1_smear_17 rfl rfl ?_
    refine g_iload_n dX1_smear_19 rfl rfl ?_
    refine g_icmp_geN (t := 77) dX1_smear_20 (by decide) rfl (by omega) (by omega) (fun h20 => ?_) (fun h20 => ?_)
    · skip
      exact g_vret dX1_smear_77 rfl (Nat.le_refl _) (Nat.le_refl _) (hΨ)
    · exact absurd h20 (by omega)
  | succ n ih =>
    intro i hi
    refine g_iload dX1_smear_17 rfl rfl ?_
    refine g_iload_n dX1_smear_19 rfl rfl ?_
    refine g_icmp_geN (t := 77) dX1_smear_20 (by decide) rfl (by omega) (by omega) (fun h20 => ?_) (fun h20 => ?_)
    · exact absurd h20 (by omega)
    · skip
      refine g_iload dX1_smear_23 rfl rfl ?_
      refine g_aload_n dX1_smear_25 rfl rfl ?_
      refine g_get f_X1_9 dX1_smear_26 rfl 0 rfl rfl ?_
      refine g_alen dX1_smear_29 rfl 1 rfl (Nat.le_of_ble_eq_true rfl) rfl ?_
      refine g_icmp_geN (t := 77) dX1_smear_30 (by decide) rfl (by omega) (by omega) (fun h30 => ?_) (fun h30 => ?_)
      · exact absurd h30 (by omega)
      · have hb := hsl i (by omega)
        have hd : q / far ≤ q := Nat.div_le_self _ _
        have hmd : q % far ≤ q := Nat.mod_le _ _
        refine g_iload dX1_smear_33 rfl rfl ?_
        refine g_iload dX1_smear_35 rfl rfl ?_
        refine g_icmp_geN (t := 46) dX1_smear_37 (by decide) rfl (by omega) (by omega) (fun h37 => ?_) (fun h37 => ?_)
        · skip
          refine g_iload_n dX1_smear_46 rfl rfl ?_
          refine g_istore dX1_smear_47 rfl (by decide) rfl rfl ?_
          refine g_aload_n dX1_smear_49 rfl rfl ?_
          refine g_get f_X1_9 dX1_smear_50 rfl 0 rfl rfl ?_
          refine g_iload dX1_smear_53 rfl rfl ?_
          refine g_bipush (v := nI 99) dX1_smear_55 rfl (by decide) ?_
          refine g_aload_n dX1_smear_57 rfl rfl ?_
          refine g_get f_X1_9 dX1_smear_58 rfl 0 rfl rfl ?_
          refine g_iload dX1_smear_61 rfl rfl ?_
          refine g_ialdN (v := nI (sl i)) dX1_smear_63 rfl 1 rfl (by omega) (by decide) (congrArg nI (smS_at far q sl i)) ?_
          refine g_iload dX1_smear_64 rfl rfl ?_
          refine g_iadd dX1_smear_66 rfl (nI_add _ _) ?_
          refine g_min m_X1_38 dX1_smear_67 rfl (by decide) (Nat.le_refl _) (Nat.le_refl _) (Nat.le_of_ble_eq_true rfl) (zminN (by omega) (by omega)) ?_
          refine g_iastN dX1_smear_70 rfl 1 rfl (by omega) (by decide) (fI_up2 (smS_upN h37)) rfl ?_
          refine g_iinc dX1_smear_71 rfl rfl (nI_1 _) (by decide) rfl rfl ?_
          refine g_goto (q := 17) dX1_smear_74 (by decide) ?_
          refine g_drop 6 rfl ?_
          exact ih (i + 1) (by omega)
        · skip
          refine g_iload_n dX1_smear_40 rfl rfl ?_
          refine g_iconst (v := nI 1) dX1_smear_41 rfl (by decide) ?_
          refine g_iadd dX1_smear_42 rfl (nI_add _ _) ?_
          refine g_goto (q := 47) dX1_smear_43 (by decide) ?_
          refine g_istore dX1_smear_47 rfl (by decide) rfl rfl ?_
          refine g_aload_n dX1_smear_49 rfl rfl ?_
          refine g_get f_X1_9 dX1_smear_50 rfl 0 rfl rfl ?_
          refine g_iload dX1_smear_53 rfl rfl ?_
          refine g_bipush (v := nI 99) dX1_smear_55 rfl (by decide) ?_
          refine g_aload_n dX1_smear_57 rfl rfl ?_
          refine g_get f_X1_9 dX1_smear_58 rfl 0 rfl rfl ?_
          refine g_iload dX1_smear_61 rfl rfl ?_
          refine g_ialdN (v := nI (sl i)) dX1_smear_63 rfl 1 rfl (by omega) (by decide) (congrArg nI (smS_at far q sl i)) ?_
          refine g_iload dX1_smear_64 rfl rfl ?_
          refine g_iadd dX1_smear_66 rfl (nI_add _ _) ?_
          refine g_min m_X1_38 dX1_smear_67 rfl (by decide) (Nat.le_refl _) (Nat.le_refl _) (Nat.le_of_ble_eq_true rfl) (zminN (by omega) (by omega)) ?_
          refine g_iastN dX1_smear_70 rfl 1 rfl (by omega) (by decide) (fI_up2 (smS_upP h37)) rfl ?_
          refine g_iinc dX1_smear_71 rfl rfl (nI_1 _) (by decide) rfl rfl ?_
          refine g_goto (q := 17) dX1_smear_74 (by decide) ?_
          refine g_drop 6 rfl ?_
          exact ih (i + 1) (by omega)
set_option maxRecDepth 20000 in
theorem c_X1_smear (sk : Nat → Nat) {hp hs far q : Nat} {g o sd : Int32} {sl : Nat → Nat} (hf : far ≤ 30) (hq : q ≤ 1000) (hsl : ∀ j, j < 30 → sl j ≤ 99) : Ct sk yX1_smear cX1_smear 7 none 1 0 0 [oPole hp hs g o sd, cI hs 30 (fI sl)] [.ref hp, .int (nI far), .int (nI q)] (zD none [oPole hp hs g o sd, cI hs 30 (fI (smS far q sl far))]) := by
  refine Ct.of (own := RX1) (l := [some (.ref hp), some (.int (nI far)), some (.int (nI q)), none, none, none, none]) (by decide) rfl (Nat.le_of_ble_eq_true rfl) rfl ?_
  refine g_iload_n dX1_smear_0 rfl rfl ?_
  refine g_if_gt (t := 5) dX1_smear_1 (by decide) rfl (fun h1 => ?_) (fun h1 => ?_)
  · have h0 : 0 < far := (nI_0lt (by omega)).mp h1
    refine g_iload_n dX1_smear_5 rfl rfl ?_
    refine g_iload_n dX1_smear_6 rfl rfl ?_
    refine g_idiv dX1_smear_7 rfl (nI_ne0 h0 (by omega)) (pk_div (by omega) (by omega) (by omega)) ?_
    refine g_istore_n dX1_smear_8 rfl (by decide) rfl rfl ?_
    refine g_iload_n dX1_smear_9 rfl rfl ?_
    refine g_iload_n dX1_smear_10 rfl rfl ?_
    refine g_irem dX1_smear_11 rfl (nI_ne0 h0 (by omega)) (pk_rem (by omega) (by omega) (by omega)) ?_
    refine g_istore dX1_smear_12 rfl (by decide) rfl rfl ?_
    refine g_iconst (v := nI 0) dX1_smear_14 rfl (by decide) ?_
    refine g_istore dX1_smear_15 rfl (by decide) rfl rfl ?_
    have h1 := lp_X1_smear sk (hp := hp) (hs := hs) (g := g) (o := o) (sd := sd) (x2 := nI q) (Ψ := zD none [oPole hp hs g o sd, cI hs 30 (fI (smS far q sl far))]) hf hq hsl ⟨rfl, rfl⟩ far 0 (by omega)
    rw [smS_0] at h1
    exact h1
  · obtain rfl : far = 0 := Nat.eq_zero_of_not_pos (fun z => h1 ((nI_0lt (by omega)).mpr z))
    exact g_vret dX1_smear_4 rfl (Nat.le_refl _) (Nat.le_refl _) (⟨rfl, by rw [smS_0]⟩)
set_option maxRecDepth 20000 in
theorem lp_X1_addSlip (sk : Nat → Nat) {hp hs a e m : Nat} {g o sd x1 : Int32} {sl : Nat → Nat} {Ψ : PS} (he : e ≤ 30) (hm : m ≤ 99) (hsl : ∀ j, j < 30 → sl j ≤ 99) (hΨ : Ψ none [oPole hp hs g o sd, cI hs 30 (fI (adS a e m sl))]) : ∀ (n i : Nat), i + n = e → a ≤ i → GG sk RX1 yX1_addSlip cX1_addSlip 5 none 1 0 0 Ψ 0 0 7 [some (.ref hp), some (.int x1), some (.int (nI e - nI 1)), some (.int (nI m)), some (.int (nI i))] [] [oPole hp hs g o sd, cI hs 30 (fI (adS a i m sl))] := by
  intro n
  induction n with
  | zero =>
    intro i hi hai
    obtain rfl : i = e := by omega
    refine g_iload dX1_addSlip_7 rfl rfl ?_
    refine g_iload_n dX1_addSlip_9 rfl rfl ?_
    refine g_icmp_gt (t := 50) dX1_addSlip_10 (by decide) rfl (fun h10 => ?_) (fun h10 => ?_)
    · skip
      exact g_vret dX1_addSlip_50 rfl (Nat.le_refl _) (Nat.le_refl _) (hΨ)
    · exact absurd ((nI_lt_pred (by omega) (by omega)).mpr (Nat.le_refl _)) h10
  | succ n ih =>
    intro i hi hai
    refine g_iload dX1_addSlip_7 rfl rfl ?_
    refine g_iload_n dX1_addSlip_9 rfl rfl ?_
    refine g_icmp_gt (t := 50) dX1_addSlip_10 (by decide) rfl (fun h10 => ?_) (fun h10 => ?_)
    · exact absurd ((nI_lt_pred (by omega) (by omega)).mp h10) (by omega)
    · skip
      refine g_iload dX1_addSlip_13 rfl rfl ?_
      refine g_aload_n dX1_addSlip_15 rfl rfl ?_
      refine g_get f_X1_9 dX1_addSlip_16 rfl 0 rfl rfl ?_
      refine g_alen dX1_addSlip_19 rfl 1 rfl (Nat.le_of_ble_eq_true rfl) rfl ?_
      refine g_icmp_geN (t := 50) dX1_addSlip_20 (by decide) rfl (by omega) (by omega) (fun h20 => ?_) (fun h20 => ?_)
      · exact absurd h20 (by omega)
      · have hb := hsl i (by omega)
        refine g_aload_n dX1_addSlip_23 rfl rfl ?_
        refine g_get f_X1_9 dX1_addSlip_24 rfl 0 rfl rfl ?_
        refine g_iload dX1_addSlip_27 rfl rfl ?_
        refine g_bipush (v := nI 99) dX1_addSlip_29 rfl (by decide) ?_
        refine g_aload_n dX1_addSlip_31 rfl rfl ?_
        refine g_get f_X1_9 dX1_addSlip_32 rfl 0 rfl rfl ?_
        refine g_iload dX1_addSlip_35 rfl rfl ?_
        refine g_ialdN (v := nI (sl i)) dX1_addSlip_37 rfl 1 rfl (by omega) (by decide) (congrArg nI (adS_at a i m sl)) ?_
        refine g_iload_n dX1_addSlip_38 rfl rfl ?_
        refine g_iadd dX1_addSlip_39 rfl (nI_add _ _) ?_
        refine g_min m_X1_38 dX1_addSlip_40 rfl (by decide) (Nat.le_refl _) (Nat.le_refl _) (Nat.le_of_ble_eq_true rfl) (zminN (by omega) (by omega)) ?_
        refine g_iastN dX1_addSlip_43 rfl 1 rfl (by omega) (by decide) (fI_up2 (adS_up a i m sl (by omega))) rfl ?_
        refine g_iinc dX1_addSlip_44 rfl rfl (nI_1 _) (by decide) rfl rfl ?_
        refine g_goto (q := 7) dX1_addSlip_47 (by decide) ?_
        exact ih (i + 1) (by omega) (by omega)
set_option maxRecDepth 20000 in
theorem c_X1_addSlip (sk : Nat → Nat) {hp hs a e m : Nat} {g o sd : Int32} {sl : Nat → Nat} (hae : a ≤ e) (he : e ≤ 30) (hm : m ≤ 99) (hsl : ∀ j, j < 30 → sl j ≤ 99) : Ct sk yX1_addSlip cX1_addSlip 5 none 1 0 0 [oPole hp hs g o sd, cI hs 30 (fI sl)] [.ref hp, .int (nI a), .int (nI e - nI 1), .int (nI m)] (zD none [oPole hp hs g o sd, cI hs 30 (fI (adS a e m sl))]) := by
  refine Ct.of (own := RX1) (l := [some (.ref hp), some (.int (nI a)), some (.int (nI e - nI 1)), some (.int (nI m)), none]) (by decide) rfl (Nat.le_of_ble_eq_true rfl) rfl ?_
  refine g_iload_n dX1_addSlip_0 rfl rfl ?_
  refine g_iconst (v := nI 0) dX1_addSlip_1 rfl (by decide) ?_
  refine g_max m_X1_32 dX1_addSlip_2 rfl (by decide) (Nat.le_refl _) (Nat.le_refl _) (Nat.le_of_ble_eq_true rfl) (zmax0 (by omega)) ?_
  refine g_istore dX1_addSlip_5 rfl (by decide) rfl rfl ?_
  have h0 := lp_X1_addSlip sk (hp := hp) (hs := hs) (g := g) (o := o) (sd := sd) (x1 := nI a) (Ψ := zD none [oPole hp hs g o sd, cI hs 30 (fI (adS a e m sl))]) he hm hsl ⟨rfl, rfl⟩ (e - a) a (by omega) (Nat.le_refl _)
  rw [adS_0] at h0
  exact h0
set_option maxRecDepth 20000 in
theorem lp_X1_slipTogether (sk : Nat → Nat) {hp hs e : Nat} {g o sd x1 : Int32} {sl : Nat → Nat} {Ψ : PS} (he : e ≤ 30) : ∀ (n i s : Nat), i + n = e → Ψ (some (.int (nI (s + sumR sl n i)))) [oPole hp hs g o sd, cI hs 30 (fI sl)] → GG sk RX1 yX1_slipTogether cX1_slipTogether 5 (some .int) 1 0 0 Ψ 0 0 9 [some (.ref hp), some (.int x1), some (.int (nI e - nI 1)), some (.int (nI s)), some (.int (nI i))] [] [oPole hp hs g o sd, cI hs 30 (fI sl)] := by
  intro n
  induction n with
  | zero =>
    intro i s hi hΨ
    obtain rfl : i = e := by omega
    refine g_iload dX1_slipTogether_9 rfl rfl ?_
    refine g_iload_n dX1_slipTogether_11 rfl rfl ?_
    refine g_icmp_gt (t := 41) dX1_slipTogether_12 (by decide) rfl (fun h12 => ?_) (fun h12 => ?_)
    · skip
      refine g_iload_n dX1_slipTogether_41 rfl rfl ?_
      exact g_iret dX1_slipTogether_42 rfl (Nat.le_refl _) (Nat.le_refl _) (hΨ)
    · exact absurd ((nI_lt_pred (by omega) (by omega)).mpr (Nat.le_refl _)) h12
  | succ n ih =>
    intro i s hi hΨ
    refine g_iload dX1_slipTogether_9 rfl rfl ?_
    refine g_iload_n dX1_slipTogether_11 rfl rfl ?_
    refine g_icmp_gt (t := 41) dX1_slipTogether_12 (by decide) rfl (fun h12 => ?_) (fun h12 => ?_)
    · exact absurd ((nI_lt_pred (by omega) (by omega)).mp h12) (by omega)
    · skip
      refine g_iload dX1_slipTogether_15 rfl rfl ?_
      refine g_aload_n dX1_slipTogether_17 rfl rfl ?_
      refine g_get f_X1_9 dX1_slipTogether_18 rfl 0 rfl rfl ?_
      refine g_alen dX1_slipTogether_21 rfl 1 rfl (Nat.le_of_ble_eq_true rfl) rfl ?_
      refine g_icmp_geN (t := 41) dX1_slipTogether_22 (by decide) rfl (by omega) (by omega) (fun h22 => ?_) (fun h22 => ?_)
      · exact absurd h22 (by omega)
      · skip
        refine g_iload_n dX1_slipTogether_25 rfl rfl ?_
        refine g_aload_n dX1_slipTogether_26 rfl rfl ?_
        refine g_get f_X1_9 dX1_slipTogether_27 rfl 0 rfl rfl ?_
        refine g_iload dX1_slipTogether_30 rfl rfl ?_
        refine g_ialdN (v := nI _) dX1_slipTogether_32 rfl 1 rfl (by omega) (by decide) (rfl) ?_
        refine g_iadd dX1_slipTogether_33 rfl (nI_add _ _) ?_
        refine g_istore_n dX1_slipTogether_34 rfl (by decide) rfl rfl ?_
        refine g_iinc dX1_slipTogether_35 rfl rfl (nI_1 _) (by decide) rfl rfl ?_
        refine g_goto (q := 9) dX1_slipTogether_38 (by decide) ?_
        exact ih (i + 1) (s + sl i) (by omega) (by rw [Nat.add_assoc]; exact hΨ)
set_option maxRecDepth 20000 in
theorem c_X1_slipTogether (sk : Nat → Nat) {hp hs a e : Nat} {g o sd : Int32} {sl : Nat → Nat} (ha : a ≤ e) (he : e ≤ 30) : Ct sk yX1_slipTogether cX1_slipTogether 5 (some .int) 1 0 0 [oPole hp hs g o sd, cI hs 30 (fI sl)] [.ref hp, .int (nI a), .int (nI e - nI 1)] (zD (some (.int (nI (sumR sl (e - a) a)))) [oPole hp hs g o sd, cI hs 30 (fI sl)]) := by
  refine Ct.of (own := RX1) (l := [some (.ref hp), some (.int (nI a)), some (.int (nI e - nI 1)), none, none]) (by decide) rfl (Nat.le_of_ble_eq_true rfl) rfl ?_
  refine g_iconst (v := nI 0) dX1_slipTogether_0 rfl (by decide) ?_
  refine g_istore_n dX1_slipTogether_1 rfl (by decide) rfl rfl ?_
  refine g_iload_n dX1_slipTogether_2 rfl rfl ?_
  refine g_iconst (v := nI 0) dX1_slipTogether_3 rfl (by decide) ?_
  refine g_max m_X1_32 dX1_slipTogether_4 rfl (by decide) (Nat.le_refl _) (Nat.le_refl _) (Nat.le_of_ble_eq_true rfl) (zmax0 (by omega)) ?_
  refine g_istore dX1_slipTogether_7 rfl (by decide) rfl rfl ?_
  exact lp_X1_slipTogether sk he (e - a) a 0 (by omega) ⟨by rw [Nat.zero_add], rfl⟩
set_option maxRecDepth 20000 in
theorem lp_X1_coat (sk : Nat → Nat) {hp hs v : Nat} {g o sd : Int32} {sl : Nat → Nat} {Ψ : PS} (hΨ : Ψ none [oPole hp hs g o sd, cI hs 30 (fI (coS v sl 30))]) : ∀ (n i : Nat), i + n = 30 → GG sk RX1 yX1_coat cX1_coat 3 none 0 0 0 Ψ 0 0 2 [some (.ref hp), some (.int (nI v)), some (.int (nI i))] [] [oPole hp hs g o sd, cI hs 30 (fI (coS v sl i))] := by
  intro n
  induction n with
  | zero =>
    intro i hi
    obtain rfl : i = 30 := by omega
    refine g_iload_n dX1_coat_2 rfl rfl ?_
    refine g_aload_n dX1_coat_3 rfl rfl ?_
    refine g_get f_X1_9 dX1_coat_4 rfl 0 rfl rfl ?_
    refine g_alen dX1_coat_7 rfl 1 rfl (Nat.le_of_ble_eq_true rfl) rfl ?_
    refine g_icmp_geN (t := 24) dX1_coat_8 (by decide) rfl (by omega) (by omega) (fun h8 => ?_) (fun h8 => ?_)
    · skip
      exact g_vret dX1_coat_24 rfl (Nat.le_refl _) (Nat.le_refl _) (hΨ)
    · exact absurd h8 (by omega)
  | succ n ih =>
    intro i hi
    refine g_iload_n dX1_coat_2 rfl rfl ?_
    refine g_aload_n dX1_coat_3 rfl rfl ?_
    refine g_get f_X1_9 dX1_coat_4 rfl 0 rfl rfl ?_
    refine g_alen dX1_coat_7 rfl 1 rfl (Nat.le_of_ble_eq_true rfl) rfl ?_
    refine g_icmp_geN (t := 24) dX1_coat_8 (by decide) rfl (by omega) (by omega) (fun h8 => ?_) (fun h8 => ?_)
    · exact absurd h8 (by omega)
    · skip
      refine g_aload_n dX1_coat_11 rfl rfl ?_
      refine g_get f_X1_9 dX1_coat_12 rfl 0 rfl rfl ?_
      refine g_iload_n dX1_coat_15 rfl rfl ?_
      refine g_iload_n dX1_coat_16 rfl rfl ?_
      refine g_iastN dX1_coat_17 rfl 1 rfl (by omega) (by decide) (fI_up2 (coS_up v sl i)) rfl ?_
      refine g_iinc dX1_coat_18 rfl rfl (nI_1 _) (by decide) rfl rfl ?_
      refine g_goto (q := 2) dX1_coat_21 (by decide) ?_
      exact ih (i + 1) (by omega)
set_option maxRecDepth 20000 in
theorem c_X1_coat (sk : Nat → Nat) {hp hs v : Nat} {g o sd : Int32} {sl : Nat → Nat}  : Ct sk yX1_coat cX1_coat 3 none 0 0 0 [oPole hp hs g o sd, cI hs 30 (fI sl)] [.ref hp, .int (nI v)] (zD none [oPole hp hs g o sd, cI hs 30 (fI (coS v sl 30))]) := by
  refine Ct.of (own := RX1) (l := [some (.ref hp), some (.int (nI v)), none]) (by decide) rfl (Nat.le_of_ble_eq_true rfl) rfl ?_
  refine g_iconst (v := nI 0) dX1_coat_0 rfl (by decide) ?_
  refine g_istore_n dX1_coat_1 rfl (by decide) rfl rfl ?_
  have h0 := lp_X1_coat sk (hp := hp) (hs := hs) (g := g) (o := o) (sd := sd) (v := v) (sl := sl) (Ψ := zD none [oPole hp hs g o sd, cI hs 30 (fI (coS v sl 30))]) ⟨rfl, rfl⟩ 30 0 (by omega)
  rw [coS_0] at h0
  exact h0
end
section
set_option maxRecDepth 20000 in
theorem lp_X1_climb (sk : Nat → Nat) {hp hs hl ls hw ha hr F N S c : Nat} {g o sd C V E : Int32} {sl w a r : Nat → Nat} {sand : Bool} {e : Nat} {Ψ : PS} (hF : F ≤ 30) (hF1 : 1 ≤ F) (hN : N ≤ 20) (hN1 : 1 ≤ N) (hS : S ≤ 9) (hc : c < 6) (hsl : ∀ j, j < 30 → sl j ≤ 99) (hwv : w c ≤ 99) (hav : a c ≤ 999) (hrv : r c ≤ 20) (he : e ≤ F) (hΨ : Ψ (some (.int (nI e))) [oPole hp hs (g + nI 1) (o) sd, cI hs 30 (fI (goS F N S e (r c) sl (g + nI 1))), oPlan hl ls hw ha hr (nI F) C V E (nI N) (nI S), cI hw 6 (fI w), cI ha 6 (fI a), cI hr 6 (fI r)]) : GG sk RX1 yX1_climb cX1_climb 6 (some .int) 2 0 0 Ψ 0 0 45 [some (.ref hp), some (.ref hl), some (.int (nI c)), some (.int (zb sand)), some (.int (nI e)), some (.int (nI (rubT (r c) sl e)))] [] [oPole hp hs (g) (o) sd, cI hs 30 (fI (rubS e (r c) sl)), oPlan hl ls hw ha hr (nI F) C V E (nI N) (nI S), cI hw 6 (fI w), cI ha 6 (fI a), cI hr 6 (fI r)] := by
  have hrt := rubT_le (r c) sl hrv e
  refine g_aload_n dX1_climb_45 rfl rfl ?_
  refine g_iload dX1_climb_46 rfl rfl ?_
  refine g_iload dX1_climb_48 rfl rfl ?_
  refine g_iconst (v := nI 4) dX1_climb_50 rfl (by decide) ?_
  refine g_idiv dX1_climb_51 rfl (by decide) (pk_div (by omega) (by omega) (by omega)) ?_
  refine g_callV (c_X1_smear sk (by omega) (by omega) (rubS_le e (r c) sl hsl)) m_X1_61 a_X1_smear dX1_climb_52 rfl [0, 1] rfl rfl 0 rfl rfl rfl (by decide) (by decide) (by decide) (by decide) (Nat.le_of_ble_eq_true rfl) (fun r w hK => ?_)
  obtain ⟨rfl, rfl⟩ := hK
  refine ⟨rfl, ?_⟩
  dsimp only [puts, List.set, Option.toList, List.cons_append, List.nil_append, List.append_nil]
  refine g_aload_n dX1_climb_55 rfl rfl ?_
  refine g_dup dX1_climb_56 rfl rfl ?_
  refine g_get f_X1_19 dX1_climb_57 rfl 0 rfl rfl ?_
  refine g_iconst (v := nI 1) dX1_climb_60 rfl (by decide) ?_
  refine g_iadd dX1_climb_61 rfl rfl ?_
  refine g_putI f_X1_19 dX1_climb_62 rfl 0 rfl (Nat.le_of_ble_eq_true rfl) rfl ?_
  dsimp only [List.set]
  refine g_aload_n dX1_climb_65 rfl rfl ?_
  refine g_get f_X1_65 dX1_climb_66 rfl 2 rfl rfl ?_
  refine g_if_le (t := 99) dX1_climb_69 (by decide) rfl (fun h69 => ?_) (fun h69 => ?_)
  · exact absurd h69 (nI_nle (by omega) (by omega))
  · skip
    refine g_aload_n dX1_climb_72 rfl rfl ?_
    refine g_get f_X1_19 dX1_climb_73 rfl 0 rfl rfl ?_
    refine g_aload_n dX1_climb_76 rfl rfl ?_
    refine g_get f_X1_65 dX1_climb_77 rfl 2 rfl rfl ?_
    refine g_irem dX1_climb_80 rfl (nI_ne0 (by omega) (by omega)) rfl ?_
    refine g_if_ne (t := 99) dX1_climb_81 (by decide) rfl (fun h81 => ?_) (fun h81 => ?_)
    · skip
      refine g_iload dX1_climb_99 rfl rfl ?_
      exact g_iret dX1_climb_101 rfl (Nat.le_refl _) (Nat.le_refl _) (by rw [goS, show sunB (g + nI 1) N = false from decide_eq_false h81] at hΨ; exact hΨ)
    · skip
      refine g_aload_n dX1_climb_84 rfl rfl ?_
      refine g_iconst (v := nI 0) dX1_climb_85 rfl (by decide) ?_
      refine g_aload_n dX1_climb_86 rfl rfl ?_
      refine g_get f_X1_48 dX1_climb_87 rfl 2 rfl rfl ?_
      refine g_iconst (v := nI 1) dX1_climb_90 rfl (by decide) ?_
      refine g_isub dX1_climb_91 rfl rfl ?_
      refine g_aload_n dX1_climb_92 rfl rfl ?_
      refine g_get f_X1_68 dX1_climb_93 rfl 2 rfl rfl ?_
      refine g_callV (c_X1_addSlip sk (Nat.zero_le _) hF (by omega) (goS1_le e (r c) sl hsl)) m_X1_71 a_X1_addSlip dX1_climb_96 rfl [0, 1] rfl rfl 0 rfl rfl rfl (by decide) (by decide) (by decide) (by decide) (Nat.le_of_ble_eq_true rfl) (fun r w hK => ?_)
      obtain ⟨rfl, rfl⟩ := hK
      refine ⟨rfl, ?_⟩
      dsimp only [puts, List.set, Option.toList, List.cons_append, List.nil_append, List.append_nil]
      refine g_iload dX1_climb_99 rfl rfl ?_
      exact g_iret dX1_climb_101 rfl (Nat.le_refl _) (Nat.le_refl _) (by rw [goS, show sunB (g + nI 1) N = true from decide_eq_true h81] at hΨ; exact hΨ)
set_option maxRecDepth 20000 in
theorem c_X1_climb (sk : Nat → Nat) {hp hs hl ls hw ha hr F N S c : Nat} {g o sd C V E : Int32} {sl w a r : Nat → Nat} {sand : Bool} (hF : F ≤ 30) (hF1 : 1 ≤ F) (hN : N ≤ 20) (hN1 : 1 ≤ N) (hS : S ≤ 9) (hc : c < 6) (hsl : ∀ j, j < 30 → sl j ≤ 99) (hwv : w c ≤ 99) (hav : a c ≤ 999) (hrv : r c ≤ 20) : Ct sk yX1_climb cX1_climb 6 (some .int) 2 0 0 [oPole hp hs g o sd, cI hs 30 (fI sl), oPlan hl ls hw ha hr (nI F) C V E (nI N) (nI S), cI hw 6 (fI w), cI ha 6 (fI a), cI hr 6 (fI r)] [.ref hp, .ref hl, .int (nI c), .int (zb sand)] (zD (some (.int (nI (goF F (w c) (a c) sand sl)))) [oPole hp hs (g + nI 1) (goH F (goF F (w c) (a c) sand sl) o c) sd, cI hs 30 (fI (goS F N S (goF F (w c) (a c) sand sl) (r c) sl (g + nI 1))), oPlan hl ls hw ha hr (nI F) C V E (nI N) (nI S), cI hw 6 (fI w), cI ha 6 (fI a), cI hr 6 (fI r)]) := by
  refine Ct.of (own := RX1) (l := [some (.ref hp), some (.ref hl), some (.int (nI c)), some (.int (zb sand)), none, none]) (by decide) rfl (Nat.le_of_ble_eq_true rfl) rfl ?_
  refine g_aload_n dX1_climb_0 rfl rfl ?_
  refine g_aload_n dX1_climb_1 rfl rfl ?_
  refine g_iload_n dX1_climb_2 rfl rfl ?_
  refine g_iconst (v := nI 0) dX1_climb_3 rfl (by decide) ?_
  refine g_iload_n dX1_climb_4 rfl rfl ?_
  refine g_callV (c_X1_reach sk hF hc hsl hwv hav (Nat.zero_le _)) m_X1_51 a_X1_reach dX1_climb_5 rfl [0, 1, 2, 3, 4] rfl rfl 0 rfl rfl rfl (by decide) (by decide) (by decide) (by decide) (Nat.le_of_ble_eq_true rfl) (fun r w hK => ?_)
  obtain ⟨rfl, rfl⟩ := hK
  refine ⟨rfl, ?_⟩
  dsimp only [puts, List.set, Option.toList, List.cons_append, List.nil_append, List.append_nil]
  have he0 := goF_le F (w c) (a c) sand sl
  rw [show farR (w c) sand sl (F - 0) 0 (a c) = goF F (w c) (a c) sand sl from rfl]
  generalize hge : goF F (w c) (a c) sand sl = e at he0 ⊢
  refine g_istore dX1_climb_8 rfl (by decide) rfl rfl ?_
  refine g_aload_n dX1_climb_10 rfl rfl ?_
  refine g_iload dX1_climb_11 rfl rfl ?_
  refine g_aload_n dX1_climb_13 rfl rfl ?_
  refine g_iload_n dX1_climb_14 rfl rfl ?_
  refine g_callV (c_X0_rubsOf sk hc) m_X1_55 a_X0_rubsOf dX1_climb_15 rfl [2, 5] rfl rfl 0 rfl rfl rfl (by decide) (by decide) (by decide) (by decide) (Nat.le_of_ble_eq_true rfl) (fun r w hK => ?_)
  obtain ⟨rfl, rfl⟩ := hK
  refine ⟨rfl, ?_⟩
  dsimp only [puts, List.set, Option.toList, List.cons_append, List.nil_append, List.append_nil]
  refine g_callV (c_X1_rub sk (by omega) hrv hsl) m_X1_58 a_X1_rub dX1_climb_18 rfl [0, 1] rfl rfl 0 rfl rfl rfl (by decide) (by decide) (by decide) (by decide) (Nat.le_of_ble_eq_true rfl) (fun r w hK => ?_)
  obtain ⟨rfl, rfl⟩ := hK
  refine ⟨rfl, ?_⟩
  dsimp only [puts, List.set, Option.toList, List.cons_append, List.nil_append, List.append_nil]
  refine g_istore dX1_climb_21 rfl (by decide) rfl rfl ?_
  refine g_iload dX1_climb_23 rfl rfl ?_
  refine g_aload_n dX1_climb_25 rfl rfl ?_
  refine g_get f_X1_48 dX1_climb_26 rfl 2 rfl rfl ?_
  refine g_icmp_neN (t := 45) dX1_climb_29 (by decide) rfl (by omega) (by omega) (fun h29 => ?_) (fun h29 => ?_)
  · have ho : goH F e o c = o := if_neg (fun z => h29 z.1)
    rw [ho]
    exact lp_X1_climb sk hF hF1 hN hN1 hS hc hsl hwv hav hrv he0 ⟨rfl, rfl⟩
  · skip
    refine g_aload_n dX1_climb_32 rfl rfl ?_
    refine g_get f_X1_15 dX1_climb_33 rfl 0 rfl rfl ?_
    refine g_iconst (v := -1) dX1_climb_36 rfl (by decide) ?_
    refine g_icmp_ne (t := 45) dX1_climb_37 (by decide) rfl (fun h37 => ?_) (fun h37 => ?_)
    · have ho : goH F e o c = o := if_neg (fun z => h37 z.2)
      rw [ho]
      exact lp_X1_climb sk hF hF1 hN hN1 hS hc hsl hwv hav hrv he0 ⟨rfl, rfl⟩
    · have ho : goH F e o c = nI c := if_pos ⟨h29, h37⟩
      refine g_aload_n dX1_climb_40 rfl rfl ?_
      refine g_iload_n dX1_climb_41 rfl rfl ?_
      refine g_putI f_X1_15 dX1_climb_42 rfl 0 rfl (Nat.le_of_ble_eq_true rfl) rfl ?_
      dsimp only [List.set]
      rw [ho]
      exact lp_X1_climb sk hF hF1 hN hN1 hS hc hsl hwv hav hrv he0 ⟨rfl, rfl⟩
set_option maxRecDepth 20000 in
theorem lp_X1_isLike (sk : Nat → Nat) {hp hs hq ht : Nat} {g o sd g2 o2 sd2 : Int32} {sl sl2 : Nat → Nat} {Ψ : PS} (hsl : ∀ j, j < 30 → sl j ≤ 99) (hsl2 : ∀ j, j < 30 → sl2 j ≤ 99) : ∀ (n i : Nat), i + n = 30 → Ψ (some (.int (zb (eqR sl sl2 n i)))) [oPole hp hs g o sd, cI hs 30 (fI sl), oPole hq ht g2 o2 sd2, cI ht 30 (fI sl2)] → GG sk RX1 yX1_isLike cX1_isLike 3 (some .boolean) 0 0 0 Ψ 0 0 26 [some (.ref hp), some (.ref hq), some (.int (nI i))] [] [oPole hp hs g o sd, cI hs 30 (fI sl), oPole hq ht g2 o2 sd2, cI ht 30 (fI sl2)] := by
  intro n
  induction n with
  | zero =>
    intro i hi hΨ
    refine g_iload_n dX1_isLike_26 rfl rfl ?_
    refine g_aload_n dX1_isLike_27 rfl rfl ?_
    refine g_get f_X1_9 dX1_isLike_28 rfl 0 rfl rfl ?_
    refine g_alen dX1_isLike_31 rfl 1 rfl (Nat.le_of_ble_eq_true rfl) rfl ?_
    refine g_icmp_geN (t := 67) dX1_isLike_32 (by decide) rfl (by omega) (by omega) (fun h32 => ?_) (fun h32 => ?_)
    · skip
      refine g_iconst (v := nI 1) dX1_isLike_67 rfl (by decide) ?_
      exact g_zret (b := true) dX1_isLike_68 rfl (Nat.le_refl _) (Nat.le_refl _) (hΨ)
    · exact absurd h32 (by omega)
  | succ n ih =>
    intro i hi hΨ
    refine g_iload_n dX1_isLike_26 rfl rfl ?_
    refine g_aload_n dX1_isLike_27 rfl rfl ?_
    refine g_get f_X1_9 dX1_isLike_28 rfl 0 rfl rfl ?_
    refine g_alen dX1_isLike_31 rfl 1 rfl (Nat.le_of_ble_eq_true rfl) rfl ?_
    refine g_icmp_geN (t := 67) dX1_isLike_32 (by decide) rfl (by omega) (by omega) (fun h32 => ?_) (fun h32 => ?_)
    · exact absurd h32 (by omega)
    · skip
      refine g_iload_n dX1_isLike_35 rfl rfl ?_
      refine g_aload_n dX1_isLike_36 rfl rfl ?_
      refine g_get f_X1_9 dX1_isLike_37 rfl 2 rfl rfl ?_
      refine g_alen dX1_isLike_40 rfl 3 rfl (Nat.le_of_ble_eq_true rfl) rfl ?_
      refine g_icmp_geN (t := 67) dX1_isLike_41 (by decide) rfl (by omega) (by omega) (fun h41 => ?_) (fun h41 => ?_)
      · exact absurd h41 (by omega)
      · skip
        refine g_aload_n dX1_isLike_44 rfl rfl ?_
        refine g_get f_X1_9 dX1_isLike_45 rfl 0 rfl rfl ?_
        refine g_iload_n dX1_isLike_48 rfl rfl ?_
        refine g_ialdN (v := nI _) dX1_isLike_49 rfl 1 rfl (by omega) (by decide) (rfl) ?_
        refine g_aload_n dX1_isLike_50 rfl rfl ?_
        refine g_get f_X1_9 dX1_isLike_51 rfl 2 rfl rfl ?_
        refine g_iload_n dX1_isLike_54 rfl rfl ?_
        refine g_ialdN (v := nI _) dX1_isLike_55 rfl 3 rfl (by omega) (by decide) (rfl) ?_
        have hb := hsl i (by omega)
        have hb2 := hsl2 i (by omega)
        refine g_icmp_eqN (t := 61) dX1_isLike_56 (by decide) rfl (by omega) (by omega) (fun h56 => ?_) (fun h56 => ?_)
        · skip
          refine g_iinc dX1_isLike_61 rfl rfl (nI_1 _) (by decide) rfl rfl ?_
          refine g_goto (q := 26) dX1_isLike_64 (by decide) ?_
          exact ih (i + 1) (by omega) (by rw [eqR, decide_eq_true h56, Bool.true_and] at hΨ; exact hΨ)
        · skip
          refine g_iconst (v := nI 0) dX1_isLike_59 rfl (by decide) ?_
          exact g_zret (b := false) dX1_isLike_60 rfl (Nat.le_refl _) (Nat.le_refl _) (by rw [eqR, decide_eq_false h56] at hΨ; exact hΨ)
set_option maxRecDepth 20000 in
theorem c_X1_isLike (sk : Nat → Nat) {hp hs hq ht : Nat} {g o sd g2 o2 sd2 : Int32} {sl sl2 : Nat → Nat} (hsl : ∀ j, j < 30 → sl j ≤ 99) (hsl2 : ∀ j, j < 30 → sl2 j ≤ 99) : Ct sk yX1_isLike cX1_isLike 3 (some .boolean) 0 0 0 [oPole hp hs g o sd, cI hs 30 (fI sl), oPole hq ht g2 o2 sd2, cI ht 30 (fI sl2)] [.ref hp, .ref hq] (zD (some (.int (zb (likeB g o g2 o2 sl sl2)))) [oPole hp hs g o sd, cI hs 30 (fI sl), oPole hq ht g2 o2 sd2, cI ht 30 (fI sl2)]) := by
  refine Ct.of (own := RX1) (l := [some (.ref hp), some (.ref hq), none]) (by decide) rfl (Nat.le_of_ble_eq_true rfl) rfl ?_
  refine g_aload_n dX1_isLike_0 rfl rfl ?_
  refine g_get f_X1_19 dX1_isLike_1 rfl 0 rfl rfl ?_
  refine g_aload_n dX1_isLike_4 rfl rfl ?_
  refine g_get f_X1_19 dX1_isLike_5 rfl 2 rfl rfl ?_
  refine g_icmp_ne (t := 22) dX1_isLike_8 (by decide) rfl (fun h8 => ?_) (fun h8 => ?_)
  · skip
    refine g_iconst (v := nI 0) dX1_isLike_22 rfl (by decide) ?_
    exact g_zret (b := false) dX1_isLike_23 rfl (Nat.le_refl _) (Nat.le_refl _) (⟨by rw [likeB, decide_eq_false h8]; rfl, rfl⟩)
  · skip
    refine g_aload_n dX1_isLike_11 rfl rfl ?_
    refine g_get f_X1_15 dX1_isLike_12 rfl 0 rfl rfl ?_
    refine g_aload_n dX1_isLike_15 rfl rfl ?_
    refine g_get f_X1_15 dX1_isLike_16 rfl 2 rfl rfl ?_
    refine g_icmp_eq (t := 24) dX1_isLike_19 (by decide) rfl (fun h19 => ?_) (fun h19 => ?_)
    · skip
      refine g_iconst (v := nI 0) dX1_isLike_24 rfl (by decide) ?_
      refine g_istore_n dX1_isLike_25 rfl (by decide) rfl rfl ?_
      exact lp_X1_isLike sk hsl hsl2 30 0 (by omega) ⟨by rw [likeB, decide_eq_true h8, decide_eq_true h19, Bool.true_and, Bool.true_and], rfl⟩
    · skip
      refine g_iconst (v := nI 0) dX1_isLike_22 rfl (by decide) ?_
      exact g_zret (b := false) dX1_isLike_23 rfl (Nat.le_refl _) (Nat.le_refl _) (⟨by rw [likeB, decide_eq_false h19, Bool.false_and, Bool.and_false], rfl⟩)
set_option maxRecDepth 20000 in
theorem lp_X1_mayReach (sk : Nat → Nat) {hp hs hl ls hw ha hr F wv less A : Nat} {g o sd C V E N S x2 : Int32} {sl : Nat → Nat} {fw fa : Nat → Int32} {Ψ : PS} (hF : F ≤ 30) (hsl : ∀ j, j < 30 → sl j ≤ 99) (hwv : wv ≤ 99) (hA : A ≤ 999) (hless : less ≤ 1000) : ∀ (n i u : Nat), i + n = F → u ≤ 30 + 200 * i → Ψ (some (.int (zb (decide (u + lessR wv less sl n i ≤ A))))) [oPole hp hs g o sd, cI hs 30 (fI sl), oPlan hl ls hw ha hr (nI F) C V E N S, cI hw 6 fw, cI ha 6 fa] → GG sk RX1 yX1_mayReach cX1_mayReach 7 (some .boolean) 1 0 0 Ψ 0 0 22 [some (.ref hp), some (.ref hl), some (.int x2), some (.int (nI less)), some (.int (nI wv)), some (.int (nI A - nI u)), some (.int (nI i))] [] [oPole hp hs g o sd, cI hs 30 (fI sl), oPlan hl ls hw ha hr (nI F) C V E N S, cI hw 6 fw, cI ha 6 fa] := by
  intro n
  induction n with
  | zero =>
    intro i u hi hu hΨ
    rw [lessR] at hΨ
    refine g_iload dX1_mayReach_22 rfl rfl ?_
    refine g_aload_n dX1_mayReach_24 rfl rfl ?_
    refine g_get f_X1_48 dX1_mayReach_25 rfl 2 rfl rfl ?_
    refine g_icmp_geN (t := 76) dX1_mayReach_28 (by decide) rfl (by omega) (by omega) (fun h28 => ?_) (fun h28 => ?_)
    · skip
      refine g_iload dX1_mayReach_76 rfl rfl ?_
      refine g_if_lt (t := 85) dX1_mayReach_78 (by decide) rfl (fun h78 => ?_) (fun h78 => ?_)
      · skip
        refine g_iconst (v := nI 0) dX1_mayReach_85 rfl (by decide) ?_
        exact g_zret (b := false) dX1_mayReach_86 rfl (Nat.le_refl _) (Nat.le_refl _) (by rw [decide_eq_false (by have := (zsub_lt (by omega) (by omega)).mp h78; omega)] at hΨ; exact hΨ)
      · skip
        refine g_iconst (v := nI 1) dX1_mayReach_81 rfl (by decide) ?_
        refine g_goto (q := 86) dX1_mayReach_82 (by decide) ?_
        exact g_zret (b := true) dX1_mayReach_86 rfl (Nat.le_refl _) (Nat.le_refl _) (by rw [decide_eq_true (by have := Nat.not_lt.mp (fun z => h78 ((zsub_lt (by omega) (by omega)).mpr z)); omega)] at hΨ; exact hΨ)
    · exact absurd h28 (by omega)
  | succ n ih =>
    intro i u hi hu hΨ
    rw [lessR] at hΨ
    refine g_iload dX1_mayReach_22 rfl rfl ?_
    refine g_aload_n dX1_mayReach_24 rfl rfl ?_
    refine g_get f_X1_48 dX1_mayReach_25 rfl 2 rfl rfl ?_
    refine g_icmp_geN (t := 76) dX1_mayReach_28 (by decide) rfl (by omega) (by omega) (fun h28 => ?_) (fun h28 => ?_)
    · exact absurd h28 (by omega)
    · skip
      refine g_iload dX1_mayReach_31 rfl rfl ?_
      refine g_aload_n dX1_mayReach_33 rfl rfl ?_
      refine g_get f_X1_9 dX1_mayReach_34 rfl 0 rfl rfl ?_
      refine g_alen dX1_mayReach_37 rfl 1 rfl (Nat.le_of_ble_eq_true rfl) rfl ?_
      refine g_icmp_geN (t := 76) dX1_mayReach_38 (by decide) rfl (by omega) (by omega) (fun h38 => ?_) (fun h38 => ?_)
      · exact absurd h38 (by omega)
      · skip
        refine g_iload dX1_mayReach_41 rfl rfl ?_
        refine g_if_lt (t := 76) dX1_mayReach_43 (by decide) rfl (fun h43 => ?_) (fun h43 => ?_)
        · skip
          refine g_iload dX1_mayReach_76 rfl rfl ?_
          refine g_if_lt (t := 85) dX1_mayReach_78 (by decide) rfl (fun h78 => ?_) (fun h78 => ?_)
          · skip
            refine g_iconst (v := nI 0) dX1_mayReach_85 rfl (by decide) ?_
            exact g_zret (b := false) dX1_mayReach_86 rfl (Nat.le_refl _) (Nat.le_refl _) (by rw [decide_eq_false (by have := (zsub_lt (by omega) (by omega)).mp h78; omega)] at hΨ; exact hΨ)
          · skip
            refine g_iconst (v := nI 1) dX1_mayReach_81 rfl (by decide) ?_
            refine g_goto (q := 86) dX1_mayReach_82 (by decide) ?_
            exact g_zret (b := true) dX1_mayReach_86 rfl (Nat.le_refl _) (Nat.le_refl _) (by rw [decide_eq_true (by have := Nat.not_lt.mp (fun z => h78 ((zsub_lt (by omega) (by omega)).mpr z)); exact absurd h43 h78)] at hΨ; exact hΨ)
        · have hb := hsl i (by omega)
          have hm : (sl i - less) * wv ≤ 9801 := Nat.le_trans (Nat.mul_le_mul (show sl i - less ≤ 99 by omega) hwv) (by decide)
          refine g_iload dX1_mayReach_46 rfl rfl ?_
          refine g_iconst (v := nI 0) dX1_mayReach_48 rfl (by decide) ?_
          refine g_aload_n dX1_mayReach_49 rfl rfl ?_
          refine g_get f_X1_9 dX1_mayReach_50 rfl 0 rfl rfl ?_
          refine g_iload dX1_mayReach_53 rfl rfl ?_
          refine g_ialdN (v := nI _) dX1_mayReach_55 rfl 1 rfl (by omega) (by decide) (rfl) ?_
          refine g_iload_n dX1_mayReach_56 rfl rfl ?_
          refine g_isub dX1_mayReach_57 rfl rfl ?_
          refine g_max m_X1_32 dX1_mayReach_58 rfl (by decide) (Nat.le_refl _) (Nat.le_refl _) (Nat.le_of_ble_eq_true rfl) (zmaxsub (by omega) (by omega)) ?_
          refine g_iload dX1_mayReach_61 rfl rfl ?_
          refine g_imul dX1_mayReach_63 rfl (pk_mul _ _) ?_
          refine g_bipush (v := nI 50) dX1_mayReach_64 rfl (by decide) ?_
          refine g_idiv dX1_mayReach_66 rfl (by decide) (pk_div (by omega) (by omega) (by omega)) ?_
          refine g_isub (v := nI A - nI (u + (sl i - less) * wv / 50)) dX1_mayReach_67 rfl (by rw [sub_sub32, nI_add]) ?_
          refine g_istore dX1_mayReach_68 rfl (by decide) rfl rfl ?_
          refine g_iinc dX1_mayReach_70 rfl rfl (nI_1 _) (by decide) rfl rfl ?_
          refine g_goto (q := 22) dX1_mayReach_73 (by decide) ?_
          exact ih (i + 1) (u + (sl i - less) * wv / 50) (by omega) (by omega) (by rw [Nat.add_assoc]; exact hΨ)
set_option maxRecDepth 20000 in
theorem c_X1_mayReach (sk : Nat → Nat) {hp hs hl ls hw ha hr F c less : Nat} {g o sd C V E N S : Int32} {sl w a : Nat → Nat} (hF : F ≤ 30) (hc : c < 6) (hsl : ∀ j, j < 30 → sl j ≤ 99) (hwv : w c ≤ 99) (hav : a c ≤ 999) (hless : less ≤ 1000) : Ct sk yX1_mayReach cX1_mayReach 7 (some .boolean) 1 0 0 [oPole hp hs g o sd, cI hs 30 (fI sl), oPlan hl ls hw ha hr (nI F) C V E N S, cI hw 6 (fI w), cI ha 6 (fI a)] [.ref hp, .ref hl, .int (nI c), .int (nI less)] (zD (some (.int (zb (decide (F + lessR (w c) less sl F 0 ≤ a c))))) [oPole hp hs g o sd, cI hs 30 (fI sl), oPlan hl ls hw ha hr (nI F) C V E N S, cI hw 6 (fI w), cI ha 6 (fI a)]) := by
  refine Ct.of (own := RX1) (l := [some (.ref hp), some (.ref hl), some (.int (nI c)), some (.int (nI less)), none, none, none]) (by decide) rfl (Nat.le_of_ble_eq_true rfl) rfl ?_
  refine g_aload_n dX1_mayReach_0 rfl rfl ?_
  refine g_iload_n dX1_mayReach_1 rfl rfl ?_
  refine g_callV (c_X0_weightOf sk hc) m_X1_41 a_X0_weightOf dX1_mayReach_2 rfl [2, 3] rfl rfl 0 rfl rfl rfl (by decide) (by decide) (by decide) (by decide) (Nat.le_of_ble_eq_true rfl) (fun r w hK => ?_)
  obtain ⟨rfl, rfl⟩ := hK
  refine ⟨rfl, ?_⟩
  dsimp only [puts, List.set, Option.toList, List.cons_append, List.nil_append, List.append_nil]
  refine g_istore dX1_mayReach_5 rfl (by decide) rfl rfl ?_
  refine g_aload_n dX1_mayReach_7 rfl rfl ?_
  refine g_iload_n dX1_mayReach_8 rfl rfl ?_
  refine g_callV (c_X0_armsOf sk hc) m_X1_45 a_X0_armsOf dX1_mayReach_9 rfl [2, 4] rfl rfl 0 rfl rfl rfl (by decide) (by decide) (by decide) (by decide) (Nat.le_of_ble_eq_true rfl) (fun r w hK => ?_)
  obtain ⟨rfl, rfl⟩ := hK
  refine ⟨rfl, ?_⟩
  dsimp only [puts, List.set, Option.toList, List.cons_append, List.nil_append, List.append_nil]
  refine g_aload_n dX1_mayReach_12 rfl rfl ?_
  refine g_get f_X1_48 dX1_mayReach_13 rfl 2 rfl rfl ?_
  refine g_isub dX1_mayReach_16 rfl rfl ?_
  refine g_istore dX1_mayReach_17 rfl (by decide) rfl rfl ?_
  refine g_iconst (v := nI 0) dX1_mayReach_19 rfl (by decide) ?_
  refine g_istore dX1_mayReach_20 rfl (by decide) rfl rfl ?_
  exact lp_X1_mayReach sk hF hsl hwv hav hless F 0 F (by omega) (by omega) ⟨rfl, rfl⟩
set_option maxRecDepth 20000 in
theorem c_X1_draw (sk : Nat → Nat) {hp hs C : Nat} {g o sd : Int32} (hC : C ≤ 6) (hC1 : 1 ≤ C) : Ct sk yX1_draw cX1_draw 2 (some .int) 0 0 0 [oPole hp hs g o sd] [.ref hp, .int (nI C)] (zD (some (.int (pkI (nxI sd) C))) [oPole hp hs g o (nxI sd)]) := by
  refine Ct.of (own := RX1) (l := [some (.ref hp), some (.int (nI C))]) (by decide) rfl (Nat.le_of_ble_eq_true rfl) rfl ?_
  refine g_aload_n dX1_draw_0 rfl rfl ?_
  refine g_aload_n dX1_draw_1 rfl rfl ?_
  refine g_get f_X1_22 dX1_draw_2 rfl 0 rfl rfl ?_
  refine g_ldc dX1_draw_5 rfl k_X1_75 ?_
  refine g_imul dX1_draw_7 rfl rfl ?_
  refine g_sipush (v := nI 12345) dX1_draw_8 rfl (by decide) ?_
  refine g_iadd dX1_draw_11 rfl rfl ?_
  refine g_ldc dX1_draw_12 rfl k_X1_76 ?_
  refine g_iand dX1_draw_14 rfl rfl ?_
  refine g_putI f_X1_22 dX1_draw_15 rfl 0 rfl (Nat.le_of_ble_eq_true rfl) rfl ?_
  dsimp only [List.set]
  refine g_iload_n dX1_draw_18 rfl rfl ?_
  refine g_if_le (t := 34) dX1_draw_19 (by decide) rfl (fun h19 => ?_) (fun h19 => ?_)
  · exact absurd h19 (nI_nle (by omega) (by omega))
  · skip
    refine g_aload_n dX1_draw_22 rfl rfl ?_
    refine g_get f_X1_22 dX1_draw_23 rfl 0 rfl rfl ?_
    refine g_ldc dX1_draw_26 rfl k_X1_77 ?_
    refine g_idiv dX1_draw_28 rfl (by decide) rfl ?_
    refine g_iload_n dX1_draw_29 rfl rfl ?_
    refine g_irem dX1_draw_30 rfl (nI_ne0 (by omega) (by omega)) rfl ?_
    refine g_goto (q := 35) dX1_draw_31 (by decide) ?_
    exact g_iret dX1_draw_35 rfl (Nat.le_refl _) (Nat.le_refl _) (⟨rfl, rfl⟩)
theorem maxR_le {r : Nat → Nat} {C : Nat} (h : ∀ c, c < C → r c ≤ 20) : ∀ n, n ≤ C → maxR r n ≤ 20
  | 0, _ => Nat.zero_le _
  | n + 1, hn => by have h1 := maxR_le h n (by omega); have h2 := h n (by omega); rw [maxR]; omega
set_option maxRecDepth 20000 in
theorem lp_X0_mostRub (sk : Nat → Nat) {hl ls hw ha hr C : Nat} {F V E N S : Int32} {r : Nat → Nat} {Ψ : PS} (hC : C ≤ 6) (hr20 : ∀ c, c < C → r c ≤ 20) (hΨ : Ψ (some (.int (nI (maxR r C)))) [oPlan hl ls hw ha hr F (nI C) V E N S, cI hr 6 (fI r)]) : ∀ (n i : Nat), i + n = C → GG sk RX0 yX0_mostRub cX0_mostRub 3 (some .int) 1 0 0 Ψ 0 0 4 [some (.ref hl), some (.int (nI (maxR r i))), some (.int (nI i))] [] [oPlan hl ls hw ha hr F (nI C) V E N S, cI hr 6 (fI r)] := by
  intro n
  induction n with
  | zero =>
    intro i hi
    obtain rfl : i = C := by omega
    refine g_iload_n dX0_mostRub_4 rfl rfl ?_
    refine g_aload_n dX0_mostRub_5 rfl rfl ?_
    refine g_get f_X0_31 dX0_mostRub_6 rfl 0 rfl rfl ?_
    refine g_icmp_geN (t := 38) dX0_mostRub_9 (by decide) rfl (by omega) (by omega) (fun h9 => ?_) (fun h9 => ?_)
    · skip
      refine g_iload_n dX0_mostRub_38 rfl rfl ?_
      exact g_iret dX0_mostRub_39 rfl (Nat.le_refl _) (Nat.le_refl _) (hΨ)
    · exact absurd h9 (by omega)
  | succ n ih =>
    intro i hi
    have hb := hr20 i (by omega)
    have hb2 := maxR_le hr20 i (by omega)
    refine g_iload_n dX0_mostRub_4 rfl rfl ?_
    refine g_aload_n dX0_mostRub_5 rfl rfl ?_
    refine g_get f_X0_31 dX0_mostRub_6 rfl 0 rfl rfl ?_
    refine g_icmp_geN (t := 38) dX0_mostRub_9 (by decide) rfl (by omega) (by omega) (fun h9 => ?_) (fun h9 => ?_)
    · exact absurd h9 (by omega)
    · skip
      refine g_iload_n dX0_mostRub_12 rfl rfl ?_
      refine g_aload_n dX0_mostRub_13 rfl rfl ?_
      refine g_get f_X0_21 dX0_mostRub_14 rfl 0 rfl rfl ?_
      refine g_alen dX0_mostRub_17 rfl 1 rfl (Nat.le_of_ble_eq_true rfl) rfl ?_
      refine g_icmp_geN (t := 38) dX0_mostRub_18 (by decide) rfl (by omega) (by omega) (fun h18 => ?_) (fun h18 => ?_)
      · exact absurd h18 (by omega)
      · skip
        refine g_iload_n dX0_mostRub_21 rfl rfl ?_
        refine g_aload_n dX0_mostRub_22 rfl rfl ?_
        refine g_get f_X0_21 dX0_mostRub_23 rfl 0 rfl rfl ?_
        refine g_iload_n dX0_mostRub_26 rfl rfl ?_
        refine g_ialdN (v := nI _) dX0_mostRub_27 rfl 1 rfl (by omega) (by decide) (rfl) ?_
        refine g_max m_X0_50 dX0_mostRub_28 rfl (by decide) (Nat.le_refl _) (Nat.le_refl _) (Nat.le_of_ble_eq_true rfl) (zmaxN (by omega) (by omega)) ?_
        refine g_istore_n dX0_mostRub_31 rfl (by decide) rfl rfl ?_
        refine g_iinc dX0_mostRub_32 rfl rfl (nI_1 _) (by decide) rfl rfl ?_
        refine g_goto (q := 4) dX0_mostRub_35 (by decide) ?_
        exact ih (i + 1) (by omega)
set_option maxRecDepth 20000 in
theorem c_X0_mostRub (sk : Nat → Nat) {hl ls hw ha hr C : Nat} {F V E N S : Int32} {r : Nat → Nat} (hC : C ≤ 6) (hr20 : ∀ c, c < C → r c ≤ 20) : Ct sk yX0_mostRub cX0_mostRub 3 (some .int) 1 0 0 [oPlan hl ls hw ha hr F (nI C) V E N S, cI hr 6 (fI r)] [.ref hl] (zD (some (.int (nI (maxR r C)))) [oPlan hl ls hw ha hr F (nI C) V E N S, cI hr 6 (fI r)]) := by
  refine Ct.of (own := RX0) (l := [some (.ref hl), none, none]) (by decide) rfl (Nat.le_of_ble_eq_true rfl) rfl ?_
  refine g_iconst (v := nI 0) dX0_mostRub_0 rfl (by decide) ?_
  refine g_istore_n dX0_mostRub_1 rfl (by decide) rfl rfl ?_
  refine g_iconst (v := nI 0) dX0_mostRub_2 rfl (by decide) ?_
  refine g_istore_n dX0_mostRub_3 rfl (by decide) rfl rfl ?_
  exact lp_X0_mostRub sk hC hr20 ⟨rfl, rfl⟩ C 0 (by omega)
set_option maxRecDepth 20000 in
theorem c_X0_empty (sk : Nat → Nat) {hl ls hw ha hr : Nat} {F C V E N S : Int32}  : Ct sk yX0_empty cX0_empty 1 none 0 0 0 [oPlan hl ls hw ha hr F C V E N S] [.ref hl] (zD none [oPlan hl ls hw ha hr (nI 0) (nI 0) (nI 100) (nI 1) (nI 1) (nI 0)]) := by
  refine Ct.of (own := RX0) (l := [some (.ref hl)]) (by decide) rfl (Nat.le_of_ble_eq_true rfl) rfl ?_
  refine g_aload_n dX0_empty_0 rfl rfl ?_
  refine g_iconst (v := nI 0) dX0_empty_1 rfl (by decide) ?_
  refine g_putI f_X0_27 dX0_empty_2 rfl 0 rfl (Nat.le_of_ble_eq_true rfl) rfl ?_
  dsimp only [List.set]
  refine g_aload_n dX0_empty_5 rfl rfl ?_
  refine g_iconst (v := nI 0) dX0_empty_6 rfl (by decide) ?_
  refine g_putI f_X0_31 dX0_empty_7 rfl 0 rfl (Nat.le_of_ble_eq_true rfl) rfl ?_
  dsimp only [List.set]
  refine g_aload_n dX0_empty_10 rfl rfl ?_
  refine g_bipush (v := nI 100) dX0_empty_11 rfl (by decide) ?_
  refine g_putI f_X0_34 dX0_empty_13 rfl 0 rfl (Nat.le_of_ble_eq_true rfl) rfl ?_
  dsimp only [List.set]
  refine g_aload_n dX0_empty_16 rfl rfl ?_
  refine g_iconst (v := nI 1) dX0_empty_17 rfl (by decide) ?_
  refine g_putI f_X0_37 dX0_empty_18 rfl 0 rfl (Nat.le_of_ble_eq_true rfl) rfl ?_
  dsimp only [List.set]
  refine g_aload_n dX0_empty_21 rfl rfl ?_
  refine g_iconst (v := nI 1) dX0_empty_22 rfl (by decide) ?_
  refine g_putI f_X0_40 dX0_empty_23 rfl 0 rfl (Nat.le_of_ble_eq_true rfl) rfl ?_
  dsimp only [List.set]
  refine g_aload_n dX0_empty_26 rfl rfl ?_
  refine g_iconst (v := nI 0) dX0_empty_27 rfl (by decide) ?_
  refine g_putI f_X0_43 dX0_empty_28 rfl 0 rfl (Nat.le_of_ble_eq_true rfl) rfl ?_
  dsimp only [List.set]
  exact g_vret dX0_empty_31 rfl (Nat.le_refl _) (Nat.le_refl _) (⟨rfl, rfl⟩)
set_option maxRecDepth 20000 in
theorem c_X0_become (sk : Nat → Nat) {hl ls hw ha hr ql qs qw qa qr : Nat} {F C V E N S F2 C2 V2 E2 N2 S2 : Int32} {fs fw fa fr gs gw ga gr : Nat → Int32}  : Ct sk yX0_become cX0_become 2 none 3 0 0 [oPlan hl ls hw ha hr F C V E N S, cI ls 30 fs, cI hw 6 fw, cI ha 6 fa, cI hr 6 fr, oPlan ql qs qw qa qr F2 C2 V2 E2 N2 S2, cI qs 30 gs, cI qw 6 gw, cI qa 6 ga, cI qr 6 gr] [.ref hl, .ref ql] (zD none [oPlan hl ls hw ha hr F2 C2 V2 E2 N2 S2, cI ls 30 gs, cI hw 6 gw, cI ha 6 ga, cI hr 6 gr, oPlan ql qs qw qa qr F2 C2 V2 E2 N2 S2, cI qs 30 gs, cI qw 6 gw, cI qa 6 ga, cI qr 6 gr]) := by
  refine Ct.of (own := RX0) (l := [some (.ref hl), some (.ref ql)]) (by decide) rfl (Nat.le_of_ble_eq_true rfl) rfl ?_
  refine g_aload_n dX0_become_0 rfl rfl ?_
  refine g_aload_n dX0_become_1 rfl rfl ?_
  refine g_get f_X0_27 dX0_become_2 rfl 5 rfl rfl ?_
  refine g_putI f_X0_27 dX0_become_5 rfl 0 rfl (Nat.le_of_ble_eq_true rfl) rfl ?_
  dsimp only [List.set]
  refine g_aload_n dX0_become_8 rfl rfl ?_
  refine g_aload_n dX0_become_9 rfl rfl ?_
  refine g_get f_X0_31 dX0_become_10 rfl 5 rfl rfl ?_
  refine g_putI f_X0_31 dX0_become_13 rfl 0 rfl (Nat.le_of_ble_eq_true rfl) rfl ?_
  dsimp only [List.set]
  refine g_aload_n dX0_become_16 rfl rfl ?_
  refine g_aload_n dX0_become_17 rfl rfl ?_
  refine g_get f_X0_34 dX0_become_18 rfl 5 rfl rfl ?_
  refine g_putI f_X0_34 dX0_become_21 rfl 0 rfl (Nat.le_of_ble_eq_true rfl) rfl ?_
  dsimp only [List.set]
  refine g_aload_n dX0_become_24 rfl rfl ?_
  refine g_aload_n dX0_become_25 rfl rfl ?_
  refine g_get f_X0_37 dX0_become_26 rfl 5 rfl rfl ?_
  refine g_putI f_X0_37 dX0_become_29 rfl 0 rfl (Nat.le_of_ble_eq_true rfl) rfl ?_
  dsimp only [List.set]
  refine g_aload_n dX0_become_32 rfl rfl ?_
  refine g_aload_n dX0_become_33 rfl rfl ?_
  refine g_get f_X0_40 dX0_become_34 rfl 5 rfl rfl ?_
  refine g_putI f_X0_40 dX0_become_37 rfl 0 rfl (Nat.le_of_ble_eq_true rfl) rfl ?_
  dsimp only [List.set]
  refine g_aload_n dX0_become_40 rfl rfl ?_
  refine g_aload_n dX0_become_41 rfl rfl ?_
  refine g_get f_X0_43 dX0_become_42 rfl 5 rfl rfl ?_
  refine g_putI f_X0_43 dX0_become_45 rfl 0 rfl (Nat.le_of_ble_eq_true rfl) rfl ?_
  dsimp only [List.set]
  refine g_aload_n dX0_become_48 rfl rfl ?_
  refine g_get f_X0_9 dX0_become_49 rfl 5 rfl rfl ?_
  refine g_aload_n dX0_become_52 rfl rfl ?_
  refine g_get f_X0_9 dX0_become_53 rfl 0 rfl rfl ?_
  refine g_callN (c_X6_copyRow sk (by decide)) m_X0_46 a_X6_copyRow dX0_become_56 rfl [6, 1] rfl rfl rfl rfl (by decide) (by decide) (by decide) (by decide) (Nat.le_of_ble_eq_true rfl) (fun r w hK => ?_)
  obtain ⟨rfl, rfl⟩ := hK
  refine ⟨rfl, ?_⟩
  dsimp only [puts, List.set, Option.toList, List.cons_append, List.nil_append, List.append_nil]
  refine g_aload_n dX0_become_59 rfl rfl ?_
  refine g_get f_X0_15 dX0_become_60 rfl 5 rfl rfl ?_
  refine g_aload_n dX0_become_63 rfl rfl ?_
  refine g_get f_X0_15 dX0_become_64 rfl 0 rfl rfl ?_
  refine g_callN (c_X6_copyRow sk (by decide)) m_X0_46 a_X6_copyRow dX0_become_67 rfl [7, 2] rfl rfl rfl rfl (by decide) (by decide) (by decide) (by decide) (Nat.le_of_ble_eq_true rfl) (fun r w hK => ?_)
  obtain ⟨rfl, rfl⟩ := hK
  refine ⟨rfl, ?_⟩
  dsimp only [puts, List.set, Option.toList, List.cons_append, List.nil_append, List.append_nil]
  refine g_aload_n dX0_become_70 rfl rfl ?_
  refine g_get f_X0_18 dX0_become_71 rfl 5 rfl rfl ?_
  refine g_aload_n dX0_become_74 rfl rfl ?_
  refine g_get f_X0_18 dX0_become_75 rfl 0 rfl rfl ?_
  refine g_callN (c_X6_copyRow sk (by decide)) m_X0_46 a_X6_copyRow dX0_become_78 rfl [8, 3] rfl rfl rfl rfl (by decide) (by decide) (by decide) (by decide) (Nat.le_of_ble_eq_true rfl) (fun r w hK => ?_)
  obtain ⟨rfl, rfl⟩ := hK
  refine ⟨rfl, ?_⟩
  dsimp only [puts, List.set, Option.toList, List.cons_append, List.nil_append, List.append_nil]
  refine g_aload_n dX0_become_81 rfl rfl ?_
  refine g_get f_X0_21 dX0_become_82 rfl 5 rfl rfl ?_
  refine g_aload_n dX0_become_85 rfl rfl ?_
  refine g_get f_X0_21 dX0_become_86 rfl 0 rfl rfl ?_
  refine g_callN (c_X6_copyRow sk (by decide)) m_X0_46 a_X6_copyRow dX0_become_89 rfl [9, 4] rfl rfl rfl rfl (by decide) (by decide) (by decide) (by decide) (Nat.le_of_ble_eq_true rfl) (fun r w hK => ?_)
  obtain ⟨rfl, rfl⟩ := hK
  refine ⟨rfl, ?_⟩
  dsimp only [puts, List.set, Option.toList, List.cons_append, List.nil_append, List.append_nil]
  exact g_vret dX0_become_92 rfl (Nat.le_refl _) (Nat.le_refl _) (⟨rfl, rfl⟩)
theorem stF_upN {F v i : Nat} {f : Nat → Int32} (h : F ≤ i) : upd (stF F v i f) i (nI 0) = stF F v (i + 1) f := by rw [← stF_up, if_neg (Nat.not_lt.mpr h)]
theorem stF_upP {F v i : Nat} {f : Nat → Int32} (h : i < F) : upd (stF F v i f) i (nI v) = stF F v (i + 1) f := by rw [← stF_up, if_pos h]
set_option maxRecDepth 20000 in
theorem lp_X0_setFeet (sk : Nat → Nat) {hl ls hw ha hr m v : Nat} {C V E N S : Int32} {f : Nat → Int32} {Ψ : PS} (hm : m ≤ 30) (hv : v ≤ 99) (hΨ : Ψ none [oPlan hl ls hw ha hr (nI m) C V E N S, cI ls 30 (stF m v 30 f)]) : ∀ (n i : Nat), i + n = 30 → GG sk RX0 yX0_setFeet cX0_setFeet 4 none 0 0 0 Ψ 0 0 7 [some (.ref hl), some (.int (nI m)), some (.int (nI v)), some (.int (nI i))] [] [oPlan hl ls hw ha hr (nI m) C V E N S, cI ls 30 (stF m v i f)] := by
  intro n
  induction n with
  | zero =>
    intro i hi
    obtain rfl : i = 30 := by omega
    refine g_iload_n dX0_setFeet_7 rfl rfl ?_
    refine g_aload_n dX0_setFeet_8 rfl rfl ?_
    refine g_get f_X0_9 dX0_setFeet_9 rfl 0 rfl rfl ?_
    refine g_alen dX0_setFeet_12 rfl 1 rfl (Nat.le_of_ble_eq_true rfl) rfl ?_
    refine g_icmp_geN (t := 38) dX0_setFeet_13 (by decide) rfl (by omega) (by omega) (fun h13 => ?_) (fun h13 => ?_)
    · skip
      exact g_vret dX0_setFeet_38 rfl (Nat.le_refl _) (Nat.le_refl _) (hΨ)
    · exact absurd h13 (by omega)
  | succ n ih =>
    intro i hi
    refine g_iload_n dX0_setFeet_7 rfl rfl ?_
    refine g_aload_n dX0_setFeet_8 rfl rfl ?_
    refine g_get f_X0_9 dX0_setFeet_9 rfl 0 rfl rfl ?_
    refine g_alen dX0_setFeet_12 rfl 1 rfl (Nat.le_of_ble_eq_true rfl) rfl ?_
    refine g_icmp_geN (t := 38) dX0_setFeet_13 (by decide) rfl (by omega) (by omega) (fun h13 => ?_) (fun h13 => ?_)
    · exact absurd h13 (by omega)
    · skip
      refine g_aload_n dX0_setFeet_16 rfl rfl ?_
      refine g_get f_X0_9 dX0_setFeet_17 rfl 0 rfl rfl ?_
      refine g_iload_n dX0_setFeet_20 rfl rfl ?_
      refine g_iload_n dX0_setFeet_21 rfl rfl ?_
      refine g_iload_n dX0_setFeet_22 rfl rfl ?_
      refine g_icmp_geN (t := 30) dX0_setFeet_23 (by decide) rfl (by omega) (by omega) (fun h23 => ?_) (fun h23 => ?_)
      · skip
        refine g_iconst (v := nI 0) dX0_setFeet_30 rfl (by decide) ?_
        refine g_iastN dX0_setFeet_31 rfl 1 rfl (by omega) (by decide) (stF_upN h23) rfl ?_
        refine g_iinc dX0_setFeet_32 rfl rfl (nI_1 _) (by decide) rfl rfl ?_
        refine g_goto (q := 7) dX0_setFeet_35 (by decide) ?_
        exact ih (i + 1) (by omega)
      · skip
        refine g_iload_n dX0_setFeet_26 rfl rfl ?_
        refine g_goto (q := 31) dX0_setFeet_27 (by decide) ?_
        refine g_iastN dX0_setFeet_31 rfl 1 rfl (by omega) (by decide) (stF_upP h23) rfl ?_
        refine g_iinc dX0_setFeet_32 rfl rfl (nI_1 _) (by decide) rfl rfl ?_
        refine g_goto (q := 7) dX0_setFeet_35 (by decide) ?_
        exact ih (i + 1) (by omega)
set_option maxRecDepth 20000 in
theorem c_X0_setFeet (sk : Nat → Nat) {hl ls hw ha hr m v : Nat} {F C V E N S : Int32} {f : Nat → Int32} (hm : m ≤ 30) (hv : v ≤ 99) : Ct sk yX0_setFeet cX0_setFeet 4 none 0 0 0 [oPlan hl ls hw ha hr F C V E N S, cI ls 30 f] [.ref hl, .int (nI m), .int (nI v)] (zD none [oPlan hl ls hw ha hr (nI m) C V E N S, cI ls 30 (stF m v 30 f)]) := by
  refine Ct.of (own := RX0) (l := [some (.ref hl), some (.int (nI m)), some (.int (nI v)), none]) (by decide) rfl (Nat.le_of_ble_eq_true rfl) rfl ?_
  refine g_aload_n dX0_setFeet_0 rfl rfl ?_
  refine g_iload_n dX0_setFeet_1 rfl rfl ?_
  refine g_putI f_X0_27 dX0_setFeet_2 rfl 0 rfl (Nat.le_of_ble_eq_true rfl) rfl ?_
  dsimp only [List.set]
  refine g_iconst (v := nI 0) dX0_setFeet_5 rfl (by decide) ?_
  refine g_istore_n dX0_setFeet_6 rfl (by decide) rfl rfl ?_
  have h0 := lp_X0_setFeet sk (hl := hl) (ls := ls) (hw := hw) (ha := ha) (hr := hr) (C := C) (V := V) (E := E) (N := N) (S := S) (f := f) (Ψ := zD none [oPlan hl ls hw ha hr (nI m) C V E N S, cI ls 30 (stF m v 30 f)]) hm hv ⟨rfl, rfl⟩ 30 0 (by omega)
  rw [stF_0] at h0
  exact h0
set_option maxRecDepth 20000 in
theorem c_X0_setSlip (sk : Nat → Nat) {hl ls hw ha hr m v : Nat} {F C V E N S : Int32} {f : Nat → Int32} (hm : m < 30) : Ct sk yX0_setSlip cX0_setSlip 3 none 0 0 0 [oPlan hl ls hw ha hr F C V E N S, cI ls 30 f] [.ref hl, .int (nI m), .int (nI v)] (zD none [oPlan hl ls hw ha hr F C V E N S, cI ls 30 (upd f m (nI v))]) := by
  refine Ct.of (own := RX0) (l := [some (.ref hl), some (.int (nI m)), some (.int (nI v))]) (by decide) rfl (Nat.le_of_ble_eq_true rfl) rfl ?_
  refine g_iload_n dX0_setSlip_0 rfl rfl ?_
  refine g_if_lt (t := 20) dX0_setSlip_1 (by decide) rfl (fun h1 => ?_) (fun h1 => ?_)
  · exact absurd h1 (nI_nlt0 (by omega))
  · skip
    refine g_iload_n dX0_setSlip_4 rfl rfl ?_
    refine g_aload_n dX0_setSlip_5 rfl rfl ?_
    refine g_get f_X0_9 dX0_setSlip_6 rfl 0 rfl rfl ?_
    refine g_alen dX0_setSlip_9 rfl 1 rfl (Nat.le_of_ble_eq_true rfl) rfl ?_
    refine g_icmp_geN (t := 20) dX0_setSlip_10 (by decide) rfl (by omega) (by omega) (fun h10 => ?_) (fun h10 => ?_)
    · exact absurd h10 (by omega)
    · skip
      refine g_aload_n dX0_setSlip_13 rfl rfl ?_
      refine g_get f_X0_9 dX0_setSlip_14 rfl 0 rfl rfl ?_
      refine g_iload_n dX0_setSlip_17 rfl rfl ?_
      refine g_iload_n dX0_setSlip_18 rfl rfl ?_
      refine g_iastN dX0_setSlip_19 rfl 1 rfl (by omega) (by decide) (rfl) rfl ?_
      exact g_vret dX0_setSlip_20 rfl (Nat.le_refl _) (Nat.le_refl _) (⟨rfl, rfl⟩)
set_option maxRecDepth 20000 in
theorem c_X0_addClimber (sk : Nat → Nat) {hl ls hw ha hr c x1 x2 x3 : Nat} {F V E N S : Int32} {fw fa fr : Nat → Int32} (hc : c < 6) : Ct sk yX0_addClimber cX0_addClimber 5 none 0 0 0 [oPlan hl ls hw ha hr F (nI c) V E N S, cI hw 6 fw, cI ha 6 fa, cI hr 6 fr] [.ref hl, .int (nI x1), .int (nI x2), .int (nI x3)] (zD none [oPlan hl ls hw ha hr F (nI (c + 1)) V E N S, cI hw 6 (upd fw c (nI x1)), cI ha 6 (upd fa c (nI x2)), cI hr 6 (upd fr c (nI x3))]) := by
  refine Ct.of (own := RX0) (l := [some (.ref hl), some (.int (nI x1)), some (.int (nI x2)), some (.int (nI x3)), none]) (by decide) rfl (Nat.le_of_ble_eq_true rfl) rfl ?_
  refine g_aload_n dX0_addClimber_0 rfl rfl ?_
  refine g_get f_X0_31 dX0_addClimber_1 rfl 0 rfl rfl ?_
  refine g_istore dX0_addClimber_4 rfl (by decide) rfl rfl ?_
  refine g_iload dX0_addClimber_6 rfl rfl ?_
  refine g_if_lt (t := 73) dX0_addClimber_8 (by decide) rfl (fun h8 => ?_) (fun h8 => ?_)
  · exact absurd h8 (nI_nlt0 (by omega))
  · skip
    refine g_iload dX0_addClimber_11 rfl rfl ?_
    refine g_aload_n dX0_addClimber_13 rfl rfl ?_
    refine g_get f_X0_15 dX0_addClimber_14 rfl 0 rfl rfl ?_
    refine g_alen dX0_addClimber_17 rfl 1 rfl (Nat.le_of_ble_eq_true rfl) rfl ?_
    refine g_icmp_geN (t := 73) dX0_addClimber_18 (by decide) rfl (by omega) (by omega) (fun h18 => ?_) (fun h18 => ?_)
    · exact absurd h18 (by omega)
    · skip
      refine g_iload dX0_addClimber_21 rfl rfl ?_
      refine g_aload_n dX0_addClimber_23 rfl rfl ?_
      refine g_get f_X0_18 dX0_addClimber_24 rfl 0 rfl rfl ?_
      refine g_alen dX0_addClimber_27 rfl 2 rfl (Nat.le_of_ble_eq_true rfl) rfl ?_
      refine g_icmp_geN (t := 73) dX0_addClimber_28 (by decide) rfl (by omega) (by omega) (fun h28 => ?_) (fun h28 => ?_)
      · exact absurd h28 (by omega)
      · skip
        refine g_iload dX0_addClimber_31 rfl rfl ?_
        refine g_aload_n dX0_addClimber_33 rfl rfl ?_
        refine g_get f_X0_21 dX0_addClimber_34 rfl 0 rfl rfl ?_
        refine g_alen dX0_addClimber_37 rfl 3 rfl (Nat.le_of_ble_eq_true rfl) rfl ?_
        refine g_icmp_geN (t := 73) dX0_addClimber_38 (by decide) rfl (by omega) (by omega) (fun h38 => ?_) (fun h38 => ?_)
        · exact absurd h38 (by omega)
        · skip
          refine g_aload_n dX0_addClimber_41 rfl rfl ?_
          refine g_get f_X0_15 dX0_addClimber_42 rfl 0 rfl rfl ?_
          refine g_iload dX0_addClimber_45 rfl rfl ?_
          refine g_iload_n dX0_addClimber_47 rfl rfl ?_
          refine g_iastN dX0_addClimber_48 rfl 1 rfl (by omega) (by decide) (rfl) rfl ?_
          refine g_aload_n dX0_addClimber_49 rfl rfl ?_
          refine g_get f_X0_18 dX0_addClimber_50 rfl 0 rfl rfl ?_
          refine g_iload dX0_addClimber_53 rfl rfl ?_
          refine g_iload_n dX0_addClimber_55 rfl rfl ?_
          refine g_iastN dX0_addClimber_56 rfl 2 rfl (by omega) (by decide) (rfl) rfl ?_
          refine g_aload_n dX0_addClimber_57 rfl rfl ?_
          refine g_get f_X0_21 dX0_addClimber_58 rfl 0 rfl rfl ?_
          refine g_iload dX0_addClimber_61 rfl rfl ?_
          refine g_iload_n dX0_addClimber_63 rfl rfl ?_
          refine g_iastN dX0_addClimber_64 rfl 3 rfl (by omega) (by decide) (rfl) rfl ?_
          refine g_aload_n dX0_addClimber_65 rfl rfl ?_
          refine g_iload dX0_addClimber_66 rfl rfl ?_
          refine g_iconst (v := nI 1) dX0_addClimber_68 rfl (by decide) ?_
          refine g_iadd dX0_addClimber_69 rfl (nI_add _ _) ?_
          refine g_putI f_X0_31 dX0_addClimber_70 rfl 0 rfl (Nat.le_of_ble_eq_true rfl) rfl ?_
          dsimp only [List.set]
          exact g_vret dX0_addClimber_73 rfl (Nat.le_refl _) (Nat.le_refl _) (⟨rfl, rfl⟩)
end
section
/-! the picture of goes: a state is (slips, goes, who has the ham) -/
abbrev PSt : Type := (Nat → Nat) × Int32 × Int32
def SB (sl : Nat → Nat) : Prop := ∀ j, j < 30 → sl j ≤ 99
/-- the bounds of a pole as told: feet, climbers, the sun, weights, arms, rubs -/
def PB (F C N S : Nat) (w a r : Nat → Nat) : Prop := F ≤ 30 ∧ C ≤ 6 ∧ (1 ≤ C → 1 ≤ F) ∧ N ≤ 20 ∧ 1 ≤ N ∧ S ≤ 9 ∧ ∀ c, c < C → w c ≤ 99 ∧ a c ≤ 999 ∧ r c ≤ 20
def far1 (F : Nat) (w a : Nat → Nat) (sand : Bool) (s : PSt) (c : Nat) : Nat := goF F (w c) (a c) sand s.1
def go1 (F N S : Nat) (w a r : Nat → Nat) (sand : Bool) (s : PSt) (c : Nat) : PSt := (goS F N S (far1 F w a sand s c) (r c) s.1 (s.2.1 + nI 1), s.2.1 + nI 1, goH F (far1 F w a sand s c) s.2.2 c)
theorem go1_SB {F N S : Nat} {w a r : Nat → Nat} {sand : Bool} {s : PSt} {c : Nat} (h : SB s.1) : SB (go1 F N S w a r sand s c).1 := goS_le _ _ _ _ _ _ _ h
theorem far1_le (F : Nat) (w a : Nat → Nat) (sand : Bool) (s : PSt) (c : Nat) : far1 F w a sand s c ≤ F := goF_le _ _ _ _ _
abbrev oPoleS (h q : Nat) (s : PSt) (d : Int32) : Nat × AE := oPole h q s.2.1 s.2.2 d
/-- a go, in the picture -/
theorem c_climb (sk : Nat → Nat) {hp hs pl ps pw pa pr F C N S c : Nat} {sd V E : Int32} {s : PSt} {w a r : Nat → Nat} {sand : Bool} (hB : PB F C N S w a r) (hc : c < C) (hs0 : SB s.1) :
    Ct sk yX1_climb cX1_climb 6 (some .int) 2 0 0 [oPoleS hp hs s sd, cI hs 30 (fI s.1), oPlan pl ps pw pa pr (nI F) (nI C) V E (nI N) (nI S), cI pw 6 (fI w), cI pa 6 (fI a), cI pr 6 (fI r)] [.ref hp, .ref pl, .int (nI c), .int (zb sand)] (zD (some (.int (nI (far1 F w a sand s c)))) [oPoleS hp hs (go1 F N S w a r sand s c) sd, cI hs 30 (fI (go1 F N S w a r sand s c).1), oPlan pl ps pw pa pr (nI F) (nI C) V E (nI N) (nI S), cI pw 6 (fI w), cI pa 6 (fI a), cI pr 6 (fI r)]) :=
  c_X1_climb sk hB.1 (hB.2.2.1 (by omega)) hB.2.2.2.1 hB.2.2.2.2.1 hB.2.2.2.2.2.1 (by have := hB.2.1; omega) hs0 (hB.2.2.2.2.2.2 c hc).1 (hB.2.2.2.2.2.2 c hc).2.1 (hB.2.2.2.2.2.2 c hc).2.2
/-- THE LIST: the first go that is otherwise -/
def wrongR (F N S : Nat) (w a r who fr : Nat → Nat) (x : Int32) : Nat → Nat → PSt → Int32
  | 0, _, _ => -1
  | n + 1, i, t => if far1 F w a (decide (nI (who i) = x)) t (who i) = fr i then wrongR F N S w a r who fr x n (i + 1) (go1 F N S w a r (decide (nI (who i) = x)) t (who i)) else nI i
/-- the go of THE LIST by which the ham is had -/
def hasR (F N S : Nat) (w a r who : Nat → Nat) : Nat → Nat → PSt → Int32
  | 0, _, _ => -1
  | n + 1, i, t => if (go1 F N S w a r false t (who i)).2.2 = -1 then hasR F N S w a r who n (i + 1) (go1 F N S w a r false t (who i)) else nI i
def coat (v : Nat) (s : PSt) : PSt := (coS v s.1 30, s.2)
theorem coat_SB {v : Nat} {s : PSt} (hv : v ≤ 99) : SB (coat v s).1 := fun j hj => by
  show coS v s.1 30 j ≤ 99
  unfold coS
  rw [if_pos hj]
  exact hv
/-- the least slip by which it is go k -/
def leastR (F N S : Nat) (w a r who : Nat → Nat) (k : Nat) (s : PSt) : Nat → Nat → Int32
  | 0, _ => -1
  | n + 1, v => if hasR F N S w a r who (k + 1) 0 (coat v s) = nI k then nI v else leastR F N S w a r who k s n (v + 1)
end
section
/-! THE LIST of the class: Tale -/
set_option maxRecDepth 20000 in
theorem c_X5_empty (sk : Nat → Nat) {th tc tf tp : Nat} {x : Int32}  : Ct sk yX5_empty cX5_empty 1 none 0 0 0 [oTale th tc tf tp x] [.ref th] (zD none [oTale th tc tf tp (nI 0)]) := by
  refine Ct.of (own := RX5) (l := [some (.ref th)]) (by decide) rfl (Nat.le_of_ble_eq_true rfl) rfl ?_
  refine g_aload_n dX5_empty_0 rfl rfl ?_
  refine g_iconst (v := nI 0) dX5_empty_1 rfl (by decide) ?_
  refine g_putI f_X5_25 dX5_empty_2 rfl 0 rfl (Nat.le_of_ble_eq_true rfl) rfl ?_
  exact g_vret dX5_empty_5 rfl (Nat.le_refl _) (Nat.le_refl _) (⟨rfl, rfl⟩)
set_option maxRecDepth 20000 in
theorem c_X5_append (sk : Nat → Nat) {th tc tf tp n c f : Nat} {fc ff : Nat → Int32} (hn : n < 12) : Ct sk yX5_append cX5_append 4 (some .int) 0 0 0 [oTale th tc tf tp (nI n), cI tc 12 fc, cI tf 12 ff] [.ref th, .int (nI c), .int (nI f)] (zD (some (.int (nI (n + 1)))) [oTale th tc tf tp (nI (n + 1)), cI tc 12 (upd fc n (nI c)), cI tf 12 (upd ff n (nI f))]) := by
  refine Ct.of (own := RX5) (l := [some (.ref th), some (.int (nI c)), some (.int (nI f)), none]) (by decide) rfl (Nat.le_of_ble_eq_true rfl) rfl ?_
  refine g_aload_n dX5_append_0 rfl rfl ?_
  refine g_get f_X5_25 dX5_append_1 rfl 0 rfl rfl ?_
  refine g_istore_n dX5_append_4 rfl (by decide) rfl rfl ?_
  refine g_iload_n dX5_append_5 rfl rfl ?_
  refine g_if_lt (t := 27) dX5_append_6 (by decide) rfl (fun h6 => ?_) (fun h6 => ?_)
  · exact absurd h6 (nI_nlt0 (by omega))
  · skip
    refine g_iload_n dX5_append_9 rfl rfl ?_
    refine g_aload_n dX5_append_10 rfl rfl ?_
    refine g_get f_X5_9 dX5_append_11 rfl 0 rfl rfl ?_
    refine g_alen dX5_append_14 rfl 1 rfl (Nat.le_of_ble_eq_true rfl) rfl ?_
    refine g_icmp_geN (t := 27) dX5_append_15 (by decide) rfl (by omega) (by omega) (fun h15 => ?_) (fun h15 => ?_)
    · exact absurd h15 (by omega)
    · skip
      refine g_iload_n dX5_append_18 rfl rfl ?_
      refine g_aload_n dX5_append_19 rfl rfl ?_
      refine g_get f_X5_15 dX5_append_20 rfl 0 rfl rfl ?_
      refine g_alen dX5_append_23 rfl 2 rfl (Nat.le_of_ble_eq_true rfl) rfl ?_
      refine g_icmp_ltN (t := 30) dX5_append_24 (by decide) rfl (by omega) (by omega) (fun h24 => ?_) (fun h24 => ?_)
      · skip
        refine g_aload_n dX5_append_30 rfl rfl ?_
        refine g_get f_X5_9 dX5_append_31 rfl 0 rfl rfl ?_
        refine g_iload_n dX5_append_34 rfl rfl ?_
        refine g_iload_n dX5_append_35 rfl rfl ?_
        refine g_iastN dX5_append_36 rfl 1 rfl (by omega) (by decide) (rfl) rfl ?_
        refine g_aload_n dX5_append_37 rfl rfl ?_
        refine g_get f_X5_15 dX5_append_38 rfl 0 rfl rfl ?_
        refine g_iload_n dX5_append_41 rfl rfl ?_
        refine g_iload_n dX5_append_42 rfl rfl ?_
        refine g_iastN dX5_append_43 rfl 2 rfl (by omega) (by decide) (rfl) rfl ?_
        refine g_aload_n dX5_append_44 rfl rfl ?_
        refine g_iload_n dX5_append_45 rfl rfl ?_
        refine g_iconst (v := nI 1) dX5_append_46 rfl (by decide) ?_
        refine g_iadd dX5_append_47 rfl (nI_add _ _) ?_
        refine g_putI f_X5_25 dX5_append_48 rfl 0 rfl (Nat.le_of_ble_eq_true rfl) rfl ?_
        refine g_aload_n dX5_append_51 rfl rfl ?_
        refine g_get f_X5_25 dX5_append_52 rfl 0 rfl rfl ?_
        exact g_iret dX5_append_55 rfl (Nat.le_refl _) (Nat.le_refl _) (⟨rfl, rfl⟩)
      · exact absurd h24 (by omega)
set_option maxRecDepth 20000 in
theorem c_X5_appendF (sk : Nat → Nat) {th tc tf tp : Nat} {x y : Int32} {fc ff : Nat → Int32}  : Ct sk yX5_append cX5_append 4 (some .int) 0 0 0 [oTale th tc tf tp (nI 12), cI tc 12 fc, cI tf 12 ff] [.ref th, .int x, .int y] (zD (some (.int (-1000000004))) [oTale th tc tf tp (nI 12), cI tc 12 fc, cI tf 12 ff]) := by
  refine Ct.of (own := RX5) (l := [some (.ref th), some (.int x), some (.int y), none]) (by decide) rfl (Nat.le_of_ble_eq_true rfl) rfl ?_
  refine g_aload_n dX5_append_0 rfl rfl ?_
  refine g_get f_X5_25 dX5_append_1 rfl 0 rfl rfl ?_
  refine g_istore_n dX5_append_4 rfl (by decide) rfl rfl ?_
  refine g_iload_n dX5_append_5 rfl rfl ?_
  refine g_if_lt (t := 27) dX5_append_6 (by decide) rfl (fun h6 => ?_) (fun h6 => ?_)
  · exact absurd h6 (nI_nlt0 (by omega))
  · skip
    refine g_iload_n dX5_append_9 rfl rfl ?_
    refine g_aload_n dX5_append_10 rfl rfl ?_
    refine g_get f_X5_9 dX5_append_11 rfl 0 rfl rfl ?_
    refine g_alen dX5_append_14 rfl 1 rfl (Nat.le_of_ble_eq_true rfl) rfl ?_
    refine g_icmp_geN (t := 27) dX5_append_15 (by decide) rfl (by omega) (by omega) (fun h15 => ?_) (fun h15 => ?_)
    · skip
      refine g_ldc dX5_append_27 rfl k_X5_29 ?_
      exact g_iret dX5_append_29 rfl (Nat.le_refl _) (Nat.le_refl _) (⟨rfl, rfl⟩)
    · exact absurd h15 (by omega)
set_option maxRecDepth 20000 in
theorem c_X5_climberOf (sk : Nat → Nat) {th tc tf tp i : Nat} {x : Int32} {fc : Nat → Int32} (hi : i < 12) : Ct sk yX5_climberOf cX5_climberOf 2 (some .int) 0 0 0 [oTale th tc tf tp x, cI tc 12 fc] [.ref th, .int (nI i)] (zD (some (.int (fc i))) [oTale th tc tf tp x, cI tc 12 fc]) := by
  refine Ct.of (own := RX5) (l := [some (.ref th), some (.int (nI i))]) (by decide) rfl (Nat.le_of_ble_eq_true rfl) rfl ?_
  refine g_iload_n dX5_climberOf_0 rfl rfl ?_
  refine g_if_lt (t := 22) dX5_climberOf_1 (by decide) rfl (fun h1 => ?_) (fun h1 => ?_)
  · exact absurd h1 (nI_nlt0 (by omega))
  · skip
    refine g_iload_n dX5_climberOf_4 rfl rfl ?_
    refine g_aload_n dX5_climberOf_5 rfl rfl ?_
    refine g_get f_X5_9 dX5_climberOf_6 rfl 0 rfl rfl ?_
    refine g_alen dX5_climberOf_9 rfl 1 rfl (Nat.le_of_ble_eq_true rfl) rfl ?_
    refine g_icmp_geN (t := 22) dX5_climberOf_10 (by decide) rfl (by omega) (by omega) (fun h10 => ?_) (fun h10 => ?_)
    · exact absurd h10 (by omega)
    · skip
      refine g_aload_n dX5_climberOf_13 rfl rfl ?_
      refine g_get f_X5_9 dX5_climberOf_14 rfl 0 rfl rfl ?_
      refine g_iload_n dX5_climberOf_17 rfl rfl ?_
      refine g_ialdN dX5_climberOf_18 rfl 1 rfl (by omega) (by decide) (rfl) ?_
      refine g_goto (q := 23) dX5_climberOf_19 (by decide) ?_
      exact g_iret dX5_climberOf_23 rfl (Nat.le_refl _) (Nat.le_refl _) (⟨rfl, rfl⟩)
set_option maxRecDepth 20000 in
theorem lp_X5_firstOtherwise (sk : Nat → Nat) {th tc tf tp tq hp hs pl ps pw pa pr n F C N S : Nat} {sd V E x : Int32} {fc ff : Nat → Int32} {s : PSt} {w a r who fr : Nat → Nat} {v : Int32} (hB : PB F C N S w a r) (hn : n ≤ 12) (hwho : ∀ i, i < n → fc i = nI (who i) ∧ who i < C) (hfr : ∀ i, i < n → ff i = nI (fr i) ∧ fr i ≤ 30) : ∀ (m i : Nat) (t : PSt), i + m = n → SB t.1 → wrongR F N S w a r who fr x m i t = v → GG sk RX5 yX5_firstOtherwise cX5_firstOtherwise 6 (some .int) 4 0 0 (fun q w1 => q = some (.int v) ∧ ∃ (t : PSt) (z : Int32), w1 = [oTale th tc tf tp (nI n), cI tc 12 fc, cI tf 12 ff, oPoleS tp tq t z, cI tq 30 (fI t.1), oPoleS hp hs s sd, cI hs 30 (fI s.1), oPlan pl ps pw pa pr (nI F) (nI C) V E (nI N) (nI S), cI pw 6 (fI w), cI pa 6 (fI a), cI pr 6 (fI r)]) 0 0 11 [some (.ref th), some (.ref pl), some (.ref hp), some (.int x), some (.int (nI i)), none] [] [oTale th tc tf tp (nI n), cI tc 12 fc, cI tf 12 ff, oPoleS tp tq t sd, cI tq 30 (fI t.1), oPoleS hp hs s sd, cI hs 30 (fI s.1), oPlan pl ps pw pa pr (nI F) (nI C) V E (nI N) (nI S), cI pw 6 (fI w), cI pa 6 (fI a), cI pr 6 (fI r)] := by
  intro m
  induction m with
  | zero =>
    intro i t hi hst hΨ
    refine g_iload dX5_firstOtherwise_11 rfl rfl ?_
    refine g_aload_n dX5_firstOtherwise_13 rfl rfl ?_
    refine g_get f_X5_25 dX5_firstOtherwise_14 rfl 0 rfl rfl ?_
    refine g_icmp_geN (t := 78) dX5_firstOtherwise_17 (by decide) rfl (by omega) (by omega) (fun h17 => ?_) (fun h17 => ?_)
    · skip
      refine g_iconst (v := -1) dX5_firstOtherwise_78 rfl (by decide) ?_
      exact g_iret dX5_firstOtherwise_79 rfl (Nat.le_refl _) (Nat.le_refl _) (⟨by rw [← hΨ]; rfl, _, _, rfl⟩)
    · exact absurd h17 (by omega)
  | succ m ih =>
    intro i t hi hst hΨ
    rw [wrongR] at hΨ
    refine g_iload dX5_firstOtherwise_11 rfl rfl ?_
    refine g_aload_n dX5_firstOtherwise_13 rfl rfl ?_
    refine g_get f_X5_25 dX5_firstOtherwise_14 rfl 0 rfl rfl ?_
    refine g_icmp_geN (t := 78) dX5_firstOtherwise_17 (by decide) rfl (by omega) (by omega) (fun h17 => ?_) (fun h17 => ?_)
    · exact absurd h17 (by omega)
    · skip
      refine g_iload dX5_firstOtherwise_20 rfl rfl ?_
      refine g_aload_n dX5_firstOtherwise_22 rfl rfl ?_
      refine g_get f_X5_15 dX5_firstOtherwise_23 rfl 0 rfl rfl ?_
      refine g_alen dX5_firstOtherwise_26 rfl 2 rfl (Nat.le_of_ble_eq_true rfl) rfl ?_
      refine g_icmp_geN (t := 78) dX5_firstOtherwise_27 (by decide) rfl (by omega) (by omega) (fun h27 => ?_) (fun h27 => ?_)
      · exact absurd h27 (by omega)
      · skip
        refine g_aload_n dX5_firstOtherwise_30 rfl rfl ?_
        refine g_iload dX5_firstOtherwise_31 rfl rfl ?_
        refine g_callV (c_X5_climberOf sk (by omega)) m_X5_34 a_X5_climberOf dX5_firstOtherwise_33 rfl [0, 1] rfl rfl 0 rfl rfl rfl (by decide) (by decide) (by decide) (by decide) (Nat.le_of_ble_eq_true rfl) (fun r w hK => ?_)
        obtain ⟨rfl, rfl⟩ := hK
        refine ⟨rfl, ?_⟩
        dsimp only [puts, List.set, Option.toList, List.cons_append, List.nil_append, List.append_nil]
        rw [(hwho i (by omega)).1]
        refine g_istore dX5_firstOtherwise_36 rfl (by decide) rfl rfl ?_
        refine g_aload_n dX5_firstOtherwise_38 rfl rfl ?_
        refine g_get f_X5_21 dX5_firstOtherwise_39 rfl 0 rfl rfl ?_
        refine g_aload_n dX5_firstOtherwise_42 rfl rfl ?_
        refine g_iload dX5_firstOtherwise_43 rfl rfl ?_
        refine g_iload dX5_firstOtherwise_45 rfl rfl ?_
        refine g_iload_n dX5_firstOtherwise_47 rfl rfl ?_
        refine g_icmp_ne (t := 55) dX5_firstOtherwise_48 (by decide) rfl (fun h48 => ?_) (fun h48 => ?_)
        · have hd : decide (nI (who i) = x) = false := decide_eq_false h48
          rw [hd] at hΨ
          refine g_iconst (v := nI 0) dX5_firstOtherwise_55 rfl (by decide) ?_
          refine g_callV (c_climb sk (sand := false) hB (hwho i (by omega)).2 hst) m_X5_38 a_X1_climb dX5_firstOtherwise_56 rfl [3, 4, 7, 8, 9, 10] rfl rfl 0 rfl rfl rfl (by decide) (by decide) (by decide) (by decide) (Nat.le_of_ble_eq_true rfl) (fun r w hK => ?_)
          obtain ⟨rfl, rfl⟩ := hK
          refine ⟨rfl, ?_⟩
          dsimp only [puts, List.set, Option.toList, List.cons_append, List.nil_append, List.append_nil]
          refine g_aload_n dX5_firstOtherwise_59 rfl rfl ?_
          refine g_get f_X5_15 dX5_firstOtherwise_60 rfl 0 rfl rfl ?_
          refine g_iload dX5_firstOtherwise_63 rfl rfl ?_
          refine g_ialdN (v := nI (fr i)) dX5_firstOtherwise_65 rfl 2 rfl (by omega) (by decide) ((hfr i (by omega)).1) ?_
          have hl := far1_le F w a false t (who i)
          have hl2 := hB.1
          have hl3 := (hfr i (by omega)).2
          refine g_icmp_eqN (t := 72) dX5_firstOtherwise_66 (by decide) rfl (by omega) (by omega) (fun h66 => ?_) (fun h66 => ?_)
          · skip
            refine g_iinc dX5_firstOtherwise_72 rfl rfl (nI_1 _) (by decide) rfl rfl ?_
            refine g_goto (q := 11) dX5_firstOtherwise_75 (by decide) ?_
            refine g_drop 5 rfl ?_
            exact ih (i + 1) _ (by omega) (go1_SB hst) (by rw [if_pos h66] at hΨ; exact hΨ)
          · rw [if_neg h66] at hΨ
            refine g_iload dX5_firstOtherwise_69 rfl rfl ?_
            exact g_iret dX5_firstOtherwise_71 rfl (Nat.le_refl _) (Nat.le_refl _) (⟨by rw [hΨ], _, _, rfl⟩)
        · have hd : decide (nI (who i) = x) = true := decide_eq_true h48
          rw [hd] at hΨ
          refine g_iconst (v := nI 1) dX5_firstOtherwise_51 rfl (by decide) ?_
          refine g_goto (q := 56) dX5_firstOtherwise_52 (by decide) ?_
          refine g_callV (c_climb sk (sand := true) hB (hwho i (by omega)).2 hst) m_X5_38 a_X1_climb dX5_firstOtherwise_56 rfl [3, 4, 7, 8, 9, 10] rfl rfl 0 rfl rfl rfl (by decide) (by decide) (by decide) (by decide) (Nat.le_of_ble_eq_true rfl) (fun r w hK => ?_)
          obtain ⟨rfl, rfl⟩ := hK
          refine ⟨rfl, ?_⟩
          dsimp only [puts, List.set, Option.toList, List.cons_append, List.nil_append, List.append_nil]
          refine g_aload_n dX5_firstOtherwise_59 rfl rfl ?_
          refine g_get f_X5_15 dX5_firstOtherwise_60 rfl 0 rfl rfl ?_
          refine g_iload dX5_firstOtherwise_63 rfl rfl ?_
          refine g_ialdN (v := nI (fr i)) dX5_firstOtherwise_65 rfl 2 rfl (by omega) (by decide) ((hfr i (by omega)).1) ?_
          have hl := far1_le F w a true t (who i)
          have hl2 := hB.1
          have hl3 := (hfr i (by omega)).2
          refine g_icmp_eqN (t := 72) dX5_firstOtherwise_66 (by decide) rfl (by omega) (by omega) (fun h66 => ?_) (fun h66 => ?_)
          · skip
            refine g_iinc dX5_firstOtherwise_72 rfl rfl (nI_1 _) (by decide) rfl rfl ?_
            refine g_goto (q := 11) dX5_firstOtherwise_75 (by decide) ?_
            refine g_drop 5 rfl ?_
            exact ih (i + 1) _ (by omega) (go1_SB hst) (by rw [if_pos h66] at hΨ; exact hΨ)
          · rw [if_neg h66] at hΨ
            refine g_iload dX5_firstOtherwise_69 rfl rfl ?_
            exact g_iret dX5_firstOtherwise_71 rfl (Nat.le_refl _) (Nat.le_refl _) (⟨by rw [hΨ], _, _, rfl⟩)
set_option maxRecDepth 20000 in
theorem c_X5_firstOtherwise (sk : Nat → Nat) {th tc tf tp tq hp hs pl ps pw pa pr n F C N S : Nat} {sd V E x : Int32} {fc ff : Nat → Int32} {s : PSt} {w a r who fr : Nat → Nat} {g0 o0 d0 : Int32} {f0 : Nat → Int32} (hB : PB F C N S w a r) (hn : n ≤ 12) (hwho : ∀ i, i < n → fc i = nI (who i) ∧ who i < C) (hfr : ∀ i, i < n → ff i = nI (fr i) ∧ fr i ≤ 30) (hs0 : SB s.1) : Ct sk yX5_firstOtherwise cX5_firstOtherwise 6 (some .int) 4 0 0 [oTale th tc tf tp (nI n), cI tc 12 fc, cI tf 12 ff, oPole tp tq g0 o0 d0, cI tq 30 f0, oPoleS hp hs s sd, cI hs 30 (fI s.1), oPlan pl ps pw pa pr (nI F) (nI C) V E (nI N) (nI S), cI pw 6 (fI w), cI pa 6 (fI a), cI pr 6 (fI r)] [.ref th, .ref pl, .ref hp, .int x] (fun q w1 => q = some (.int (wrongR F N S w a r who fr x n 0 s)) ∧ ∃ (t : PSt) (z : Int32), w1 = [oTale th tc tf tp (nI n), cI tc 12 fc, cI tf 12 ff, oPoleS tp tq t z, cI tq 30 (fI t.1), oPoleS hp hs s sd, cI hs 30 (fI s.1), oPlan pl ps pw pa pr (nI F) (nI C) V E (nI N) (nI S), cI pw 6 (fI w), cI pa 6 (fI a), cI pr 6 (fI r)]) := by
  refine Ct.of (own := RX5) (l := [some (.ref th), some (.ref pl), some (.ref hp), some (.int x), none, none]) (by decide) rfl (Nat.le_of_ble_eq_true rfl) rfl ?_
  refine g_aload_n dX5_firstOtherwise_0 rfl rfl ?_
  refine g_get f_X5_21 dX5_firstOtherwise_1 rfl 0 rfl rfl ?_
  refine g_aload_n dX5_firstOtherwise_4 rfl rfl ?_
  refine g_callV (c_X1_become sk) m_X5_30 a_X1_become dX5_firstOtherwise_5 rfl [3, 4, 5, 6] rfl rfl 0 rfl rfl rfl (by decide) (by decide) (by decide) (by decide) (Nat.le_of_ble_eq_true rfl) (fun r w hK => ?_)
  obtain ⟨rfl, rfl⟩ := hK
  refine ⟨rfl, ?_⟩
  dsimp only [puts, List.set, Option.toList, List.cons_append, List.nil_append, List.append_nil]
  refine g_iconst (v := nI 0) dX5_firstOtherwise_8 rfl (by decide) ?_
  refine g_istore dX5_firstOtherwise_9 rfl (by decide) rfl rfl ?_
  exact lp_X5_firstOtherwise sk hB hn hwho hfr n 0 s (by omega) hs0 rfl
set_option maxRecDepth 20000 in
theorem lp_X5_goThatHasIt (sk : Nat → Nat) {th tc tf tp tq pl ps pw pa pr n k F C N S : Nat} {sd V E : Int32} {fc : Nat → Int32} {w a r who : Nat → Nat} {v : Int32} (hB : PB F C N S w a r) (hn : n ≤ 12) (hk : k < n) (hwho : ∀ i, i < n → fc i = nI (who i) ∧ who i < C) : ∀ (m i : Nat) (t : PSt), i + m = k + 1 → SB t.1 → hasR F N S w a r who m i t = v → GG sk RX5 yX5_goThatHasIt cX5_goThatHasIt 4 (some .int) 3 0 0 (fun q w1 => q = some (.int v) ∧ ∃ (t : PSt), w1 = [oTale th tc tf tp (nI n), cI tc 12 fc, oPoleS tp tq t sd, cI tq 30 (fI t.1), oPlan pl ps pw pa pr (nI F) (nI C) V E (nI N) (nI S), cI pw 6 (fI w), cI pa 6 (fI a), cI pr 6 (fI r)]) 0 0 2 [some (.ref th), some (.ref pl), some (.int (nI k)), some (.int (nI i))] [] [oTale th tc tf tp (nI n), cI tc 12 fc, oPoleS tp tq t sd, cI tq 30 (fI t.1), oPlan pl ps pw pa pr (nI F) (nI C) V E (nI N) (nI S), cI pw 6 (fI w), cI pa 6 (fI a), cI pr 6 (fI r)] := by
  intro m
  induction m with
  | zero =>
    intro i t hi hst hΨ
    refine g_iload_n dX5_goThatHasIt_2 rfl rfl ?_
    refine g_iload_n dX5_goThatHasIt_3 rfl rfl ?_
    refine g_icmp_gtN (t := 49) dX5_goThatHasIt_4 (by decide) rfl (by omega) (by omega) (fun h4 => ?_) (fun h4 => ?_)
    · skip
      refine g_iconst (v := -1) dX5_goThatHasIt_49 rfl (by decide) ?_
      exact g_iret dX5_goThatHasIt_50 rfl (Nat.le_refl _) (Nat.le_refl _) (⟨by rw [← hΨ]; rfl, _, rfl⟩)
    · exact absurd h4 (by omega)
  | succ m ih =>
    intro i t hi hst hΨ
    rw [hasR] at hΨ
    refine g_iload_n dX5_goThatHasIt_2 rfl rfl ?_
    refine g_iload_n dX5_goThatHasIt_3 rfl rfl ?_
    refine g_icmp_gtN (t := 49) dX5_goThatHasIt_4 (by decide) rfl (by omega) (by omega) (fun h4 => ?_) (fun h4 => ?_)
    · exact absurd h4 (by omega)
    · skip
      refine g_iload_n dX5_goThatHasIt_7 rfl rfl ?_
      refine g_aload_n dX5_goThatHasIt_8 rfl rfl ?_
      refine g_get f_X5_25 dX5_goThatHasIt_9 rfl 0 rfl rfl ?_
      refine g_icmp_geN (t := 49) dX5_goThatHasIt_12 (by decide) rfl (by omega) (by omega) (fun h12 => ?_) (fun h12 => ?_)
      · exact absurd h12 (by omega)
      · skip
        refine g_aload_n dX5_goThatHasIt_15 rfl rfl ?_
        refine g_get f_X5_21 dX5_goThatHasIt_16 rfl 0 rfl rfl ?_
        refine g_aload_n dX5_goThatHasIt_19 rfl rfl ?_
        refine g_aload_n dX5_goThatHasIt_20 rfl rfl ?_
        refine g_iload_n dX5_goThatHasIt_21 rfl rfl ?_
        refine g_callV (c_X5_climberOf sk (by omega)) m_X5_34 a_X5_climberOf dX5_goThatHasIt_22 rfl [0, 1] rfl rfl 0 rfl rfl rfl (by decide) (by decide) (by decide) (by decide) (Nat.le_of_ble_eq_true rfl) (fun r w hK => ?_)
        obtain ⟨rfl, rfl⟩ := hK
        refine ⟨rfl, ?_⟩
        dsimp only [puts, List.set, Option.toList, List.cons_append, List.nil_append, List.append_nil]
        rw [(hwho i (by omega)).1]
        refine g_iconst (v := nI 0) dX5_goThatHasIt_25 rfl (by decide) ?_
        refine g_callV (c_climb sk (sand := false) hB (hwho i (by omega)).2 hst) m_X5_38 a_X1_climb dX5_goThatHasIt_26 rfl [2, 3, 4, 5, 6, 7] rfl rfl 0 rfl rfl rfl (by decide) (by decide) (by decide) (by decide) (Nat.le_of_ble_eq_true rfl) (fun r w hK => ?_)
        obtain ⟨rfl, rfl⟩ := hK
        refine ⟨rfl, ?_⟩
        dsimp only [puts, List.set, Option.toList, List.cons_append, List.nil_append, List.append_nil]
        refine g_pop dX5_goThatHasIt_29 rfl rfl ?_
        refine g_aload_n dX5_goThatHasIt_30 rfl rfl ?_
        refine g_get f_X5_21 dX5_goThatHasIt_31 rfl 0 rfl rfl ?_
        refine g_get f_X5_42 dX5_goThatHasIt_34 rfl 2 rfl rfl ?_
        refine g_iconst (v := -1) dX5_goThatHasIt_37 rfl (by decide) ?_
        refine g_icmp_eq (t := 43) dX5_goThatHasIt_38 (by decide) rfl (fun h38 => ?_) (fun h38 => ?_)
        · skip
          refine g_iinc dX5_goThatHasIt_43 rfl rfl (nI_1 _) (by decide) rfl rfl ?_
          refine g_goto (q := 2) dX5_goThatHasIt_46 (by decide) ?_
          exact ih (i + 1) _ (by omega) (go1_SB hst) (by rw [if_pos h38] at hΨ; exact hΨ)
        · rw [if_neg h38] at hΨ
          refine g_iload_n dX5_goThatHasIt_41 rfl rfl ?_
          exact g_iret dX5_goThatHasIt_42 rfl (Nat.le_refl _) (Nat.le_refl _) (⟨by rw [← hΨ], _, rfl⟩)
set_option maxRecDepth 20000 in
theorem c_X5_goThatHasIt (sk : Nat → Nat) {th tc tf tp tq pl ps pw pa pr n k F C N S : Nat} {sd V E : Int32} {fc : Nat → Int32} {w a r who : Nat → Nat} {t : PSt} (hB : PB F C N S w a r) (hn : n ≤ 12) (hk : k < n) (hwho : ∀ i, i < n → fc i = nI (who i) ∧ who i < C) (hst : SB t.1) : Ct sk yX5_goThatHasIt cX5_goThatHasIt 4 (some .int) 3 0 0 [oTale th tc tf tp (nI n), cI tc 12 fc, oPoleS tp tq t sd, cI tq 30 (fI t.1), oPlan pl ps pw pa pr (nI F) (nI C) V E (nI N) (nI S), cI pw 6 (fI w), cI pa 6 (fI a), cI pr 6 (fI r)] [.ref th, .ref pl, .int (nI k)] (fun q w1 => q = some (.int (hasR F N S w a r who (k + 1) 0 t)) ∧ ∃ (t : PSt), w1 = [oTale th tc tf tp (nI n), cI tc 12 fc, oPoleS tp tq t sd, cI tq 30 (fI t.1), oPlan pl ps pw pa pr (nI F) (nI C) V E (nI N) (nI S), cI pw 6 (fI w), cI pa 6 (fI a), cI pr 6 (fI r)]) := by
  refine Ct.of (own := RX5) (l := [some (.ref th), some (.ref pl), some (.int (nI k)), none]) (by decide) rfl (Nat.le_of_ble_eq_true rfl) rfl ?_
  refine g_iconst (v := nI 0) dX5_goThatHasIt_0 rfl (by decide) ?_
  refine g_istore_n dX5_goThatHasIt_1 rfl (by decide) rfl rfl ?_
  exact lp_X5_goThatHasIt sk hB hn hk hwho (k + 1) 0 t (by omega) hst rfl
set_option maxRecDepth 20000 in
theorem lp_X5_leastSlipFor (sk : Nat → Nat) {th tc tf tp tq hp hs pl ps pw pa pr n k F C N S : Nat} {sd V E : Int32} {fc : Nat → Int32} {s : PSt} {w a r who : Nat → Nat} {v : Int32} (hB : PB F C N S w a r) (hn : n ≤ 12) (hs0 : SB s.1) (hwho : ∀ i, i < n → fc i = nI (who i) ∧ who i < C) (hk : k < n) : ∀ (m i : Nat) (g0 o0 d0 : Int32) (f0 : Nat → Int32), i + m = 100 → leastR F N S w a r who k s m i = v → GG sk RX5 yX5_leastSlipFor cX5_leastSlipFor 5 (some .int) 4 0 0 (fun q w1 => q = some (.int v) ∧ ∃ (g0 o0 d0 : Int32) (f0 : Nat → Int32), w1 = [oTale th tc tf tp (nI n), cI tc 12 fc, oPole tp tq g0 o0 d0, cI tq 30 f0, oPoleS hp hs s sd, cI hs 30 (fI s.1), oPlan pl ps pw pa pr (nI F) (nI C) V E (nI N) (nI S), cI pw 6 (fI w), cI pa 6 (fI a), cI pr 6 (fI r)]) 0 0 21 [some (.ref th), some (.ref pl), some (.ref hp), some (.int (nI k)), some (.int (nI i))] [] [oTale th tc tf tp (nI n), cI tc 12 fc, oPole tp tq g0 o0 d0, cI tq 30 f0, oPoleS hp hs s sd, cI hs 30 (fI s.1), oPlan pl ps pw pa pr (nI F) (nI C) V E (nI N) (nI S), cI pw 6 (fI w), cI pa 6 (fI a), cI pr 6 (fI r)] := by
  intro m
  induction m with
  | zero =>
    intro i g0 o0 d0 f0 hi hΨ
    refine g_iload dX5_leastSlipFor_21 rfl rfl ?_
    refine g_bipush (v := nI 99) dX5_leastSlipFor_23 rfl (by decide) ?_
    refine g_icmp_gtN (t := 64) dX5_leastSlipFor_25 (by decide) rfl (by omega) (by omega) (fun h25 => ?_) (fun h25 => ?_)
    · skip
      refine g_iconst (v := -1) dX5_leastSlipFor_64 rfl (by decide) ?_
      exact g_iret dX5_leastSlipFor_65 rfl (Nat.le_refl _) (Nat.le_refl _) (⟨by rw [← hΨ]; rfl, _, _, _, _, rfl⟩)
    · exact absurd h25 (by omega)
  | succ m ih =>
    intro i g0 o0 d0 f0 hi hΨ
    rw [leastR] at hΨ
    refine g_iload dX5_leastSlipFor_21 rfl rfl ?_
    refine g_bipush (v := nI 99) dX5_leastSlipFor_23 rfl (by decide) ?_
    refine g_icmp_gtN (t := 64) dX5_leastSlipFor_25 (by decide) rfl (by omega) (by omega) (fun h25 => ?_) (fun h25 => ?_)
    · exact absurd h25 (by omega)
    · skip
      refine g_aload_n dX5_leastSlipFor_28 rfl rfl ?_
      refine g_get f_X5_21 dX5_leastSlipFor_29 rfl 0 rfl rfl ?_
      refine g_aload_n dX5_leastSlipFor_32 rfl rfl ?_
      refine g_callV (c_X1_become sk) m_X5_30 a_X1_become dX5_leastSlipFor_33 rfl [2, 3, 4, 5] rfl rfl 0 rfl rfl rfl (by decide) (by decide) (by decide) (by decide) (Nat.le_of_ble_eq_true rfl) (fun r w hK => ?_)
      obtain ⟨rfl, rfl⟩ := hK
      refine ⟨rfl, ?_⟩
      dsimp only [puts, List.set, Option.toList, List.cons_append, List.nil_append, List.append_nil]
      refine g_aload_n dX5_leastSlipFor_36 rfl rfl ?_
      refine g_get f_X5_21 dX5_leastSlipFor_37 rfl 0 rfl rfl ?_
      refine g_iload dX5_leastSlipFor_40 rfl rfl ?_
      refine g_callV (c_X1_coat sk) m_X5_45 a_X1_coat dX5_leastSlipFor_42 rfl [2, 3] rfl rfl 0 rfl rfl rfl (by decide) (by decide) (by decide) (by decide) (Nat.le_of_ble_eq_true rfl) (fun r w hK => ?_)
      obtain ⟨rfl, rfl⟩ := hK
      refine ⟨rfl, ?_⟩
      dsimp only [puts, List.set, Option.toList, List.cons_append, List.nil_append, List.append_nil]
      refine g_aload_n dX5_leastSlipFor_45 rfl rfl ?_
      refine g_aload_n dX5_leastSlipFor_46 rfl rfl ?_
      refine g_iload_n dX5_leastSlipFor_47 rfl rfl ?_
      refine g_callV (c_X5_goThatHasIt sk (t := coat i s) hB hn hk hwho (coat_SB (by omega))) m_X5_49 a_X5_goThatHasIt dX5_leastSlipFor_48 rfl [0, 1, 2, 3, 6, 7, 8, 9] rfl rfl 0 rfl rfl rfl (by decide) (by decide) (by decide) (by decide) (Nat.le_of_ble_eq_true rfl) (fun r w hK => ?_)
      obtain ⟨rfl, t, rfl⟩ := hK
      refine ⟨rfl, ?_⟩
      dsimp only [puts, List.set, Option.toList, List.cons_append, List.nil_append, List.append_nil]
      refine g_iload_n dX5_leastSlipFor_51 rfl rfl ?_
      refine g_icmp_ne (t := 58) dX5_leastSlipFor_52 (by decide) rfl (fun h52 => ?_) (fun h52 => ?_)
      · skip
        refine g_iinc dX5_leastSlipFor_58 rfl rfl (nI_1 _) (by decide) rfl rfl ?_
        refine g_goto (q := 21) dX5_leastSlipFor_61 (by decide) ?_
        exact ih (i + 1) _ _ _ _ (by omega) (by rw [if_neg h52] at hΨ; exact hΨ)
      · rw [if_pos h52] at hΨ
        refine g_iload dX5_leastSlipFor_55 rfl rfl ?_
        exact g_iret dX5_leastSlipFor_57 rfl (Nat.le_refl _) (Nat.le_refl _) (⟨by rw [← hΨ], _, _, _, _, rfl⟩)
set_option maxRecDepth 20000 in
theorem c_X5_leastSlipFor (sk : Nat → Nat) {th tc tf tp tq hp hs pl ps pw pa pr n k F C N S : Nat} {sd V E : Int32} {fc : Nat → Int32} {s : PSt} {w a r who : Nat → Nat} {g0 o0 d0 : Int32} {f0 : Nat → Int32} (hB : PB F C N S w a r) (hn : n ≤ 12) (hs0 : SB s.1) (hwho : ∀ i, i < n → fc i = nI (who i) ∧ who i < C) (hk12 : k < 12) : Ct sk yX5_leastSlipFor cX5_leastSlipFor 5 (some .int) 4 0 0 [oTale th tc tf tp (nI n), cI tc 12 fc, oPole tp tq g0 o0 d0, cI tq 30 f0, oPoleS hp hs s sd, cI hs 30 (fI s.1), oPlan pl ps pw pa pr (nI F) (nI C) V E (nI N) (nI S), cI pw 6 (fI w), cI pa 6 (fI a), cI pr 6 (fI r)] [.ref th, .ref pl, .ref hp, .int (nI k)] (fun q w1 => q = some (.int (if k < n ∧ s.2.2 = -1 then leastR F N S w a r who k s 100 0 else -1)) ∧ ∃ (g0 o0 d0 : Int32) (f0 : Nat → Int32), w1 = [oTale th tc tf tp (nI n), cI tc 12 fc, oPole tp tq g0 o0 d0, cI tq 30 f0, oPoleS hp hs s sd, cI hs 30 (fI s.1), oPlan pl ps pw pa pr (nI F) (nI C) V E (nI N) (nI S), cI pw 6 (fI w), cI pa 6 (fI a), cI pr 6 (fI r)]) := by
  refine Ct.of (own := RX5) (l := [some (.ref th), some (.ref pl), some (.ref hp), some (.int (nI k)), none]) (by decide) rfl (Nat.le_of_ble_eq_true rfl) rfl ?_
  refine g_iload_n dX5_leastSlipFor_0 rfl rfl ?_
  refine g_aload_n dX5_leastSlipFor_1 rfl rfl ?_
  refine g_get f_X5_25 dX5_leastSlipFor_2 rfl 0 rfl rfl ?_
  refine g_icmp_geN (t := 16) dX5_leastSlipFor_5 (by decide) rfl (by omega) (by omega) (fun h5 => ?_) (fun h5 => ?_)
  · skip
    refine g_iconst (v := -1) dX5_leastSlipFor_16 rfl (by decide) ?_
    exact g_iret dX5_leastSlipFor_17 rfl (Nat.le_refl _) (Nat.le_refl _) (⟨by rw [if_neg (fun z => absurd z.1 (Nat.not_lt.mpr h5))], _, _, _, _, rfl⟩)
  · skip
    refine g_aload_n dX5_leastSlipFor_8 rfl rfl ?_
    refine g_get f_X5_42 dX5_leastSlipFor_9 rfl 4 rfl rfl ?_
    refine g_iconst (v := -1) dX5_leastSlipFor_12 rfl (by decide) ?_
    refine g_icmp_eq (t := 18) dX5_leastSlipFor_13 (by decide) rfl (fun h13 => ?_) (fun h13 => ?_)
    · skip
      refine g_iconst (v := nI 0) dX5_leastSlipFor_18 rfl (by decide) ?_
      refine g_istore dX5_leastSlipFor_19 rfl (by decide) rfl rfl ?_
      exact lp_X5_leastSlipFor sk hB hn hs0 hwho h5 100 0 _ _ _ _ (by omega) (by rw [if_pos ⟨h5, h13⟩])
    · skip
      refine g_iconst (v := -1) dX5_leastSlipFor_16 rfl (by decide) ?_
      exact g_iret dX5_leastSlipFor_17 rfl (Nat.le_refl _) (Nat.le_refl _) (⟨by rw [if_neg (fun z => h13 z.2)], _, _, _, _, rfl⟩)
end
section
/-! RESTS of the class -/
/-- the turn of climber k, where c tries turn tu -/
def hisI (ft : Nat → Int32) (c tu k : Nat) : Int32 := if k = c then nI tu else ft k
/-- the climbers from k on, n of them, at turn t: what c has of it, or how it is behind them -/
def gainK (F N S : Nat) (w a r : Nat → Nat) (V E : Int32) (ft : Nat → Int32) (c tu t : Nat) : Nat → Nat → PSt → Int32 ⊕ PSt
  | 0, _, s => .inr s
  | n + 1, k, s => if hisI ft c tu k = nI t then (if k = c then .inl ((if (go1 F N S w a r false s k).2.2 = nI c then V else nI 0) - E) else if (go1 F N S w a r false s k).2.2 = -1 then gainK F N S w a r V E ft c tu t n (k + 1) (go1 F N S w a r false s k) else .inl (nI 0)) else gainK F N S w a r V E ft c tu t n (k + 1) s
/-- the turns from t on, n of them -/
def gainT (F C N S : Nat) (w a r : Nat → Nat) (V E : Int32) (ft : Nat → Int32) (c tu : Nat) : Nat → Nat → PSt → Int32
  | 0, _, _ => nI 0
  | n + 1, t, s => match gainK F N S w a r V E ft c tu t C 0 s with
    | .inl v => v
    | .inr u => gainT F C N S w a r V E ft c tu n (t + 1) u
/-- the turn by which c has most, of turns below n, against b with gain g -/
def bestR (F C N S : Nat) (w a r : Nat → Nat) (V E : Int32) (ft : Nat → Int32) (c : Nat) (s : PSt) : Nat → Int32 → Int32 → Int32
  | 0, b, _ => b
  | n + 1, b, g => if g < gainT F C N S w a r V E ft c n (n + 1) 0 s then bestR F C N S w a r V E ft c s n (nI n) (gainT F C N S w a r V E ft c n (n + 1) 0 s) else bestR F C N S w a r V E ft c s n b g
/-- a round over n climbers from c on -/
def roundR (F C N S : Nat) (w a r : Nat → Nat) (V E : Int32) (s : PSt) : Nat → Nat → (Nat → Int32) → Bool → (Nat → Int32) × Bool
  | 0, _, ft, ch => (ft, ch)
  | n + 1, c, ft, ch => roundR F C N S w a r V E s n (c + 1) (upd ft c (bestR F C N S w a r V E ft c s 6 (-1) (nI 0))) (ch || decide (¬ bestR F C N S w a r V E ft c s 6 (-1) (nI 0) = ft c))
/-- so many rounds at the most -/
def findR (F C N S : Nat) (w a r : Nat → Nat) (V E : Int32) (s : PSt) : Nat → (Nat → Int32) → Nat → (Nat → Int32) × Nat
  | 0, ft, q => (ft, q)
  | m + 1, ft, q => match (roundR F C N S w a r V E s C 0 ft false).2 with
    | true => findR F C N S w a r V E s m (roundR F C N S w a r V E s C 0 ft false).1 (q + 1)
    | false => ((roundR F C N S w a r V E s C 0 ft false).1, q)
def restsR (F C N S : Nat) (w a r : Nat → Nat) (V E : Int32) (s : PSt) : (Nat → Int32) × Int32 := if s.2.2 = -1 then ((findR F C N S w a r V E s 20 (fun _ => -1) 0).1, if (findR F C N S w a r V E s 20 (fun _ => -1) 0).2 = 20 then -1 else nI (findR F C N S w a r V E s 20 (fun _ => -1) 0).2) else (fun _ => -1, nI 0)
theorem m1_up (i : Nat) (ft : Nat → Int32) : upd (fun j => if j < i then (-1 : Int32) else ft j) i (-1) = fun j => if j < i + 1 then -1 else ft j := by
  funext j
  unfold upd
  by_cases h : j = i
  · subst h; simp
  · by_cases h2 : j < i
    · simp [h, h2, show j < i + 1 by omega]
    · simp [h, h2, show ¬ j < i + 1 by omega]
set_option maxRecDepth 20000 in
theorem c_X3_forget (sk : Nat → Nat) {rh rt rp : Nat} {x : Int32} {b : Bool}  : Ct sk yX3_forget cX3_forget 1 none 0 0 0 [oRests rh rt rp x b] [.ref rh] (zD none [oRests rh rt rp x false]) := by
  refine Ct.of (own := RX3) (l := [some (.ref rh)]) (by decide) rfl (Nat.le_of_ble_eq_true rfl) rfl ?_
  refine g_aload_n dX3_forget_0 rfl rfl ?_
  refine g_iconst (v := nI 0) dX3_forget_1 rfl (by decide) ?_
  refine g_putZ (b := false) f_X3_22 dX3_forget_2 rfl 0 rfl (Nat.le_of_ble_eq_true rfl) rfl ?_
  dsimp only [List.set]
  exact g_vret dX3_forget_5 rfl (Nat.le_refl _) (Nat.le_refl _) (⟨rfl, rfl⟩)
set_option maxRecDepth 20000 in
theorem c_X3_turnOf (sk : Nat → Nat) {rh rt rp i : Nat} {x : Int32} {b : Bool} {ft : Nat → Int32} (hi : i < 6) : Ct sk yX3_turnOf cX3_turnOf 2 (some .int) 0 0 0 [oRests rh rt rp x b, cI rt 6 ft] [.ref rh, .int (nI i)] (zD (some (.int (ft i))) [oRests rh rt rp x b, cI rt 6 ft]) := by
  refine Ct.of (own := RX3) (l := [some (.ref rh), some (.int (nI i))]) (by decide) rfl (Nat.le_of_ble_eq_true rfl) rfl ?_
  refine g_iload_n dX3_turnOf_0 rfl rfl ?_
  refine g_if_lt (t := 22) dX3_turnOf_1 (by decide) rfl (fun h1 => ?_) (fun h1 => ?_)
  · exact absurd h1 (nI_nlt0 (by omega))
  · skip
    refine g_iload_n dX3_turnOf_4 rfl rfl ?_
    refine g_aload_n dX3_turnOf_5 rfl rfl ?_
    refine g_get f_X3_9 dX3_turnOf_6 rfl 0 rfl rfl ?_
    refine g_alen dX3_turnOf_9 rfl 1 rfl (Nat.le_of_ble_eq_true rfl) rfl ?_
    refine g_icmp_geN (t := 22) dX3_turnOf_10 (by decide) rfl (by omega) (by omega) (fun h10 => ?_) (fun h10 => ?_)
    · exact absurd h10 (by omega)
    · skip
      refine g_aload_n dX3_turnOf_13 rfl rfl ?_
      refine g_get f_X3_9 dX3_turnOf_14 rfl 0 rfl rfl ?_
      refine g_iload_n dX3_turnOf_17 rfl rfl ?_
      refine g_ialdN dX3_turnOf_18 rfl 1 rfl (by omega) (by decide) (rfl) ?_
      refine g_goto (q := 23) dX3_turnOf_19 (by decide) ?_
      exact g_iret dX3_turnOf_23 rfl (Nat.le_refl _) (Nat.le_refl _) (⟨rfl, rfl⟩)
set_option maxRecDepth 20000 in
theorem lp_X3_gainK (sk : Nat → Nat) {rh rt rp rq hp hs pl ps pw pa pr c tu F C N S : Nat} {sd V E ro : Int32} {fo : Bool} {ft : Nat → Int32} {s : PSt} {w a r : Nat → Nat} {t : Nat} {v : Int32} (hB : PB F C N S w a r) (hc : c < C) (htu : tu < 6) (ht : t ≤ 5) : ∀ (m k : Nat) (u : PSt), k + m = C → SB u.1 → (∀ z : PSt, gainK F N S w a r V E ft c tu t m k u = .inr z → SB z.1 → GG sk RX3 yX3_gainAt cX3_gainAt 8 (some .int) 4 0 0 (fun q w1 => q = some (.int v) ∧ ∃ (g0 o0 d0 : Int32) (f0 : Nat → Int32), w1 = [oRests rh rt rp ro fo, cI rt 6 ft, oPole rp rq g0 o0 d0, cI rq 30 f0, oPoleS hp hs s sd, cI hs 30 (fI s.1), oPlan pl ps pw pa pr (nI F) (nI C) V E (nI N) (nI S), cI pw 6 (fI w), cI pa 6 (fI a), cI pr 6 (fI r)]) 0 0 11 [some (.ref rh), some (.ref pl), some (.ref hp), some (.int (nI c)), some (.int (nI tu)), some (.int (nI (t + 1))), none, none] [] [oRests rh rt rp ro fo, cI rt 6 ft, oPoleS rp rq z sd, cI rq 30 (fI z.1), oPoleS hp hs s sd, cI hs 30 (fI s.1), oPlan pl ps pw pa pr (nI F) (nI C) V E (nI N) (nI S), cI pw 6 (fI w), cI pa 6 (fI a), cI pr 6 (fI r)]) → (∀ x : Int32, gainK F N S w a r V E ft c tu t m k u = .inl x → x = v) → GG sk RX3 yX3_gainAt cX3_gainAt 8 (some .int) 4 0 0 (fun q w1 => q = some (.int v) ∧ ∃ (g0 o0 d0 : Int32) (f0 : Nat → Int32), w1 = [oRests rh rt rp ro fo, cI rt 6 ft, oPole rp rq g0 o0 d0, cI rq 30 f0, oPoleS hp hs s sd, cI hs 30 (fI s.1), oPlan pl ps pw pa pr (nI F) (nI C) V E (nI N) (nI S), cI pw 6 (fI w), cI pa 6 (fI a), cI pr 6 (fI r)]) 0 0 21 [some (.ref rh), some (.ref pl), some (.ref hp), some (.int (nI c)), some (.int (nI tu)), some (.int (nI t)), some (.int (nI k)), none] [] [oRests rh rt rp ro fo, cI rt 6 ft, oPoleS rp rq u sd, cI rq 30 (fI u.1), oPoleS hp hs s sd, cI hs 30 (fI s.1), oPlan pl ps pw pa pr (nI F) (nI C) V E (nI N) (nI S), cI pw 6 (fI w), cI pa 6 (fI a), cI pr 6 (fI r)] := by
  have hC6 := hB.2.1
  intro m
  induction m with
  | zero =>
    intro k u hk hu hx hv
    refine g_iload dX3_gainAt_21 rfl rfl ?_
    refine g_aload_n dX3_gainAt_23 rfl rfl ?_
    refine g_get f_X3_41 dX3_gainAt_24 rfl 6 rfl rfl ?_
    refine g_icmp_geN (t := 121) dX3_gainAt_27 (by decide) rfl (by omega) (by omega) (fun h27 => ?_) (fun h27 => ?_)
    · skip
      refine g_iinc dX3_gainAt_121 rfl rfl (nI_1 _) (by decide) rfl rfl ?_
      refine g_goto (q := 11) dX3_gainAt_124 (by decide) ?_
      refine g_drop 6 rfl ?_
      exact hx u rfl hu
    · exact absurd h27 (by omega)
  | succ m ih =>
    intro k u hk hu hx hv
    rw [gainK] at hx hv
    refine g_iload dX3_gainAt_21 rfl rfl ?_
    refine g_aload_n dX3_gainAt_23 rfl rfl ?_
    refine g_get f_X3_41 dX3_gainAt_24 rfl 6 rfl rfl ?_
    refine g_icmp_geN (t := 121) dX3_gainAt_27 (by decide) rfl (by omega) (by omega) (fun h27 => ?_) (fun h27 => ?_)
    · exact absurd h27 (by omega)
    · skip
      refine g_iload dX3_gainAt_30 rfl rfl ?_
      refine g_iload_n dX3_gainAt_32 rfl rfl ?_
      refine g_icmp_neN (t := 41) dX3_gainAt_33 (by decide) rfl (by omega) (by omega) (fun h33 => ?_) (fun h33 => ?_)
      · skip
        refine g_aload_n dX3_gainAt_41 rfl rfl ?_
        refine g_iload dX3_gainAt_42 rfl rfl ?_
        refine g_callV (c_X3_turnOf sk (by omega)) m_X3_34 a_X3_turnOf dX3_gainAt_44 rfl [0, 1] rfl rfl 0 rfl rfl rfl (by decide) (by decide) (by decide) (by decide) (Nat.le_of_ble_eq_true rfl) (fun r w hK => ?_)
        obtain ⟨rfl, rfl⟩ := hK
        refine ⟨rfl, ?_⟩
        dsimp only [puts, List.set, Option.toList, List.cons_append, List.nil_append, List.append_nil]
        refine g_istore dX3_gainAt_47 rfl (by decide) rfl rfl ?_
        refine g_iload dX3_gainAt_49 rfl rfl ?_
        refine g_iload dX3_gainAt_51 rfl rfl ?_
        refine g_icmp_eq (t := 59) dX3_gainAt_53 (by decide) rfl (fun h53 => ?_) (fun h53 => ?_)
        · have hh : hisI ft c tu k = nI t := by unfold hisI; rw [if_neg h33]; exact h53
          rw [if_pos hh] at hx hv
          refine g_aload_n dX3_gainAt_59 rfl rfl ?_
          refine g_get f_X3_18 dX3_gainAt_60 rfl 0 rfl rfl ?_
          refine g_aload_n dX3_gainAt_63 rfl rfl ?_
          refine g_iload dX3_gainAt_64 rfl rfl ?_
          refine g_iconst (v := nI 0) dX3_gainAt_66 rfl (by decide) ?_
          refine g_callV (c_climb sk (sand := false) hB (show k < C by omega) hu) m_X3_58 a_X1_climb dX3_gainAt_67 rfl [2, 3, 6, 7, 8, 9] rfl rfl 0 rfl rfl rfl (by decide) (by decide) (by decide) (by decide) (Nat.le_of_ble_eq_true rfl) (fun r w hK => ?_)
          obtain ⟨rfl, rfl⟩ := hK
          refine ⟨rfl, ?_⟩
          dsimp only [puts, List.set, Option.toList, List.cons_append, List.nil_append, List.append_nil]
          refine g_pop dX3_gainAt_70 rfl rfl ?_
          refine g_iload dX3_gainAt_71 rfl rfl ?_
          refine g_iload_n dX3_gainAt_73 rfl rfl ?_
          refine g_icmp_neN (t := 102) dX3_gainAt_74 (by decide) rfl (by omega) (by omega) (fun h74 => ?_) (fun h74 => ?_)
          · rw [if_neg h74] at hx hv
            refine g_aload_n dX3_gainAt_102 rfl rfl ?_
            refine g_get f_X3_18 dX3_gainAt_103 rfl 0 rfl rfl ?_
            refine g_get f_X3_38 dX3_gainAt_106 rfl 2 rfl rfl ?_
            refine g_iconst (v := -1) dX3_gainAt_109 rfl (by decide) ?_
            refine g_icmp_eq (t := 115) dX3_gainAt_110 (by decide) rfl (fun h110 => ?_) (fun h110 => ?_)
            · rw [if_pos h110] at hx hv
              refine g_iinc dX3_gainAt_115 rfl rfl (nI_1 _) (by decide) rfl rfl ?_
              refine g_goto (q := 21) dX3_gainAt_118 (by decide) ?_
              refine g_drop 7 rfl ?_
              exact ih (k + 1) _ (by omega) (go1_SB hu) hx hv
            · rw [if_neg h110] at hv
              refine g_iconst (v := nI 0) dX3_gainAt_113 rfl (by decide) ?_
              exact g_iret dX3_gainAt_114 rfl (Nat.le_refl _) (Nat.le_refl _) (⟨by rw [hv _ rfl], _, _, _, _, rfl⟩)
          · rw [if_pos h74] at hv
            refine g_aload_n dX3_gainAt_77 rfl rfl ?_
            refine g_get f_X3_18 dX3_gainAt_78 rfl 0 rfl rfl ?_
            refine g_get f_X3_38 dX3_gainAt_81 rfl 2 rfl rfl ?_
            refine g_iload_n dX3_gainAt_84 rfl rfl ?_
            refine g_icmp_ne (t := 95) dX3_gainAt_85 (by decide) rfl (fun h85 => ?_) (fun h85 => ?_)
            · rw [if_neg h85] at hv
              refine g_iconst (v := nI 0) dX3_gainAt_95 rfl (by decide) ?_
              refine g_aload_n dX3_gainAt_96 rfl rfl ?_
              refine g_get f_X3_65 dX3_gainAt_97 rfl 6 rfl rfl ?_
              refine g_isub dX3_gainAt_100 rfl rfl ?_
              exact g_iret dX3_gainAt_101 rfl (Nat.le_refl _) (Nat.le_refl _) (⟨by rw [hv _ rfl], _, _, _, _, rfl⟩)
            · rw [if_pos h85] at hv
              refine g_aload_n dX3_gainAt_88 rfl rfl ?_
              refine g_get f_X3_62 dX3_gainAt_89 rfl 6 rfl rfl ?_
              refine g_goto (q := 96) dX3_gainAt_92 (by decide) ?_
              refine g_aload_n dX3_gainAt_96 rfl rfl ?_
              refine g_get f_X3_65 dX3_gainAt_97 rfl 6 rfl rfl ?_
              refine g_isub dX3_gainAt_100 rfl rfl ?_
              exact g_iret dX3_gainAt_101 rfl (Nat.le_refl _) (Nat.le_refl _) (⟨by rw [hv _ rfl], _, _, _, _, rfl⟩)
        · have hh : ¬ hisI ft c tu k = nI t := by unfold hisI; rw [if_neg h33]; exact h53
          rw [if_neg hh] at hx hv
          refine g_goto (q := 115) dX3_gainAt_56 (by decide) ?_
          refine g_iinc dX3_gainAt_115 rfl rfl (nI_1 _) (by decide) rfl rfl ?_
          refine g_goto (q := 21) dX3_gainAt_118 (by decide) ?_
          refine g_drop 7 rfl ?_
          exact ih (k + 1) _ (by omega) hu hx hv
      · skip
        refine g_iload dX3_gainAt_36 rfl rfl ?_
        refine g_goto (q := 47) dX3_gainAt_38 (by decide) ?_
        refine g_istore dX3_gainAt_47 rfl (by decide) rfl rfl ?_
        refine g_iload dX3_gainAt_49 rfl rfl ?_
        refine g_iload dX3_gainAt_51 rfl rfl ?_
        refine g_icmp_eq (t := 59) dX3_gainAt_53 (by decide) rfl (fun h53 => ?_) (fun h53 => ?_)
        · have hh : hisI ft c tu k = nI t := by unfold hisI; rw [if_pos h33]; exact h53
          rw [if_pos hh] at hx hv
          refine g_aload_n dX3_gainAt_59 rfl rfl ?_
          refine g_get f_X3_18 dX3_gainAt_60 rfl 0 rfl rfl ?_
          refine g_aload_n dX3_gainAt_63 rfl rfl ?_
          refine g_iload dX3_gainAt_64 rfl rfl ?_
          refine g_iconst (v := nI 0) dX3_gainAt_66 rfl (by decide) ?_
          refine g_callV (c_climb sk (sand := false) hB (show k < C by omega) hu) m_X3_58 a_X1_climb dX3_gainAt_67 rfl [2, 3, 6, 7, 8, 9] rfl rfl 0 rfl rfl rfl (by decide) (by decide) (by decide) (by decide) (Nat.le_of_ble_eq_true rfl) (fun r w hK => ?_)
          obtain ⟨rfl, rfl⟩ := hK
          refine ⟨rfl, ?_⟩
          dsimp only [puts, List.set, Option.toList, List.cons_append, List.nil_append, List.append_nil]
          refine g_pop dX3_gainAt_70 rfl rfl ?_
          refine g_iload dX3_gainAt_71 rfl rfl ?_
          refine g_iload_n dX3_gainAt_73 rfl rfl ?_
          refine g_icmp_neN (t := 102) dX3_gainAt_74 (by decide) rfl (by omega) (by omega) (fun h74 => ?_) (fun h74 => ?_)
          · rw [if_neg h74] at hx hv
            refine g_aload_n dX3_gainAt_102 rfl rfl ?_
            refine g_get f_X3_18 dX3_gainAt_103 rfl 0 rfl rfl ?_
            refine g_get f_X3_38 dX3_gainAt_106 rfl 2 rfl rfl ?_
            refine g_iconst (v := -1) dX3_gainAt_109 rfl (by decide) ?_
            refine g_icmp_eq (t := 115) dX3_gainAt_110 (by decide) rfl (fun h110 => ?_) (fun h110 => ?_)
            · rw [if_pos h110] at hx hv
              refine g_iinc dX3_gainAt_115 rfl rfl (nI_1 _) (by decide) rfl rfl ?_
              refine g_goto (q := 21) dX3_gainAt_118 (by decide) ?_
              refine g_drop 7 rfl ?_
              exact ih (k + 1) _ (by omega) (go1_SB hu) hx hv
            · rw [if_neg h110] at hv
              refine g_iconst (v := nI 0) dX3_gainAt_113 rfl (by decide) ?_
              exact g_iret dX3_gainAt_114 rfl (Nat.le_refl _) (Nat.le_refl _) (⟨by rw [hv _ rfl], _, _, _, _, rfl⟩)
          · rw [if_pos h74] at hv
            refine g_aload_n dX3_gainAt_77 rfl rfl ?_
            refine g_get f_X3_18 dX3_gainAt_78 rfl 0 rfl rfl ?_
            refine g_get f_X3_38 dX3_gainAt_81 rfl 2 rfl rfl ?_
            refine g_iload_n dX3_gainAt_84 rfl rfl ?_
            refine g_icmp_ne (t := 95) dX3_gainAt_85 (by decide) rfl (fun h85 => ?_) (fun h85 => ?_)
            · rw [if_neg h85] at hv
              refine g_iconst (v := nI 0) dX3_gainAt_95 rfl (by decide) ?_
              refine g_aload_n dX3_gainAt_96 rfl rfl ?_
              refine g_get f_X3_65 dX3_gainAt_97 rfl 6 rfl rfl ?_
              refine g_isub dX3_gainAt_100 rfl rfl ?_
              exact g_iret dX3_gainAt_101 rfl (Nat.le_refl _) (Nat.le_refl _) (⟨by rw [hv _ rfl], _, _, _, _, rfl⟩)
            · rw [if_pos h85] at hv
              refine g_aload_n dX3_gainAt_88 rfl rfl ?_
              refine g_get f_X3_62 dX3_gainAt_89 rfl 6 rfl rfl ?_
              refine g_goto (q := 96) dX3_gainAt_92 (by decide) ?_
              refine g_aload_n dX3_gainAt_96 rfl rfl ?_
              refine g_get f_X3_65 dX3_gainAt_97 rfl 6 rfl rfl ?_
              refine g_isub dX3_gainAt_100 rfl rfl ?_
              exact g_iret dX3_gainAt_101 rfl (Nat.le_refl _) (Nat.le_refl _) (⟨by rw [hv _ rfl], _, _, _, _, rfl⟩)
        · have hh : ¬ hisI ft c tu k = nI t := by unfold hisI; rw [if_pos h33]; exact h53
          rw [if_neg hh] at hx hv
          refine g_goto (q := 115) dX3_gainAt_56 (by decide) ?_
          refine g_iinc dX3_gainAt_115 rfl rfl (nI_1 _) (by decide) rfl rfl ?_
          refine g_goto (q := 21) dX3_gainAt_118 (by decide) ?_
          refine g_drop 7 rfl ?_
          exact ih (k + 1) _ (by omega) hu hx hv
set_option maxRecDepth 20000 in
theorem lp_X3_gainT (sk : Nat → Nat) {rh rt rp rq hp hs pl ps pw pa pr c tu F C N S : Nat} {sd V E ro : Int32} {fo : Bool} {ft : Nat → Int32} {s : PSt} {w a r : Nat → Nat} {v : Int32} (hB : PB F C N S w a r) (hc : c < C) (htu : tu < 6) : ∀ (m t : Nat) (u : PSt), t + m = tu + 1 → SB u.1 → gainT F C N S w a r V E ft c tu m t u = v → GG sk RX3 yX3_gainAt cX3_gainAt 8 (some .int) 4 0 0 (fun q w1 => q = some (.int v) ∧ ∃ (g0 o0 d0 : Int32) (f0 : Nat → Int32), w1 = [oRests rh rt rp ro fo, cI rt 6 ft, oPole rp rq g0 o0 d0, cI rq 30 f0, oPoleS hp hs s sd, cI hs 30 (fI s.1), oPlan pl ps pw pa pr (nI F) (nI C) V E (nI N) (nI S), cI pw 6 (fI w), cI pa 6 (fI a), cI pr 6 (fI r)]) 0 0 11 [some (.ref rh), some (.ref pl), some (.ref hp), some (.int (nI c)), some (.int (nI tu)), some (.int (nI t)), none, none] [] [oRests rh rt rp ro fo, cI rt 6 ft, oPoleS rp rq u sd, cI rq 30 (fI u.1), oPoleS hp hs s sd, cI hs 30 (fI s.1), oPlan pl ps pw pa pr (nI F) (nI C) V E (nI N) (nI S), cI pw 6 (fI w), cI pa 6 (fI a), cI pr 6 (fI r)] := by
  intro m
  induction m with
  | zero =>
    intro t u ht hu hv
    refine g_iload dX3_gainAt_11 rfl rfl ?_
    refine g_iload dX3_gainAt_13 rfl rfl ?_
    refine g_icmp_gtN (t := 127) dX3_gainAt_15 (by decide) rfl (by omega) (by omega) (fun h15 => ?_) (fun h15 => ?_)
    · skip
      refine g_iconst (v := nI 0) dX3_gainAt_127 rfl (by decide) ?_
      exact g_iret dX3_gainAt_128 rfl (Nat.le_refl _) (Nat.le_refl _) (⟨by rw [← hv]; rfl, _, _, _, _, rfl⟩)
    · exact absurd h15 (by omega)
  | succ m ih =>
    intro t u ht hu hv
    rw [gainT] at hv
    refine g_iload dX3_gainAt_11 rfl rfl ?_
    refine g_iload dX3_gainAt_13 rfl rfl ?_
    refine g_icmp_gtN (t := 127) dX3_gainAt_15 (by decide) rfl (by omega) (by omega) (fun h15 => ?_) (fun h15 => ?_)
    · exact absurd h15 (by omega)
    · skip
      refine g_iconst (v := nI 0) dX3_gainAt_18 rfl (by decide) ?_
      refine g_istore dX3_gainAt_19 rfl (by decide) rfl rfl ?_
      exact lp_X3_gainK sk hB hc htu (by omega) C 0 u (by omega) hu (fun z hz hzs => ih (t + 1) z (by omega) hzs (by rw [hz] at hv; exact hv)) (fun x hx => by rw [hx] at hv; exact hv)
set_option maxRecDepth 20000 in
theorem c_X3_gainAt (sk : Nat → Nat) {rh rt rp rq hp hs pl ps pw pa pr c tu F C N S : Nat} {sd V E ro : Int32} {fo : Bool} {ft : Nat → Int32} {s : PSt} {w a r : Nat → Nat} {g0 o0 d0 : Int32} {f0 : Nat → Int32} (hB : PB F C N S w a r) (hc : c < C) (htu : tu < 6) (hs0 : SB s.1) : Ct sk yX3_gainAt cX3_gainAt 8 (some .int) 4 0 0 [oRests rh rt rp ro fo, cI rt 6 ft, oPole rp rq g0 o0 d0, cI rq 30 f0, oPoleS hp hs s sd, cI hs 30 (fI s.1), oPlan pl ps pw pa pr (nI F) (nI C) V E (nI N) (nI S), cI pw 6 (fI w), cI pa 6 (fI a), cI pr 6 (fI r)] [.ref rh, .ref pl, .ref hp, .int (nI c), .int (nI tu)] (fun q w1 => q = some (.int (gainT F C N S w a r V E ft c tu (tu + 1) 0 s)) ∧ ∃ (g0 o0 d0 : Int32) (f0 : Nat → Int32), w1 = [oRests rh rt rp ro fo, cI rt 6 ft, oPole rp rq g0 o0 d0, cI rq 30 f0, oPoleS hp hs s sd, cI hs 30 (fI s.1), oPlan pl ps pw pa pr (nI F) (nI C) V E (nI N) (nI S), cI pw 6 (fI w), cI pa 6 (fI a), cI pr 6 (fI r)]) := by
  refine Ct.of (own := RX3) (l := [some (.ref rh), some (.ref pl), some (.ref hp), some (.int (nI c)), some (.int (nI tu)), none, none, none]) (by decide) rfl (Nat.le_of_ble_eq_true rfl) rfl ?_
  refine g_aload_n dX3_gainAt_0 rfl rfl ?_
  refine g_get f_X3_18 dX3_gainAt_1 rfl 0 rfl rfl ?_
  refine g_aload_n dX3_gainAt_4 rfl rfl ?_
  refine g_callV (c_X1_become sk) m_X3_54 a_X1_become dX3_gainAt_5 rfl [2, 3, 4, 5] rfl rfl 0 rfl rfl rfl (by decide) (by decide) (by decide) (by decide) (Nat.le_of_ble_eq_true rfl) (fun r w hK => ?_)
  obtain ⟨rfl, rfl⟩ := hK
  refine ⟨rfl, ?_⟩
  dsimp only [puts, List.set, Option.toList, List.cons_append, List.nil_append, List.append_nil]
  refine g_iconst (v := nI 0) dX3_gainAt_8 rfl (by decide) ?_
  refine g_istore dX3_gainAt_9 rfl (by decide) rfl rfl ?_
  exact lp_X3_gainT sk hB hc htu (tu + 1) 0 s (by omega) hs0 rfl
set_option maxRecDepth 20000 in
theorem lp_X3_bestTurn (sk : Nat → Nat) {rh rt rp rq hp hs pl ps pw pa pr c F C N S : Nat} {sd V E ro : Int32} {fo : Bool} {ft : Nat → Int32} {s : PSt} {w a r : Nat → Nat} {v : Int32} (hB : PB F C N S w a r) (hc : c < C) (hs0 : SB s.1) : ∀ (m : Nat) (b g g0 o0 d0 : Int32) (f0 : Nat → Int32), m ≤ 6 → bestR F C N S w a r V E ft c s m b g = v → GG sk RX3 yX3_bestTurn cX3_bestTurn 8 (some .int) 5 0 0 (fun q w1 => q = some (.int v) ∧ ∃ (g0 o0 d0 : Int32) (f0 : Nat → Int32), w1 = [oRests rh rt rp ro fo, cI rt 6 ft, oPole rp rq g0 o0 d0, cI rq 30 f0, oPoleS hp hs s sd, cI hs 30 (fI s.1), oPlan pl ps pw pa pr (nI F) (nI C) V E (nI N) (nI S), cI pw 6 (fI w), cI pa 6 (fI a), cI pr 6 (fI r)]) 0 0 9 [some (.ref rh), some (.ref pl), some (.ref hp), some (.int (nI c)), some (.int b), some (.int g), some (.int (nI m + (-1))), none] [] [oRests rh rt rp ro fo, cI rt 6 ft, oPole rp rq g0 o0 d0, cI rq 30 f0, oPoleS hp hs s sd, cI hs 30 (fI s.1), oPlan pl ps pw pa pr (nI F) (nI C) V E (nI N) (nI S), cI pw 6 (fI w), cI pa 6 (fI a), cI pr 6 (fI r)] := by
  intro m
  induction m with
  | zero =>
    intro b g g0 o0 d0 f0 hm hv
    refine g_iload dX3_bestTurn_9 rfl rfl ?_
    refine g_if_lt (t := 46) dX3_bestTurn_11 (by decide) rfl (fun h11 => ?_) (fun h11 => ?_)
    · skip
      refine g_iload dX3_bestTurn_46 rfl rfl ?_
      exact g_iret dX3_bestTurn_48 rfl (Nat.le_refl _) (Nat.le_refl _) (⟨by rw [← hv]; rfl, _, _, _, _, rfl⟩)
    · exact absurd (show nI 0 + (-1) < 0 by decide) h11
  | succ m ih =>
    intro b g g0 o0 d0 f0 hm hv
    rw [bestR] at hv
    rw [pk_m1]
    refine g_iload dX3_bestTurn_9 rfl rfl ?_
    refine g_if_lt (t := 46) dX3_bestTurn_11 (by decide) rfl (fun h11 => ?_) (fun h11 => ?_)
    · exact absurd h11 (nI_nlt0 (by omega))
    · skip
      refine g_aload_n dX3_bestTurn_14 rfl rfl ?_
      refine g_aload_n dX3_bestTurn_15 rfl rfl ?_
      refine g_aload_n dX3_bestTurn_16 rfl rfl ?_
      refine g_iload_n dX3_bestTurn_17 rfl rfl ?_
      refine g_iload dX3_bestTurn_18 rfl rfl ?_
      refine g_callV (c_X3_gainAt sk (c := c) (tu := m) hB hc (by omega) hs0) m_X3_50 a_X3_gainAt dX3_bestTurn_20 rfl [0, 1, 2, 3, 4, 5, 6, 7, 8, 9] rfl rfl 0 rfl rfl rfl (by decide) (by decide) (by decide) (by decide) (Nat.le_of_ble_eq_true rfl) (fun r w hK => ?_)
      obtain ⟨rfl, g0, o0, d0, f0, rfl⟩ := hK
      refine ⟨rfl, ?_⟩
      dsimp only [puts, List.set, Option.toList, List.cons_append, List.nil_append, List.append_nil]
      refine g_istore dX3_bestTurn_23 rfl (by decide) rfl rfl ?_
      refine g_iload dX3_bestTurn_25 rfl rfl ?_
      refine g_iload dX3_bestTurn_27 rfl rfl ?_
      refine g_icmp_le (t := 40) dX3_bestTurn_29 (by decide) rfl (fun h29 => ?_) (fun h29 => ?_)
      · rw [if_neg (Int32.not_lt.mpr h29)] at hv
        refine g_iinc dX3_bestTurn_40 rfl rfl (rfl) (by decide) rfl rfl ?_
        refine g_goto (q := 9) dX3_bestTurn_43 (by decide) ?_
        refine g_drop 7 rfl ?_
        exact ih _ _ _ _ _ _ (by omega) hv
      · rw [if_pos (Int32.not_le.mp h29)] at hv
        refine g_iload dX3_bestTurn_32 rfl rfl ?_
        refine g_istore dX3_bestTurn_34 rfl (by decide) rfl rfl ?_
        refine g_iload dX3_bestTurn_36 rfl rfl ?_
        refine g_istore dX3_bestTurn_38 rfl (by decide) rfl rfl ?_
        refine g_iinc dX3_bestTurn_40 rfl rfl (rfl) (by decide) rfl rfl ?_
        refine g_goto (q := 9) dX3_bestTurn_43 (by decide) ?_
        refine g_drop 7 rfl ?_
        exact ih _ _ _ _ _ _ (by omega) hv
set_option maxRecDepth 20000 in
theorem c_X3_bestTurn (sk : Nat → Nat) {rh rt rp rq hp hs pl ps pw pa pr c F C N S : Nat} {sd V E ro : Int32} {fo : Bool} {ft : Nat → Int32} {s : PSt} {w a r : Nat → Nat} {g0 o0 d0 : Int32} {f0 : Nat → Int32} (hB : PB F C N S w a r) (hc : c < C) (hs0 : SB s.1) : Ct sk yX3_bestTurn cX3_bestTurn 8 (some .int) 5 0 0 [oRests rh rt rp ro fo, cI rt 6 ft, oPole rp rq g0 o0 d0, cI rq 30 f0, oPoleS hp hs s sd, cI hs 30 (fI s.1), oPlan pl ps pw pa pr (nI F) (nI C) V E (nI N) (nI S), cI pw 6 (fI w), cI pa 6 (fI a), cI pr 6 (fI r)] [.ref rh, .ref pl, .ref hp, .int (nI c)] (fun q w1 => q = some (.int (bestR F C N S w a r V E ft c s 6 (-1) (nI 0))) ∧ ∃ (g0 o0 d0 : Int32) (f0 : Nat → Int32), w1 = [oRests rh rt rp ro fo, cI rt 6 ft, oPole rp rq g0 o0 d0, cI rq 30 f0, oPoleS hp hs s sd, cI hs 30 (fI s.1), oPlan pl ps pw pa pr (nI F) (nI C) V E (nI N) (nI S), cI pw 6 (fI w), cI pa 6 (fI a), cI pr 6 (fI r)]) := by
  refine Ct.of (own := RX3) (l := [some (.ref rh), some (.ref pl), some (.ref hp), some (.int (nI c)), none, none, none, none]) (by decide) rfl (Nat.le_of_ble_eq_true rfl) rfl ?_
  refine g_iconst (v := -1) dX3_bestTurn_0 rfl (by decide) ?_
  refine g_istore dX3_bestTurn_1 rfl (by decide) rfl rfl ?_
  refine g_iconst (v := nI 0) dX3_bestTurn_3 rfl (by decide) ?_
  refine g_istore dX3_bestTurn_4 rfl (by decide) rfl rfl ?_
  refine g_iconst (v := nI 5) dX3_bestTurn_6 rfl (by decide) ?_
  refine g_istore dX3_bestTurn_7 rfl (by decide) rfl rfl ?_
  exact lp_X3_bestTurn sk hB hc hs0 6 (-1) (nI 0) _ _ _ _ (by omega) rfl
set_option maxRecDepth 20000 in
theorem lp_X3_round (sk : Nat → Nat) {rh rt rp rq hp hs pl ps pw pa pr F C N S : Nat} {sd V E : Int32} {fo : Bool} {s : PSt} {w a r : Nat → Nat} {rd q : Nat} {Ψ : PS} (hB : PB F C N S w a r) (hs0 : SB s.1) : ∀ (m c : Nat) (ft : Nat → Int32) (ch : Bool) (g0 o0 d0 : Int32) (f0 : Nat → Int32), c + m = C → (∀ (g0 o0 d0 : Int32) (f0 : Nat → Int32), GG sk RX3 yX3_find cX3_find 7 none 6 0 0 Ψ 0 0 125 [some (.ref rh), some (.ref pl), some (.ref hp), some (.int (zb (roundR F C N S w a r V E s m c ft ch).2)), some (.int (nI rd)), none, none] [] [oRests rh rt rp (nI q) fo, cI rt 6 (roundR F C N S w a r V E s m c ft ch).1, oPole rp rq g0 o0 d0, cI rq 30 f0, oPoleS hp hs s sd, cI hs 30 (fI s.1), oPlan pl ps pw pa pr (nI F) (nI C) V E (nI N) (nI S), cI pw 6 (fI w), cI pa 6 (fI a), cI pr 6 (fI r)]) → GG sk RX3 yX3_find cX3_find 7 none 6 0 0 Ψ 0 0 59 [some (.ref rh), some (.ref pl), some (.ref hp), some (.int (zb ch)), some (.int (nI rd)), some (.int (nI c)), none] [] [oRests rh rt rp (nI q) fo, cI rt 6 ft, oPole rp rq g0 o0 d0, cI rq 30 f0, oPoleS hp hs s sd, cI hs 30 (fI s.1), oPlan pl ps pw pa pr (nI F) (nI C) V E (nI N) (nI S), cI pw 6 (fI w), cI pa 6 (fI a), cI pr 6 (fI r)] := by
  have hC6 := hB.2.1
  intro m
  induction m with
  | zero =>
    intro c ft ch g0 o0 d0 f0 hc hx
    refine g_iload dX3_find_59 rfl rfl ?_
    refine g_aload_n dX3_find_61 rfl rfl ?_
    refine g_get f_X3_41 dX3_find_62 rfl 6 rfl rfl ?_
    refine g_icmp_geN (t := 125) dX3_find_65 (by decide) rfl (by omega) (by omega) (fun h65 => ?_) (fun h65 => ?_)
    · skip
      refine g_drop 5 rfl ?_
      exact hx _ _ _ _
    · exact absurd h65 (by omega)
  | succ m ih =>
    intro c ft ch g0 o0 d0 f0 hc hx
    refine g_iload dX3_find_59 rfl rfl ?_
    refine g_aload_n dX3_find_61 rfl rfl ?_
    refine g_get f_X3_41 dX3_find_62 rfl 6 rfl rfl ?_
    refine g_icmp_geN (t := 125) dX3_find_65 (by decide) rfl (by omega) (by omega) (fun h65 => ?_) (fun h65 => ?_)
    · exact absurd h65 (by omega)
    · skip
      refine g_iload dX3_find_68 rfl rfl ?_
      refine g_aload_n dX3_find_70 rfl rfl ?_
      refine g_get f_X3_9 dX3_find_71 rfl 0 rfl rfl ?_
      refine g_alen dX3_find_74 rfl 1 rfl (Nat.le_of_ble_eq_true rfl) rfl ?_
      refine g_icmp_geN (t := 125) dX3_find_75 (by decide) rfl (by omega) (by omega) (fun h75 => ?_) (fun h75 => ?_)
      · exact absurd h75 (by omega)
      · skip
        refine g_aload_n dX3_find_78 rfl rfl ?_
        refine g_aload_n dX3_find_79 rfl rfl ?_
        refine g_aload_n dX3_find_80 rfl rfl ?_
        refine g_iload dX3_find_81 rfl rfl ?_
        refine g_callV (c_X3_bestTurn sk (c := c) hB (by omega) hs0) m_X3_46 a_X3_bestTurn dX3_find_83 rfl [0, 1, 2, 3, 4, 5, 6, 7, 8, 9] rfl rfl 0 rfl rfl rfl (by decide) (by decide) (by decide) (by decide) (Nat.le_of_ble_eq_true rfl) (fun r w hK => ?_)
        obtain ⟨rfl, g0, o0, d0, f0, rfl⟩ := hK
        refine ⟨rfl, ?_⟩
        dsimp only [puts, List.set, Option.toList, List.cons_append, List.nil_append, List.append_nil]
        refine g_istore dX3_find_86 rfl (by decide) rfl rfl ?_
        refine g_iload_n dX3_find_88 rfl rfl ?_
        refine g_if_neB (t := 104) dX3_find_89 (by decide) rfl (fun h89 => ?_) (fun h89 => ?_)
        · subst h89
          refine g_iconst (v := nI 1) dX3_find_104 rfl (by decide) ?_
          refine g_goto (q := 109) dX3_find_105 (by decide) ?_
          have hb : (true || decide (¬ bestR F C N S w a r V E ft c s 6 (-1) (nI 0) = ft c)) = true := rfl
          rw [roundR, hb] at hx
          refine g_istore_n dX3_find_109 rfl (by decide) rfl rfl ?_
          refine g_aload_n dX3_find_110 rfl rfl ?_
          refine g_get f_X3_9 dX3_find_111 rfl 0 rfl rfl ?_
          refine g_iload dX3_find_114 rfl rfl ?_
          refine g_iload dX3_find_116 rfl rfl ?_
          refine g_iastN dX3_find_118 rfl 1 rfl (by omega) (by decide) (rfl) rfl ?_
          refine g_iinc dX3_find_119 rfl rfl (nI_1 _) (by decide) rfl rfl ?_
          refine g_goto (q := 59) dX3_find_122 (by decide) ?_
          refine g_drop 6 rfl ?_
          exact ih (c + 1) _ true _ _ _ _ (by omega) hx
        · subst h89
          refine g_iload dX3_find_92 rfl rfl ?_
          refine g_aload_n dX3_find_94 rfl rfl ?_
          refine g_get f_X3_9 dX3_find_95 rfl 0 rfl rfl ?_
          refine g_iload dX3_find_98 rfl rfl ?_
          refine g_ialdN dX3_find_100 rfl 1 rfl (by omega) (by decide) (rfl) ?_
          refine g_icmp_eq (t := 108) dX3_find_101 (by decide) rfl (fun h101 => ?_) (fun h101 => ?_)
          · skip
            refine g_iconst (v := nI 0) dX3_find_108 rfl (by decide) ?_
            have hb : (false || decide (¬ bestR F C N S w a r V E ft c s 6 (-1) (nI 0) = ft c)) = false := by rw [decide_eq_false (fun z => z h101)]; rfl
            rw [roundR, hb] at hx
            refine g_istore_n dX3_find_109 rfl (by decide) rfl rfl ?_
            refine g_aload_n dX3_find_110 rfl rfl ?_
            refine g_get f_X3_9 dX3_find_111 rfl 0 rfl rfl ?_
            refine g_iload dX3_find_114 rfl rfl ?_
            refine g_iload dX3_find_116 rfl rfl ?_
            refine g_iastN dX3_find_118 rfl 1 rfl (by omega) (by decide) (rfl) rfl ?_
            refine g_iinc dX3_find_119 rfl rfl (nI_1 _) (by decide) rfl rfl ?_
            refine g_goto (q := 59) dX3_find_122 (by decide) ?_
            refine g_drop 6 rfl ?_
            exact ih (c + 1) _ false _ _ _ _ (by omega) hx
          · skip
            refine g_iconst (v := nI 1) dX3_find_104 rfl (by decide) ?_
            refine g_goto (q := 109) dX3_find_105 (by decide) ?_
            have hb : (false || decide (¬ bestR F C N S w a r V E ft c s 6 (-1) (nI 0) = ft c)) = true := by rw [decide_eq_true h101]; rfl
            rw [roundR, hb] at hx
            refine g_istore_n dX3_find_109 rfl (by decide) rfl rfl ?_
            refine g_aload_n dX3_find_110 rfl rfl ?_
            refine g_get f_X3_9 dX3_find_111 rfl 0 rfl rfl ?_
            refine g_iload dX3_find_114 rfl rfl ?_
            refine g_iload dX3_find_116 rfl rfl ?_
            refine g_iastN dX3_find_118 rfl 1 rfl (by omega) (by decide) (rfl) rfl ?_
            refine g_iinc dX3_find_119 rfl rfl (nI_1 _) (by decide) rfl rfl ?_
            refine g_goto (q := 59) dX3_find_122 (by decide) ?_
            refine g_drop 6 rfl ?_
            exact ih (c + 1) _ true _ _ _ _ (by omega) hx
set_option maxRecDepth 20000 in
theorem lp_X3_end (sk : Nat → Nat) {rh rt rp rq hp hs pl ps pw pa pr F C N S : Nat} {sd V E : Int32} {fo : Bool} {s : PSt} {w a r : Nat → Nat} {q : Nat} {ft : Nat → Int32} {x3 x4 g0 o0 d0 : Int32} {f0 : Nat → Int32} {Ψ : PS} (hq : q ≤ 20) (hΨ : Ψ none [oRests rh rt rp (if q = 20 then -1 else nI q) fo, cI rt 6 ft, oPole rp rq g0 o0 d0, cI rq 30 f0, oPoleS hp hs s sd, cI hs 30 (fI s.1), oPlan pl ps pw pa pr (nI F) (nI C) V E (nI N) (nI S), cI pw 6 (fI w), cI pa 6 (fI a), cI pr 6 (fI r)]) : GG sk RX3 yX3_find cX3_find 7 none 6 0 0 Ψ 0 0 149 [some (.ref rh), some (.ref pl), some (.ref hp), some (.int x3), some (.int x4), none, none] [] [oRests rh rt rp (nI q) fo, cI rt 6 ft, oPole rp rq g0 o0 d0, cI rq 30 f0, oPoleS hp hs s sd, cI hs 30 (fI s.1), oPlan pl ps pw pa pr (nI F) (nI C) V E (nI N) (nI S), cI pw 6 (fI w), cI pa 6 (fI a), cI pr 6 (fI r)] := by
  refine g_aload_n dX3_find_149 rfl rfl ?_
  refine g_get f_X3_30 dX3_find_150 rfl 0 rfl rfl ?_
  refine g_bipush (v := nI 20) dX3_find_153 rfl (by decide) ?_
  refine g_icmp_neN (t := 163) dX3_find_155 (by decide) rfl (by omega) (by omega) (fun h155 => ?_) (fun h155 => ?_)
  · skip
    exact g_vret dX3_find_163 rfl (Nat.le_refl _) (Nat.le_refl _) (by rw [if_neg h155] at hΨ; exact hΨ)
  · skip
    refine g_aload_n dX3_find_158 rfl rfl ?_
    refine g_iconst (v := -1) dX3_find_159 rfl (by decide) ?_
    refine g_putI f_X3_30 dX3_find_160 rfl 0 rfl (Nat.le_of_ble_eq_true rfl) rfl ?_
    dsimp only [List.set]
    exact g_vret dX3_find_163 rfl (Nat.le_refl _) (Nat.le_refl _) (by rw [if_pos h155] at hΨ; exact hΨ)
set_option maxRecDepth 20000 in
theorem lp_X3_rounds (sk : Nat → Nat) {rh rt rp rq hp hs pl ps pw pa pr F C N S : Nat} {sd V E : Int32} {fo : Bool} {s : PSt} {w a r : Nat → Nat} {Ψ : PS} (hB : PB F C N S w a r) (hs0 : SB s.1) : ∀ (m rd q : Nat) (ft : Nat → Int32) (g0 o0 d0 : Int32) (f0 : Nat → Int32), rd + m = 21 → q + m = 20 → (∀ (g0 o0 d0 : Int32) (f0 : Nat → Int32), Ψ none [oRests rh rt rp (if (findR F C N S w a r V E s m ft q).2 = 20 then -1 else nI (findR F C N S w a r V E s m ft q).2) fo, cI rt 6 (findR F C N S w a r V E s m ft q).1, oPole rp rq g0 o0 d0, cI rq 30 f0, oPoleS hp hs s sd, cI hs 30 (fI s.1), oPlan pl ps pw pa pr (nI F) (nI C) V E (nI N) (nI S), cI pw 6 (fI w), cI pa 6 (fI a), cI pr 6 (fI r)]) → GG sk RX3 yX3_find cX3_find 7 none 6 0 0 Ψ 0 0 43 [some (.ref rh), some (.ref pl), some (.ref hp), some (.int (zb true)), some (.int (nI rd)), none, none] [] [oRests rh rt rp (nI q) fo, cI rt 6 ft, oPole rp rq g0 o0 d0, cI rq 30 f0, oPoleS hp hs s sd, cI hs 30 (fI s.1), oPlan pl ps pw pa pr (nI F) (nI C) V E (nI N) (nI S), cI pw 6 (fI w), cI pa 6 (fI a), cI pr 6 (fI r)] := by
  intro m
  induction m with
  | zero =>
    intro rd q ft g0 o0 d0 f0 hrd hq hΨ
    refine g_iload dX3_find_43 rfl rfl ?_
    refine g_bipush (v := nI 20) dX3_find_45 rfl (by decide) ?_
    refine g_icmp_gtN (t := 149) dX3_find_47 (by decide) rfl (by omega) (by omega) (fun h47 => ?_) (fun h47 => ?_)
    · skip
      exact lp_X3_end sk (by omega) (hΨ _ _ _ _)
    · exact absurd h47 (by omega)
  | succ m ih =>
    intro rd q ft g0 o0 d0 f0 hrd hq hΨ
    rw [findR] at hΨ
    refine g_iload dX3_find_43 rfl rfl ?_
    refine g_bipush (v := nI 20) dX3_find_45 rfl (by decide) ?_
    refine g_icmp_gtN (t := 149) dX3_find_47 (by decide) rfl (by omega) (by omega) (fun h47 => ?_) (fun h47 => ?_)
    · exact absurd h47 (by omega)
    · skip
      refine g_iload_n dX3_find_50 rfl rfl ?_
      refine g_if_eqB (t := 149) dX3_find_51 (by decide) rfl (fun h51 => ?_) (fun h51 => ?_)
      · exact absurd h51 (by decide)
      · skip
        refine g_iconst (v := nI 0) dX3_find_54 rfl (by decide) ?_
        refine g_istore_n dX3_find_55 rfl (by decide) rfl rfl ?_
        refine g_iconst (v := nI 0) dX3_find_56 rfl (by decide) ?_
        refine g_istore dX3_find_57 rfl (by decide) rfl rfl ?_
        refine lp_X3_round sk (rd := rd) (q := q) hB hs0 C 0 ft false _ _ _ _ (by omega) (fun g0 o0 d0 f0 => ?_)
        generalize hch : (roundR F C N S w a r V E s C 0 ft false).2 = ch at hΨ ⊢
        cases ch with
        | true =>
          dsimp only at hΨ
          refine g_aload_n dX3_find_125 rfl rfl ?_
          refine g_dup dX3_find_126 rfl rfl ?_
          refine g_get f_X3_30 dX3_find_127 rfl 0 rfl rfl ?_
          refine g_iload_n dX3_find_130 rfl rfl ?_
          refine g_if_eqB (t := 138) dX3_find_131 (by decide) rfl (fun h131 => ?_) (fun h131 => ?_)
          · exact absurd h131 (by decide)
          · skip
            refine g_iconst (v := nI 1) dX3_find_134 rfl (by decide) ?_
            refine g_goto (q := 139) dX3_find_135 (by decide) ?_
            refine g_iadd (v := nI (q + 1)) dX3_find_139 rfl (nI_add _ _) ?_
            refine g_putI f_X3_30 dX3_find_140 rfl 0 rfl (Nat.le_of_ble_eq_true rfl) rfl ?_
            dsimp only [List.set]
            refine g_iinc dX3_find_143 rfl rfl (nI_1 _) (by decide) rfl rfl ?_
            refine g_goto (q := 43) dX3_find_146 (by decide) ?_
            exact ih (rd + 1) (q + 1) _ _ _ _ _ (by omega) (by omega) hΨ
        | false =>
          dsimp only at hΨ
          refine g_aload_n dX3_find_125 rfl rfl ?_
          refine g_dup dX3_find_126 rfl rfl ?_
          refine g_get f_X3_30 dX3_find_127 rfl 0 rfl rfl ?_
          refine g_iload_n dX3_find_130 rfl rfl ?_
          refine g_if_eqB (t := 138) dX3_find_131 (by decide) rfl (fun h131 => ?_) (fun h131 => ?_)
          · skip
            refine g_iconst (v := nI 0) dX3_find_138 rfl (by decide) ?_
            refine g_iadd (v := nI (q + 0)) dX3_find_139 rfl (nI_add _ _) ?_
            refine g_putI f_X3_30 dX3_find_140 rfl 0 rfl (Nat.le_of_ble_eq_true rfl) rfl ?_
            dsimp only [List.set]
            refine g_iinc dX3_find_143 rfl rfl (nI_1 _) (by decide) rfl rfl ?_
            refine g_goto (q := 43) dX3_find_146 (by decide) ?_
            refine g_iload dX3_find_43 rfl rfl ?_
            refine g_bipush (v := nI 20) dX3_find_45 rfl (by decide) ?_
            refine g_icmp_gtN (t := 149) dX3_find_47 (by decide) rfl (by omega) (by omega) (fun h47 => ?_) (fun h47 => ?_)
            · exact lp_X3_end sk (by omega) (hΨ _ _ _ _)
            · skip
              refine g_iload_n dX3_find_50 rfl rfl ?_
              refine g_if_eqB (t := 149) dX3_find_51 (by decide) rfl (fun h51 => ?_) (fun h51 => ?_)
              · exact lp_X3_end sk (by omega) (hΨ _ _ _ _)
              · exact absurd h51 (by decide)
          · exact absurd h131 (by decide)
set_option maxRecDepth 20000 in
theorem lp_X3_find0 (sk : Nat → Nat) {rh rt rp rq hp hs pl ps pw pa pr F C N S : Nat} {sd V E : Int32} {fo : Bool} {s : PSt} {w a r : Nat → Nat} {ft : Nat → Int32} {ro g0 o0 d0 : Int32} {f0 : Nat → Int32} {Ψ : PS} (hx : GG sk RX3 yX3_find cX3_find 7 none 6 0 0 Ψ 0 0 24 [some (.ref rh), some (.ref pl), some (.ref hp), none, none, none, none] [] [oRests rh rt rp ro fo, cI rt 6 (fun _ => -1), oPole rp rq g0 o0 d0, cI rq 30 f0, oPoleS hp hs s sd, cI hs 30 (fI s.1), oPlan pl ps pw pa pr (nI F) (nI C) V E (nI N) (nI S), cI pw 6 (fI w), cI pa 6 (fI a), cI pr 6 (fI r)]) : ∀ (m i : Nat), i + m = 6 → GG sk RX3 yX3_find cX3_find 7 none 6 0 0 Ψ 0 0 2 [some (.ref rh), some (.ref pl), some (.ref hp), some (.int (nI i)), none, none, none] [] [oRests rh rt rp ro fo, cI rt 6 (fun j => if j < i then -1 else ft j), oPole rp rq g0 o0 d0, cI rq 30 f0, oPoleS hp hs s sd, cI hs 30 (fI s.1), oPlan pl ps pw pa pr (nI F) (nI C) V E (nI N) (nI S), cI pw 6 (fI w), cI pa 6 (fI a), cI pr 6 (fI r)] := by
  intro m
  induction m with
  | zero =>
    intro i hi
    refine g_iload_n dX3_find_2 rfl rfl ?_
    refine g_aload_n dX3_find_3 rfl rfl ?_
    refine g_get f_X3_9 dX3_find_4 rfl 0 rfl rfl ?_
    refine g_alen dX3_find_7 rfl 1 rfl (Nat.le_of_ble_eq_true rfl) rfl ?_
    refine g_icmp_geN (t := 24) dX3_find_8 (by decide) rfl (by omega) (by omega) (fun h8 => ?_) (fun h8 => ?_)
    · skip
      refine g_cong (g := fun _ => -1) 1 rfl (fun j hj => if_pos (by omega)) rfl ?_
      refine g_drop 3 rfl ?_
      exact hx
    · exact absurd h8 (by omega)
  | succ m ih =>
    intro i hi
    refine g_iload_n dX3_find_2 rfl rfl ?_
    refine g_aload_n dX3_find_3 rfl rfl ?_
    refine g_get f_X3_9 dX3_find_4 rfl 0 rfl rfl ?_
    refine g_alen dX3_find_7 rfl 1 rfl (Nat.le_of_ble_eq_true rfl) rfl ?_
    refine g_icmp_geN (t := 24) dX3_find_8 (by decide) rfl (by omega) (by omega) (fun h8 => ?_) (fun h8 => ?_)
    · exact absurd h8 (by omega)
    · skip
      refine g_aload_n dX3_find_11 rfl rfl ?_
      refine g_get f_X3_9 dX3_find_12 rfl 0 rfl rfl ?_
      refine g_iload_n dX3_find_15 rfl rfl ?_
      refine g_iconst (v := -1) dX3_find_16 rfl (by decide) ?_
      refine g_iastN dX3_find_17 rfl 1 rfl (by omega) (by decide) (m1_up i ft) rfl ?_
      refine g_iinc dX3_find_18 rfl rfl (nI_1 _) (by decide) rfl rfl ?_
      refine g_goto (q := 2) dX3_find_21 (by decide) ?_
      exact ih (i + 1) (by omega)

set_option maxRecDepth 20000 in
theorem c_X3_find (sk : Nat → Nat) {rh rt rp rq hp hs pl ps pw pa pr F C N S : Nat} {sd V E : Int32} {fo : Bool} {s : PSt} {w a r : Nat → Nat} {ft : Nat → Int32} {ro g0 o0 d0 : Int32} {f0 : Nat → Int32} (hB : PB F C N S w a r) (hs0 : SB s.1) : Ct sk yX3_find cX3_find 7 none 6 0 0 [oRests rh rt rp ro fo, cI rt 6 ft, oPole rp rq g0 o0 d0, cI rq 30 f0, oPoleS hp hs s sd, cI hs 30 (fI s.1), oPlan pl ps pw pa pr (nI F) (nI C) V E (nI N) (nI S), cI pw 6 (fI w), cI pa 6 (fI a), cI pr 6 (fI r)] [.ref rh, .ref pl, .ref hp] (fun q w1 => q = none ∧ ∃ (g0 o0 d0 : Int32) (f0 : Nat → Int32), w1 = [oRests rh rt rp (restsR F C N S w a r V E s).2 fo, cI rt 6 (restsR F C N S w a r V E s).1, oPole rp rq g0 o0 d0, cI rq 30 f0, oPoleS hp hs s sd, cI hs 30 (fI s.1), oPlan pl ps pw pa pr (nI F) (nI C) V E (nI N) (nI S), cI pw 6 (fI w), cI pa 6 (fI a), cI pr 6 (fI r)]) := by
  refine Ct.of (own := RX3) (l := [some (.ref rh), some (.ref pl), some (.ref hp), none, none, none, none]) (by decide) rfl (Nat.le_of_ble_eq_true rfl) rfl ?_
  refine g_iconst (v := nI 0) dX3_find_0 rfl (by decide) ?_
  refine g_istore_n dX3_find_1 rfl (by decide) rfl rfl ?_
  have h0 := lp_X3_find0 sk (rh := rh) (rt := rt) (rp := rp) (rq := rq) (hp := hp) (hs := hs) (pl := pl) (ps := ps) (pw := pw) (pa := pa) (pr := pr) (F := F) (C := C) (N := N) (S := S) (sd := sd) (V := V) (E := E) (fo := fo) (s := s) (w := w) (a := a) (r := r) (ft := ft) (ro := ro) (g0 := g0) (o0 := o0) (d0 := d0) (f0 := f0) (Ψ := (fun q w1 => q = none ∧ ∃ (g0 o0 d0 : Int32) (f0 : Nat → Int32), w1 = [oRests rh rt rp (restsR F C N S w a r V E s).2 fo, cI rt 6 (restsR F C N S w a r V E s).1, oPole rp rq g0 o0 d0, cI rq 30 f0, oPoleS hp hs s sd, cI hs 30 (fI s.1), oPlan pl ps pw pa pr (nI F) (nI C) V E (nI N) (nI S), cI pw 6 (fI w), cI pa 6 (fI a), cI pr 6 (fI r)])) ?_ 6 0 (by omega)
  · rw [show (fun j => if j < 0 then -1 else ft j) = ft from funext (fun j => if_neg (Nat.not_lt_zero j))] at h0
    exact h0
  refine g_aload_n dX3_find_24 rfl rfl ?_
  refine g_iconst (v := nI 0) dX3_find_25 rfl (by decide) ?_
  refine g_putI f_X3_30 dX3_find_26 rfl 0 rfl (Nat.le_of_ble_eq_true rfl) rfl ?_
  dsimp only [List.set]
  refine g_aload_n dX3_find_29 rfl rfl ?_
  refine g_get f_X3_38 dX3_find_30 rfl 4 rfl rfl ?_
  refine g_iconst (v := -1) dX3_find_33 rfl (by decide) ?_
  refine g_icmp_eq (t := 38) dX3_find_34 (by decide) rfl (fun h34 => ?_) (fun h34 => ?_)
  · skip
    refine g_iconst (v := nI 1) dX3_find_38 rfl (by decide) ?_
    refine g_istore_n dX3_find_39 rfl (by decide) rfl rfl ?_
    refine g_iconst (v := nI 1) dX3_find_40 rfl (by decide) ?_
    refine g_istore dX3_find_41 rfl (by decide) rfl rfl ?_
    exact lp_X3_rounds sk hB hs0 20 1 0 (fun _ => -1) _ _ _ _ (by omega) (by omega) (fun g0 o0 d0 f0 => by unfold restsR; rw [if_pos h34]; exact ⟨rfl, _, _, _, _, rfl⟩)
  · skip
    exact g_vret dX3_find_37 rfl (Nat.le_refl _) (Nat.le_refl _) (by unfold restsR; rw [if_neg h34]; exact ⟨rfl, _, _, _, _, rfl⟩)
set_option maxRecDepth 20000 in
theorem lp_X3_answer (sk : Nat → Nat) {rh rt rp rq hp hs pl ps pw pa pr F C N S : Nat} {sd V E ro x g0 o0 d0 : Int32} {fo : Bool} {s : PSt} {w a r : Nat → Nat} {ft f0 : Nat → Int32} (hx : x = -1 ∨ ∃ j, j < 6 ∧ x = nI j) : GG sk RX3 yX3_answer cX3_answer 4 (some .int) 7 0 0 (fun q w1 => q = some (.int (if x = -1 ∨ (restsR F C N S w a r V E s).2 = -1 then (restsR F C N S w a r V E s).2 else (restsR F C N S w a r V E s).1 x.toNatClampNeg)) ∧ ∃ (g0 o0 d0 : Int32) (f0 : Nat → Int32), w1 = [oRests rh rt rp (restsR F C N S w a r V E s).2 true, cI rt 6 (restsR F C N S w a r V E s).1, oPole rp rq g0 o0 d0, cI rq 30 f0, oPoleS hp hs s sd, cI hs 30 (fI s.1), oPlan pl ps pw pa pr (nI F) (nI C) V E (nI N) (nI S), cI pw 6 (fI w), cI pa 6 (fI a), cI pr 6 (fI r)]) 0 0 18 [some (.ref rh), some (.ref pl), some (.ref hp), some (.int x)] [] [oRests rh rt rp (restsR F C N S w a r V E s).2 true, cI rt 6 (restsR F C N S w a r V E s).1, oPole rp rq g0 o0 d0, cI rq 30 f0, oPoleS hp hs s sd, cI hs 30 (fI s.1), oPlan pl ps pw pa pr (nI F) (nI C) V E (nI N) (nI S), cI pw 6 (fI w), cI pa 6 (fI a), cI pr 6 (fI r)] := by
  refine g_iload_n dX3_answer_18 rfl rfl ?_
  refine g_iconst (v := -1) dX3_answer_19 rfl (by decide) ?_
  refine g_icmp_eq (t := 31) dX3_answer_20 (by decide) rfl (fun h20 => ?_) (fun h20 => ?_)
  · skip
    refine g_aload_n dX3_answer_31 rfl rfl ?_
    refine g_get f_X3_30 dX3_answer_32 rfl 0 rfl rfl ?_
    exact g_iret dX3_answer_35 rfl (Nat.le_refl _) (Nat.le_refl _) (⟨by rw [if_pos (Or.inl h20)], _, _, _, _, rfl⟩)
  · skip
    refine g_aload_n dX3_answer_23 rfl rfl ?_
    refine g_get f_X3_30 dX3_answer_24 rfl 0 rfl rfl ?_
    refine g_iconst (v := -1) dX3_answer_27 rfl (by decide) ?_
    refine g_icmp_ne (t := 36) dX3_answer_28 (by decide) rfl (fun h28 => ?_) (fun h28 => ?_)
    · obtain ⟨j, hj, rfl⟩ := hx.resolve_left h20
      refine g_aload_n dX3_answer_36 rfl rfl ?_
      refine g_iload_n dX3_answer_37 rfl rfl ?_
      refine g_callV (c_X3_turnOf sk hj) m_X3_34 a_X3_turnOf dX3_answer_38 rfl [0, 1] rfl rfl 0 rfl rfl rfl (by decide) (by decide) (by decide) (by decide) (Nat.le_of_ble_eq_true rfl) (fun r w hK => ?_)
      obtain ⟨rfl, rfl⟩ := hK
      refine ⟨rfl, ?_⟩
      dsimp only [puts, List.set, Option.toList, List.cons_append, List.nil_append, List.append_nil]
      exact g_iret dX3_answer_41 rfl (Nat.le_refl _) (Nat.le_refl _) (⟨by rw [if_neg (fun z => z.elim h20 h28), nI_clamp (by omega)], _, _, _, _, rfl⟩)
    · skip
      refine g_aload_n dX3_answer_31 rfl rfl ?_
      refine g_get f_X3_30 dX3_answer_32 rfl 0 rfl rfl ?_
      exact g_iret dX3_answer_35 rfl (Nat.le_refl _) (Nat.le_refl _) (⟨by rw [if_pos (Or.inr h28)], _, _, _, _, rfl⟩)
set_option maxRecDepth 20000 in
theorem c_X3_answer (sk : Nat → Nat) {rh rt rp rq hp hs pl ps pw pa pr F C N S : Nat} {sd V E ro x g0 o0 d0 : Int32} {fo : Bool} {s : PSt} {w a r : Nat → Nat} {ft f0 : Nat → Int32} (hB : PB F C N S w a r) (hs0 : SB s.1) (hx : x = -1 ∨ ∃ j, j < 6 ∧ x = nI j) (hfo : fo = true → ft = (restsR F C N S w a r V E s).1 ∧ ro = (restsR F C N S w a r V E s).2) : Ct sk yX3_answer cX3_answer 4 (some .int) 7 0 0 [oRests rh rt rp ro fo, cI rt 6 ft, oPole rp rq g0 o0 d0, cI rq 30 f0, oPoleS hp hs s sd, cI hs 30 (fI s.1), oPlan pl ps pw pa pr (nI F) (nI C) V E (nI N) (nI S), cI pw 6 (fI w), cI pa 6 (fI a), cI pr 6 (fI r)] [.ref rh, .ref pl, .ref hp, .int x] (fun q w1 => q = some (.int (if x = -1 ∨ (restsR F C N S w a r V E s).2 = -1 then (restsR F C N S w a r V E s).2 else (restsR F C N S w a r V E s).1 x.toNatClampNeg)) ∧ ∃ (g0 o0 d0 : Int32) (f0 : Nat → Int32), w1 = [oRests rh rt rp (restsR F C N S w a r V E s).2 true, cI rt 6 (restsR F C N S w a r V E s).1, oPole rp rq g0 o0 d0, cI rq 30 f0, oPoleS hp hs s sd, cI hs 30 (fI s.1), oPlan pl ps pw pa pr (nI F) (nI C) V E (nI N) (nI S), cI pw 6 (fI w), cI pa 6 (fI a), cI pr 6 (fI r)]) := by
  refine Ct.of (own := RX3) (l := [some (.ref rh), some (.ref pl), some (.ref hp), some (.int x)]) (by decide) rfl (Nat.le_of_ble_eq_true rfl) rfl ?_
  refine g_aload_n dX3_answer_0 rfl rfl ?_
  refine g_get f_X3_22 dX3_answer_1 rfl 0 rfl rfl ?_
  refine g_if_neB (t := 18) dX3_answer_4 (by decide) rfl (fun h4 => ?_) (fun h4 => ?_)
  · subst h4
    obtain ⟨rfl, rfl⟩ := hfo rfl
    exact lp_X3_answer sk (ft := fun _ => 0) (fo := true) (ro := 0) hx
  · subst h4
    refine g_aload_n dX3_answer_7 rfl rfl ?_
    refine g_aload_n dX3_answer_8 rfl rfl ?_
    refine g_aload_n dX3_answer_9 rfl rfl ?_
    refine g_callV (c_X3_find sk hB hs0) m_X3_26 a_X3_find dX3_answer_10 rfl [0, 1, 2, 3, 4, 5, 6, 7, 8, 9] rfl rfl 0 rfl rfl rfl (by decide) (by decide) (by decide) (by decide) (Nat.le_of_ble_eq_true rfl) (fun r w hK => ?_)
    obtain ⟨rfl, g0, o0, d0, f0, rfl⟩ := hK
    refine ⟨rfl, ?_⟩
    dsimp only [puts, List.set, Option.toList, List.cons_append, List.nil_append, List.append_nil]
    refine g_aload_n dX3_answer_13 rfl rfl ?_
    refine g_iconst (v := nI 1) dX3_answer_14 rfl (by decide) ?_
    refine g_putZ (b := true) f_X3_22 dX3_answer_15 rfl 0 rfl (Nat.le_of_ble_eq_true rfl) rfl ?_
    dsimp only [List.set]
    exact lp_X3_answer sk (ft := fun _ => 0) (fo := true) (ro := 0) hx
end
