/-! G: one judgement for the walk of a method: from pc, locals l, stack st, world ws the method returns with Ψ (answer, world). The machine's state, the class numbers and the frame are inside. -/
abbrev AE : Type := (Nat × vp_A) ⊕ (Nat × List Value)
abbrev AW : Type := List (Nat × AE)
abbrev LV : Type := List (Option Value)
abbrev PS : Type := Option Value → AW → Prop
/-- the kinds of arrays -/
def zTy : Nat → FieldType := fun k => match k with
  | 0 => .int
  | 1 => .byte
  | 2 => .boolean
  | 3 => .object "SoapPole$Pole"
  | _ => .array .int
def zTys (ca : Nat → ClassId) : List (ClassId × FieldType) := [(ca 0, .int), (ca 1, .byte), (ca 2, .boolean), (ca 3, .object "SoapPole$Pole"), (ca 4, .array .int)]
def zE (ca : Nat → ClassId) (e : AE) : va_E := match e with
  | .inl a => .inl (ca a.1, a.2)
  | .inr o => .inr o
def zW (ca : Nat → ClassId) (ws : AW) : va_W := ws.map (fun q => (q.1, zE ca q.2))
theorem zW_get (ca : Nat → ClassId) {ws : AW} {k a : Nat} {e : AE} (h : ws[k]? = some (a, e)) : (zW ca ws)[k]? = some (a, zE ca e) := by
  rw [zW, List.getElem?_map, h]; rfl
theorem zW_set (ca : Nat → ClassId) (ws : AW) (k a : Nat) (e : AE) : (zW ca ws).set k (a, zE ca e) = zW ca (ws.set k (a, e)) := by
  rw [zW, zW, List.map_set]
theorem zW_app (ca : Nat → ClassId) (w1 w2 : AW) : zW ca (w1 ++ w2) = zW ca w1 ++ zW ca w2 := List.map_append
theorem zW_pick (ca : Nat → ClassId) {ws wc : AW} {is : List Nat} (h : is.map (fun i => ws[i]?) = wc.map some) : is.map (fun i => (zW ca ws)[i]?) = (zW ca wc).map some := by
  have e : is.map (fun i => (zW ca ws)[i]?) = (is.map (fun i => ws[i]?)).map (Option.map (fun q => (q.1, zE ca q.2))) := by
    rw [List.map_map]
    apply List.map_congr_left
    intro i _
    show (zW ca ws)[i]? = (ws[i]?).map _
    rw [zW, List.getElem?_map]
  rw [e, h, List.map_map, zW, List.map_map]
  rfl
/-- the locals, by their places -/
def zL (ls : Array Slot) (nL : Nat) (l : LV) : Prop := ls.size = nL ∧ lv_wf ls ∧ ∀ (i : Nat) (v : Value), l[i]? = some (some v) → ls[i]? = some (.val v)
def zPs (l : LV) : List (Nat × Value) := l.zipIdx.filterMap (fun q => q.1.map (fun v => (q.2, v)))
theorem zPs_mem {l : LV} {i : Nat} {v : Value} : (i, v) ∈ zPs l ↔ l[i]? = some (some v) := by
  unfold zPs
  rw [List.mem_filterMap]
  constructor
  · rintro ⟨⟨o, j⟩, h1, h2⟩
    have h3 := List.mem_zipIdx_iff_getElem?.mp h1
    cases o with
    | none => cases h2
    | some w => cases h2; exact h3
  · intro h
    exact ⟨(some v, i), List.mem_zipIdx_iff_getElem?.mpr h, rfl⟩
theorem zL_has {ls : Array Slot} {nL : Nat} {l : LV} (h : zL ls nL l) : lv_has ls nL (zPs l) := ⟨h.1, h.2.1, fun q hq => h.2.2 q.1 q.2 (zPs_mem.mp hq)⟩
/-- no long stands just below -/
def zOk (l : LV) : Nat → Bool
  | 0 => true
  | j + 1 => match l[j]? with
    | some (some v) => !(v.category == 2)
    | _ => true
theorem zL_st {ls : Array Slot} {nL i : Nat} {l : LV} {x : Value} (ho : zOk l i = true) (h : lv_has ls nL ((i, x) :: (zPs l).filter (fun q => !(q.1 == i) && !(q.1 + 1 == i && q.2.category == 2)))) : zL ls nL (l.set i (some x)) := by
  refine ⟨h.1, h.2.1, fun j v hj => ?_⟩
  by_cases hji : i = j
  · subst hji
    rw [List.getElem?_set] at hj
    simp only [if_true] at hj
    by_cases hl : i < l.length
    · rw [if_pos hl] at hj
      cases hj
      exact h.2.2 (i, x) List.mem_cons_self
    · rw [if_neg hl] at hj; cases hj
  · rw [List.getElem?_set_ne hji] at hj
    refine h.2.2 (j, v) (List.mem_cons_of_mem _ (List.mem_filter.mpr ⟨zPs_mem.mpr hj, ?_⟩))
    have h1 : (j == i) = false := beq_eq_false_iff_ne.mpr (fun e => hji e.symm)
    by_cases h2 : j + 1 = i
    · subst h2
      simp only [zOk, hj] at ho
      simp [h1, ho]
    · have h3 : (j + 1 == i) = false := beq_eq_false_iff_ne.mpr h2
      simp [h1, h3]
theorem zL_stL {ls : Array Slot} {nL i : Nat} {l : LV} {x : Int64} (ho : zOk l i = true) (h : lv_has ls nL ((i, Value.long x) :: (zPs l).filter (fun q => !(q.1 == i) && (!(q.1 == i + 1) && !(q.1 + 1 == i && q.2.category == 2))))) : zL ls nL ((l.set i (some (.long x))).set (i + 1) none) := by
  refine ⟨h.1, h.2.1, fun j v hj => ?_⟩
  by_cases hj1 : i + 1 = j
  · subst hj1
    rw [List.getElem?_set] at hj
    simp only [if_true] at hj
    split at hj <;> cases hj
  · rw [List.getElem?_set_ne hj1] at hj
    by_cases hji : i = j
    · subst hji
      rw [List.getElem?_set] at hj
      simp only [if_true] at hj
      by_cases hl : i < l.length
      · rw [if_pos hl] at hj
        cases hj
        exact h.2.2 (i, _) List.mem_cons_self
      · rw [if_neg hl] at hj; cases hj
    · rw [List.getElem?_set_ne hji] at hj
      refine h.2.2 (j, v) (List.mem_cons_of_mem _ (List.mem_filter.mpr ⟨zPs_mem.mpr hj, ?_⟩))
      have h1 : (j == i) = false := beq_eq_false_iff_ne.mpr (fun e => hji e.symm)
      have h4 : (j == i + 1) = false := beq_eq_false_iff_ne.mpr (fun e => hj1 e.symm)
      by_cases h2 : j + 1 = i
      · subst h2
        simp only [zOk, hj] at ho
        simp [h1, h4, ho]
      · have h3 : (j + 1 == i) = false := beq_eq_false_iff_ne.mpr h2
        simp [h1, h3, h4]
def zR (d mc ms : Nat) : Room := { frames := d, cells := mc, slots := ms, locals := 64 * d }
/-- the law's script: its address, its length, its ints; nobody writes it -/
def zScr (sk : Nat → Nat) (A : Nat → Prop) (U : State) (H : Heap) : Prop := va_T .int (sk 10) (sk 11) (fun j => .int (nI (sk (12 + j)))) A U H
/-- the string constants of the reader: pole, foot, climber, ham, sun -/
def zLen : List Nat := [4, 4, 7, 3, 3]
def zByt : List (List Int32) := [[112, 111, 108, 101], [102, 111, 111, 116], [99, 108, 105, 109, 98, 101, 114], [104, 97, 109], [115, 117, 110]]
def zStr (sk : Nat → Nat) (A : Nat → Prop) (U : State) (H : Heap) : Prop := vk_S 5 zLen zByt sk (fun i => sk (i + 5)) A U H ∧ va_Z "java/lang/String" "COMPACT_STRINGS" "Z" (.int 1) A U H ∧ va_Zq "jdk/internal/util/Preconditions" "SIOOBE_FORMATTER" "Ljava/util/function/BiFunction;" A U H ∧ zScr sk A U H
/-- what the tables say of the making of arrays of references -/
def zAO (ty : FieldType) (U : State) : Prop := (Cond.arrayOver ty).before #[] U = true
def zArrOf (comp : ClassId) (kd : Kind) : Bool := match kd with
  | .array component _ => component == comp
  | _ => false
def zIs (ty : FieldType) (b : Bool) (kd : Kind) : Bool := match kd with
  | .array _ t => decide (t = ty) && b
  | _ => false
def zAOv (cs : Array Class) (fc : String → Option ClassId) (nm : String) (ty : FieldType) : Option Bool := (fc nm).bind fun comp => (cs.findIdx? fun (x : Class) => zArrOf comp x.kind).bind fun c => (cs[c]?).map fun (k : Class) => zIs ty (decide (fc ("[" ++ ty.toString) = some c)) k.kind
theorem zAO_o (n : String) (U : State) : zAO (.object n) U = ((zAOv U.vm.classes U.vm.findClass n (.object n) == some true) = true) := rfl
theorem zAO_a (t : FieldType) (U : State) : zAO (.array t) U = ((zAOv U.vm.classes U.vm.findClass (FieldType.array t).toString (.array t) == some true) = true) := rfl
theorem zAOv_moved {nm : String} {ty : FieldType} {u U : State} (hvm : u.vm.Alike U.vm) : zAOv U.vm.classes U.vm.findClass nm ty = zAOv u.vm.classes u.vm.findClass nm ty := by
  have hk : ∀ c : ClassId, (U.vm.classes[c]?).map (fun k => k.kind) = (u.vm.classes[c]?).map (fun k => k.kind) := by
    intro c
    cases hc : u.vm.classes[c]? with
    | none =>
      have h1 : u.vm.classes.size ≤ c := Array.getElem?_eq_none_iff.mp hc
      have h2 : U.vm.classes[c]? = none := Array.getElem?_eq_none_iff.mpr (by rw [hvm.2.1]; exact h1)
      rw [h2]
    | some k =>
      obtain ⟨k', hk', he⟩ := hvm.2.2 _ _ hc
      rw [hk', he]
      rfl
  have hK : U.vm.classes.map (fun k => k.kind) = u.vm.classes.map (fun k => k.kind) := by
    apply Array.ext_getElem?
    intro i
    rw [Array.getElem?_map, Array.getElem?_map]
    exact hk i
  have hi : ∀ g : Kind → Bool, (U.vm.classes.findIdx? fun x => g x.kind) = (u.vm.classes.findIdx? fun x => g x.kind) := by
    intro g
    have h1 := Array.findIdx?_map (xs := U.vm.classes) (f := fun k => k.kind) (p := g)
    have h2 := Array.findIdx?_map (xs := u.vm.classes) (f := fun k => k.kind) (p := g)
    rw [hK] at h1
    exact h1.symm.trans h2
  have hm : ∀ (c : ClassId) (g : Kind → Bool), (U.vm.classes[c]?).map (fun k => g k.kind) = (u.vm.classes[c]?).map (fun k => g k.kind) := by
    intro c g
    have := congrArg (Option.map g) (hk c)
    simpa [Option.map_map, Function.comp_def] using this
  have hf : U.vm.findClass = u.vm.findClass := by funext n; rw [hvm.findClass]
  unfold zAOv
  rw [hf]
  congr 1
  funext comp
  rw [hi (zArrOf comp)]
  congr 1
  funext c
  exact hm c (zIs ty _)
theorem zAO.movedO {n : String} {u U : State} (hvm : u.vm.Alike U.vm) (h : zAO (.object n) u) : zAO (.object n) U := by
  rw [zAO_o] at h ⊢
  rw [zAOv_moved hvm]
  exact h
theorem zAO.movedA {t : FieldType} {u U : State} (hvm : u.vm.Alike U.vm) (h : zAO (.array t) u) : zAO (.array t) U := by
  rw [zAO_a] at h ⊢
  rw [zAOv_moved hvm]
  exact h
def zRef (sk : Nat → Nat) (U : State) : Prop := vk_R "SoapPole$Reader" 90 "pole" (sk 0) U ∧ vk_R "SoapPole$Reader" 96 "foot" (sk 1) U ∧ vk_R "SoapPole$Reader" 98 "climber" (sk 2) U ∧ vk_R "SoapPole$Reader" 100 "ham" (sk 3) U ∧ vk_R "SoapPole$Reader" 102 "sun" (sk 4) U ∧ (∀ q ∈ zNest, va_Nw (.methodLinkNest q.1 q.2.1 q.2.2.1 q.2.2.2) U) ∧ zAO (.object "SoapPole$Pole") U ∧ zAO (.array .int) U
theorem zStr.kept {sk : Nat → Nat} {A : Nat → Prop} {U : State} {H H1 : Heap} (h : zStr sk A U H) (hq : ∀ a : Nat, a < H.size → ¬ A a → H1[a]? = H[a]?) : zStr sk A U H1 := ⟨h.1.kept hq, h.2.1.kept hq, h.2.2.1.kept hq, va_T.kept h.2.2.2 hq⟩
theorem zStr.narrow {sk : Nat → Nat} {A B : Nat → Prop} {U : State} {H : Heap} (h : zStr sk A U H) (hAB : ∀ q, B q → A q) : zStr sk B U H := ⟨h.1.narrow hAB, h.2.1.narrow hAB, h.2.2.1.narrow hAB, va_T.narrow h.2.2.2 hAB⟩
theorem zStr.moved {sk : Nat → Nat} {A : Nat → Prop} {u U : State} {H : Heap} (hvm : u.vm.Alike U.vm) (h : zStr sk A u H) : zStr sk A U H := ⟨h.1.moved hvm, h.2.1.moved hvm, h.2.2.1.moved hvm, va_T.moved hvm h.2.2.2⟩
theorem zRef.warm {sk : Nat → Nat} {s U : State} (hW : s.WarmedH U.vm) (h : zRef sk s) : zRef sk U := ⟨h.1.warm hW, h.2.1.warm hW, h.2.2.1.warm hW, h.2.2.2.1.warm hW, h.2.2.2.2.1.warm hW, fun q hq => (h.2.2.2.2.2.1 q hq).warmM hW, h.2.2.2.2.2.2.1.movedO hW.alike, h.2.2.2.2.2.2.2.movedA hW.alike⟩
theorem zRef.same {sk : Nat → Nat} {s U : State} (hv : U.vm = s.vm) (h : zRef sk s) : zRef sk U := ⟨h.1.same hv, h.2.1.same hv, h.2.2.1.same hv, h.2.2.2.1.same hv, h.2.2.2.2.1.same hv, fun q hq => (h.2.2.2.2.2.1 q hq).same rfl hv.symm, h.2.2.2.2.2.2.1.movedO (by rw [hv]; exact Vm.Alike.refl _), h.2.2.2.2.2.2.2.movedA (by rw [hv]; exact Vm.Alike.refl _)⟩
/-- what holds all through a method -/
def zC (sk : Nat → Nat) (own : String) (y : MethodName) (cc : ByteArray) (nL : Nat) (rt : Option FieldType) (p : Program) (s : State) (m : MethodId) (args : Array Value) (meth : Method) (c : Code) (G : va_G) (ca : Nat → ClassId) (A : Nat → Prop) : Prop :=
  p.tables.exec = Jvm.exec ∧ c.code = cc ∧ meth.sig.returnType = rt ∧ meth.locks = false ∧ c.maxLocals = nL ∧ s.vm.findClass own = some m.cls ∧ meth.name = y.name ∧ (∀ w ∈ T0, w.before args s = true) ∧ va_K G vwCl (zTys ca) s ∧ (∀ q, s.heap.size ≤ q → A q) ∧ zStr sk A s s.heap ∧ zRef sk s
/-- a method's end -/
def zQ (Ψ : PS) (G : va_G) (ca : Nat → ClassId) (A : Nat → Prop) : Array Value → State → Outcome → State → Prop := fun _ st oc t =>
  (∃ (r : Option Value) (ws : AW), oc = .returned r ∧ Ψ r ws ∧ va_P G vwCl (zW ca ws) t.heap ∧ va_D A (zW ca ws)) ∧ va_F A st t
/-- a method's start -/
def zB (sk : Nat → Nat) (G : va_G) (ca : Nat → ClassId) (ws : AW) (sz : Nat) (U : State) : Prop := U.heap.size = sz ∧ va_P G vwCl (zW ca ws) U.heap ∧ va_K G vwCl (zTys ca) U ∧ va_D (fun _ => True) (zW ca ws) ∧ zStr sk (va_A (zW ca ws) sz) U U.heap ∧ zRef sk U
/-- THE CONTRACT: from the world ws, at these arguments, method y returns with Ψ -/
def Ct (sk : Nat → Nat) (y : MethodName) (cc : ByteArray) (nL : Nat) (rt : Option FieldType) (d mc ms : Nat) (ws : AW) (av : List Value) (Ψ : PS) : Prop :=
  ∀ (la : Launch) (G : va_G) (ca : Nat → ClassId) (sz : Nat), Met la y (Cond.code y cc nL rt :: T0) (zR d mc ms) (va_Pc av (zB sk G ca ws sz)) (zQ Ψ G ca (va_A (zW ca ws) sz)) mc ms (va_A (zW ca ws) sz)
/-- THE WALK -/
def GG (sk : Nat → Nat) (own : String) (y : MethodName) (cc : ByteArray) (nL : Nat) (rt : Option FieldType) (d mc ms : Nat) (Ψ : PS) (k n pc : Nat) (l : LV) (st : List Value) (ws : AW) : Prop :=
  ∀ (p : Program) (la : Launch) (e : Env) (s : State) (m : MethodId) (args : Array Value) (below : List Frame) (meth : Method) (c : Code) (G : va_G) (ca : Nat → ClassId) (A : Nat → Prop) (H : Heap) (locs : List Loc) (ls : Array Slot),
    zC sk own y cc nL rt p s m args meth c G ca A → zL ls nL l → va_P G vwCl (zW ca ws) H → va_D A (zW ca ws) → va_S A s.heap H locs →
    W p la e (zR d mc ms) s m args below meth c H locs k n (MQ below (zQ Ψ G ca A) args s mc ms A) (F0 m pc ls st)
/-- the locals at the entry -/
def zA : List Value → LV
  | [] => []
  | v :: vs => if v.category = 2 then some v :: none :: zA vs else some v :: zA vs
theorem zA_in : ∀ (vs : List Value) (b i : Nat) (v : Value), (zA vs)[i]? = some (some v) → (b + i, v) ∈ lv_args b vs
  | [], _, i, v, h => by simp [zA] at h
  | x :: vs, b, i, v, h => by
    rcases lv_cat x with hx | hx
    · rw [zA, if_neg (by rw [hx]; decide)] at h
      cases i with
      | zero =>
        simp at h; subst h
        simp [lv_args]
      | succ i =>
        rw [List.getElem?_cons_succ] at h
        have := zA_in vs (b + 1) i v h
        rw [show b + (i + 1) = b + 1 + i by omega]
        simp [lv_args, hx]
        exact Or.inr this
    · rw [zA, if_pos hx] at h
      cases i with
      | zero =>
        simp at h; subst h
        simp [lv_args]
      | succ i =>
        cases i with
        | zero => simp at h
        | succ i =>
          rw [List.getElem?_cons_succ, List.getElem?_cons_succ] at h
          have := zA_in vs (b + 2) i v h
          rw [show b + (i + 1 + 1) = b + 2 + i by omega]
          simp [lv_args, hx]
          exact Or.inr this
theorem Ct.of {sk : Nat → Nat} {own : String} {y : MethodName} {cc : ByteArray} {nL : Nat} {rt : Option FieldType} {d mc ms : Nat} {ws : AW} {av : List Value} {Ψ : PS} {l : LV} (hy : plainName y.cls = true) (ho : y.cls = own) (hn : (lg_sl av).length ≤ nL) (hl : zA av ++ List.replicate (nL - (zA av).length) none = l)
    (h : GG sk own y cc nL rt d mc ms Ψ 0 0 0 l [] ws) : Ct sk y cc nL rt d mc ms ws av Ψ := by
  intro la G ca sz
  refine Met.ofW (cc := cc) (maxL := nL) (ret := rt) hy rfl ?_
  intro p e s m args below meth c s₁ B hml hv
  obtain ⟨rfl, hsz, hP, hK, hD0, hZ, hZr⟩ := hv
  have hts := atoms_spec (ws := Cond.code y cc nL rt :: T0) B.pre
  have hown : s.vm.findClass own = some m.cls := by rw [← ho]; exact findClass_of_methodNamed B.named
  subst hsz
  have hD := hD0.self (sz := s.heap.size)
  have hen := lv_entry av (n := nL) hn
  rw [lg_entry_eq]
  generalize (lg_sl av ++ List.replicate (nL - (lg_sl av).length) Slot.unset).toArray = ls at hen ⊢
  refine h p la e s m av.toArray below meth c G ca _ s.heap [] ls ⟨B.exec, B.bytes, B.returns, B.notSynchronized, hml, hown, (name_of_methodNamed B.named B.method).1, fun w hw => hts w (List.mem_cons_of_mem _ hw), hK, fun q hq => Or.inr hq, hZ, hZr⟩ ⟨hen.1, hen.2.1, fun i v hi => ?_⟩ hP hD va_S.rf
  rw [← hl] at hi
  refine hen.2.2 (i, v) ?_
  have h0 : (zA av)[i]? = some (some v) := by
    by_cases hlt : i < (zA av).length
    · rwa [List.getElem?_append_left hlt] at hi
    · rw [List.getElem?_append_right (by omega), List.getElem?_replicate] at hi
      split at hi <;> cases hi
  have := zA_in av 0 i v h0
  rwa [Nat.zero_add] at this
