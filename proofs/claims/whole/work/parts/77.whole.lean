/-! THE CLAIM OUT OF ONE WALK OF THE LAW'S BODY. Your part is whole_start (and what it stands on); all else here is the same for every law, but numbers. -/
def R_law : String := "SoapPoleLaw"
def lw_P (b : Addr) (xs : List Int32) (args : Array Value) (s : State) : Prop := args = #[.ref b] ∧ s.IntsAt b xs ∧ xs.length ≤ 256 ∧ (Jvm.Cond.and given_1 narrow_1).before args s = true
def lw_Q (_ : Array Value) (s : State) (o : Outcome) (t : State) : Prop := o = .returned (some (.int 1)) ∧ Framed s o t [] 600000 7302250
def lw_Z (below : List Frame) (a : Array Value) (s : State) : State → Prop := fun t => ∃ o, t.status = .running ∧ Ended t below o ∧ lw_Q a s o t
/-- the law's own end, with 1 on the stack, nothing written that was there before, its room as the claim has it -/
theorem lw_ret {p : Program} {l : Launch} {e : Env} {s : State} {m : MethodId} {below : List Frame} {meth : Method} {c : Code} {b : Nat} (hx : p.tables.exec = Jvm.exec) (hb : c.code = code) (hr : meth.sig.returnType = ret) (hlocks : meth.locks = false) {pc : Nat} {H : Heap} {ls : Array Slot} (hdg : decode code pc = .ok (.ireturn, 1)) : W p l e room_1 s m #[Value.ref b] below meth c H [] 600000 7302250 (lw_Z below #[Value.ref b] s) (F0 m pc ls [.int 1]) := by
  intro T hT X
  obtain ⟨fs, hret, hrun, hended, hW, hframe⟩ := X.leave (v := some (.int 1)) (hlocks := hlocks) (fun h => by rw [hr] at h; cases h)
  have hmeth' : T.vm.method? m = some meth := X.method'
  refine ⟨T.setFrames fs, ?_, .returned (some (.int 1)), hrun, hended, rfl, ⟨_, rfl⟩, hW, hframe⟩
  jvm_step X.here [X.here.top, hx, hb, hdg, hmeth', hr, ret, narrow_b1]
  (try refine ⟨rfl, ?_⟩); (try refine ⟨rfl, ?_⟩)
  first | (intro acts; rw [hret _ acts rfl rfl rfl]) | rw [hret _ _ rfl rfl rfl]
  exact Steps.refl _
/-- what holds at the law's entry: the machine, the code, the tables' words (any of lw_tbl by 'hts w (by decide +kernel)'), the script of L ints xs at the cell b, what the Statement gives of the start (any of its parts by flat_of_before) -/
def lw_At (p : Program) (s : State) (m : MethodId) (meth : Method) (c : Code) (b L : Nat) (xs : Nat → Int32) : Prop :=
  p.tables.exec = Jvm.exec ∧ c.code = code ∧ meth.sig.returnType = ret ∧ c.maxLocals = 4 ∧ s.vm.findClass R_law = some m.cls ∧ (∀ w ∈ lw_tbl, w.before #[Value.ref b] s = true) ∧ va_X b L xs s s.heap ∧ b < s.heap.size ∧ meth.locks = false ∧ (Jvm.Cond.and given_1 narrow_1).before #[Value.ref b] s = true
/-! the start: what the tables and the Statement give at the entry -/
theorem ws_room {p : Program} {l : Launch} {e : Env} {R R' : Room} {s : State} {m : MethodId} {args : Array Value} {below : List Frame} {meth : Method} {c : Code} {H : Heap} {locs : List Loc} {cells slots : Nat} {Q : State → Prop} {g : JFrame} (hf : R.frames ≤ R'.frames) (hl : R.locals ≤ R'.locals) (hc : R.cells ≤ R'.cells) (hs : R.slots ≤ R'.slots) (k : W p l e R s m args below meth c H locs cells slots Q g) : W p l e R' s m args below meth c H locs cells slots Q g := by
  intro T hT X
  have hr : s.hasRoom e.platform R = true := by
    have h := X.room
    simp only [State.hasRoom, Bool.and_eq_true, decide_eq_true_eq] at h ⊢
    obtain ⟨⟨⟨⟨y, a, b, c, d, e⟩, f⟩, g⟩, i⟩ := h
    exact ⟨⟨⟨⟨by omega, by omega, by omega, by omega, by omega, e⟩, by omega⟩, by omega⟩, i⟩
  exact k T hT ⟨X.admits, X.cas, X.clock, X.frames, hr, X.hears, X.method, X.code, X.here, X.tail, X.warmed, X.limits, X.bytes, X.same⟩
theorem ws_kn {s : State} {args : Array Value} (hts : ∀ w ∈ lw_tbl, w.before args s = true) : ∃ G : va_G, ∀ (k : Nat) (q : vw_C), vwCl[k]? = some q → u_Kn s q.1 q.2.1 q.2.2 (G.1 k) (G.2 k) := by
  have h0 : ∀ w ∈ T0, w.before args s = true := fun w hw => hts w (List.mem_filter.mp hw).1
  obtain ⟨c0, i0, q0⟩ := u_known (C := RX0) (T := TX0) (N := 10) (n := 10) h0 inT_X0 (hts (.instantiable RX0 10) (by decide +kernel))
  obtain ⟨c1, i1, q1⟩ := u_known (C := RX1) (T := TX1) (N := 4) (n := 4) h0 inT_X1 (hts (.instantiable RX1 4) (by decide +kernel))
  obtain ⟨c2, i2, q2⟩ := u_known (C := RX2) (T := TX2) (N := 11) (n := 11) h0 inT_X2 (hts (.instantiable RX2 11) (by decide +kernel))
  obtain ⟨c3, i3, q3⟩ := u_known (C := RX3) (T := TX3) (N := 4) (n := 4) h0 inT_X3 (hts (.instantiable RX3 4) (by decide +kernel))
  obtain ⟨c4, i4, q4⟩ := u_known (C := RX4) (T := TX4) (N := 11) (n := 11) h0 inT_X4 (hts (.instantiable RX4 11) (by decide +kernel))
  obtain ⟨c5, i5, q5⟩ := u_known (C := RX5) (T := TX5) (N := 4) (n := 4) h0 inT_X5 (hts (.instantiable RX5 4) (by decide +kernel))
  obtain ⟨c6, i6, q6⟩ := u_known (C := RX6) (T := TX6) (N := 12) (n := 12) h0 inT_X6 (hts (.instantiable RX6 12) (by decide +kernel))
  obtain ⟨c7, i7, q7⟩ := u_known (C := RX7) (T := TX7) (N := 25) (n := 25) h0 inT_X7 (hts (.instantiable RX7 25) (by decide +kernel))
  refine ⟨(fun k => [c0, c1, c2, c3, c4, c5, c6, c7].getD k c0, fun k => [i0, i1, i2, i3, i4, i5, i6, i7].getD k i0), ?_⟩
  intro k q hq
  match k, hq with
  | 0, hq => cases hq; exact q0
  | 1, hq => cases hq; exact q1
  | 2, hq => cases hq; exact q2
  | 3, hq => cases hq; exact q3
  | 4, hq => cases hq; exact q4
  | 5, hq => cases hq; exact q5
  | 6, hq => cases hq; exact q6
  | 7, hq => cases hq; exact q7
  | k + 8, hq => simp [vwCl] at hq
theorem ws_over {args : Array Value} {s : State} {t : FieldType} (h : (Cond.arrayOver (.array t)).before args s = true) : ∃ (cA : ClassId) (kA : Class) (comp : ClassId), s.vm.classes[cA]? = some kA ∧ kA.kind = .array comp (.array t) ∧ s.vm.findClass ("[" ++ (FieldType.array t).toString) = some cA := by
  simp only [Cond.before, Cond.holds, Cond.value, beq_iff_eq] at h
  cases hc : s.vm.findClass (FieldType.array t).toString with
  | none => simp [hc] at h
  | some comp =>
    simp only [hc, Option.bind_some, Option.bind_eq_some_iff, Option.map_eq_some_iff] at h
    obtain ⟨c, hi, k, hk, hb⟩ := h
    cases hkind : k.kind with
    | array component ty =>
      rw [hkind] at hb
      simp at hb
      exact ⟨c, k, component, hk, by rw [hkind, hb.1], hb.2⟩
    | _ => rw [hkind] at hb; simp at hb
theorem ws_arr {s : State} {args : Array Value} (hts : ∀ w ∈ lw_tbl, w.before args s = true) : ∃ ca : Nat → ClassId, ∀ (k : Nat) (q : ClassId × FieldType), (zTys ca)[k]? = some q → ArrOfT s q.1 q.2 ∧ va_RA s q.1 q.2 := by
  obtain ⟨a0, k0, m0, f0, g0, h0⟩ := Cond.arrayClass_spec (hts (.arrayClass .int) (by decide +kernel))
  obtain ⟨a1, k1, m1, f1, g1, h1⟩ := Cond.arrayClass_spec (hts (.arrayClass .byte) (by decide +kernel))
  obtain ⟨a2, k2, m2, f2, g2, h2⟩ := Cond.arrayClass_spec (hts (.arrayClass .boolean) (by decide +kernel))
  obtain ⟨m3, a3, k3, e3, -, g3, h3, f3⟩ := Cond.arrayOver_spec (hts (.arrayOver (.object "SoapPole$Pole")) (by decide +kernel))
  obtain ⟨a4, k4, m4, g4, h4, f4⟩ := ws_over (hts (.arrayOver (.array .int)) (by decide +kernel))
  refine ⟨fun k => [a0, a1, a2, a3, a4].getD k a0, ?_⟩
  intro k q hq
  match k, hq with
  | 0, hq => cases hq; exact ⟨fun n z => ⟨fun k h => (by cases h), k0, g0, m0, h0⟩, f0⟩
  | 1, hq => cases hq; exact ⟨fun n z => ⟨fun k h => (by cases h), k1, g1, m1, h1⟩, f1⟩
  | 2, hq => cases hq; exact ⟨fun n z => ⟨fun k h => (by cases h), k2, g2, m2, h2⟩, f2⟩
  | 3, hq => cases hq; exact ⟨fun n z => ⟨fun k h => (by cases h), k3, g3, m3, h3⟩, k3, m3, g3, h3, e3, f3⟩
  | 4, hq => cases hq; exact ⟨fun n z => ⟨fun k h => (by cases h), k4, g4, m4, h4⟩, f4⟩
  | k + 5, hq => simp [zTys] at hq
/-- the reader's String constants -/
def wsT (i : Nat) : Term := Term.string "SoapPole$Reader" ([90, 96, 98, 100, 102].getD i 0)
abbrev wsG : Cond := Jvm.Cond.and given_1 narrow_1
theorem wsT_ex : ∀ i : Fin 5, Cond.exactly (wsT i) "java/lang/String" ∈ flatC wsG := by decide +kernel
theorem wsT_co : ∀ i : Fin 5, Cond.eq (.field (wsT i) "java/lang/String" "coder" "B") (.int 0) ∈ flatC wsG := by decide +kernel
theorem wsT_ar : ∀ i : Fin 5, Cond.arrayOf (.field (wsT i) "java/lang/String" "value" "[B") .byte ∈ flatC wsG := by decide +kernel
theorem wsT_le : ∀ i : Fin 5, Cond.eq (.length (.field (wsT i) "java/lang/String" "value" "[B")) (.int (Int32.ofNat (zLen.getD i 0))) ∈ flatC wsG := by decide +kernel
theorem wsT_el : ∀ i : Fin 5, ∀ j : Fin (zLen.getD i 0), Cond.eq (.elem (.field (wsT i) "java/lang/String" "value" "[B") (.int (Int32.ofNat j))) (.int ((zByt.getD i []).getD j 0)) ∈ flatC wsG := by decide +kernel
theorem wsT_ne : ∀ i j : Fin 5, i ≠ j → (Cond.not (Cond.eq (wsT i) (wsT j)) ∈ flatC wsG ∨ Cond.not (Cond.eq (wsT j) (wsT i)) ∈ flatC wsG) := by decide +kernel
theorem ws_str {args : Array Value} {s : State} (hgv : wsG.before args s = true) : ∃ adK adV : Nat → Nat, vk_S 5 zLen zByt adK adV (fun q => s.heap.size ≤ q) s s.heap ∧ ∀ i : Nat, i < 5 → (wsT i).eval args s none [] s = some (.ref (adK i)) := by
  have hs := flat_of_before _ hgv
  exact vk_Sof (tm := wsT) (len := zLen) (byt := zByt) (by decide) (fun i hi => hs _ (wsT_ex ⟨i, hi⟩)) (fun i hi => hs _ (wsT_co ⟨i, hi⟩)) (fun i hi => hs _ (wsT_ar ⟨i, hi⟩)) (fun i hi => hs _ (wsT_le ⟨i, hi⟩)) (fun i hi j hj => hs _ (wsT_el ⟨i, hi⟩ ⟨j, hj⟩))
    (fun i j hi hj hij => (wsT_ne ⟨i, hi⟩ ⟨j, hj⟩ (fun q => hij (congrArg Fin.val q))).imp (hs _) (hs _)) (fun a ha => Nat.not_le.mpr ha)
theorem ws_st {args : Array Value} {s : State} (hts : ∀ w ∈ lw_tbl, w.before args s = true) (hgv : wsG.before args s = true) : va_Z "java/lang/String" "COMPACT_STRINGS" "Z" (.int 1) (fun q => s.heap.size ≤ q) s s.heap ∧ va_Zq "jdk/internal/util/Preconditions" "SIOOBE_FORMATTER" "Ljava/util/function/BiFunction;" (fun q => s.heap.size ≤ q) s s.heap := by
  have hs := flat_of_before _ hgv
  have hA : ∀ a : Nat, a < s.heap.size → ¬ (fun q => s.heap.size ≤ q) a := fun a ha => Nat.not_le.mpr ha
  exact ⟨va_Zof (hts (.laysStatic "java/lang/String" "COMPACT_STRINGS" "Z") (by decide +kernel)) (hts (.initialized "java/lang/String") (by decide +kernel)) (va_eqt (hs (Cond.eq (.static "java/lang/String" "COMPACT_STRINGS" "Z") (.int 1)) (by decide +kernel))) hA,
    va_Zqof (hts (.laysStatic "jdk/internal/util/Preconditions" "SIOOBE_FORMATTER" "Ljava/util/function/BiFunction;") (by decide +kernel)) (hts (.initialized "jdk/internal/util/Preconditions") (by decide +kernel)) (hs (Cond.isRef (.static "jdk/internal/util/Preconditions" "SIOOBE_FORMATTER" "Ljava/util/function/BiFunction;")) (by decide +kernel)) hA⟩
theorem ws_sk (adK adV : Nat → Nat) (b L : Nat) (xs : Nat → Int32) : ∃ sk : Nat → Nat, (∀ i, i < 5 → sk i = adK i) ∧ (∀ i, i < 5 → sk (i + 5) = adV i) ∧ sk 10 = b ∧ sk 11 = L ∧ ∀ j, nI (sk (12 + j)) = xs j := by
  refine ⟨fun i => if i < 5 then adK i else if i < 10 then adV (i - 5) else if i = 10 then b else if i = 11 then L else (xs (i - 12)).toBitVec.toNat, fun i hi => if_pos hi, fun i hi => ?_, rfl, rfl, fun j => ?_⟩
  · show (if i + 5 < 5 then adK (i + 5) else if i + 5 < 10 then adV (i + 5 - 5) else _) = adV i
    rw [if_neg (by omega), if_pos (by omega), Nat.add_sub_cancel]
  · show nI (if 12 + j < 5 then adK (12 + j) else if 12 + j < 10 then adV (12 + j - 5) else if 12 + j = 10 then b else if 12 + j = 11 then L else (xs (12 + j - 12)).toBitVec.toNat) = xs j
    rw [if_neg (by omega), if_neg (by omega), if_neg (by omega), if_neg (by omega), Nat.add_sub_cancel_left]
    exact congrFun (fI_of xs) j
theorem ws_nest {args : Array Value} {s : State} (hts : ∀ w ∈ lw_tbl, w.before args s = true) : ∀ q ∈ zNest, va_Nw (.methodLinkNest q.1 q.2.1 q.2.2.1 q.2.2.2) s := by
  have h : ∀ q ∈ zNest, Cond.methodLinkNest q.1 q.2.1 q.2.2.1 q.2.2.2 ∈ lw_tbl := fun q hq => of_decide_eq_true (List.all_eq_true.mp (show zNest.all (fun q => decide (Cond.methodLinkNest q.1 q.2.1 q.2.2.1 q.2.2.2 ∈ lw_tbl)) = true by decide +kernel) q hq)
  exact fun q hq => va_Nw.of rfl (hts _ (h q hq))
theorem ws_end {G : va_G} {ca : Nat → ClassId} {below : List Frame} {b : Nat} {s t : State} (h : MQ below (zQ PLaw G ca (fun q => s.heap.size ≤ q)) #[Value.ref b] s 73 1816 (fun q => s.heap.size ≤ q) t) : lw_Z below #[Value.ref b] s t := by
  obtain ⟨o, hrun, hended, ⟨⟨r, ws, rfl, hr, -, -⟩, -⟩, L, ⟨hv, hW, hsame⟩, hL⟩ := h
  have hr : r = some (.int (zb true)) := hr
  subst hr
  exact ⟨_, hrun, hended, rfl, hv, hW, hsame.weaken (fun x hx hlt => absurd (hL x hx) (Nat.not_le.mpr hlt)) (by decide) (by decide)⟩
theorem whole_start {p : Program} {e : Env} {s : State} {m : MethodId} {below : List Frame} {meth : Method} {c : Code} (l : Launch) (hflags : l.flags = flags0) {b L : Nat} {xs : Nat → Int32} (hL : L ≤ 256) (C0 : lw_At p s m meth c b L xs) : W p l e room_1 s m #[Value.ref b] below meth c s.heap [] 0 0 (lw_Z below #[Value.ref b] s) (entryFrame m ([Value.ref b] : List Value).toArray 4) := by
  obtain ⟨hx, hb, hr, hml, hown, hts, hX, hbl, hlocks, hgv⟩ := C0
  obtain ⟨G, hG⟩ := ws_kn hts
  obtain ⟨ca, hca⟩ := ws_arr hts
  obtain ⟨adK, adV, hS, hE⟩ := ws_str hgv
  obtain ⟨hZ, hZq⟩ := ws_st hts hgv
  obtain ⟨sk, k1, k2, k3, k4, k5⟩ := ws_sk adK adV b L xs
  have hStr : zStr sk (fun q => s.heap.size ≤ q) s s.heap := by
    refine ⟨⟨fun i hi => ?_, fun i j hi hj e => hS.2 i j hi hj (by rw [← k1 i hi, ← k1 j hj]; exact e)⟩, hZ, hZq, ?_⟩
    · have := hS.1 i hi
      rw [← k1 i hi, ← k2 i hi] at this
      exact this
    · obtain ⟨scr, g1, g2, g3, g4, g5⟩ := hX
      refine ⟨scr, by rw [k3]; exact g1, g2, g3, by rw [k4]; exact Nat.le_of_eq g4.symm, by rw [k4, g4], fun j hj => ?_, by rw [k3]; exact Nat.not_le.mpr hbl⟩
      show scr.slots[j]? = some (.int (nI (sk (12 + j))))
      rw [k5]
      exact g5 j (by rw [← k4]; exact hj)
  have hRef : zRef sk s :=
    ⟨vk_R.of (hts (.stringRef "SoapPole$Reader" 90 "pole") (by decide +kernel)) (by rw [k1 0 (by decide)]; exact hE 0 (by decide)),
     vk_R.of (hts (.stringRef "SoapPole$Reader" 96 "foot") (by decide +kernel)) (by rw [k1 1 (by decide)]; exact hE 1 (by decide)),
     vk_R.of (hts (.stringRef "SoapPole$Reader" 98 "climber") (by decide +kernel)) (by rw [k1 2 (by decide)]; exact hE 2 (by decide)),
     vk_R.of (hts (.stringRef "SoapPole$Reader" 100 "ham") (by decide +kernel)) (by rw [k1 3 (by decide)]; exact hE 3 (by decide)),
     vk_R.of (hts (.stringRef "SoapPole$Reader" 102 "sun") (by decide +kernel)) (by rw [k1 4 (by decide)]; exact hE 4 (by decide)),
     ws_nest hts, hts (.arrayOver (.object "SoapPole$Pole")) (by decide +kernel), hts (.arrayOver (.array .int)) (by decide +kernel)⟩
  have hen := lv_entry ([.ref b]) (n := 4) (Nat.le_of_ble_eq_true rfl)
  rw [lg_entry_eq]
  generalize (lg_sl ([.ref b]) ++ List.replicate (4 - (lg_sl ([.ref b])).length) Slot.unset).toArray = ls at hen ⊢
  have hgo := law_go sk ⟨RL, meth.name, ""⟩ (by rw [k4]; exact hL) p l e s m #[Value.ref b] below meth c G ca (fun q => s.heap.size ≤ q) s.heap [] ls
    ⟨hx, hb, hr, hlocks, hml, hown, rfl, fun w hw => hts w (List.mem_filter.mp hw).1, ⟨hG, hca⟩, fun q hq => hq, hStr, hRef⟩
    ⟨hen.1, hen.2.1, fun i v hi => hen.2.2 (i, v) (by
      have h0 : (zA [.ref b])[i]? = some (some v) := by
        rw [k3] at hi
        match i, hi with
        | 0, hi => exact hi
        | 1, hi => cases hi
        | 2, hi => cases hi
        | 3, hi => cases hi
        | i + 4, hi => simp at hi
      have := zA_in [.ref b] 0 i v h0
      rwa [Nat.zero_add] at this)⟩
    (fun k q h => by simp [zW] at h) ⟨fun i j p q h => by simp [zW] at h, fun k q h => by simp [zW] at h⟩ va_S.rf
  have hgo := ws_room (R' := room_1) (by decide) (by decide) (by decide) (by decide) hgo
  intro T hT X
  obtain ⟨t, a1, b1⟩ := hgo T hT X
  exact ⟨t, a1, ws_end b1⟩
set_option maxHeartbeats 4000000 in
theorem lw_walk (l : Launch) (hflags : l.flags = flags0) (b : Addr) (xs : List Int32) : MetFree l x (headSpec (Jvm.Cond.code x code maxLocals ret :: tables_1) room_1) (lw_P b xs) (fun _ _ _ _ _ => True) lw_Q := by
  refine MetFree.of_bodyS (code := code) (maxLocals := maxLocals) (ret := ret) (by decide) ?_ ?_
  · intro args s m h hn
    obtain ⟨meth, c, h1, h2, h3, h4, h5, h6, -, -⟩ := Cond.code_spec hn (atoms_spec (ws := Jvm.Cond.code x code maxLocals ret :: tables_1) h _ List.mem_cons_self)
    exact ⟨meth, c, h1, h2, h3, h4, h5, h6⟩
  · intro p e s m args below meth c s₁ B hml0 hP _
    obtain ⟨rfl, hx, hbd, hgv⟩ := hP
    obtain ⟨scr, harrAt, hlist, hof, hsmall⟩ := hx
    obtain ⟨hcb, hkn, -, -⟩ := State.arrayAt?_spec harrAt
    have hown : s.vm.findClass R_law = some m.cls := findClass_of_methodNamed B.named
    have hts0 : ∀ c ∈ (Jvm.Cond.code x code maxLocals ret :: tables_1), c.before #[Value.ref b] s = true := atoms_spec (ws := Jvm.Cond.code x code maxLocals ret :: tables_1) B.pre
    have hts : ∀ w ∈ lw_tbl, w.before #[Value.ref b] s = true := k2_hts_sels lw_privs (fun w hw => hts0 w (List.mem_cons_of_mem _ hw)) lw_privs_ok
    have hml : c.maxLocals = 4 := B.maxLocals_eq (hts0 _ List.mem_cons_self)
    have X₀ : Stand p l e room_1 s m #[Value.ref b] below meth c s₁ [] 0 0 := Stand.of_body B
    have hh0 : s₁.heap = s.heap := by rw [B.state]; rfl
    have hsz : scr.slots.size = xs.length := by rw [← Array.length_toList, hlist, List.length_map]
    have hval : ∀ j : Nat, j < xs.length → scr.slots[j]? = some (.int (xs.getD j 0)) := fun j hj => by
      rw [← Array.getElem?_toList, hlist]
      simp [hj]
    have hbl : b < s.heap.size := (Array.getElem?_eq_some_iff.mp hcb).1
    have hX : va_X b xs.length (fun j => xs.getD j 0) s s.heap := ⟨scr, hcb, hof, hkn, hsz, hval⟩
    have K : W p l e room_1 s m #[Value.ref b] below meth c s₁.heap [] 0 0 (lw_Z below #[Value.ref b] s) (entryFrame m ([Value.ref b] : List Value).toArray 4) := by
      rw [hh0]
      exact whole_start l hflags hbd ⟨B.exec, B.bytes, B.returns, hml, hown, hts, hX, hbl, B.notSynchronized, hgv⟩
    obtain ⟨t, a1, o, b1, b2, b3⟩ := K s₁ rfl X₀
    exact ⟨t, o, a1, b1, b2, b3⟩
theorem lw_pre_spec {args : Array Value} {s : State} (h : (Jvm.Cond.and given_1 narrow_1).before args s = true) (hr : rest_1_c.before args s = true) : ∃ (b : Addr) (xs : List Int32), lw_P b xs args s := by
  have hs := flat_of_before _ h
  have hq := flat_of_before _ hr
  have hc : (Cond.count 1).before args s = true := hs _ (by decide +kernel)
  have harr : (Cond.arrayOf (.arg 0) .int).before args s = true := hs _ (by decide +kernel)
  have hle : (Cond.le (.length (.arg 0)) (.int 256)).before args s = true := hs _ (by decide +kernel)
  have hlen : (Cond.isInt (.length (.arg 0))).before args s = true := hq _ (by decide +kernel)
  have hall : (Cond.all (.arg 0) (.isInt (.elem (.arg 0) (.index 0)))).before args s = true := hq _ (by decide +kernel)
  obtain ⟨b, xs, hb, hx⟩ := State.ints_of_pre rfl harr hlen hall
  have hsm : xs.length < 2 ^ 31 := hx.choose_spec.2.2.2
  have hev : (Term.length (.arg 0)).eval args s none [] s = some (.int xs.length.toInt32) := hx.length_eval hb
  have hv := Cond.le_ints hev (show (Term.int 256).eval args s none [] s = some (.int 256) from rfl)
  have hd : xs.length.toInt32 ≤ 256 := by
    simpa [Cond.before, Cond.holds, hv] using hle
  have hN : xs.length ≤ 256 := (Int32.ofNat_le_ofNat hsm (by decide)).mp (show Int32.ofNat xs.length ≤ Int32.ofNat 256 from hd)
  exact ⟨b, xs, Cond.one_arg hc (show args[0]? = some (.ref b) from hb), hx, hN, h⟩
theorem lw_comes (l : Launch) (hflags : l.flags = flags0) : Comes l x (Jvm.Cond.code x code maxLocals ret :: tables_1) room_1 (fun tb e args s => Calls_1 tb e args s ∧ rest_1 tb e args s ∧ Pre_1 tb e args s)
    (fun _ _ args s o t => lw_Q args s o t) := by
  intro p e ha hc hk s m args below hf hfit hheap happ hpre
  obtain ⟨b, xs, hP⟩ := lw_pre_spec hpre.2.2 hpre.2.1
  obtain ⟨k, o, h1, h2, h3, hQ⟩ := lw_walk l hflags b xs p e ha hc hk s m args below hf ((Spec.applies_iff_loose hf).mp happ).1 hP trivial
  exact ⟨k, o, h1, h2, h3, hQ⟩
theorem lw_frame {s t : State} {o : Outcome} {args : Array Value} (h : Framed s o t [] 600000 7302250) :
    Framed s o t (fieldLocs frame_1_writes args s ++ arrayLocs frame_1_arrays args s ++ staticLocs frame_1_statics s) 600000 7302250 := h
theorem lw_limb (L : Cond) (hL : ∀ (args : Array Value) (s t : State), L.after args s (.returned (some (.int 1))) t = true) :
    ArmFor flags0 classFile x code maxLocals ret World_1 tables_1 room_1 Calls_1 rest_1 Pre_1
      (fun tb e a s o t => postC L tb e a s o t ∧ Framed s o t (fieldLocs frame_1_writes a s ++ arrayLocs frame_1_arrays a s ++ staticLocs frame_1_statics s) 600000 7302250) := by
  intro l hflags _ _ p e ha hc hk s m args below hf hfit hheap happ hpre
  obtain ⟨k, o, h1, h2, h3, rfl, hF⟩ := lw_comes l hflags p e ha hc hk s m args below hf hfit hheap happ hpre
  exact ⟨k, _, h1, h2, h3, hL args s _, lw_frame hF⟩
theorem i_vc : Claimed_1_1 ∧ Claimed_1_2 := ⟨lw_limb limb_1_1 (fun args s t => by simp [limb_1_1, Cond.after, Cond.holds, Cond.value]), lw_limb limb_1_2 (fun args s t => Cond.after_iff.mpr (by
  first | (rw [show limb_1_2 = Cond.eq .result (.int 1) from rfl, Cond.eq_ints (x := 1) (y := 1) rfl rfl]; simp; done) | (simp [limb_1_2, Cond.value, Term.eval]; done)))⟩

