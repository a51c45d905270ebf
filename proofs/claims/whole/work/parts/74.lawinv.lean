/-! THE LAW: what holds between two calls -/
def PLaw : PS := fun q _ => q = some (.int (zb true))
theorem pole_plan {u : QS} {T : Nat → Nat} {fs fw fa fr : Nat → Int32} (hQ : QB u) (hP : PlR u.1 fs fw fa fr) (hT : ∀ j, j < 54 → T j = u.1 j) : IPlan T (fun j => (fw j).toBitVec.toNat) (fun j => (fa j).toBitVec.toNat) (fun j => (fr j).toBitVec.toNat) fs := by
  have e0 := hT 0 (by decide); have e1 := hT 1 (by decide)
  refine ⟨QB_T hQ hT, fun c hc => ?_, fun hF j hj => ?_, hP.2.2⟩
  · have hc6 : c < u.1 1 := by omega
    have h6 : u.1 1 ≤ 6 := hQ.2.1
    obtain ⟨f1, f2, f3⟩ := hP.2.1 c hc6
    have hb := hQ.2.2.2.2.2.2.1 c hc6
    dsimp only
    rw [f1, f2, f3, pk_tn (by omega), pk_tn (by omega), pk_tn (by omega)]
    exact ⟨hT _ (by omega), hT _ (by omega), hT _ (by omega)⟩
  · rw [hP.1 (by omega) j hj, hT (24 + j) (by omega)]
theorem pole_cache {T w a r T2 w2 a2 r2 : Nat → Nat} {st : Bool} {t : PSt} {ag : Int32} {af : Bool} {f9 fg ffn : Nat → Int32} {qf : Nat → Nat → Int32} {rx : Int32} {fo : Bool} {ftn : Nat → Int32} (h : ICache T w a r st t ag af f9 fg ffn qf rx fo ftn) : ICache T2 w2 a2 r2 false t ag af f9 fg ffn qf rx fo ftn := by
  obtain ⟨h1, h2, -, h4, -⟩ := h
  refine ⟨h1, h2, fun q => absurd q (by decide), fun c hc => ?_, fun q => absurd q (by decide)⟩
  obtain ⟨b, hb, -⟩ := h4 c hc
  exact ⟨b, hb, fun q => absurd q (by decide)⟩
theorem ord_cache {T w a r : Nat → Nat} {st : Bool} {s t : PSt} {ag : Int32} {af : Bool} {f9 fg ffn : Nat → Int32} {qf : Nat → Nat → Int32} {rx : Int32} {fo : Bool} {ftn : Nat → Int32} (h : ICache T w a r st t ag af f9 fg ffn qf rx fo ftn) (hs : SB s.1) (hn : NS s) {f92 ff2 : Nat → Int32} {fo2 : Bool} (hR : RowP (allL (T 1) (fewG (T 0) (T 1) (T 4) (T 5) w a r true (-1) s (T 1))) f92) (hD : (s = t ∧ st = true ∧ fo2 = fo ∧ ff2 = ffn) ∨ (fo2 = false ∧ ff2 = fun _ => zb false)) : ICache T w a r true s (lenI (fewG (T 0) (T 1) (T 4) (T 5) w a r true (-1) s (T 1))) true f92 fg ff2 qf rx fo2 ftn := by
  obtain ⟨h1, h2, h3, h4, h5⟩ := h
  refine ⟨hs, hn, fun _ _ => ⟨rfl, hR⟩, fun c hc => ?_, fun _ hf => ?_⟩
  · rcases hD with ⟨e1, e2, e3, e4⟩ | ⟨e3, e4⟩
    · obtain ⟨b, hb1, hb2⟩ := h4 c hc
      rw [e4, e1]
      exact ⟨b, hb1, fun _ => hb2 e2⟩
    · rw [e4]
      exact ⟨false, rfl, fun _ q => absurd q (by decide)⟩
  · rcases hD with ⟨e1, e2, e3, e4⟩ | ⟨e3, e4⟩
    · rw [e1]; exact h5 e2 (by rw [← e3]; exact hf)
    · rw [e3] at hf; cases hf
theorem rst_cache {T w a r : Nat → Nat} {st : Bool} {s t : PSt} {ag : Int32} {af : Bool} {f9 fg ffn : Nat → Int32} {qf : Nat → Nat → Int32} {rx : Int32} {fo : Bool} {ftn : Nat → Int32} (h : ICache T w a r st t ag af f9 fg ffn qf rx fo ftn) (hs : SB s.1) (hn : NS s) {ff2 : Nat → Int32} {af2 : Bool} (hD : (s = t ∧ st = true ∧ af2 = af ∧ ff2 = ffn) ∨ (af2 = false ∧ ff2 = fun _ => zb false)) : ICache T w a r true s ag af2 f9 fg ff2 qf (restsR (T 0) (T 1) (T 4) (T 5) w a r (nI (T 2)) (nI (T 3)) s).2 true (restsR (T 0) (T 1) (T 4) (T 5) w a r (nI (T 2)) (nI (T 3)) s).1 := by
  obtain ⟨h1, h2, h3, h4, h5⟩ := h
  refine ⟨hs, hn, fun _ ha => ?_, fun c hc => ?_, fun _ _ => ⟨rfl, rfl⟩⟩
  · rcases hD with ⟨e1, e2, e3, e4⟩ | ⟨e3, e4⟩
    · rw [e1]; exact h3 e2 (by rw [← e3]; exact ha)
    · rw [e3] at ha; cases ha
  · rcases hD with ⟨e1, e2, e3, e4⟩ | ⟨e3, e4⟩
    · obtain ⟨b, hb1, hb2⟩ := h4 c hc
      rw [e4, e1]
      exact ⟨b, hb1, fun _ => hb2 e2⟩
    · rw [e4]
      exact ⟨false, rfl, fun _ q => absurd q (by decide)⟩
theorem one_cache {c : Nat} {T w a r : Nat → Nat} {st : Bool} {s t : PSt} {ag : Int32} {af : Bool} {f9 fg ffn : Nat → Int32} {qf : Nat → Nat → Int32} {rx : Int32} {fo : Bool} {ftn : Nat → Int32} (hc6 : c < 6) (h : ICache T w a r st t ag af f9 fg ffn qf rx fo ftn) (hs : SB s.1) (hn : NS s) {fq2 ff2 : Nat → Int32} {fo2 af2 : Bool} (hR : ∀ j, j < ((fewG (T 0) (T 1) (T 4) (T 5) w a r false (nI c) s 6).getD []).length → fq2 j = nI (((fewG (T 0) (T 1) (T 4) (T 5) w a r false (nI c) s 6).getD []).getD j 0)) (hD : (s = t ∧ st = true ∧ fo2 = fo ∧ af2 = af ∧ ff2 = ffn) ∨ (fo2 = false ∧ af2 = false ∧ ff2 = fun _ => zb false)) : ICache T w a r true s ag af2 f9 (upd fg c (lenI (fewG (T 0) (T 1) (T 4) (T 5) w a r false (nI c) s 6))) (upd ff2 c (zb true)) (fun i => if i = c then fq2 else qf i) rx fo2 ftn := by
  obtain ⟨h1, h2, h3, h4, h5⟩ := h
  refine ⟨hs, hn, fun _ ha => ?_, fun i hi => ?_, fun _ hf => ?_⟩
  · rcases hD with ⟨e1, e2, e3, e4, e5⟩ | ⟨e3, e4, e5⟩
    · rw [e1]; exact h3 e2 (by rw [← e4]; exact ha)
    · rw [e4] at ha; cases ha
  · by_cases e : i = c
    · subst e
      refine ⟨true, pk_us, fun _ _ => ⟨pk_us, ?_⟩⟩
      dsimp only
      rw [if_pos rfl]
      exact hR
    · dsimp only
      rw [if_neg e, pk_un e, pk_un e]
      rcases hD with ⟨e1, e2, e3, e4, e5⟩ | ⟨e3, e4, e5⟩
      · obtain ⟨b, hb1, hb2⟩ := h4 i hi
        rw [e5, e1]
        exact ⟨b, hb1, fun _ => hb2 e2⟩
      · rw [e5]
        exact ⟨false, rfl, fun _ q => absurd q (by decide)⟩
  · rcases hD with ⟨e1, e2, e3, e4, e5⟩ | ⟨e3, e4, e5⟩
    · rw [e1]; exact h5 e2 (by rw [← e3]; exact hf)
    · rw [e3] at hf; cases hf
