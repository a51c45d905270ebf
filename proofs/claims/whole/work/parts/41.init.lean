/-! the constructors -/
set_option maxRecDepth 20000 in
theorem c_X1_init (sk : Nat → Nat) {h : Nat} : Ct sk yX1_init cX1_init 1 none 1 1 30 [(h, .inr (1, [.null, .int 0, .int 0, .int 0]))] [.ref h] (fun q w1 => q = none ∧ ∃ (s : Nat), w1 = [oPole h s (nI 0) (-1) (nI 0), cI s 30 (fun _ => nI 0)]) := by
  refine Ct.of (own := RX1) (l := [some (.ref h)]) (by decide) rfl (Nat.le_of_ble_eq_true rfl) rfl ?_
  refine g_aload_n dX1_init_0 rfl rfl ?_
  refine g_obj dX1_init_1 rfl m_X1_3 (by decide) (Nat.le_of_ble_eq_true rfl) ?_
  refine g_aload_n dX1_init_4 rfl rfl ?_
  refine g_bipush (v := nI 30) dX1_init_5 rfl (by decide) ?_
  refine g_newI (by decide) dX1_init_7 rfl (by decide) (by decide) (fun a1 => ?_)
  dsimp only [List.cons_append, List.nil_append]
  refine g_putF f_X1_9 rfl (fun _ _ _ z => by cases z; rfl) dX1_init_9 rfl 0 rfl rfl rfl (Nat.le_of_ble_eq_true rfl) rfl ?_
  dsimp only [List.set]
  refine g_aload_n dX1_init_12 rfl rfl ?_
  refine g_iconst (v := -1) dX1_init_13 rfl (by decide) ?_
  refine g_putI f_X1_15 dX1_init_14 rfl 0 rfl (Nat.le_of_ble_eq_true rfl) rfl ?_
  dsimp only [List.set]
  exact g_vret dX1_init_17 rfl (Nat.le_refl _) (Nat.le_refl _) (⟨rfl, _, rfl⟩)
set_option maxRecDepth 20000 in
theorem c_X0_init (sk : Nat → Nat) {h : Nat} : Ct sk yX0_init cX0_init 1 none 1 4 48 [(h, .inr (0, [.null, .null, .null, .null, .int 0, .int 0, .int 0, .int 0, .int 0, .int 0]))] [.ref h] (fun q w1 => q = none ∧ ∃ (s : Nat) (w : Nat) (a : Nat) (u : Nat), w1 = [oPlan h s w a u (nI 0) (nI 0) (nI 100) (nI 1) (nI 1) (nI 0), cI s 30 (fun _ => nI 0), cI w 6 (fun _ => nI 0), cI a 6 (fun _ => nI 0), cI u 6 (fun _ => nI 0)]) := by
  refine Ct.of (own := RX0) (l := [some (.ref h)]) (by decide) rfl (Nat.le_of_ble_eq_true rfl) rfl ?_
  refine g_aload_n dX0_init_0 rfl rfl ?_
  refine g_obj dX0_init_1 rfl m_X0_3 (by decide) (Nat.le_of_ble_eq_true rfl) ?_
  refine g_aload_n dX0_init_4 rfl rfl ?_
  refine g_bipush (v := nI 30) dX0_init_5 rfl (by decide) ?_
  refine g_newI (by decide) dX0_init_7 rfl (by decide) (by decide) (fun a1 => ?_)
  dsimp only [List.cons_append, List.nil_append]
  refine g_putF f_X0_9 rfl (fun _ _ _ z => by cases z; rfl) dX0_init_9 rfl 0 rfl rfl rfl (Nat.le_of_ble_eq_true rfl) rfl ?_
  dsimp only [List.set]
  refine g_aload_n dX0_init_12 rfl rfl ?_
  refine g_bipush (v := nI 6) dX0_init_13 rfl (by decide) ?_
  refine g_newI (by decide) dX0_init_15 rfl (by decide) (by decide) (fun a2 => ?_)
  dsimp only [List.cons_append, List.nil_append]
  refine g_putF f_X0_15 rfl (fun _ _ _ z => by cases z; rfl) dX0_init_17 rfl 0 rfl rfl rfl (Nat.le_of_ble_eq_true rfl) rfl ?_
  dsimp only [List.set]
  refine g_aload_n dX0_init_20 rfl rfl ?_
  refine g_bipush (v := nI 6) dX0_init_21 rfl (by decide) ?_
  refine g_newI (by decide) dX0_init_23 rfl (by decide) (by decide) (fun a3 => ?_)
  dsimp only [List.cons_append, List.nil_append]
  refine g_putF f_X0_18 rfl (fun _ _ _ z => by cases z; rfl) dX0_init_25 rfl 0 rfl rfl rfl (Nat.le_of_ble_eq_true rfl) rfl ?_
  dsimp only [List.set]
  refine g_aload_n dX0_init_28 rfl rfl ?_
  refine g_bipush (v := nI 6) dX0_init_29 rfl (by decide) ?_
  refine g_newI (by decide) dX0_init_31 rfl (by decide) (by decide) (fun a4 => ?_)
  dsimp only [List.cons_append, List.nil_append]
  refine g_putF f_X0_21 rfl (fun _ _ _ z => by cases z; rfl) dX0_init_33 rfl 0 rfl rfl rfl (Nat.le_of_ble_eq_true rfl) rfl ?_
  dsimp only [List.set]
  refine g_aload_n dX0_init_36 rfl rfl ?_
  refine g_callV (c_X0_empty sk) m_X0_24 a_X0_empty dX0_init_37 rfl [0] rfl rfl 0 rfl rfl rfl (by decide) (by decide) (by decide) (by decide) (Nat.le_of_ble_eq_true rfl) (fun r w hK => ?_)
  obtain ⟨rfl, rfl⟩ := hK
  refine ⟨rfl, ?_⟩
  dsimp only [puts, List.set, Option.toList, List.cons_append, List.nil_append, List.append_nil]
  exact g_vret dX0_init_40 rfl (Nat.le_refl _) (Nat.le_refl _) (⟨rfl, _, _, _, _, rfl⟩)
set_option maxRecDepth 20000 in
theorem c_X2_init (sk : Nat → Nat) {h : Nat} : Ct sk yX2_init cX2_init 1 none 1 3 433 [(h, .inr (2, [.null, .null, .null, .int 0, .int 0, .int 0, .int 0, .int 0, .int 0, .int 0, .int 0]))] [.ref h] (fun q w1 => q = none ∧ ∃ (t : Nat) (f : Nat) (u : Nat), w1 = [oReader h t f u (nI 0) (nI 0) (nI 0) (-1) (nI 0) false false false, cB t 400 (fun _ => nI 0), cZ f 30 (fun _ => zb false), cI u 3 (fun _ => nI 0)]) := by
  refine Ct.of (own := RX2) (l := [some (.ref h)]) (by decide) rfl (Nat.le_of_ble_eq_true rfl) rfl ?_
  refine g_aload_n dX2_init_0 rfl rfl ?_
  refine g_obj dX2_init_1 rfl m_X2_3 (by decide) (Nat.le_of_ble_eq_true rfl) ?_
  refine g_aload_n dX2_init_4 rfl rfl ?_
  refine g_sipush (v := nI 400) dX2_init_5 rfl (by decide) ?_
  refine g_newB (by decide) dX2_init_8 rfl (by decide) (by decide) (fun a1 => ?_)
  dsimp only [List.cons_append, List.nil_append]
  refine g_putF f_X2_9 rfl (fun _ _ _ z => by cases z; rfl) dX2_init_10 rfl 0 rfl rfl rfl (Nat.le_of_ble_eq_true rfl) rfl ?_
  dsimp only [List.set]
  refine g_aload_n dX2_init_13 rfl rfl ?_
  refine g_bipush (v := nI 30) dX2_init_14 rfl (by decide) ?_
  refine g_newZ (by decide) dX2_init_16 rfl (by decide) (by decide) (fun a2 => ?_)
  dsimp only [List.cons_append, List.nil_append]
  refine g_putF f_X2_15 rfl (fun _ _ _ z => by cases z; rfl) dX2_init_18 rfl 0 rfl rfl rfl (Nat.le_of_ble_eq_true rfl) rfl ?_
  dsimp only [List.set]
  refine g_aload_n dX2_init_21 rfl rfl ?_
  refine g_iconst (v := nI 3) dX2_init_22 rfl (by decide) ?_
  refine g_newI (by decide) dX2_init_23 rfl (by decide) (by decide) (fun a3 => ?_)
  dsimp only [List.cons_append, List.nil_append]
  refine g_putF f_X2_19 rfl (fun _ _ _ z => by cases z; rfl) dX2_init_25 rfl 0 rfl rfl rfl (Nat.le_of_ble_eq_true rfl) rfl ?_
  dsimp only [List.set]
  refine g_aload_n dX2_init_28 rfl rfl ?_
  refine g_iconst (v := -1) dX2_init_29 rfl (by decide) ?_
  refine g_putI f_X2_23 dX2_init_30 rfl 0 rfl (Nat.le_of_ble_eq_true rfl) rfl ?_
  dsimp only [List.set]
  exact g_vret dX2_init_33 rfl (Nat.le_refl _) (Nat.le_refl _) (⟨rfl, _, _, _, rfl⟩)
set_option maxRecDepth 20000 in
theorem c_X3_init (sk : Nat → Nat) {h : Nat} : Ct sk yX3_init cX3_init 1 none 2 3 40 [(h, .inr (3, [.null, .null, .int 0, .int 0]))] [.ref h] (fun q w1 => q = none ∧ ∃ (t : Nat) (p : Nat) (s : Nat), w1 = [oRests h t p (nI 0) false, cI t 6 (fun _ => nI 0), oPole p s (nI 0) (-1) (nI 0), cI s 30 (fun _ => nI 0)]) := by
  refine Ct.of (own := RX3) (l := [some (.ref h)]) (by decide) rfl (Nat.le_of_ble_eq_true rfl) rfl ?_
  refine g_aload_n dX3_init_0 rfl rfl ?_
  refine g_obj dX3_init_1 rfl m_X3_3 (by decide) (Nat.le_of_ble_eq_true rfl) ?_
  refine g_aload_n dX3_init_4 rfl rfl ?_
  refine g_bipush (v := nI 6) dX3_init_5 rfl (by decide) ?_
  refine g_newI (by decide) dX3_init_7 rfl (by decide) (by decide) (fun a1 => ?_)
  dsimp only [List.cons_append, List.nil_append]
  refine g_putF f_X3_9 rfl (fun _ _ _ z => by cases z; rfl) dX3_init_9 rfl 0 rfl rfl rfl (Nat.le_of_ble_eq_true rfl) rfl ?_
  dsimp only [List.set]
  refine g_aload_n dX3_init_12 rfl rfl ?_
  refine g_new w_X3_15 df_X1 dX3_init_13 rfl (by decide) (by decide) (fun o2 => ?_)
  dsimp only [List.cons_append, List.nil_append]
  refine g_dup dX3_init_16 rfl rfl ?_
  refine g_callI (c_X1_init sk) m_X3_17 a_X1_init dX3_init_17 rfl [2] rfl rfl rfl rfl (by decide) (by decide) (by decide) (by decide) (Nat.le_of_ble_eq_true rfl) (fun r w hK => ?_)
  obtain ⟨rfl, x3, rfl⟩ := hK
  refine ⟨rfl, ?_⟩
  dsimp only [puts, List.set, Option.toList, List.cons_append, List.nil_append, List.append_nil]
  refine g_putF f_X3_18 rfl (fun _ _ _ z => by cases z; rfl) dX3_init_20 rfl 0 rfl rfl rfl (Nat.le_of_ble_eq_true rfl) rfl ?_
  dsimp only [List.set]
  exact g_vret dX3_init_23 rfl (Nat.le_refl _) (Nat.le_refl _) (⟨rfl, _, _, _, rfl⟩)
set_option maxRecDepth 20000 in
theorem c_X5_init (sk : Nat → Nat) {h : Nat} : Ct sk yX5_init cX5_init 1 none 2 4 58 [(h, .inr (5, [.null, .null, .null, .int 0]))] [.ref h] (fun q w1 => q = none ∧ ∃ (c : Nat) (f : Nat) (p : Nat) (s : Nat), w1 = [oTale h c f p (nI 0), cI c 12 (fun _ => nI 0), cI f 12 (fun _ => nI 0), oPole p s (nI 0) (-1) (nI 0), cI s 30 (fun _ => nI 0)]) := by
  refine Ct.of (own := RX5) (l := [some (.ref h)]) (by decide) rfl (Nat.le_of_ble_eq_true rfl) rfl ?_
  refine g_aload_n dX5_init_0 rfl rfl ?_
  refine g_obj dX5_init_1 rfl m_X5_3 (by decide) (Nat.le_of_ble_eq_true rfl) ?_
  refine g_aload_n dX5_init_4 rfl rfl ?_
  refine g_bipush (v := nI 12) dX5_init_5 rfl (by decide) ?_
  refine g_newI (by decide) dX5_init_7 rfl (by decide) (by decide) (fun a1 => ?_)
  dsimp only [List.cons_append, List.nil_append]
  refine g_putF f_X5_9 rfl (fun _ _ _ z => by cases z; rfl) dX5_init_9 rfl 0 rfl rfl rfl (Nat.le_of_ble_eq_true rfl) rfl ?_
  dsimp only [List.set]
  refine g_aload_n dX5_init_12 rfl rfl ?_
  refine g_bipush (v := nI 12) dX5_init_13 rfl (by decide) ?_
  refine g_newI (by decide) dX5_init_15 rfl (by decide) (by decide) (fun a2 => ?_)
  dsimp only [List.cons_append, List.nil_append]
  refine g_putF f_X5_15 rfl (fun _ _ _ z => by cases z; rfl) dX5_init_17 rfl 0 rfl rfl rfl (Nat.le_of_ble_eq_true rfl) rfl ?_
  dsimp only [List.set]
  refine g_aload_n dX5_init_20 rfl rfl ?_
  refine g_new w_X5_18 df_X1 dX5_init_21 rfl (by decide) (by decide) (fun o3 => ?_)
  dsimp only [List.cons_append, List.nil_append]
  refine g_dup dX5_init_24 rfl rfl ?_
  refine g_callI (c_X1_init sk) m_X5_20 a_X1_init dX5_init_25 rfl [3] rfl rfl rfl rfl (by decide) (by decide) (by decide) (by decide) (Nat.le_of_ble_eq_true rfl) (fun r w hK => ?_)
  obtain ⟨rfl, x4, rfl⟩ := hK
  refine ⟨rfl, ?_⟩
  dsimp only [puts, List.set, Option.toList, List.cons_append, List.nil_append, List.append_nil]
  refine g_putF f_X5_21 rfl (fun _ _ _ z => by cases z; rfl) dX5_init_28 rfl 0 rfl rfl rfl (Nat.le_of_ble_eq_true rfl) rfl ?_
  dsimp only [List.set]
  exact g_vret dX5_init_31 rfl (Nat.le_refl _) (Nat.le_refl _) (⟨rfl, _, _, _, _, rfl⟩)
set_option maxRecDepth 20000 in
theorem c_X4_init (sk : Nat → Nat) {h : Nat} : Ct sk yX4_init cX4_init 3 none 2 24 276 [(h, .inr (4, [.null, .null, .int 0, .int 0, .int 0, .null, .int 0, .int 0, .null, .null, .null]))] [.ref h] (fun q w1 => q = none ∧ ∃ (s : Nat) (p0 : Nat) (q0 : Nat) (p1 : Nat) (q1 : Nat) (p2 : Nat) (q2 : Nat) (p3 : Nat) (q3 : Nat) (p4 : Nat) (q4 : Nat) (p5 : Nat) (q5 : Nat) (w : Nat) (v : Nat) (o : Nat) (rr : Nat → Nat) (g : Nat) (e : Nat), w1 = [oRows h s w (nI 0) (nI 0) false v (nI 0) false o g e, cP s 6 (fun i => if i = 5 then some p5 else if i = 4 then some p4 else if i = 3 then some p3 else if i = 2 then some p2 else if i = 1 then some p1 else if i = 0 then some p0 else none), oPole p0 q0 (nI 0) (-1) (nI 0), cI q0 30 (fun _ => nI 0), oPole p1 q1 (nI 0) (-1) (nI 0), cI q1 30 (fun _ => nI 0), oPole p2 q2 (nI 0) (-1) (nI 0), cI q2 30 (fun _ => nI 0), oPole p3 q3 (nI 0) (-1) (nI 0), cI q3 30 (fun _ => nI 0), oPole p4 q4 (nI 0) (-1) (nI 0), cI q4 30 (fun _ => nI 0), oPole p5 q5 (nI 0) (-1) (nI 0), cI q5 30 (fun _ => nI 0), cI w 6 (fun _ => nI 0), cI v 6 (fun _ => nI 0), cA o 6 (fun i => if i < 6 then some (rr i) else none), cI (rr 0) 6 (fun _ => nI 0), cI (rr 1) 6 (fun _ => nI 0), cI (rr 2) 6 (fun _ => nI 0), cI (rr 3) 6 (fun _ => nI 0), cI (rr 4) 6 (fun _ => nI 0), cI (rr 5) 6 (fun _ => nI 0), cI g 6 (fun _ => nI 0), cZ e 6 (fun _ => zb false)]) := by
  refine Ct.of (own := RX4) (l := [some (.ref h), none, none]) (by decide) rfl (Nat.le_of_ble_eq_true rfl) rfl ?_
  refine g_aload_n dX4_init_0 rfl rfl ?_
  refine g_obj dX4_init_1 rfl m_X4_3 (by decide) (Nat.le_of_ble_eq_true rfl) ?_
  refine g_bipush (v := nI 6) dX4_init_4 rfl (by decide) ?_
  refine g_bipush (v := nI 6) dX4_init_6 rfl (by decide) ?_
  refine g_max m_X4_9 dX4_init_8 rfl (by decide) (by decide) (by decide) (Nat.le_of_ble_eq_true rfl) (rfl) ?_
  refine g_istore_n dX4_init_11 rfl (by decide) rfl rfl ?_
  refine g_aload_n dX4_init_12 rfl rfl ?_
  refine g_iload_n dX4_init_13 rfl rfl ?_
  refine g_newP w_X4_15 (by decide) dX4_init_14 rfl (by decide) (by decide) (fun a1 => ?_)
  dsimp only [List.cons_append, List.nil_append]
  refine g_putF f_X4_17 rfl (fun _ _ _ z => by cases z; rfl) dX4_init_17 rfl 0 rfl rfl rfl (Nat.le_of_ble_eq_true rfl) rfl ?_
  dsimp only [List.set]
  refine g_iconst (v := nI 0) dX4_init_20 rfl (by decide) ?_
  refine g_istore_n dX4_init_21 rfl (by decide) rfl rfl ?_
  refine g_iload_n dX4_init_22 rfl rfl ?_
  refine g_aload_n dX4_init_23 rfl rfl ?_
  refine g_get f_X4_17 dX4_init_24 rfl 0 rfl rfl ?_
  refine g_alen dX4_init_27 rfl 1 rfl (Nat.le_of_ble_eq_true rfl) rfl ?_
  refine g_icmp_geN (t := 50) dX4_init_28 (by decide) rfl (by omega) (by omega) (fun h28 => ?_) (fun h28 => ?_)
  · exact absurd (show 6 ≤ 0 from h28) (by decide)
  · skip
    refine g_aload_n dX4_init_31 rfl rfl ?_
    refine g_get f_X4_17 dX4_init_32 rfl 0 rfl rfl ?_
    refine g_iload_n dX4_init_35 rfl rfl ?_
    refine g_new w_X4_15 df_X1 dX4_init_36 rfl (by decide) (by decide) (fun o2 => ?_)
    dsimp only [List.cons_append, List.nil_append]
    refine g_dup dX4_init_39 rfl rfl ?_
    refine g_callI (c_X1_init sk) m_X4_23 a_X1_init dX4_init_40 rfl [2] rfl rfl rfl rfl (by decide) (by decide) (by decide) (by decide) (Nat.le_of_ble_eq_true rfl) (fun r w hK => ?_)
    obtain ⟨rfl, x3, rfl⟩ := hK
    refine ⟨rfl, ?_⟩
    dsimp only [puts, List.set, Option.toList, List.cons_append, List.nil_append, List.append_nil]
    refine g_astP dX4_init_43 rfl 1 rfl 2 rfl (by decide) (by decide) rfl ?_
    dsimp only [List.set]
    refine g_iinc dX4_init_44 rfl rfl (nI_1 _) (by decide) rfl rfl ?_
    refine g_goto (q := 22) dX4_init_47 (by decide) ?_
    refine g_iload_n dX4_init_22 rfl rfl ?_
    refine g_aload_n dX4_init_23 rfl rfl ?_
    refine g_get f_X4_17 dX4_init_24 rfl 0 rfl rfl ?_
    refine g_alen dX4_init_27 rfl 1 rfl (Nat.le_of_ble_eq_true rfl) rfl ?_
    refine g_icmp_geN (t := 50) dX4_init_28 (by decide) rfl (by omega) (by omega) (fun h28 => ?_) (fun h28 => ?_)
    · exact absurd (show 6 ≤ 1 from h28) (by decide)
    · skip
      refine g_aload_n dX4_init_31 rfl rfl ?_
      refine g_get f_X4_17 dX4_init_32 rfl 0 rfl rfl ?_
      refine g_iload_n dX4_init_35 rfl rfl ?_
      refine g_new w_X4_15 df_X1 dX4_init_36 rfl (by decide) (by decide) (fun o4 => ?_)
      dsimp only [List.cons_append, List.nil_append]
      refine g_dup dX4_init_39 rfl rfl ?_
      refine g_callI (c_X1_init sk) m_X4_23 a_X1_init dX4_init_40 rfl [4] rfl rfl rfl rfl (by decide) (by decide) (by decide) (by decide) (Nat.le_of_ble_eq_true rfl) (fun r w hK => ?_)
      obtain ⟨rfl, x5, rfl⟩ := hK
      refine ⟨rfl, ?_⟩
      dsimp only [puts, List.set, Option.toList, List.cons_append, List.nil_append, List.append_nil]
      refine g_astP dX4_init_43 rfl 1 rfl 4 rfl (by decide) (by decide) rfl ?_
      dsimp only [List.set]
      refine g_iinc dX4_init_44 rfl rfl (nI_1 _) (by decide) rfl rfl ?_
      refine g_goto (q := 22) dX4_init_47 (by decide) ?_
      refine g_iload_n dX4_init_22 rfl rfl ?_
      refine g_aload_n dX4_init_23 rfl rfl ?_
      refine g_get f_X4_17 dX4_init_24 rfl 0 rfl rfl ?_
      refine g_alen dX4_init_27 rfl 1 rfl (Nat.le_of_ble_eq_true rfl) rfl ?_
      refine g_icmp_geN (t := 50) dX4_init_28 (by decide) rfl (by omega) (by omega) (fun h28 => ?_) (fun h28 => ?_)
      · exact absurd (show 6 ≤ 2 from h28) (by decide)
      · skip
        refine g_aload_n dX4_init_31 rfl rfl ?_
        refine g_get f_X4_17 dX4_init_32 rfl 0 rfl rfl ?_
        refine g_iload_n dX4_init_35 rfl rfl ?_
        refine g_new w_X4_15 df_X1 dX4_init_36 rfl (by decide) (by decide) (fun o6 => ?_)
        dsimp only [List.cons_append, List.nil_append]
        refine g_dup dX4_init_39 rfl rfl ?_
        refine g_callI (c_X1_init sk) m_X4_23 a_X1_init dX4_init_40 rfl [6] rfl rfl rfl rfl (by decide) (by decide) (by decide) (by decide) (Nat.le_of_ble_eq_true rfl) (fun r w hK => ?_)
        obtain ⟨rfl, x7, rfl⟩ := hK
        refine ⟨rfl, ?_⟩
        dsimp only [puts, List.set, Option.toList, List.cons_append, List.nil_append, List.append_nil]
        refine g_astP dX4_init_43 rfl 1 rfl 6 rfl (by decide) (by decide) rfl ?_
        dsimp only [List.set]
        refine g_iinc dX4_init_44 rfl rfl (nI_1 _) (by decide) rfl rfl ?_
        refine g_goto (q := 22) dX4_init_47 (by decide) ?_
        refine g_iload_n dX4_init_22 rfl rfl ?_
        refine g_aload_n dX4_init_23 rfl rfl ?_
        refine g_get f_X4_17 dX4_init_24 rfl 0 rfl rfl ?_
        refine g_alen dX4_init_27 rfl 1 rfl (Nat.le_of_ble_eq_true rfl) rfl ?_
        refine g_icmp_geN (t := 50) dX4_init_28 (by decide) rfl (by omega) (by omega) (fun h28 => ?_) (fun h28 => ?_)
        · exact absurd (show 6 ≤ 3 from h28) (by decide)
        · skip
          refine g_aload_n dX4_init_31 rfl rfl ?_
          refine g_get f_X4_17 dX4_init_32 rfl 0 rfl rfl ?_
          refine g_iload_n dX4_init_35 rfl rfl ?_
          refine g_new w_X4_15 df_X1 dX4_init_36 rfl (by decide) (by decide) (fun o8 => ?_)
          dsimp only [List.cons_append, List.nil_append]
          refine g_dup dX4_init_39 rfl rfl ?_
          refine g_callI (c_X1_init sk) m_X4_23 a_X1_init dX4_init_40 rfl [8] rfl rfl rfl rfl (by decide) (by decide) (by decide) (by decide) (Nat.le_of_ble_eq_true rfl) (fun r w hK => ?_)
          obtain ⟨rfl, x9, rfl⟩ := hK
          refine ⟨rfl, ?_⟩
          dsimp only [puts, List.set, Option.toList, List.cons_append, List.nil_append, List.append_nil]
          refine g_astP dX4_init_43 rfl 1 rfl 8 rfl (by decide) (by decide) rfl ?_
          dsimp only [List.set]
          refine g_iinc dX4_init_44 rfl rfl (nI_1 _) (by decide) rfl rfl ?_
          refine g_goto (q := 22) dX4_init_47 (by decide) ?_
          refine g_iload_n dX4_init_22 rfl rfl ?_
          refine g_aload_n dX4_init_23 rfl rfl ?_
          refine g_get f_X4_17 dX4_init_24 rfl 0 rfl rfl ?_
          refine g_alen dX4_init_27 rfl 1 rfl (Nat.le_of_ble_eq_true rfl) rfl ?_
          refine g_icmp_geN (t := 50) dX4_init_28 (by decide) rfl (by omega) (by omega) (fun h28 => ?_) (fun h28 => ?_)
          · exact absurd (show 6 ≤ 4 from h28) (by decide)
          · skip
            refine g_aload_n dX4_init_31 rfl rfl ?_
            refine g_get f_X4_17 dX4_init_32 rfl 0 rfl rfl ?_
            refine g_iload_n dX4_init_35 rfl rfl ?_
            refine g_new w_X4_15 df_X1 dX4_init_36 rfl (by decide) (by decide) (fun o10 => ?_)
            dsimp only [List.cons_append, List.nil_append]
            refine g_dup dX4_init_39 rfl rfl ?_
            refine g_callI (c_X1_init sk) m_X4_23 a_X1_init dX4_init_40 rfl [10] rfl rfl rfl rfl (by decide) (by decide) (by decide) (by decide) (Nat.le_of_ble_eq_true rfl) (fun r w hK => ?_)
            obtain ⟨rfl, x11, rfl⟩ := hK
            refine ⟨rfl, ?_⟩
            dsimp only [puts, List.set, Option.toList, List.cons_append, List.nil_append, List.append_nil]
            refine g_astP dX4_init_43 rfl 1 rfl 10 rfl (by decide) (by decide) rfl ?_
            dsimp only [List.set]
            refine g_iinc dX4_init_44 rfl rfl (nI_1 _) (by decide) rfl rfl ?_
            refine g_goto (q := 22) dX4_init_47 (by decide) ?_
            refine g_iload_n dX4_init_22 rfl rfl ?_
            refine g_aload_n dX4_init_23 rfl rfl ?_
            refine g_get f_X4_17 dX4_init_24 rfl 0 rfl rfl ?_
            refine g_alen dX4_init_27 rfl 1 rfl (Nat.le_of_ble_eq_true rfl) rfl ?_
            refine g_icmp_geN (t := 50) dX4_init_28 (by decide) rfl (by omega) (by omega) (fun h28 => ?_) (fun h28 => ?_)
            · exact absurd (show 6 ≤ 5 from h28) (by decide)
            · skip
              refine g_aload_n dX4_init_31 rfl rfl ?_
              refine g_get f_X4_17 dX4_init_32 rfl 0 rfl rfl ?_
              refine g_iload_n dX4_init_35 rfl rfl ?_
              refine g_new w_X4_15 df_X1 dX4_init_36 rfl (by decide) (by decide) (fun o12 => ?_)
              dsimp only [List.cons_append, List.nil_append]
              refine g_dup dX4_init_39 rfl rfl ?_
              refine g_callI (c_X1_init sk) m_X4_23 a_X1_init dX4_init_40 rfl [12] rfl rfl rfl rfl (by decide) (by decide) (by decide) (by decide) (Nat.le_of_ble_eq_true rfl) (fun r w hK => ?_)
              obtain ⟨rfl, x13, rfl⟩ := hK
              refine ⟨rfl, ?_⟩
              dsimp only [puts, List.set, Option.toList, List.cons_append, List.nil_append, List.append_nil]
              refine g_astP dX4_init_43 rfl 1 rfl 12 rfl (by decide) (by decide) rfl ?_
              dsimp only [List.set]
              refine g_iinc dX4_init_44 rfl rfl (nI_1 _) (by decide) rfl rfl ?_
              refine g_goto (q := 22) dX4_init_47 (by decide) ?_
              refine g_iload_n dX4_init_22 rfl rfl ?_
              refine g_aload_n dX4_init_23 rfl rfl ?_
              refine g_get f_X4_17 dX4_init_24 rfl 0 rfl rfl ?_
              refine g_alen dX4_init_27 rfl 1 rfl (Nat.le_of_ble_eq_true rfl) rfl ?_
              refine g_icmp_geN (t := 50) dX4_init_28 (by decide) rfl (by omega) (by omega) (fun h28 => ?_) (fun h28 => ?_)
              · skip
                refine g_aload_n dX4_init_50 rfl rfl ?_
                refine g_iload_n dX4_init_51 rfl rfl ?_
                refine g_newI (by decide) dX4_init_52 rfl (by decide) (by decide) (fun a14 => ?_)
                dsimp only [List.cons_append, List.nil_append]
                refine g_putF f_X4_24 rfl (fun _ _ _ z => by cases z; rfl) dX4_init_54 rfl 0 rfl rfl rfl (Nat.le_of_ble_eq_true rfl) rfl ?_
                dsimp only [List.set]
                refine g_aload_n dX4_init_57 rfl rfl ?_
                refine g_bipush (v := nI 6) dX4_init_58 rfl (by decide) ?_
                refine g_newI (by decide) dX4_init_60 rfl (by decide) (by decide) (fun a15 => ?_)
                dsimp only [List.cons_append, List.nil_append]
                refine g_putF f_X4_28 rfl (fun _ _ _ z => by cases z; rfl) dX4_init_62 rfl 0 rfl rfl rfl (Nat.le_of_ble_eq_true rfl) rfl ?_
                dsimp only [List.set]
                refine g_aload_n dX4_init_65 rfl rfl ?_
                refine g_bipush (v := nI 6) dX4_init_66 rfl (by decide) ?_
                refine g_bipush (v := nI 6) dX4_init_68 rfl (by decide) ?_
                refine g_newII6 rfl dX4_init_70 rfl (by decide) (by decide) (fun a16 r17 => ?_)
                dsimp only [List.cons_append, List.nil_append]
                refine g_putF f_X4_33 rfl (fun _ _ _ z => by cases z; rfl) dX4_init_74 rfl 0 rfl rfl rfl (Nat.le_of_ble_eq_true rfl) rfl ?_
                dsimp only [List.set]
                refine g_aload_n dX4_init_77 rfl rfl ?_
                refine g_bipush (v := nI 6) dX4_init_78 rfl (by decide) ?_
                refine g_newI (by decide) dX4_init_80 rfl (by decide) (by decide) (fun a18 => ?_)
                dsimp only [List.cons_append, List.nil_append]
                refine g_putF f_X4_36 rfl (fun _ _ _ z => by cases z; rfl) dX4_init_82 rfl 0 rfl rfl rfl (Nat.le_of_ble_eq_true rfl) rfl ?_
                dsimp only [List.set]
                refine g_aload_n dX4_init_85 rfl rfl ?_
                refine g_bipush (v := nI 6) dX4_init_86 rfl (by decide) ?_
                refine g_newZ (by decide) dX4_init_88 rfl (by decide) (by decide) (fun a19 => ?_)
                dsimp only [List.cons_append, List.nil_append]
                refine g_putF f_X4_39 rfl (fun _ _ _ z => by cases z; rfl) dX4_init_90 rfl 0 rfl rfl rfl (Nat.le_of_ble_eq_true rfl) rfl ?_
                dsimp only [List.set]
                exact g_vret dX4_init_93 rfl (Nat.le_refl _) (Nat.le_refl _) (⟨rfl, _, _, _, _, _, _, _, _, _, _, _, _, _, _, _, _, _, _, _, rfl⟩)
              · exact absurd (show 6 < 6 from h28) (by decide)
set_option maxRecDepth 20000 in
theorem c_X6_init (sk : Nat → Nat) {h : Nat} : Ct sk yX6_init cX6_init 2 none 3 58 1093 [(h, .inr (6, [.null, .null, .null, .null, .null, .null, .null, .null, .null, .null, .int 0, .int 0]))] [.ref h] (fun q w1 => q = none ∧ ∃ (rd : Nat) (rt : Nat) (rf : Nat) (rn : Nat) (pl : Nat) (pls : Nat) (plw : Nat) (pla : Nat) (plr : Nat) (sp : Nat) (sps : Nat) (spw : Nat) (spa : Nat) (spr : Nat) (nw : Nat) (nws : Nat) (im : Nat) (i0 : Nat) (i0s : Nat) (i1 : Nat) (i1s : Nat) (kp : Nat) (tl : Nat) (tc : Nat) (tf : Nat) (tp : Nat) (ts : Nat) (ro : Nat) (s : Nat) (p0 : Nat) (q0 : Nat) (p1 : Nat) (q1 : Nat) (p2 : Nat) (q2 : Nat) (p3 : Nat) (q3 : Nat) (p4 : Nat) (q4 : Nat) (p5 : Nat) (q5 : Nat) (w : Nat) (v : Nat) (o : Nat) (rr : Nat → Nat) (g : Nat) (e : Nat) (rs : Nat) (rst : Nat) (rsp : Nat) (rss : Nat) (ak : Nat) (aks : Nat), w1 = [oMain h rd pl sp nw im kp tl ro rs ak false (-1), oReader rd rt rf rn (nI 0) (nI 0) (nI 0) (-1) (nI 0) false false false, cB rt 400 (fun _ => nI 0), cZ rf 30 (fun _ => zb false), cI rn 3 (fun _ => nI 0), oPlan pl pls plw pla plr (nI 0) (nI 0) (nI 100) (nI 1) (nI 1) (nI 0), cI pls 30 (fun _ => nI 0), cI plw 6 (fun _ => nI 0), cI pla 6 (fun _ => nI 0), cI plr 6 (fun _ => nI 0), oPlan sp sps spw spa spr (nI 0) (nI 0) (nI 100) (nI 1) (nI 1) (nI 0), cI sps 30 (fun _ => nI 0), cI spw 6 (fun _ => nI 0), cI spa 6 (fun _ => nI 0), cI spr 6 (fun _ => nI 0), oPole nw nws (nI 0) (-1) (nI 0), cI nws 30 (fun _ => nI 0), cP im 2 (fun i => if i = 1 then some i1 else if i = 0 then some i0 else none), oPole i0 i0s (nI 0) (-1) (nI 0), cI i0s 30 (fun _ => nI 0), oPole i1 i1s (nI 0) (-1) (nI 0), cI i1s 30 (fun _ => nI 0), cZ kp 2 (fun _ => zb false), oTale tl tc tf tp (nI 0), cI tc 12 (fun _ => nI 0), cI tf 12 (fun _ => nI 0), oPole tp ts (nI 0) (-1) (nI 0), cI ts 30 (fun _ => nI 0), oRows ro s w (nI 0) (nI 0) false v (nI 0) false o g e, cP s 6 (fun i => if i = 5 then some p5 else if i = 4 then some p4 else if i = 3 then some p3 else if i = 2 then some p2 else if i = 1 then some p1 else if i = 0 then some p0 else none), oPole p0 q0 (nI 0) (-1) (nI 0), cI q0 30 (fun _ => nI 0), oPole p1 q1 (nI 0) (-1) (nI 0), cI q1 30 (fun _ => nI 0), oPole p2 q2 (nI 0) (-1) (nI 0), cI q2 30 (fun _ => nI 0), oPole p3 q3 (nI 0) (-1) (nI 0), cI q3 30 (fun _ => nI 0), oPole p4 q4 (nI 0) (-1) (nI 0), cI q4 30 (fun _ => nI 0), oPole p5 q5 (nI 0) (-1) (nI 0), cI q5 30 (fun _ => nI 0), cI w 6 (fun _ => nI 0), cI v 6 (fun _ => nI 0), cA o 6 (fun i => if i < 6 then some (rr i) else none), cI (rr 0) 6 (fun _ => nI 0), cI (rr 1) 6 (fun _ => nI 0), cI (rr 2) 6 (fun _ => nI 0), cI (rr 3) 6 (fun _ => nI 0), cI (rr 4) 6 (fun _ => nI 0), cI (rr 5) 6 (fun _ => nI 0), cI g 6 (fun _ => nI 0), cZ e 6 (fun _ => zb false), oRests rs rst rsp (nI 0) false, cI rst 6 (fun _ => nI 0), oPole rsp rss (nI 0) (-1) (nI 0), cI rss 30 (fun _ => nI 0), oPole ak aks (nI 0) (-1) (nI 0), cI aks 30 (fun _ => nI 0)]) := by
  refine Ct.of (own := RX6) (l := [some (.ref h), none]) (by decide) rfl (Nat.le_of_ble_eq_true rfl) rfl ?_
  refine g_aload_n dX6_init_0 rfl rfl ?_
  refine g_obj dX6_init_1 rfl m_X6_1 (by decide) (Nat.le_of_ble_eq_true rfl) ?_
  refine g_aload_n dX6_init_4 rfl rfl ?_
  refine g_new w_X6_7 df_X2 dX6_init_5 rfl (by decide) (by decide) (fun o1 => ?_)
  dsimp only [List.cons_append, List.nil_append]
  refine g_dup dX6_init_8 rfl rfl ?_
  refine g_callI (c_X2_init sk) m_X6_9 a_X2_init dX6_init_9 rfl [1] rfl rfl rfl rfl (by decide) (by decide) (by decide) (by decide) (Nat.le_of_ble_eq_true rfl) (fun r w hK => ?_)
  obtain ⟨rfl, x2, x3, x4, rfl⟩ := hK
  refine ⟨rfl, ?_⟩
  dsimp only [puts, List.set, Option.toList, List.cons_append, List.nil_append, List.append_nil]
  refine g_putF f_X6_10 rfl (fun _ _ _ z => by cases z; rfl) dX6_init_12 rfl 0 rfl rfl rfl (Nat.le_of_ble_eq_true rfl) rfl ?_
  dsimp only [List.set]
  refine g_aload_n dX6_init_15 rfl rfl ?_
  refine g_new w_X6_16 df_X0 dX6_init_16 rfl (by decide) (by decide) (fun o5 => ?_)
  dsimp only [List.cons_append, List.nil_append]
  refine g_dup dX6_init_19 rfl rfl ?_
  refine g_callI (c_X0_init sk) m_X6_18 a_X0_init dX6_init_20 rfl [5] rfl rfl rfl rfl (by decide) (by decide) (by decide) (by decide) (Nat.le_of_ble_eq_true rfl) (fun r w hK => ?_)
  obtain ⟨rfl, x6, x7, x8, x9, rfl⟩ := hK
  refine ⟨rfl, ?_⟩
  dsimp only [puts, List.set, Option.toList, List.cons_append, List.nil_append, List.append_nil]
  refine g_putF f_X6_19 rfl (fun _ _ _ z => by cases z; rfl) dX6_init_23 rfl 0 rfl rfl rfl (Nat.le_of_ble_eq_true rfl) rfl ?_
  dsimp only [List.set]
  refine g_aload_n dX6_init_26 rfl rfl ?_
  refine g_new w_X6_16 df_X0 dX6_init_27 rfl (by decide) (by decide) (fun o10 => ?_)
  dsimp only [List.cons_append, List.nil_append]
  refine g_dup dX6_init_30 rfl rfl ?_
  refine g_callI (c_X0_init sk) m_X6_18 a_X0_init dX6_init_31 rfl [10] rfl rfl rfl rfl (by decide) (by decide) (by decide) (by decide) (Nat.le_of_ble_eq_true rfl) (fun r w hK => ?_)
  obtain ⟨rfl, x11, x12, x13, x14, rfl⟩ := hK
  refine ⟨rfl, ?_⟩
  dsimp only [puts, List.set, Option.toList, List.cons_append, List.nil_append, List.append_nil]
  refine g_putF f_X6_23 rfl (fun _ _ _ z => by cases z; rfl) dX6_init_34 rfl 0 rfl rfl rfl (Nat.le_of_ble_eq_true rfl) rfl ?_
  dsimp only [List.set]
  refine g_aload_n dX6_init_37 rfl rfl ?_
  refine g_new w_X6_26 df_X1 dX6_init_38 rfl (by decide) (by decide) (fun o15 => ?_)
  dsimp only [List.cons_append, List.nil_append]
  refine g_dup dX6_init_41 rfl rfl ?_
  refine g_callI (c_X1_init sk) m_X6_28 a_X1_init dX6_init_42 rfl [15] rfl rfl rfl rfl (by decide) (by decide) (by decide) (by decide) (Nat.le_of_ble_eq_true rfl) (fun r w hK => ?_)
  obtain ⟨rfl, x16, rfl⟩ := hK
  refine ⟨rfl, ?_⟩
  dsimp only [puts, List.set, Option.toList, List.cons_append, List.nil_append, List.append_nil]
  refine g_putF f_X6_29 rfl (fun _ _ _ z => by cases z; rfl) dX6_init_45 rfl 0 rfl rfl rfl (Nat.le_of_ble_eq_true rfl) rfl ?_
  dsimp only [List.set]
  refine g_aload_n dX6_init_48 rfl rfl ?_
  refine g_iconst (v := nI 2) dX6_init_49 rfl (by decide) ?_
  refine g_newP w_X6_26 (by decide) dX6_init_50 rfl (by decide) (by decide) (fun a17 => ?_)
  dsimp only [List.cons_append, List.nil_append]
  refine g_putF f_X6_33 rfl (fun _ _ _ z => by cases z; rfl) dX6_init_53 rfl 0 rfl rfl rfl (Nat.le_of_ble_eq_true rfl) rfl ?_
  dsimp only [List.set]
  refine g_iconst (v := nI 0) dX6_init_56 rfl (by decide) ?_
  refine g_istore_n dX6_init_57 rfl (by decide) rfl rfl ?_
  refine g_iload_n dX6_init_58 rfl rfl ?_
  refine g_aload_n dX6_init_59 rfl rfl ?_
  refine g_get f_X6_33 dX6_init_60 rfl 0 rfl rfl ?_
  refine g_alen dX6_init_63 rfl 17 rfl (Nat.le_of_ble_eq_true rfl) rfl ?_
  refine g_icmp_geN (t := 86) dX6_init_64 (by decide) rfl (by omega) (by omega) (fun h64 => ?_) (fun h64 => ?_)
  · exact absurd (show 2 ≤ 0 from h64) (by decide)
  · skip
    refine g_aload_n dX6_init_67 rfl rfl ?_
    refine g_get f_X6_33 dX6_init_68 rfl 0 rfl rfl ?_
    refine g_iload_n dX6_init_71 rfl rfl ?_
    refine g_new w_X6_26 df_X1 dX6_init_72 rfl (by decide) (by decide) (fun o18 => ?_)
    dsimp only [List.cons_append, List.nil_append]
    refine g_dup dX6_init_75 rfl rfl ?_
    refine g_callI (c_X1_init sk) m_X6_28 a_X1_init dX6_init_76 rfl [18] rfl rfl rfl rfl (by decide) (by decide) (by decide) (by decide) (Nat.le_of_ble_eq_true rfl) (fun r w hK => ?_)
    obtain ⟨rfl, x19, rfl⟩ := hK
    refine ⟨rfl, ?_⟩
    dsimp only [puts, List.set, Option.toList, List.cons_append, List.nil_append, List.append_nil]
    refine g_astP dX6_init_79 rfl 17 rfl 18 rfl (by decide) (by decide) rfl ?_
    dsimp only [List.set]
    refine g_iinc dX6_init_80 rfl rfl (nI_1 _) (by decide) rfl rfl ?_
    refine g_goto (q := 58) dX6_init_83 (by decide) ?_
    refine g_iload_n dX6_init_58 rfl rfl ?_
    refine g_aload_n dX6_init_59 rfl rfl ?_
    refine g_get f_X6_33 dX6_init_60 rfl 0 rfl rfl ?_
    refine g_alen dX6_init_63 rfl 17 rfl (Nat.le_of_ble_eq_true rfl) rfl ?_
    refine g_icmp_geN (t := 86) dX6_init_64 (by decide) rfl (by omega) (by omega) (fun h64 => ?_) (fun h64 => ?_)
    · exact absurd (show 2 ≤ 1 from h64) (by decide)
    · skip
      refine g_aload_n dX6_init_67 rfl rfl ?_
      refine g_get f_X6_33 dX6_init_68 rfl 0 rfl rfl ?_
      refine g_iload_n dX6_init_71 rfl rfl ?_
      refine g_new w_X6_26 df_X1 dX6_init_72 rfl (by decide) (by decide) (fun o20 => ?_)
      dsimp only [List.cons_append, List.nil_append]
      refine g_dup dX6_init_75 rfl rfl ?_
      refine g_callI (c_X1_init sk) m_X6_28 a_X1_init dX6_init_76 rfl [20] rfl rfl rfl rfl (by decide) (by decide) (by decide) (by decide) (Nat.le_of_ble_eq_true rfl) (fun r w hK => ?_)
      obtain ⟨rfl, x21, rfl⟩ := hK
      refine ⟨rfl, ?_⟩
      dsimp only [puts, List.set, Option.toList, List.cons_append, List.nil_append, List.append_nil]
      refine g_astP dX6_init_79 rfl 17 rfl 20 rfl (by decide) (by decide) rfl ?_
      dsimp only [List.set]
      refine g_iinc dX6_init_80 rfl rfl (nI_1 _) (by decide) rfl rfl ?_
      refine g_goto (q := 58) dX6_init_83 (by decide) ?_
      refine g_iload_n dX6_init_58 rfl rfl ?_
      refine g_aload_n dX6_init_59 rfl rfl ?_
      refine g_get f_X6_33 dX6_init_60 rfl 0 rfl rfl ?_
      refine g_alen dX6_init_63 rfl 17 rfl (Nat.le_of_ble_eq_true rfl) rfl ?_
      refine g_icmp_geN (t := 86) dX6_init_64 (by decide) rfl (by omega) (by omega) (fun h64 => ?_) (fun h64 => ?_)
      · skip
        refine g_aload_n dX6_init_86 rfl rfl ?_
        refine g_iconst (v := nI 2) dX6_init_87 rfl (by decide) ?_
        refine g_newZ (by decide) dX6_init_88 rfl (by decide) (by decide) (fun a22 => ?_)
        dsimp only [List.cons_append, List.nil_append]
        refine g_putF f_X6_37 rfl (fun _ _ _ z => by cases z; rfl) dX6_init_90 rfl 0 rfl rfl rfl (Nat.le_of_ble_eq_true rfl) rfl ?_
        dsimp only [List.set]
        refine g_aload_n dX6_init_93 rfl rfl ?_
        refine g_new w_X6_41 df_X5 dX6_init_94 rfl (by decide) (by decide) (fun o23 => ?_)
        dsimp only [List.cons_append, List.nil_append]
        refine g_dup dX6_init_97 rfl rfl ?_
        refine g_callI (c_X5_init sk) m_X6_43 a_X5_init dX6_init_98 rfl [23] rfl rfl rfl rfl (by decide) (by decide) (by decide) (by decide) (Nat.le_of_ble_eq_true rfl) (fun r w hK => ?_)
        obtain ⟨rfl, x24, x25, x26, x27, rfl⟩ := hK
        refine ⟨rfl, ?_⟩
        dsimp only [puts, List.set, Option.toList, List.cons_append, List.nil_append, List.append_nil]
        refine g_putF f_X6_44 rfl (fun _ _ _ z => by cases z; rfl) dX6_init_101 rfl 0 rfl rfl rfl (Nat.le_of_ble_eq_true rfl) rfl ?_
        dsimp only [List.set]
        refine g_aload_n dX6_init_104 rfl rfl ?_
        refine g_new w_X6_48 df_X4 dX6_init_105 rfl (by decide) (by decide) (fun o28 => ?_)
        dsimp only [List.cons_append, List.nil_append]
        refine g_dup dX6_init_108 rfl rfl ?_
        refine g_callI (c_X4_init sk) m_X6_50 a_X4_init dX6_init_109 rfl [28] rfl rfl rfl rfl (by decide) (by decide) (by decide) (by decide) (Nat.le_of_ble_eq_true rfl) (fun r w hK => ?_)
        obtain ⟨rfl, x29, x30, x31, x32, x33, x34, x35, x36, x37, x38, x39, x40, x41, x42, x43, x44, x45, x46, x47, rfl⟩ := hK
        refine ⟨rfl, ?_⟩
        dsimp only [puts, List.set, Option.toList, List.cons_append, List.nil_append, List.append_nil]
        refine g_putF f_X6_51 rfl (fun _ _ _ z => by cases z; rfl) dX6_init_112 rfl 0 rfl rfl rfl (Nat.le_of_ble_eq_true rfl) rfl ?_
        dsimp only [List.set]
        refine g_aload_n dX6_init_115 rfl rfl ?_
        refine g_new w_X6_55 df_X3 dX6_init_116 rfl (by decide) (by decide) (fun o48 => ?_)
        dsimp only [List.cons_append, List.nil_append]
        refine g_dup dX6_init_119 rfl rfl ?_
        refine g_callI (c_X3_init sk) m_X6_57 a_X3_init dX6_init_120 rfl [53] rfl rfl rfl rfl (by decide) (by decide) (by decide) (by decide) (Nat.le_of_ble_eq_true rfl) (fun r w hK => ?_)
        obtain ⟨rfl, x49, x50, x51, rfl⟩ := hK
        refine ⟨rfl, ?_⟩
        dsimp only [puts, List.set, Option.toList, List.cons_append, List.nil_append, List.append_nil]
        refine g_putF f_X6_58 rfl (fun _ _ _ z => by cases z; rfl) dX6_init_123 rfl 0 rfl rfl rfl (Nat.le_of_ble_eq_true rfl) rfl ?_
        dsimp only [List.set]
        refine g_aload_n dX6_init_126 rfl rfl ?_
        refine g_new w_X6_26 df_X1 dX6_init_127 rfl (by decide) (by decide) (fun o52 => ?_)
        dsimp only [List.cons_append, List.nil_append]
        refine g_dup dX6_init_130 rfl rfl ?_
        refine g_callI (c_X1_init sk) m_X6_28 a_X1_init dX6_init_131 rfl [57] rfl rfl rfl rfl (by decide) (by decide) (by decide) (by decide) (Nat.le_of_ble_eq_true rfl) (fun r w hK => ?_)
        obtain ⟨rfl, x53, rfl⟩ := hK
        refine ⟨rfl, ?_⟩
        dsimp only [puts, List.set, Option.toList, List.cons_append, List.nil_append, List.append_nil]
        refine g_putF f_X6_62 rfl (fun _ _ _ z => by cases z; rfl) dX6_init_134 rfl 0 rfl rfl rfl (Nat.le_of_ble_eq_true rfl) rfl ?_
        dsimp only [List.set]
        refine g_aload_n dX6_init_137 rfl rfl ?_
        refine g_iconst (v := nI 0) dX6_init_138 rfl (by decide) ?_
        refine g_putZ (b := false) f_X6_65 dX6_init_139 rfl 0 rfl (Nat.le_of_ble_eq_true rfl) rfl ?_
        dsimp only [List.set]
        refine g_aload_n dX6_init_142 rfl rfl ?_
        refine g_iconst (v := -1) dX6_init_143 rfl (by decide) ?_
        refine g_putI f_X6_69 dX6_init_144 rfl 0 rfl (Nat.le_of_ble_eq_true rfl) rfl ?_
        dsimp only [List.set]
        exact g_vret dX6_init_147 rfl (Nat.le_refl _) (Nat.le_refl _) (⟨rfl, _, _, _, _, _, _, _, _, _, _, _, _, _, _, _, _, _, _, _, _, _, _, _, _, _, _, _, _, _, _, _, _, _, _, _, _, _, _, _, _, _, _, _, _, _, _, _, _, _, _, _, _, _, rfl⟩)
      · exact absurd (show 2 < 2 from h64) (by decide)
