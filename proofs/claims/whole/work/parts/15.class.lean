abbrev rm_X3_mend : Room := { frames := 4, cells := 0, slots := 0, locals := 91 }
set_option maxHeartbeats 4000000 in
set_option maxRecDepth 100000 in
theorem c_X3_mend (l : Launch) (D : va_G) (cI cZ : ClassId) (a : Nat → Nat) (A : Nat → Prop) (σ : ck_S) (σz : ck_S) (h : fX3_mend σ = some σz) : Met l yX3_mend wsX3_mend rm_X3_mend (va_Pc [.ref (a 1), .ref (a 12)] (ik_P D [(cI, .int), (cZ, .boolean)] ck_N (ck_W cI cZ a) A σ)) (ik_Qv D (ck_W cI cZ a) A σz) 0 0 A := by
  unfold fX3_mend at h
  refine Met.ofW (cc := cX3_mend) (maxL := 3) (ret := none) (by decide) rfl ?_
  intro p e s m args below meth c s₁ B hml hv
  obtain ⟨hAr, hP, hK, hD, hN⟩ := hv
  have hx := B.exec
  have hb := B.bytes
  have hr := B.returns
  have hts := atoms_spec (ws := wsX3_mend) B.pre
  have hown : s.vm.findClass RX3 = some m.cls := findClass_of_methodNamed B.named
  have hlocks := B.notSynchronized
  have hS : va_S A s.heap s.heap [] := va_S.rf
  have hl := lv_entry ([.ref (a 1), .ref (a 12)]) (n := 3) (Nat.le_of_ble_eq_true rfl)
  rw [show entryFrame m args 3 = entryFrame m ([.ref (a 1), .ref (a 12)] : List Value).toArray 3 from by rw [hAr], lg_entry_eq]
  generalize (lg_sl ([.ref (a 1), .ref (a 12)]) ++ List.replicate (3 - (lg_sl ([.ref (a 1), .ref (a 12)])).length) Slot.unset).toArray = ls at hl ⊢
  have hl : lv_has ls 3 [(0, .ref (a 1)), (1, .ref (a 12))] := hl
  refine lv_iconst (v := 1) hx hb dX3_mend_0 (by decide) ?_
  refine lv_istore_n (lv' := [(2, .int 1), (0, .ref (a 1)), (1, .ref (a 12))]) hx hb dX3_mend_1 rfl hl (by decide) rfl (fun ls hl => ?_)
  refine qp2_W (P := fun (x1 : Int32) (σ2 : ck_S) => ∀ (H : Heap) (locs : List Loc) (ls : Array Slot), va_P D vwCl (ck_W cI cZ a σ2) H → va_D A (ck_W cI cZ a σ2) → va_S A s.heap H locs → lv_has ls 3 [(0, .ref (a 1)), (1, .ref (a 12)), (2, .int x1)] → W p l e (headSpec wsX3_mend rm_X3_mend).room s m args below meth c H locs 0 0 (MQ below (ik_Qv D (ck_W cI cZ a) A σz) args s 0 0 A) (F0 m 2 ls [])) ?_ FU _ _ h _ _ _ hP hD hS (lv_sub hl [1, 2, 0] rfl)
  intro rec2 ih2 x1 σ2 h H locs ls hP hD hS hl
  refine lv_iload_n hx hb dX3_mend_2 rfl (lv_at hl 2 rfl) ?_
  refine lv_bipush (v := 24) hx hb dX3_mend_3 (by decide) ?_
  refine lv_icmp_gt (tgt := 39) hx hb dX3_mend_5 (by decide) (fun c3 => ?_) (fun c3 => ?_)
  · have h := ik_t c3 h
    refine lv_iconst (v := 1) hx hb dX3_mend_39 (by decide) ?_
    refine lv_istore_n (lv' := [(2, .int 1), (0, .ref (a 1)), (1, .ref (a 12))]) hx hb dX3_mend_40 rfl hl (by decide) rfl (fun ls hl => ?_)
    refine qp2_W (P := fun (x4 : Int32) (σ5 : ck_S) => ∀ (H : Heap) (locs : List Loc) (ls : Array Slot), va_P D vwCl (ck_W cI cZ a σ5) H → va_D A (ck_W cI cZ a σ5) → va_S A s.heap H locs → lv_has ls 3 [(0, .ref (a 1)), (1, .ref (a 12)), (2, .int x4)] → W p l e (headSpec wsX3_mend rm_X3_mend).room s m args below meth c H locs 0 0 (MQ below (ik_Qv D (ck_W cI cZ a) A σz) args s 0 0 A) (F0 m 41 ls [])) ?_ FU _ _ h _ _ _ hP hD hS (lv_sub hl [1, 2, 0] rfl)
    intro rec41 ih41 x4 σ5 h H locs ls hP hD hS hl
    refine lv_iload_n hx hb dX3_mend_41 rfl (lv_at hl 2 rfl) ?_
    refine lv_bipush (v := 24) hx hb dX3_mend_42 (by decide) ?_
    refine lv_icmp_gt (tgt := 58) hx hb dX3_mend_44 (by decide) (fun c6 => ?_) (fun c6 => ?_)
    · have h := ik_t c6 h
      refine lv_aload_n hx hb dX3_mend_58 rfl (lv_at hl 0 rfl) ?_
      refine lv_iconst (v := 1) hx hb dX3_mend_59 (by decide) ?_
      refine lv_iconst (v := 4) hx hb dX3_mend_60 (by decide) ?_
      refine lv_iconst (v := 1) hx hb dX3_mend_61 (by decide) ?_
      obtain ⟨σ7, eh, h⟩ := ik_bd h
      refine ik_Vv (As := [.int 1, .int 4, .int 1]) (rest := []) ⟨hx, hb, hml, hown, hts⟩ (c_X5_putNumber l D cI cZ a A 1 4 1 σ5 _ eh) (cwV 3 hts gX3_mend_X5_putNumber rfl rfl rfl (by decide +kernel) ⟨Nat.le_of_ble_eq_true rfl, Nat.le_of_ble_eq_true rfl⟩) (va_recv hK hP (ci := 3) (q0 := 1) rfl rfl) hP hK hD hN hS rfl hl.1 rfl (Nat.le_of_ble_eq_true rfl) dX3_mend_62 (fun H locs hP hD hS => ?_)
      clear eh
      refine lv_aload_n hx hb dX3_mend_65 rfl (lv_at hl 0 rfl) ?_
      refine lv_aload_n hx hb dX3_mend_66 rfl (lv_at hl 1 rfl) ?_
      obtain ⟨σ8, eh, h⟩ := ik_bd h
      refine ik_Sv (As := [.ref (a 1), .ref (a 12)]) (rest := []) ⟨hx, hb, hml, hown, hts⟩ (c_X3_mendWaiting l D cI cZ a A  σ7 _ eh) (va_cwS 2 hts gX3_mend_X3_mendWaiting rfl rfl rfl (by decide +kernel) ⟨Nat.le_of_ble_eq_true rfl, Nat.le_of_ble_eq_true rfl⟩) hP hK hD hN hS rfl hl.1 rfl (Nat.le_of_ble_eq_true rfl) dX3_mend_67 (fun H locs hP hD hS => ?_)
      clear eh
      exact W.vret hx hb hr (fun t ht hW => ⟨⟨_, rfl, Option.some.inj h, by rw [ht]; exact hP, hD⟩, hS.F ht⟩) hS.2.2 dX3_mend_70
    · have h := ik_f c6 h
      refine lv_aload_n hx hb dX3_mend_47 rfl (lv_at hl 0 rfl) ?_
      refine lv_iload_n hx hb dX3_mend_48 rfl (lv_at hl 2 rfl) ?_
      obtain ⟨σ9, eh, h⟩ := ik_bd h
      refine ik_Sv (As := [.ref (a 1), .int x4]) (rest := []) ⟨hx, hb, hml, hown, hts⟩ (c_X3_becomeParent l D cI cZ a A x4 σ5 _ eh) (va_cwS 2 hts gX3_mend_X3_becomeParent rfl rfl rfl (by decide +kernel) ⟨Nat.le_of_ble_eq_true rfl, Nat.le_of_ble_eq_true rfl⟩) hP hK hD hN hS rfl hl.1 rfl (Nat.le_of_ble_eq_true rfl) dX3_mend_49 (fun H locs hP hD hS => ?_)
      clear eh
      refine lv_iinc (v := x4 + 1) (lv' := [(2, .int (x4 + 1)), (0, .ref (a 1)), (1, .ref (a 12))]) hx hb dX3_mend_52 hl (k := 2) rfl rfl (by decide) rfl (fun ls hl => ?_)
      refine lv_goto (tgt := 41) hx hb dX3_mend_55 (by decide) ?_
      exact ih41 _ _ h _ _ _ hP hD hS (lv_sub hl [1, 2, 0] rfl)
  · have h := ik_f c3 h
    refine lv_aload_n hx hb dX3_mend_8 rfl (lv_at hl 0 rfl) ?_
    refine lv_iload_n hx hb dX3_mend_9 rfl (lv_at hl 2 rfl) ?_
    refine lv_iconst (v := 2) hx hb dX3_mend_10 (by decide) ?_
    refine lv_aload_n hx hb dX3_mend_11 rfl (lv_at hl 0 rfl) ?_
    refine lv_iload_n hx hb dX3_mend_12 rfl (lv_at hl 2 rfl) ?_
    obtain ⟨v10, eh, h⟩ := ik_bd h
    refine ik_Si (As := [.ref (a 1), .int x1]) (rest := [.int 2, .int x1, .ref (a 1)]) ⟨hx, hb, hml, hown, hts⟩ (c_X3_linksOf l D cI cZ a A x1 σ2 _ eh) (va_cwS 2 hts gX3_mend_X3_linksOf rfl rfl rfl (by decide +kernel) ⟨Nat.le_of_ble_eq_true rfl, Nat.le_of_ble_eq_true rfl⟩) hP hK hD hN hS rfl hl.1 rfl (Nat.le_of_ble_eq_true rfl) dX3_mend_13 (fun H locs hP hD hS => ?_)
    clear eh
    obtain ⟨σ11, eh, h⟩ := ik_bd h
    refine ik_Vv (As := [.int x1, .int 2, .int v10]) (rest := []) ⟨hx, hb, hml, hown, hts⟩ (c_X5_putNumber l D cI cZ a A x1 2 v10 σ2 _ eh) (cwV 3 hts gX3_mend_X5_putNumber rfl rfl rfl (by decide +kernel) ⟨Nat.le_of_ble_eq_true rfl, Nat.le_of_ble_eq_true rfl⟩) (va_recv hK hP (ci := 3) (q0 := 1) rfl rfl) hP hK hD hN hS rfl hl.1 rfl (Nat.le_of_ble_eq_true rfl) dX3_mend_16 (fun H locs hP hD hS => ?_)
    clear eh
    refine lv_aload_n hx hb dX3_mend_19 rfl (lv_at hl 0 rfl) ?_
    refine lv_iload_n hx hb dX3_mend_20 rfl (lv_at hl 2 rfl) ?_
    refine lv_iconst (v := 4) hx hb dX3_mend_21 (by decide) ?_
    refine lv_iconst (v := 0) hx hb dX3_mend_22 (by decide) ?_
    obtain ⟨σ12, eh, h⟩ := ik_bd h
    refine ik_Vv (As := [.int x1, .int 4, .int 0]) (rest := []) ⟨hx, hb, hml, hown, hts⟩ (c_X5_putNumber l D cI cZ a A x1 4 0 σ11 _ eh) (cwV 3 hts gX3_mend_X5_putNumber rfl rfl rfl (by decide +kernel) ⟨Nat.le_of_ble_eq_true rfl, Nat.le_of_ble_eq_true rfl⟩) (va_recv hK hP (ci := 3) (q0 := 1) rfl rfl) hP hK hD hN hS rfl hl.1 rfl (Nat.le_of_ble_eq_true rfl) dX3_mend_23 (fun H locs hP hD hS => ?_)
    clear eh
    refine lv_aload_n hx hb dX3_mend_26 rfl (lv_at hl 0 rfl) ?_
    refine lv_iload_n hx hb dX3_mend_27 rfl (lv_at hl 2 rfl) ?_
    refine lv_iconst (v := 3) hx hb dX3_mend_28 (by decide) ?_
    refine lv_iconst (v := 0) hx hb dX3_mend_29 (by decide) ?_
    obtain ⟨σ13, eh, h⟩ := ik_bd h
    refine ik_Vv (As := [.int x1, .int 3, .int 0]) (rest := []) ⟨hx, hb, hml, hown, hts⟩ (c_X5_putNumber l D cI cZ a A x1 3 0 σ12 _ eh) (cwV 3 hts gX3_mend_X5_putNumber rfl rfl rfl (by decide +kernel) ⟨Nat.le_of_ble_eq_true rfl, Nat.le_of_ble_eq_true rfl⟩) (va_recv hK hP (ci := 3) (q0 := 1) rfl rfl) hP hK hD hN hS rfl hl.1 rfl (Nat.le_of_ble_eq_true rfl) dX3_mend_30 (fun H locs hP hD hS => ?_)
    clear eh
    refine lv_iinc (v := x1 + 1) (lv' := [(2, .int (x1 + 1)), (0, .ref (a 1)), (1, .ref (a 12))]) hx hb dX3_mend_33 hl (k := 2) rfl rfl (by decide) rfl (fun ls hl => ?_)
    refine lv_goto (tgt := 2) hx hb dX3_mend_36 (by decide) ?_
    exact ih2 _ _ h _ _ _ hP hD hS (lv_sub hl [1, 2, 0] rfl)
abbrev rm_X5_wipeRunsFrom : Room := { frames := 1, cells := 0, slots := 0, locals := 23 }
set_option maxHeartbeats 4000000 in
set_option maxRecDepth 100000 in
theorem c_X5_wipeRunsFrom (l : Launch) (D : va_G) (cI cZ : ClassId) (a : Nat → Nat) (A : Nat → Prop) (p0 : Int32) (p1 : Int32) (σ : ck_S) (σz : ck_S) (h : fX5_wipeRunsFrom p0 p1 σ = some σz) : Met l yX5_wipeRunsFrom wsX5_wipeRunsFrom rm_X5_wipeRunsFrom (va_Pc [.ref (a 1), .int p0, .int p1] (ik_P D [(cI, .int), (cZ, .boolean)] ck_N (ck_W cI cZ a) A σ)) (ik_Qv D (ck_W cI cZ a) A σz) 0 0 A := by
  unfold fX5_wipeRunsFrom at h
  refine Met.ofW (cc := cX5_wipeRunsFrom) (maxL := 3) (ret := none) (by decide) rfl ?_
  intro p e s m args below meth c s₁ B hml hv
  obtain ⟨hAr, hP, hK, hD, hN⟩ := hv
  have hx := B.exec
  have hb := B.bytes
  have hr := B.returns
  have hts := atoms_spec (ws := wsX5_wipeRunsFrom) B.pre
  have hown : s.vm.findClass RX5 = some m.cls := findClass_of_methodNamed B.named
  have hlocks := B.notSynchronized
  have hS : va_S A s.heap s.heap [] := va_S.rf
  have hl := lv_entry ([.ref (a 1), .int p0, .int p1]) (n := 3) (Nat.le_of_ble_eq_true rfl)
  rw [show entryFrame m args 3 = entryFrame m ([.ref (a 1), .int p0, .int p1] : List Value).toArray 3 from by rw [hAr], lg_entry_eq]
  generalize (lg_sl ([.ref (a 1), .int p0, .int p1]) ++ List.replicate (3 - (lg_sl ([.ref (a 1), .int p0, .int p1])).length) Slot.unset).toArray = ls at hl ⊢
  have hl : lv_has ls 3 [(0, .ref (a 1)), (1, .int p0), (2, .int p1)] := hl
  refine lv_aload_n hx hb dX5_wipeRunsFrom_0 rfl (lv_at hl 0 rfl) ?_
  refine lv_iload_n hx hb dX5_wipeRunsFrom_1 rfl (lv_at hl 1 rfl) ?_
  refine lv_iload_n hx hb dX5_wipeRunsFrom_2 rfl (lv_at hl 2 rfl) ?_
  obtain ⟨v1, eh, h⟩ := ik_bd h
  refine ik_Si (As := [.int p0, .int p1]) (rest := [.ref (a 1)]) ⟨hx, hb, hml, hown, hts⟩ (c_X5_runCell l D cI cZ a A p0 p1 σ _ eh) (va_cwS 2 hts gX5_wipeRunsFrom_X5_runCell rfl rfl rfl (by decide +kernel) ⟨Nat.le_of_ble_eq_true rfl, Nat.le_of_ble_eq_true rfl⟩) hP hK hD hN hS rfl hl.1 rfl (Nat.le_of_ble_eq_true rfl) dX5_wipeRunsFrom_3 (fun H locs hP hD hS => ?_)
  clear eh
  refine lv_iload_n hx hb dX5_wipeRunsFrom_6 rfl (lv_at hl 1 rfl) ?_
  refine lv_bipush (v := 6) hx hb dX5_wipeRunsFrom_7 (by decide) ?_
  obtain ⟨v2, eh, h⟩ := ik_bd h
  refine ik_Si (As := [.int p0, .int 6]) (rest := [.int v1, .ref (a 1)]) ⟨hx, hb, hml, hown, hts⟩ (c_X5_runCell l D cI cZ a A p0 6 σ _ eh) (va_cwS 2 hts gX5_wipeRunsFrom_X5_runCell rfl rfl rfl (by decide +kernel) ⟨Nat.le_of_ble_eq_true rfl, Nat.le_of_ble_eq_true rfl⟩) hP hK hD hN hS rfl hl.1 rfl (Nat.le_of_ble_eq_true rfl) dX5_wipeRunsFrom_9 (fun H locs hP hD hS => ?_)
  clear eh
  obtain ⟨σ3, eh, h⟩ := ik_bd h
  refine ik_Vv (As := [.int v1, .int v2]) (rest := []) ⟨hx, hb, hml, hown, hts⟩ (c_X5_wipeCells l D cI cZ a A v1 v2 σ _ eh) (cwV 2 hts gX5_wipeRunsFrom_X5_wipeCells rfl rfl rfl (by decide +kernel) ⟨Nat.le_of_ble_eq_true rfl, Nat.le_of_ble_eq_true rfl⟩) (va_recv hK hP (ci := 3) (q0 := 1) rfl rfl) hP hK hD hN hS rfl hl.1 rfl (Nat.le_of_ble_eq_true rfl) dX5_wipeRunsFrom_12 (fun H locs hP hD hS => ?_)
  clear eh
  exact W.vret hx hb hr (fun t ht hW => ⟨⟨_, rfl, Option.some.inj h, by rw [ht]; exact hP, hD⟩, hS.F ht⟩) hS.2.2 dX5_wipeRunsFrom_15
abbrev rm_X4_makeRootEmpty : Room := { frames := 2, cells := 0, slots := 0, locals := 45 }
set_option maxHeartbeats 4000000 in
set_option maxRecDepth 100000 in
theorem c_X4_makeRootEmpty (l : Launch) (D : va_G) (cI cZ : ClassId) (a : Nat → Nat) (A : Nat → Prop) (σ : ck_S) (σz : ck_S) (h : fX4_makeRootEmpty σ = some σz) : Met l yX4_makeRootEmpty wsX4_makeRootEmpty rm_X4_makeRootEmpty (va_Pc [.ref (a 5), .ref (a 1)] (ik_P D [(cI, .int), (cZ, .boolean)] ck_N (ck_W cI cZ a) A σ)) (ik_Qv D (ck_W cI cZ a) A σz) 0 0 A := by
  unfold fX4_makeRootEmpty at h
  refine Met.ofW (cc := cX4_makeRootEmpty) (maxL := 2) (ret := none) (by decide) rfl ?_
  intro p e s m args below meth c s₁ B hml hv
  obtain ⟨hAr, hP, hK, hD, hN⟩ := hv
  have hx := B.exec
  have hb := B.bytes
  have hr := B.returns
  have hts := atoms_spec (ws := wsX4_makeRootEmpty) B.pre
  have hown : s.vm.findClass RX4 = some m.cls := findClass_of_methodNamed B.named
  have hlocks := B.notSynchronized
  have hS : va_S A s.heap s.heap [] := va_S.rf
  have hl := lv_entry ([.ref (a 5), .ref (a 1)]) (n := 2) (Nat.le_of_ble_eq_true rfl)
  rw [show entryFrame m args 2 = entryFrame m ([.ref (a 5), .ref (a 1)] : List Value).toArray 2 from by rw [hAr], lg_entry_eq]
  generalize (lg_sl ([.ref (a 5), .ref (a 1)]) ++ List.replicate (2 - (lg_sl ([.ref (a 5), .ref (a 1)])).length) Slot.unset).toArray = ls at hl ⊢
  have hl : lv_has ls 2 [(0, .ref (a 5)), (1, .ref (a 1))] := hl
  refine lv_aload_n hx hb dX4_makeRootEmpty_0 rfl (lv_at hl 1 rfl) ?_
  refine lv_iconst (v := 1) hx hb dX4_makeRootEmpty_1 (by decide) ?_
  refine lv_iconst (v := 0) hx hb dX4_makeRootEmpty_2 (by decide) ?_
  refine lv_iconst (v := 2) hx hb dX4_makeRootEmpty_3 (by decide) ?_
  obtain ⟨σ1, eh, h⟩ := ik_bd h
  refine ik_Vv (As := [.int 1, .int 0, .int 2]) (rest := []) ⟨hx, hb, hml, hown, hts⟩ (c_X5_putNumber l D cI cZ a A 1 0 2 σ _ eh) (cwV 3 hts gX4_makeRootEmpty_X5_putNumber rfl rfl rfl (by decide +kernel) ⟨Nat.le_of_ble_eq_true rfl, Nat.le_of_ble_eq_true rfl⟩) (va_recv hK hP (ci := 3) (q0 := 1) rfl rfl) hP hK hD hN hS rfl hl.1 rfl (Nat.le_of_ble_eq_true rfl) dX4_makeRootEmpty_4 (fun H locs hP hD hS => ?_)
  clear eh
  refine lv_aload_n hx hb dX4_makeRootEmpty_7 rfl (lv_at hl 1 rfl) ?_
  refine lv_iconst (v := 1) hx hb dX4_makeRootEmpty_8 (by decide) ?_
  refine lv_iconst (v := 1) hx hb dX4_makeRootEmpty_9 (by decide) ?_
  refine lv_iconst (v := 0) hx hb dX4_makeRootEmpty_10 (by decide) ?_
  obtain ⟨σ2, eh, h⟩ := ik_bd h
  refine ik_Vv (As := [.int 1, .int 1, .int 0]) (rest := []) ⟨hx, hb, hml, hown, hts⟩ (c_X5_putNumber l D cI cZ a A 1 1 0 σ1 _ eh) (cwV 3 hts gX4_makeRootEmpty_X5_putNumber rfl rfl rfl (by decide +kernel) ⟨Nat.le_of_ble_eq_true rfl, Nat.le_of_ble_eq_true rfl⟩) (va_recv hK hP (ci := 3) (q0 := 1) rfl rfl) hP hK hD hN hS rfl hl.1 rfl (Nat.le_of_ble_eq_true rfl) dX4_makeRootEmpty_11 (fun H locs hP hD hS => ?_)
  clear eh
  refine lv_aload_n hx hb dX4_makeRootEmpty_14 rfl (lv_at hl 1 rfl) ?_
  refine lv_iconst (v := 1) hx hb dX4_makeRootEmpty_15 (by decide) ?_
  refine lv_iconst (v := 0) hx hb dX4_makeRootEmpty_16 (by decide) ?_
  obtain ⟨σ3, eh, h⟩ := ik_bd h
  refine ik_Vv (As := [.int 1, .int 0]) (rest := []) ⟨hx, hb, hml, hown, hts⟩ (c_X5_wipeRunsFrom l D cI cZ a A 1 0 σ2 _ eh) (cwV 2 hts gX4_makeRootEmpty_X5_wipeRunsFrom rfl rfl rfl (by decide +kernel) ⟨Nat.le_of_ble_eq_true rfl, Nat.le_of_ble_eq_true rfl⟩) (va_recv hK hP (ci := 3) (q0 := 1) rfl rfl) hP hK hD hN hS rfl hl.1 rfl (Nat.le_of_ble_eq_true rfl) dX4_makeRootEmpty_17 (fun H locs hP hD hS => ?_)
  clear eh
  refine lv_aload_n hx hb dX4_makeRootEmpty_20 rfl (lv_at hl 1 rfl) ?_
  refine lv_iconst (v := 1) hx hb dX4_makeRootEmpty_21 (by decide) ?_
  refine lv_iconst (v := 0) hx hb dX4_makeRootEmpty_22 (by decide) ?_
  obtain ⟨σ4, eh, h⟩ := ik_bd h
  refine ik_Vv (As := [.int 1, .int 0]) (rest := []) ⟨hx, hb, hml, hown, hts⟩ (c_X5_wipeEntriesFrom l D cI cZ a A 1 0 σ3 _ eh) (cwV 2 hts gX4_makeRootEmpty_X5_wipeEntriesFrom rfl rfl rfl (by decide +kernel) ⟨Nat.le_of_ble_eq_true rfl, Nat.le_of_ble_eq_true rfl⟩) (va_recv hK hP (ci := 3) (q0 := 1) rfl rfl) hP hK hD hN hS rfl hl.1 rfl (Nat.le_of_ble_eq_true rfl) dX4_makeRootEmpty_23 (fun H locs hP hD hS => ?_)
  clear eh
  exact W.vret hx hb hr (fun t ht hW => ⟨⟨_, rfl, Option.some.inj h, by rw [ht]; exact hP, hD⟩, hS.F ht⟩) hS.2.2 dX4_makeRootEmpty_26
abbrev rm_X4_isRight : Room := { frames := 0, cells := 0, slots := 0, locals := 0 }
set_option maxHeartbeats 4000000 in
set_option maxRecDepth 100000 in
theorem c_X4_isRight (l : Launch) (D : va_G) (cI cZ : ClassId) (a : Nat → Nat) (A : Nat → Prop) (p0 : Int32) (p1 : Int32) (p2 : Int32) (σ : ck_S) (rz : Int32) (h : fX4_isRight p0 p1 p2 = some rz) : Met l yX4_isRight wsX4_isRight rm_X4_isRight (va_Pc [.int p0, .int p1, .int p2] (ik_P D [(cI, .int), (cZ, .boolean)] ck_N (ck_W cI cZ a) A σ)) (ik_Qi D (ck_W cI cZ a) A rz σ) 0 0 A := by
  unfold fX4_isRight at h
  refine Met.ofW (cc := cX4_isRight) (maxL := 3) (ret := (some .boolean)) (by decide) rfl ?_
  intro p e s m args below meth c s₁ B hml hv
  obtain ⟨hAr, hP, hK, hD, hN⟩ := hv
  have hx := B.exec
  have hb := B.bytes
  have hr := B.returns
  have hts := atoms_spec (ws := wsX4_isRight) B.pre
  have hown : s.vm.findClass RX4 = some m.cls := findClass_of_methodNamed B.named
  have hlocks := B.notSynchronized
  have hS : va_S A s.heap s.heap [] := va_S.rf
  have hl := lv_entry ([.int p0, .int p1, .int p2]) (n := 3) (Nat.le_of_ble_eq_true rfl)
  rw [show entryFrame m args 3 = entryFrame m ([.int p0, .int p1, .int p2] : List Value).toArray 3 from by rw [hAr], lg_entry_eq]
  generalize (lg_sl ([.int p0, .int p1, .int p2]) ++ List.replicate (3 - (lg_sl ([.int p0, .int p1, .int p2])).length) Slot.unset).toArray = ls at hl ⊢
  have hl : lv_has ls 3 [(0, .int p0), (1, .int p1), (2, .int p2)] := hl
  refine lv_iload_n hx hb dX4_isRight_0 rfl (lv_at hl 1 rfl) ?_
  refine lv_iconst (v := 1) hx hb dX4_isRight_1 (by decide) ?_
  refine lv_icmp_lt (tgt := 42) hx hb dX4_isRight_2 (by decide) (fun c1 => ?_) (fun c1 => ?_)
  · have h := ik_t c1 h
    refine lv_iconst (v := 0) hx hb dX4_isRight_42 (by decide) ?_
    exact W.zret (v := 0) hx hb hr rfl (fun t ht hW => ⟨⟨_, _, rfl, ⟨Option.some.inj h, rfl⟩, by rw [ht]; exact hP, hD⟩, hS.F ht⟩) hS.2.2 dX4_isRight_43
  · have h := ik_f c1 h
    refine lv_iload_n hx hb dX4_isRight_5 rfl (lv_at hl 1 rfl) ?_
    refine lv_bipush (v := 64) hx hb dX4_isRight_6 (by decide) ?_
    refine lv_icmp_gt (tgt := 42) hx hb dX4_isRight_8 (by decide) (fun c2 => ?_) (fun c2 => ?_)
    · have h := ik_t c2 h
      refine lv_iconst (v := 0) hx hb dX4_isRight_42 (by decide) ?_
      exact W.zret (v := 0) hx hb hr rfl (fun t ht hW => ⟨⟨_, _, rfl, ⟨Option.some.inj h, rfl⟩, by rw [ht]; exact hP, hD⟩, hS.F ht⟩) hS.2.2 dX4_isRight_43
    · have h := ik_f c2 h
      refine lv_iload_n hx hb dX4_isRight_11 rfl (lv_at hl 0 rfl) ?_
      refine lv_if_lt (tgt := 42) hx hb dX4_isRight_12 (by decide) (fun c3 => ?_) (fun c3 => ?_)
      · have h := ik_t c3 h
        refine lv_iconst (v := 0) hx hb dX4_isRight_42 (by decide) ?_
        exact W.zret (v := 0) hx hb hr rfl (fun t ht hW => ⟨⟨_, _, rfl, ⟨Option.some.inj h, rfl⟩, by rw [ht]; exact hP, hD⟩, hS.F ht⟩) hS.2.2 dX4_isRight_43
      · have h := ik_f c3 h
        refine lv_iload_n hx hb dX4_isRight_15 rfl (lv_at hl 0 rfl) ?_
        refine lv_bipush (v := 64) hx hb dX4_isRight_16 (by decide) ?_
        refine lv_iload_n hx hb dX4_isRight_18 rfl (lv_at hl 1 rfl) ?_
        refine lv_isub hx hb dX4_isRight_19 ?_
        refine lv_icmp_gt (tgt := 42) hx hb dX4_isRight_20 (by decide) (fun c4 => ?_) (fun c4 => ?_)
        · have h := ik_t c4 h
          refine lv_iconst (v := 0) hx hb dX4_isRight_42 (by decide) ?_
          exact W.zret (v := 0) hx hb hr rfl (fun t ht hW => ⟨⟨_, _, rfl, ⟨Option.some.inj h, rfl⟩, by rw [ht]; exact hP, hD⟩, hS.F ht⟩) hS.2.2 dX4_isRight_43
        · have h := ik_f c4 h
          refine lv_iload_n hx hb dX4_isRight_23 rfl (lv_at hl 2 rfl) ?_
          refine lv_bipush (v := 8) hx hb dX4_isRight_24 (by decide) ?_
          refine lv_icmp_le (tgt := 42) hx hb dX4_isRight_26 (by decide) (fun c5 => ?_) (fun c5 => ?_)
          · have h := ik_t c5 h
            refine lv_iconst (v := 0) hx hb dX4_isRight_42 (by decide) ?_
            exact W.zret (v := 0) hx hb hr rfl (fun t ht hW => ⟨⟨_, _, rfl, ⟨Option.some.inj h, rfl⟩, by rw [ht]; exact hP, hD⟩, hS.F ht⟩) hS.2.2 dX4_isRight_43
          · have h := ik_f c5 h
            refine lv_iload_n hx hb dX4_isRight_29 rfl (lv_at hl 2 rfl) ?_
            refine lv_sipush (v := 201) hx hb dX4_isRight_30 (by decide) ?_
            refine lv_iload_n hx hb dX4_isRight_33 rfl (lv_at hl 1 rfl) ?_
            refine lv_isub hx hb dX4_isRight_34 ?_
            refine lv_icmp_gt (tgt := 42) hx hb dX4_isRight_35 (by decide) (fun c6 => ?_) (fun c6 => ?_)
            · have h := ik_t c6 h
              refine lv_iconst (v := 0) hx hb dX4_isRight_42 (by decide) ?_
              exact W.zret (v := 0) hx hb hr rfl (fun t ht hW => ⟨⟨_, _, rfl, ⟨Option.some.inj h, rfl⟩, by rw [ht]; exact hP, hD⟩, hS.F ht⟩) hS.2.2 dX4_isRight_43
            · have h := ik_f c6 h
              refine lv_iconst (v := 1) hx hb dX4_isRight_38 (by decide) ?_
              refine lv_goto (tgt := 43) hx hb dX4_isRight_39 (by decide) ?_
              exact W.zret (v := 1) hx hb hr rfl (fun t ht hW => ⟨⟨_, _, rfl, ⟨Option.some.inj h, rfl⟩, by rw [ht]; exact hP, hD⟩, hS.F ht⟩) hS.2.2 dX4_isRight_43
abbrev rm_X4_greatestEnd : Room := { frames := 2, cells := 0, slots := 0, locals := 44 }
set_option maxHeartbeats 4000000 in
set_option maxRecDepth 100000 in
theorem c_X4_greatestEnd (l : Launch) (D : va_G) (cI cZ : ClassId) (a : Nat → Nat) (A : Nat → Prop) (p1 : Int32) (σ : ck_S) (rz : Int32) (h : fX4_greatestEnd p1 σ = some rz) : Met l yX4_greatestEnd wsX4_greatestEnd rm_X4_greatestEnd (va_Pc [.ref (a 5), .ref (a 1), .int p1] (ik_P D [(cI, .int), (cZ, .boolean)] ck_N (ck_W cI cZ a) A σ)) (ik_Qi D (ck_W cI cZ a) A rz σ) 0 0 A := by
  unfold fX4_greatestEnd at h
  refine Met.ofW (cc := cX4_greatestEnd) (maxL := 7) (ret := (some .int)) (by decide) rfl ?_
  intro p e s m args below meth c s₁ B hml hv
  obtain ⟨hAr, hP, hK, hD, hN⟩ := hv
  have hx := B.exec
  have hb := B.bytes
  have hr := B.returns
  have hts := atoms_spec (ws := wsX4_greatestEnd) B.pre
  have hown : s.vm.findClass RX4 = some m.cls := findClass_of_methodNamed B.named
  have hlocks := B.notSynchronized
  have hS : va_S A s.heap s.heap [] := va_S.rf
  have hl := lv_entry ([.ref (a 5), .ref (a 1), .int p1]) (n := 7) (Nat.le_of_ble_eq_true rfl)
  rw [show entryFrame m args 7 = entryFrame m ([.ref (a 5), .ref (a 1), .int p1] : List Value).toArray 7 from by rw [hAr], lg_entry_eq]
  generalize (lg_sl ([.ref (a 5), .ref (a 1), .int p1]) ++ List.replicate (7 - (lg_sl ([.ref (a 5), .ref (a 1), .int p1])).length) Slot.unset).toArray = ls at hl ⊢
  have hl : lv_has ls 7 [(0, .ref (a 5)), (1, .ref (a 1)), (2, .int p1)] := hl
  refine lv_iconst (v := 0) hx hb dX4_greatestEnd_0 (by decide) ?_
  refine lv_istore_n (lv' := [(3, .int 0), (0, .ref (a 5)), (1, .ref (a 1)), (2, .int p1)]) hx hb dX4_greatestEnd_1 rfl hl (by decide) rfl (fun ls hl => ?_)
  refine lv_iconst (v := 0) hx hb dX4_greatestEnd_2 (by decide) ?_
  refine lv_istore (lv' := [(4, .int 0), (3, .int 0), (0, .ref (a 5)), (1, .ref (a 1)), (2, .int p1)]) hx hb dX4_greatestEnd_3 hl (by decide) rfl (fun ls hl => ?_)
  refine qp2_W (P := fun (x1 : Int32) (x2 : Int32) => ∀ (H : Heap) (locs : List Loc) (ls : Array Slot), va_P D vwCl (ck_W cI cZ a σ) H → va_D A (ck_W cI cZ a σ) → va_S A s.heap H locs → lv_has ls 7 [(1, .ref (a 1)), (2, .int p1), (3, .int x1), (4, .int x2)] → W p l e (headSpec wsX4_greatestEnd rm_X4_greatestEnd).room s m args below meth c H locs 0 0 (MQ below (ik_Qi D (ck_W cI cZ a) A rz σ) args s 0 0 A) (F0 m 5 ls [])) ?_ FU _ _ h _ _ _ hP hD hS (lv_sub hl [3, 4, 1, 0] rfl)
  intro rec5 ih5 x1 x2 h H locs ls hP hD hS hl
  refine lv_iload hx hb dX4_greatestEnd_5 (lv_at hl 3 rfl) ?_
  refine lv_bipush (v := 6) hx hb dX4_greatestEnd_7 (by decide) ?_
  refine lv_icmp_ge (tgt := 66) hx hb dX4_greatestEnd_9 (by decide) (fun c3 => ?_) (fun c3 => ?_)
  · have h := ik_t c3 h
    refine lv_iload_n hx hb dX4_greatestEnd_66 rfl (lv_at hl 2 rfl) ?_
    exact W.iret hx hb hr (fun t ht hW => ⟨⟨_, _, rfl, ⟨Option.some.inj h, rfl⟩, by rw [ht]; exact hP, hD⟩, hS.F ht⟩) hS.2.2 dX4_greatestEnd_67
  · have h := ik_f c3 h
    refine lv_aload_n hx hb dX4_greatestEnd_12 rfl (lv_at hl 0 rfl) ?_
    refine lv_iload_n hx hb dX4_greatestEnd_13 rfl (lv_at hl 1 rfl) ?_
    refine lv_iload hx hb dX4_greatestEnd_14 (lv_at hl 3 rfl) ?_
    refine lv_iconst (v := 0) hx hb dX4_greatestEnd_16 (by decide) ?_
    obtain ⟨v4, eh, h⟩ := ik_bd h
    refine ik_Vi (As := [.int p1, .int x2, .int 0]) (rest := []) ⟨hx, hb, hml, hown, hts⟩ (c_X5_runPart l D cI cZ a A p1 x2 0 σ _ eh) (cwV 3 hts gX4_greatestEnd_X5_runPart rfl rfl rfl (by decide +kernel) ⟨Nat.le_of_ble_eq_true rfl, Nat.le_of_ble_eq_true rfl⟩) (va_recv hK hP (ci := 3) (q0 := 1) rfl rfl) hP hK hD hN hS rfl hl.1 rfl (Nat.le_of_ble_eq_true rfl) dX4_greatestEnd_17 (fun H locs hP hD hS => ?_)
    clear eh
    refine lv_istore (lv' := [(5, .int v4), (1, .ref (a 1)), (2, .int p1), (3, .int x1), (4, .int x2)]) hx hb dX4_greatestEnd_20 hl (by decide) rfl (fun ls hl => ?_)
    refine lv_aload_n hx hb dX4_greatestEnd_22 rfl (lv_at hl 1 rfl) ?_
    refine lv_iload_n hx hb dX4_greatestEnd_23 rfl (lv_at hl 2 rfl) ?_
    refine lv_iload hx hb dX4_greatestEnd_24 (lv_at hl 4 rfl) ?_
    refine lv_iconst (v := 1) hx hb dX4_greatestEnd_26 (by decide) ?_
    obtain ⟨v5, eh, h⟩ := ik_bd h
    refine ik_Vi (As := [.int p1, .int x2, .int 1]) (rest := []) ⟨hx, hb, hml, hown, hts⟩ (c_X5_runPart l D cI cZ a A p1 x2 1 σ _ eh) (cwV 3 hts gX4_greatestEnd_X5_runPart rfl rfl rfl (by decide +kernel) ⟨Nat.le_of_ble_eq_true rfl, Nat.le_of_ble_eq_true rfl⟩) (va_recv hK hP (ci := 3) (q0 := 1) rfl rfl) hP hK hD hN hS rfl hl.1 rfl (Nat.le_of_ble_eq_true rfl) dX4_greatestEnd_27 (fun H locs hP hD hS => ?_)
    clear eh
    refine lv_istore (lv' := [(6, .int v5), (5, .int v4), (1, .ref (a 1)), (2, .int p1), (3, .int x1), (4, .int x2)]) hx hb dX4_greatestEnd_30 hl (by decide) rfl (fun ls hl => ?_)
    refine lv_iload hx hb dX4_greatestEnd_32 (lv_at hl 1 rfl) ?_
    refine lv_iload hx hb dX4_greatestEnd_34 (lv_at hl 0 rfl) ?_
    refine lv_aload_n hx hb dX4_greatestEnd_36 rfl (lv_at hl 2 rfl) ?_
    refine lv_iload_n hx hb dX4_greatestEnd_37 rfl (lv_at hl 3 rfl) ?_
    refine lv_iload hx hb dX4_greatestEnd_38 (lv_at hl 5 rfl) ?_
    refine lv_iconst (v := 2) hx hb dX4_greatestEnd_40 (by decide) ?_
    obtain ⟨v6, eh, h⟩ := ik_bd h
    refine ik_Vi (As := [.int p1, .int x2, .int 2]) (rest := [.int v5, .int v4]) ⟨hx, hb, hml, hown, hts⟩ (c_X5_runPart l D cI cZ a A p1 x2 2 σ _ eh) (cwV 3 hts gX4_greatestEnd_X5_runPart rfl rfl rfl (by decide +kernel) ⟨Nat.le_of_ble_eq_true rfl, Nat.le_of_ble_eq_true rfl⟩) (va_recv hK hP (ci := 3) (q0 := 1) rfl rfl) hP hK hD hN hS rfl hl.1 rfl (Nat.le_of_ble_eq_true rfl) dX4_greatestEnd_41 (fun H locs hP hD hS => ?_)
    clear eh
    obtain ⟨v7, eh, h⟩ := ik_bd h
    refine ik_Si (As := [.int v4, .int v5, .int v6]) (rest := []) ⟨hx, hb, hml, hown, hts⟩ (c_X4_isRight l D cI cZ a A v4 v5 v6 σ _ eh) (va_cwS 3 hts gX4_greatestEnd_X4_isRight rfl rfl rfl (by decide +kernel) ⟨Nat.le_of_ble_eq_true rfl, Nat.le_of_ble_eq_true rfl⟩) hP hK hD hN hS rfl hl.1 rfl (Nat.le_of_ble_eq_true rfl) dX4_greatestEnd_44 (fun H locs hP hD hS => ?_)
    clear eh
    refine lv_if_eq (tgt := 60) hx hb dX4_greatestEnd_47 (by decide) (fun c8 => ?_) (fun c8 => ?_)
    · have h := ik_t c8 h
      refine lv_iinc (v := x2 + 1) (lv' := [(4, .int (x2 + 1)), (6, .int v5), (5, .int v4), (1, .ref (a 1)), (2, .int p1), (3, .int x1)]) hx hb dX4_greatestEnd_60 hl (k := 5) rfl rfl (by decide) rfl (fun ls hl => ?_)
      refine lv_goto (tgt := 5) hx hb dX4_greatestEnd_63 (by decide) ?_
      exact ih5 _ _ h _ _ _ hP hD hS (lv_sub hl [3, 4, 5, 0] rfl)
    · have h := ik_f c8 h
      refine lv_iload_n hx hb dX4_greatestEnd_50 rfl (lv_at hl 4 rfl) ?_
      refine lv_iload hx hb dX4_greatestEnd_51 (lv_at hl 1 rfl) ?_
      refine lv_iload hx hb dX4_greatestEnd_53 (lv_at hl 0 rfl) ?_
      refine lv_iadd hx hb dX4_greatestEnd_55 ?_
      refine va_mmax hx hb (hml.trans hl.1.symm) hown (hts (.methodLink RX4 67 Lib.Math.max.name) (by decide +kernel)) (hts (.static Lib.Math.max.name) (by decide +kernel)) (hts (.initialized "java/lang/Math") (by decide +kernel)) (hts (.code Lib.Math.max.name Lib.Math.max.code 2 (some .int)) (by decide +kernel)) (by decide) (by decide) (Nat.zero_le _) (Nat.zero_le _) dX4_greatestEnd_56 ?_
      obtain ⟨v9, eh, h⟩ := ik_bd h
      refine ik_nm (Option.some.inj eh) ?_
      clear eh
      refine lv_istore_n (lv' := [(3, .int v9), (6, .int v5), (5, .int v4), (1, .ref (a 1)), (2, .int p1), (4, .int x2)]) hx hb dX4_greatestEnd_59 rfl hl (by decide) rfl (fun ls hl => ?_)
      refine lv_iinc (v := x2 + 1) (lv' := [(4, .int (x2 + 1)), (3, .int v9), (6, .int v5), (5, .int v4), (1, .ref (a 1)), (2, .int p1)]) hx hb dX4_greatestEnd_60 hl (k := 5) rfl rfl (by decide) rfl (fun ls hl => ?_)
      refine lv_goto (tgt := 5) hx hb dX4_greatestEnd_63 (by decide) ?_
      exact ih5 _ _ h _ _ _ hP hD hS (lv_sub hl [4, 5, 1, 0] rfl)
abbrev rm_X4_mendSize : Room := { frames := 3, cells := 0, slots := 0, locals := 70 }
set_option maxHeartbeats 4000000 in
set_option maxRecDepth 100000 in
theorem c_X4_mendSize (l : Launch) (D : va_G) (cI cZ : ClassId) (a : Nat → Nat) (A : Nat → Prop) (p1 : Int32) (σ : ck_S) (σz : ck_S) (h : fX4_mendSize p1 σ = some σz) : Met l yX4_mendSize wsX4_mendSize rm_X4_mendSize (va_Pc [.ref (a 5), .ref (a 1), .int p1] (ik_P D [(cI, .int), (cZ, .boolean)] ck_N (ck_W cI cZ a) A σ)) (ik_Qv D (ck_W cI cZ a) A σz) 0 0 A := by
  unfold fX4_mendSize at h
  refine Met.ofW (cc := cX4_mendSize) (maxL := 4) (ret := none) (by decide) rfl ?_
  intro p e s m args below meth c s₁ B hml hv
  obtain ⟨hAr, hP, hK, hD, hN⟩ := hv
  have hx := B.exec
  have hb := B.bytes
  have hr := B.returns
  have hts := atoms_spec (ws := wsX4_mendSize) B.pre
  have hown : s.vm.findClass RX4 = some m.cls := findClass_of_methodNamed B.named
  have hlocks := B.notSynchronized
  have hS : va_S A s.heap s.heap [] := va_S.rf
  have hl := lv_entry ([.ref (a 5), .ref (a 1), .int p1]) (n := 4) (Nat.le_of_ble_eq_true rfl)
  rw [show entryFrame m args 4 = entryFrame m ([.ref (a 5), .ref (a 1), .int p1] : List Value).toArray 4 from by rw [hAr], lg_entry_eq]
  generalize (lg_sl ([.ref (a 5), .ref (a 1), .int p1]) ++ List.replicate (4 - (lg_sl ([.ref (a 5), .ref (a 1), .int p1])).length) Slot.unset).toArray = ls at hl ⊢
  have hl : lv_has ls 4 [(0, .ref (a 5)), (1, .ref (a 1)), (2, .int p1)] := hl
  refine lv_aload_n hx hb dX4_mendSize_0 rfl (lv_at hl 1 rfl) ?_
  refine lv_iload_n hx hb dX4_mendSize_1 rfl (lv_at hl 2 rfl) ?_
  refine lv_iconst (v := 1) hx hb dX4_mendSize_2 (by decide) ?_
  obtain ⟨v1, eh, h⟩ := ik_bd h
  refine ik_Vi (As := [.int p1, .int 1]) (rest := []) ⟨hx, hb, hml, hown, hts⟩ (c_X5_number l D cI cZ a A p1 1 σ _ eh) (cwV 2 hts gX4_mendSize_X5_number rfl rfl rfl (by decide +kernel) ⟨Nat.le_of_ble_eq_true rfl, Nat.le_of_ble_eq_true rfl⟩) (va_recv hK hP (ci := 3) (q0 := 1) rfl rfl) hP hK hD hN hS rfl hl.1 rfl (Nat.le_of_ble_eq_true rfl) dX4_mendSize_3 (fun H locs hP hD hS => ?_)
  clear eh
  refine lv_istore_n (lv' := [(3, .int v1), (0, .ref (a 5)), (1, .ref (a 1)), (2, .int p1)]) hx hb dX4_mendSize_6 rfl hl (by decide) rfl (fun ls hl => ?_)
  refine lv_iload_n hx hb dX4_mendSize_7 rfl (lv_at hl 0 rfl) ?_
  obtain ⟨j17, ej, h⟩ := jn_ex h
  have hj17 : ∀ (_u : Unit), j17 _u = some σz → ∀ (H : Heap) (locs : List Loc) (ls : Array Slot), va_P D vwCl (ck_W cI cZ a σ) H → va_D A (ck_W cI cZ a σ) → va_S A s.heap H locs → lv_has ls 4 [(0, .ref (a 5)), (1, .ref (a 1)), (2, .int p1)] → W p l e (headSpec wsX4_mendSize rm_X4_mendSize).room s m args below meth c H locs 0 0 (MQ below (ik_Qv D (ck_W cI cZ a) A σz) args s 0 0 A) (F0 m 17 ls []) := by
    rw [ej]; clear h
    intro _u h H locs ls hP hD hS hl
    refine lv_aload_n hx hb dX4_mendSize_17 rfl (lv_at hl 1 rfl) ?_
    refine lv_iload_n hx hb dX4_mendSize_18 rfl (lv_at hl 2 rfl) ?_
    refine lv_iconst (v := 1) hx hb dX4_mendSize_19 (by decide) ?_
    refine lv_sipush (v := 1024) hx hb dX4_mendSize_20 (by decide) ?_
    refine lv_aload_n hx hb dX4_mendSize_23 rfl (lv_at hl 0 rfl) ?_
    refine lv_aload_n hx hb dX4_mendSize_24 rfl (lv_at hl 1 rfl) ?_
    refine lv_iload_n hx hb dX4_mendSize_25 rfl (lv_at hl 2 rfl) ?_
    obtain ⟨v2, eh, h⟩ := ik_bd h
    refine ik_Vi (As := [.ref (a 1), .int p1]) (rest := [.int 1024, .int 1, .int p1, .ref (a 1)]) ⟨hx, hb, hml, hown, hts⟩ (c_X4_greatestEnd l D cI cZ a A p1 σ _ eh) (cwV 2 hts gX4_mendSize_X4_greatestEnd rfl rfl rfl (by decide +kernel) ⟨Nat.le_of_ble_eq_true rfl, Nat.le_of_ble_eq_true rfl⟩) (va_recv hK hP (ci := 2) (q0 := 5) rfl rfl) hP hK hD hN hS rfl hl.1 rfl (Nat.le_of_ble_eq_true rfl) dX4_mendSize_26 (fun H locs hP hD hS => ?_)
    clear eh
    refine lv_imul hx hb dX4_mendSize_29 ?_
    obtain ⟨σ3, eh, h⟩ := ik_bd h
    refine ik_Vv (As := [.int p1, .int 1, .int (1024 * v2)]) (rest := []) ⟨hx, hb, hml, hown, hts⟩ (c_X5_putNumber l D cI cZ a A p1 1 (1024 * v2) σ _ eh) (cwV 3 hts gX4_mendSize_X5_putNumber rfl rfl rfl (by decide +kernel) ⟨Nat.le_of_ble_eq_true rfl, Nat.le_of_ble_eq_true rfl⟩) (va_recv hK hP (ci := 3) (q0 := 1) rfl rfl) hP hK hD hN hS rfl hl.1 rfl (Nat.le_of_ble_eq_true rfl) dX4_mendSize_30 (fun H locs hP hD hS => ?_)
    clear eh
    exact W.vret hx hb hr (fun t ht hW => ⟨⟨_, rfl, Option.some.inj h, by rw [ht]; exact hP, hD⟩, hS.F ht⟩) hS.2.2 dX4_mendSize_33
  clear ej
  refine lv_if_lt (tgt := 17) hx hb dX4_mendSize_8 (by decide) (fun c4 => ?_) (fun c4 => ?_)
  · have h := ik_t c4 h
    exact hj17 () h _ _ _ hP hD hS (lv_sub hl [1, 2, 3] rfl)
  · have h := ik_f c4 h
    refine lv_iload_n hx hb dX4_mendSize_11 rfl (lv_at hl 0 rfl) ?_
    refine lv_ldc (v := 65536) hx hb hown (hts (.constant RX4 54 65536) (by decide +kernel)) dX4_mendSize_12 ?_
    refine lv_icmp_le (tgt := 33) hx hb dX4_mendSize_14 (by decide) (fun c5 => ?_) (fun c5 => ?_)
    · have h := ik_t c5 h
      exact W.vret hx hb hr (fun t ht hW => ⟨⟨_, rfl, Option.some.inj h, by rw [ht]; exact hP, hD⟩, hS.F ht⟩) hS.2.2 dX4_mendSize_33
    · have h := ik_f c5 h
      exact hj17 () h _ _ _ hP hD hS (lv_sub hl [1, 2, 3] rfl)
abbrev rm_X4_isAnyInRuns : Room := { frames := 0, cells := 0, slots := 0, locals := 0 }
theorem in_X4_isAnyInRuns_X4 : ∀ w ∈ wsX40, w ∈ wsX4_isAnyInRuns := by decide +kernel
set_option maxHeartbeats 4000000 in
set_option maxRecDepth 100000 in
theorem c_X4_isAnyInRuns (l : Launch) (D : va_G) (cI cZ : ClassId) (a : Nat → Nat) (A : Nat → Prop) (p0 : Int32) (p1 : Int32) (σ : ck_S) (rz : Int32) (h : fX4_isAnyInRuns p0 p1 σ = some rz) : Met l yX4_isAnyInRuns wsX4_isAnyInRuns rm_X4_isAnyInRuns (va_Pc [.ref (a 5), .int p0, .int p1] (ik_P D [(cI, .int), (cZ, .boolean)] ck_N (ck_W cI cZ a) A σ)) (ik_Qi D (ck_W cI cZ a) A rz σ) 0 0 A := by
  unfold fX4_isAnyInRuns at h
  refine Met.ofW (cc := cX4_isAnyInRuns) (maxL := 4) (ret := (some .boolean)) (by decide) rfl ?_
  intro p e s m args below meth c s₁ B hml hv
  obtain ⟨hAr, hP, hK, hD, hN⟩ := hv
  have hx := B.exec
  have hb := B.bytes
  have hr := B.returns
  have hts := atoms_spec (ws := wsX4_isAnyInRuns) B.pre
  have hown : s.vm.findClass RX4 = some m.cls := findClass_of_methodNamed B.named
  have hlocks := B.notSynchronized
  have hS : va_S A s.heap s.heap [] := va_S.rf
  have hl := lv_entry ([.ref (a 5), .int p0, .int p1]) (n := 4) (Nat.le_of_ble_eq_true rfl)
  rw [show entryFrame m args 4 = entryFrame m ([.ref (a 5), .int p0, .int p1] : List Value).toArray 4 from by rw [hAr], lg_entry_eq]
  generalize (lg_sl ([.ref (a 5), .int p0, .int p1]) ++ List.replicate (4 - (lg_sl ([.ref (a 5), .int p0, .int p1])).length) Slot.unset).toArray = ls at hl ⊢
  have hl : lv_has ls 4 [(0, .ref (a 5)), (1, .int p0), (2, .int p1)] := hl
  refine lv_iconst (v := 0) hx hb dX4_isAnyInRuns_0 (by decide) ?_
  refine lv_istore_n (lv' := [(3, .int 0), (0, .ref (a 5)), (1, .int p0), (2, .int p1)]) hx hb dX4_isAnyInRuns_1 rfl hl (by decide) rfl (fun ls hl => ?_)
  refine qp1_W (P := fun (x1 : Int32) => ∀ (H : Heap) (locs : List Loc) (ls : Array Slot), va_P D vwCl (ck_W cI cZ a σ) H → va_D A (ck_W cI cZ a σ) → va_S A s.heap H locs → lv_has ls 4 [(0, .ref (a 5)), (1, .int p0), (2, .int p1), (3, .int x1)] → W p l e (headSpec wsX4_isAnyInRuns rm_X4_isAnyInRuns).room s m args below meth c H locs 0 0 (MQ below (ik_Qi D (ck_W cI cZ a) A rz σ) args s 0 0 A) (F0 m 2 ls [])) ?_ FU _ h _ _ _ hP hD hS (lv_sub hl [1, 2, 3, 0] rfl)
  intro rec2 ih2 x1 h H locs ls hP hD hS hl
  refine lv_iload_n hx hb dX4_isAnyInRuns_2 rfl (lv_at hl 3 rfl) ?_
  refine lv_iload_n hx hb dX4_isAnyInRuns_3 rfl (lv_at hl 2 rfl) ?_
  refine lv_icmp_ge (tgt := 26) hx hb dX4_isAnyInRuns_4 (by decide) (fun c2 => ?_) (fun c2 => ?_)
  · have h := ik_t c2 h
    refine lv_iconst (v := 0) hx hb dX4_isAnyInRuns_26 (by decide) ?_
    exact W.zret (v := 0) hx hb hr rfl (fun t ht hW => ⟨⟨_, _, rfl, ⟨Option.some.inj h, rfl⟩, by rw [ht]; exact hP, hD⟩, hS.F ht⟩) hS.2.2 dX4_isAnyInRuns_27
  · have h := ik_f c2 h
    refine lv_aload_n hx hb dX4_isAnyInRuns_7 rfl (lv_at hl 0 rfl) ?_
    refine va_get (D := D) (ci := 2) (v := .ref (a 6)) (C := RX4) (T := TX4) (N := 1) hx hb hts in_X4_isAnyInRuns_X4 hown hK hP 5 rfl rfl 0 (by decide) (hts (.fieldLink RX4 9 "ImageChecker$RecordPass" "inRuns" "[Z") (by decide +kernel)) (fun _ h9 => h9) rfl dX4_isAnyInRuns_8 ?_
    refine lv_iload_n hx hb dX4_isAnyInRuns_11 rfl (lv_at hl 1 rfl) ?_
    refine lv_iload_n hx hb dX4_isAnyInRuns_12 rfl (lv_at hl 3 rfl) ?_
    refine lv_iadd hx hb dX4_isAnyInRuns_13 ?_
    obtain ⟨v3, eh, h⟩ := ik_bd h
    refine ik_zld hx hb hK hP 6 1 rfl rfl eh dX4_isAnyInRuns_14 ?_
    clear eh
    refine lv_if_eq (tgt := 20) hx hb dX4_isAnyInRuns_15 (by decide) (fun c4 => ?_) (fun c4 => ?_)
    · have h := ik_t c4 h
      refine lv_iinc (v := x1 + 1) (lv' := [(3, .int (x1 + 1)), (0, .ref (a 5)), (1, .int p0), (2, .int p1)]) hx hb dX4_isAnyInRuns_20 hl (k := 3) rfl rfl (by decide) rfl (fun ls hl => ?_)
      refine lv_goto (tgt := 2) hx hb dX4_isAnyInRuns_23 (by decide) ?_
      exact ih2 _ h _ _ _ hP hD hS (lv_sub hl [1, 2, 3, 0] rfl)
    · have h := ik_f c4 h
      refine lv_iconst (v := 1) hx hb dX4_isAnyInRuns_18 (by decide) ?_
      exact W.zret (v := 1) hx hb hr rfl (fun t ht hW => ⟨⟨_, _, rfl, ⟨Option.some.inj h, rfl⟩, by rw [ht]; exact hP, hD⟩, hS.F ht⟩) hS.2.2 dX4_isAnyInRuns_19
abbrev rm_X4_markInRuns : Room := { frames := 0, cells := 0, slots := 0, locals := 0 }
theorem in_X4_markInRuns_X4 : ∀ w ∈ wsX40, w ∈ wsX4_markInRuns := by decide +kernel
set_option maxHeartbeats 4000000 in
set_option maxRecDepth 100000 in
theorem c_X4_markInRuns (l : Launch) (D : va_G) (cI cZ : ClassId) (a : Nat → Nat) (A : Nat → Prop) (p0 : Int32) (p1 : Int32) (σ : ck_S) (σz : ck_S) (h : fX4_markInRuns p0 p1 σ = some σz) : Met l yX4_markInRuns wsX4_markInRuns rm_X4_markInRuns (va_Pc [.ref (a 5), .int p0, .int p1] (ik_P D [(cI, .int), (cZ, .boolean)] ck_N (ck_W cI cZ a) A σ)) (ik_Qv D (ck_W cI cZ a) A σz) 0 0 A := by
  unfold fX4_markInRuns at h
  refine Met.ofW (cc := cX4_markInRuns) (maxL := 4) (ret := none) (by decide) rfl ?_
  intro p e s m args below meth c s₁ B hml hv
  obtain ⟨hAr, hP, hK, hD, hN⟩ := hv
  have hx := B.exec
  have hb := B.bytes
  have hr := B.returns
  have hts := atoms_spec (ws := wsX4_markInRuns) B.pre
  have hown : s.vm.findClass RX4 = some m.cls := findClass_of_methodNamed B.named
  have hlocks := B.notSynchronized
  have hS : va_S A s.heap s.heap [] := va_S.rf
  have hl := lv_entry ([.ref (a 5), .int p0, .int p1]) (n := 4) (Nat.le_of_ble_eq_true rfl)
  rw [show entryFrame m args 4 = entryFrame m ([.ref (a 5), .int p0, .int p1] : List Value).toArray 4 from by rw [hAr], lg_entry_eq]
  generalize (lg_sl ([.ref (a 5), .int p0, .int p1]) ++ List.replicate (4 - (lg_sl ([.ref (a 5), .int p0, .int p1])).length) Slot.unset).toArray = ls at hl ⊢
  have hl : lv_has ls 4 [(0, .ref (a 5)), (1, .int p0), (2, .int p1)] := hl
  refine lv_iconst (v := 0) hx hb dX4_markInRuns_0 (by decide) ?_
  refine lv_istore_n (lv' := [(3, .int 0), (0, .ref (a 5)), (1, .int p0), (2, .int p1)]) hx hb dX4_markInRuns_1 rfl hl (by decide) rfl (fun ls hl => ?_)
  refine qp2_W (P := fun (x1 : Int32) (σ2 : ck_S) => ∀ (H : Heap) (locs : List Loc) (ls : Array Slot), va_P D vwCl (ck_W cI cZ a σ2) H → va_D A (ck_W cI cZ a σ2) → va_S A s.heap H locs → lv_has ls 4 [(0, .ref (a 5)), (1, .int p0), (2, .int p1), (3, .int x1)] → W p l e (headSpec wsX4_markInRuns rm_X4_markInRuns).room s m args below meth c H locs 0 0 (MQ below (ik_Qv D (ck_W cI cZ a) A σz) args s 0 0 A) (F0 m 2 ls [])) ?_ FU _ _ h _ _ _ hP hD hS (lv_sub hl [1, 2, 3, 0] rfl)
  intro rec2 ih2 x1 σ2 h H locs ls hP hD hS hl
  refine lv_iload_n hx hb dX4_markInRuns_2 rfl (lv_at hl 3 rfl) ?_
  refine lv_iload_n hx hb dX4_markInRuns_3 rfl (lv_at hl 2 rfl) ?_
  refine lv_icmp_ge (tgt := 22) hx hb dX4_markInRuns_4 (by decide) (fun c3 => ?_) (fun c3 => ?_)
  · have h := ik_t c3 h
    exact W.vret hx hb hr (fun t ht hW => ⟨⟨_, rfl, Option.some.inj h, by rw [ht]; exact hP, hD⟩, hS.F ht⟩) hS.2.2 dX4_markInRuns_22
  · have h := ik_f c3 h
    refine lv_aload_n hx hb dX4_markInRuns_7 rfl (lv_at hl 0 rfl) ?_
    refine va_get (D := D) (ci := 2) (v := .ref (a 6)) (C := RX4) (T := TX4) (N := 1) hx hb hts in_X4_markInRuns_X4 hown hK hP 5 rfl rfl 0 (by decide) (hts (.fieldLink RX4 9 "ImageChecker$RecordPass" "inRuns" "[Z") (by decide +kernel)) (fun _ h9 => h9) rfl dX4_markInRuns_8 ?_
    refine lv_iload_n hx hb dX4_markInRuns_11 rfl (lv_at hl 1 rfl) ?_
    refine lv_iload_n hx hb dX4_markInRuns_12 rfl (lv_at hl 3 rfl) ?_
    refine lv_iadd hx hb dX4_markInRuns_13 ?_
    refine lv_iconst (v := 1) hx hb dX4_markInRuns_14 (by decide) ?_
    obtain ⟨σ4, eh, h⟩ := ik_bd h
    refine ik_zst (Wd := ck_W cI cZ a) (σ1 := σ4) hx hb hK hP hD hS 6 1 rfl rfl (fun _ => rfl) eh dX4_markInRuns_15 (fun H locs hP hD hS => ?_)
    clear eh
    refine lv_iinc (v := x1 + 1) (lv' := [(3, .int (x1 + 1)), (0, .ref (a 5)), (1, .int p0), (2, .int p1)]) hx hb dX4_markInRuns_16 hl (k := 3) rfl rfl (by decide) rfl (fun ls hl => ?_)
    refine lv_goto (tgt := 2) hx hb dX4_markInRuns_19 (by decide) ?_
    exact ih2 _ _ h _ _ _ hP hD hS (lv_sub hl [1, 2, 3, 0] rfl)
