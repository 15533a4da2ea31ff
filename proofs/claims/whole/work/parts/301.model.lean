abbrev rm_X8_run : Room := { frames := 1, cells := 0, slots := 0, locals := 24 }
set_option maxHeartbeats 4000000 in
set_option maxRecDepth 100000 in
theorem c_X8_run (l : Launch) (D : va_G) (cI cZ : ClassId) (a : Nat → Nat) (A : Nat → Prop) (p0 : Int32) (p1 : Int32) (p2 : Int32) (p3 : Int32) (p4 : Int32) (σ : mk_S) (σz : mk_S) (h : fX8_run p0 p1 p2 p3 p4 σ = some σz) : Met l yX8_run wsX8_run rm_X8_run (va_Pc [.ref (a 0), .int p0, .int p1, .int p2, .int p3, .int p4] (ik_P D [(cI, .int), (cZ, .boolean)] [] (mk_W cI cZ a) A σ)) (ik_Qv D (mk_W cI cZ a) A σz) 0 0 A := by
  unfold fX8_run at h
  refine Met.ofW (cc := cX8_run) (maxL := 6) (ret := none) (by decide) rfl ?_
  intro p e s m args below meth c s₁ B hml hv
  obtain ⟨hAr, hP, hK, hD, hN⟩ := hv
  have hx := B.exec
  have hb := B.bytes
  have hr := B.returns
  have hts := atoms_spec (ws := wsX8_run) B.pre
  have hown : s.vm.findClass RX8 = some m.cls := findClass_of_methodNamed B.named
  have hlocks := B.notSynchronized
  have hS : va_S A s.heap s.heap [] := va_S.rf
  have hl := lv_entry ([.ref (a 0), .int p0, .int p1, .int p2, .int p3, .int p4]) (n := 6) (Nat.le_of_ble_eq_true rfl)
  rw [show entryFrame m args 6 = entryFrame m ([.ref (a 0), .int p0, .int p1, .int p2, .int p3, .int p4] : List Value).toArray 6 from by rw [hAr], lg_entry_eq]
  generalize (lg_sl ([.ref (a 0), .int p0, .int p1, .int p2, .int p3, .int p4]) ++ List.replicate (6 - (lg_sl ([.ref (a 0), .int p0, .int p1, .int p2, .int p3, .int p4])).length) Slot.unset).toArray = ls at hl ⊢
  have hl : lv_has ls 6 [(0, .ref (a 0)), (1, .int p0), (2, .int p1), (3, .int p2), (4, .int p3), (5, .int p4)] := hl
  refine lv_aload_n hx hb dX8_run_0 rfl (lv_at hl 0 rfl) ?_
  refine lv_iload_n hx hb dX8_run_1 rfl (lv_at hl 1 rfl) ?_
  refine lv_iconst (v := 1) hx hb dX8_run_2 (by decide) ?_
  refine lv_bipush (v := 24) hx hb dX8_run_3 (by decide) ?_
  obtain ⟨v1, eh, h⟩ := ik_bd h
  refine ik_Si (As := [.int p0, .int 1, .int 24]) (rest := [.ref (a 0)]) ⟨hx, hb, hml, hown, hts⟩ (c_X8_isIn l D cI cZ a A p0 1 24 σ _ eh) (va_cwS 3 hts gX8_run_X8_isIn rfl rfl rfl (by decide +kernel) ⟨Nat.le_of_ble_eq_true rfl, Nat.le_of_ble_eq_true rfl⟩) hP hK hD hN hS rfl hl.1 rfl (Nat.le_of_ble_eq_true rfl) dX8_run_5 (fun H locs hP hD hS => ?_)
  clear eh
  obtain ⟨j25, ej, h⟩ := jn_ex h
  have hj25 : ∀ (y2 : Int32), j25 y2 = some σz → ∀ (H : Heap) (locs : List Loc) (ls : Array Slot), va_P D vwCl (mk_W cI cZ a σ) H → va_D A (mk_W cI cZ a σ) → va_S A s.heap H locs → lv_has ls 6 [(0, .ref (a 0)), (1, .int p0), (2, .int p1), (3, .int p2), (4, .int p3), (5, .int p4)] → W p l e (headSpec wsX8_run rm_X8_run).room s m args below meth c H locs 0 0 (MQ below (ik_Qv D (mk_W cI cZ a) A σz) args s 0 0 A) (F0 m 25 ls [.int y2, .ref (a 0)]) := by
    rw [ej]; clear h
    intro y2 h H locs ls hP hD hS hl
    obtain ⟨v3, σ4, eh, h⟩ := ik_bd2 h
    refine ik_Vi (As := [.int y2]) (rest := []) ⟨hx, hb, hml, hown, hts⟩ (c_X8_may l D cI cZ a A y2 σ _ _ eh) (cwV 1 hts gX8_run_X8_may rfl rfl rfl (by decide +kernel) ⟨Nat.le_of_ble_eq_true rfl, Nat.le_of_ble_eq_true rfl⟩) (va_recv hK hP (ci := 6) (q0 := 0) rfl rfl) hP hK hD hN hS rfl hl.1 rfl (Nat.le_of_ble_eq_true rfl) dX8_run_25 (fun H locs hP hD hS => ?_)
    clear eh
    refine lv_if_eq (tgt := 45) hx hb dX8_run_28 (by decide) (fun c5 => ?_) (fun c5 => ?_)
    · have h := ik_t c5 h
      exact W.vret hx hb hr (fun t ht hW => ⟨⟨_, rfl, Option.some.inj h, by rw [ht]; exact hP, hD⟩, hS.F ht⟩) hS.2.2 dX8_run_45
    · have h := ik_f c5 h
      refine lv_aload_n hx hb dX8_run_31 rfl (lv_at hl 0 rfl) ?_
      refine lv_iload_n hx hb dX8_run_32 rfl (lv_at hl 1 rfl) ?_
      refine lv_iload_n hx hb dX8_run_33 rfl (lv_at hl 2 rfl) ?_
      obtain ⟨v6, eh, h⟩ := ik_bd h
      refine ik_Si (As := [.int p0, .int p1]) (rest := [.ref (a 0)]) ⟨hx, hb, hml, hown, hts⟩ (c_X8_runAt l D cI cZ a A p0 p1 σ4 _ eh) (va_cwS 2 hts gX8_run_X8_runAt rfl rfl rfl (by decide +kernel) ⟨Nat.le_of_ble_eq_true rfl, Nat.le_of_ble_eq_true rfl⟩) hP hK hD hN hS rfl hl.1 rfl (Nat.le_of_ble_eq_true rfl) dX8_run_34 (fun H locs hP hD hS => ?_)
      clear eh
      refine lv_iload_n hx hb dX8_run_37 rfl (lv_at hl 3 rfl) ?_
      refine lv_iload hx hb dX8_run_38 (lv_at hl 4 rfl) ?_
      refine lv_iload hx hb dX8_run_40 (lv_at hl 5 rfl) ?_
      obtain ⟨σ7, eh, h⟩ := ik_bd h
      refine ik_Vv (As := [.int v6, .int p2, .int p3, .int p4]) (rest := []) ⟨hx, hb, hml, hown, hts⟩ (c_X8_put l D cI cZ a A v6 p2 p3 p4 σ4 _ eh) (cwV 4 hts gX8_run_X8_put rfl rfl rfl (by decide +kernel) ⟨Nat.le_of_ble_eq_true rfl, Nat.le_of_ble_eq_true rfl⟩) (va_recv hK hP (ci := 6) (q0 := 0) rfl rfl) hP hK hD hN hS rfl hl.1 rfl (Nat.le_of_ble_eq_true rfl) dX8_run_42 (fun H locs hP hD hS => ?_)
      clear eh
      exact W.vret hx hb hr (fun t ht hW => ⟨⟨_, rfl, Option.some.inj h, by rw [ht]; exact hP, hD⟩, hS.F ht⟩) hS.2.2 dX8_run_45
  clear ej
  obtain ⟨j24, ej, h⟩ := jn_ex h
  have hj24 : ∀ (_u : Unit), j24 _u = some σz → ∀ (H : Heap) (locs : List Loc) (ls : Array Slot), va_P D vwCl (mk_W cI cZ a σ) H → va_D A (mk_W cI cZ a σ) → va_S A s.heap H locs → lv_has ls 6 [(0, .ref (a 0)), (1, .int p0), (2, .int p1), (3, .int p2), (4, .int p3), (5, .int p4)] → W p l e (headSpec wsX8_run rm_X8_run).room s m args below meth c H locs 0 0 (MQ below (ik_Qv D (mk_W cI cZ a) A σz) args s 0 0 A) (F0 m 24 ls [.ref (a 0)]) := by
    rw [ej]; clear h
    intro _u h H locs ls hP hD hS hl
    refine lv_iconst (v := 0) hx hb dX8_run_24 (by decide) ?_
    exact hj25 _ h _ _ _ hP hD hS (lv_sub hl [0, 1, 2, 3, 4, 5] rfl)
  clear ej
  refine lv_if_eq (tgt := 24) hx hb dX8_run_8 (by decide) (fun c8 => ?_) (fun c8 => ?_)
  · have h := ik_t c8 h
    exact hj24 () h _ _ _ hP hD hS (lv_sub hl [0, 1, 2, 3, 4, 5] rfl)
  · have h := ik_f c8 h
    refine lv_iload_n hx hb dX8_run_11 rfl (lv_at hl 2 rfl) ?_
    refine lv_iconst (v := 0) hx hb dX8_run_12 (by decide) ?_
    refine lv_iconst (v := 5) hx hb dX8_run_13 (by decide) ?_
    obtain ⟨v9, eh, h⟩ := ik_bd h
    refine ik_Si (As := [.int p1, .int 0, .int 5]) (rest := [.ref (a 0)]) ⟨hx, hb, hml, hown, hts⟩ (c_X8_isIn l D cI cZ a A p1 0 5 σ _ eh) (va_cwS 3 hts gX8_run_X8_isIn rfl rfl rfl (by decide +kernel) ⟨Nat.le_of_ble_eq_true rfl, Nat.le_of_ble_eq_true rfl⟩) hP hK hD hN hS rfl hl.1 rfl (Nat.le_of_ble_eq_true rfl) dX8_run_14 (fun H locs hP hD hS => ?_)
    clear eh
    refine lv_if_eq (tgt := 24) hx hb dX8_run_17 (by decide) (fun c10 => ?_) (fun c10 => ?_)
    · have h := ik_t c10 h
      exact hj24 () h _ _ _ hP hD hS (lv_sub hl [0, 1, 2, 3, 4, 5] rfl)
    · have h := ik_f c10 h
      refine lv_iconst (v := 1) hx hb dX8_run_20 (by decide) ?_
      refine lv_goto (tgt := 25) hx hb dX8_run_21 (by decide) ?_
      exact hj25 _ h _ _ _ hP hD hS (lv_sub hl [0, 1, 2, 3, 4, 5] rfl)
abbrev rm_X8_entry : Room := { frames := 1, cells := 0, slots := 0, locals := 24 }
set_option maxHeartbeats 4000000 in
set_option maxRecDepth 100000 in
theorem c_X8_entry (l : Launch) (D : va_G) (cI cZ : ClassId) (a : Nat → Nat) (A : Nat → Prop) (p0 : Int32) (p1 : Int32) (p2 : Int32) (p3 : Int32) (p4 : Int32) (σ : mk_S) (σz : mk_S) (h : fX8_entry p0 p1 p2 p3 p4 σ = some σz) : Met l yX8_entry wsX8_entry rm_X8_entry (va_Pc [.ref (a 0), .int p0, .int p1, .int p2, .int p3, .int p4] (ik_P D [(cI, .int), (cZ, .boolean)] [] (mk_W cI cZ a) A σ)) (ik_Qv D (mk_W cI cZ a) A σz) 0 0 A := by
  unfold fX8_entry at h
  refine Met.ofW (cc := cX8_entry) (maxL := 6) (ret := none) (by decide) rfl ?_
  intro p e s m args below meth c s₁ B hml hv
  obtain ⟨hAr, hP, hK, hD, hN⟩ := hv
  have hx := B.exec
  have hb := B.bytes
  have hr := B.returns
  have hts := atoms_spec (ws := wsX8_entry) B.pre
  have hown : s.vm.findClass RX8 = some m.cls := findClass_of_methodNamed B.named
  have hlocks := B.notSynchronized
  have hS : va_S A s.heap s.heap [] := va_S.rf
  have hl := lv_entry ([.ref (a 0), .int p0, .int p1, .int p2, .int p3, .int p4]) (n := 6) (Nat.le_of_ble_eq_true rfl)
  rw [show entryFrame m args 6 = entryFrame m ([.ref (a 0), .int p0, .int p1, .int p2, .int p3, .int p4] : List Value).toArray 6 from by rw [hAr], lg_entry_eq]
  generalize (lg_sl ([.ref (a 0), .int p0, .int p1, .int p2, .int p3, .int p4]) ++ List.replicate (6 - (lg_sl ([.ref (a 0), .int p0, .int p1, .int p2, .int p3, .int p4])).length) Slot.unset).toArray = ls at hl ⊢
  have hl : lv_has ls 6 [(0, .ref (a 0)), (1, .int p0), (2, .int p1), (3, .int p2), (4, .int p3), (5, .int p4)] := hl
  refine lv_aload_n hx hb dX8_entry_0 rfl (lv_at hl 0 rfl) ?_
  refine lv_iload_n hx hb dX8_entry_1 rfl (lv_at hl 1 rfl) ?_
  refine lv_iconst (v := 1) hx hb dX8_entry_2 (by decide) ?_
  refine lv_bipush (v := 24) hx hb dX8_entry_3 (by decide) ?_
  obtain ⟨v1, eh, h⟩ := ik_bd h
  refine ik_Si (As := [.int p0, .int 1, .int 24]) (rest := [.ref (a 0)]) ⟨hx, hb, hml, hown, hts⟩ (c_X8_isIn l D cI cZ a A p0 1 24 σ _ eh) (va_cwS 3 hts gX8_entry_X8_isIn rfl rfl rfl (by decide +kernel) ⟨Nat.le_of_ble_eq_true rfl, Nat.le_of_ble_eq_true rfl⟩) hP hK hD hN hS rfl hl.1 rfl (Nat.le_of_ble_eq_true rfl) dX8_entry_5 (fun H locs hP hD hS => ?_)
  clear eh
  obtain ⟨j26, ej, h⟩ := jn_ex h
  have hj26 : ∀ (y2 : Int32), j26 y2 = some σz → ∀ (H : Heap) (locs : List Loc) (ls : Array Slot), va_P D vwCl (mk_W cI cZ a σ) H → va_D A (mk_W cI cZ a σ) → va_S A s.heap H locs → lv_has ls 6 [(0, .ref (a 0)), (1, .int p0), (2, .int p1), (3, .int p2), (4, .int p3), (5, .int p4)] → W p l e (headSpec wsX8_entry rm_X8_entry).room s m args below meth c H locs 0 0 (MQ below (ik_Qv D (mk_W cI cZ a) A σz) args s 0 0 A) (F0 m 26 ls [.int y2, .ref (a 0)]) := by
    rw [ej]; clear h
    intro y2 h H locs ls hP hD hS hl
    obtain ⟨v3, σ4, eh, h⟩ := ik_bd2 h
    refine ik_Vi (As := [.int y2]) (rest := []) ⟨hx, hb, hml, hown, hts⟩ (c_X8_may l D cI cZ a A y2 σ _ _ eh) (cwV 1 hts gX8_entry_X8_may rfl rfl rfl (by decide +kernel) ⟨Nat.le_of_ble_eq_true rfl, Nat.le_of_ble_eq_true rfl⟩) (va_recv hK hP (ci := 6) (q0 := 0) rfl rfl) hP hK hD hN hS rfl hl.1 rfl (Nat.le_of_ble_eq_true rfl) dX8_entry_26 (fun H locs hP hD hS => ?_)
    clear eh
    refine lv_if_eq (tgt := 46) hx hb dX8_entry_29 (by decide) (fun c5 => ?_) (fun c5 => ?_)
    · have h := ik_t c5 h
      exact W.vret hx hb hr (fun t ht hW => ⟨⟨_, rfl, Option.some.inj h, by rw [ht]; exact hP, hD⟩, hS.F ht⟩) hS.2.2 dX8_entry_46
    · have h := ik_f c5 h
      refine lv_aload_n hx hb dX8_entry_32 rfl (lv_at hl 0 rfl) ?_
      refine lv_iload_n hx hb dX8_entry_33 rfl (lv_at hl 1 rfl) ?_
      refine lv_iload_n hx hb dX8_entry_34 rfl (lv_at hl 2 rfl) ?_
      obtain ⟨v6, eh, h⟩ := ik_bd h
      refine ik_Si (As := [.int p0, .int p1]) (rest := [.ref (a 0)]) ⟨hx, hb, hml, hown, hts⟩ (c_X8_entryAt l D cI cZ a A p0 p1 σ4 _ eh) (va_cwS 2 hts gX8_entry_X8_entryAt rfl rfl rfl (by decide +kernel) ⟨Nat.le_of_ble_eq_true rfl, Nat.le_of_ble_eq_true rfl⟩) hP hK hD hN hS rfl hl.1 rfl (Nat.le_of_ble_eq_true rfl) dX8_entry_35 (fun H locs hP hD hS => ?_)
      clear eh
      refine lv_iload_n hx hb dX8_entry_38 rfl (lv_at hl 3 rfl) ?_
      refine lv_iload hx hb dX8_entry_39 (lv_at hl 4 rfl) ?_
      refine lv_iload hx hb dX8_entry_41 (lv_at hl 5 rfl) ?_
      obtain ⟨σ7, eh, h⟩ := ik_bd h
      refine ik_Vv (As := [.int v6, .int p2, .int p3, .int p4]) (rest := []) ⟨hx, hb, hml, hown, hts⟩ (c_X8_put l D cI cZ a A v6 p2 p3 p4 σ4 _ eh) (cwV 4 hts gX8_entry_X8_put rfl rfl rfl (by decide +kernel) ⟨Nat.le_of_ble_eq_true rfl, Nat.le_of_ble_eq_true rfl⟩) (va_recv hK hP (ci := 6) (q0 := 0) rfl rfl) hP hK hD hN hS rfl hl.1 rfl (Nat.le_of_ble_eq_true rfl) dX8_entry_43 (fun H locs hP hD hS => ?_)
      clear eh
      exact W.vret hx hb hr (fun t ht hW => ⟨⟨_, rfl, Option.some.inj h, by rw [ht]; exact hP, hD⟩, hS.F ht⟩) hS.2.2 dX8_entry_46
  clear ej
  obtain ⟨j25, ej, h⟩ := jn_ex h
  have hj25 : ∀ (_u : Unit), j25 _u = some σz → ∀ (H : Heap) (locs : List Loc) (ls : Array Slot), va_P D vwCl (mk_W cI cZ a σ) H → va_D A (mk_W cI cZ a σ) → va_S A s.heap H locs → lv_has ls 6 [(0, .ref (a 0)), (1, .int p0), (2, .int p1), (3, .int p2), (4, .int p3), (5, .int p4)] → W p l e (headSpec wsX8_entry rm_X8_entry).room s m args below meth c H locs 0 0 (MQ below (ik_Qv D (mk_W cI cZ a) A σz) args s 0 0 A) (F0 m 25 ls [.ref (a 0)]) := by
    rw [ej]; clear h
    intro _u h H locs ls hP hD hS hl
    refine lv_iconst (v := 0) hx hb dX8_entry_25 (by decide) ?_
    exact hj26 _ h _ _ _ hP hD hS (lv_sub hl [0, 1, 2, 3, 4, 5] rfl)
  clear ej
  refine lv_if_eq (tgt := 25) hx hb dX8_entry_8 (by decide) (fun c8 => ?_) (fun c8 => ?_)
  · have h := ik_t c8 h
    exact hj25 () h _ _ _ hP hD hS (lv_sub hl [0, 1, 2, 3, 4, 5] rfl)
  · have h := ik_f c8 h
    refine lv_iload_n hx hb dX8_entry_11 rfl (lv_at hl 2 rfl) ?_
    refine lv_iconst (v := 0) hx hb dX8_entry_12 (by decide) ?_
    refine lv_bipush (v := 7) hx hb dX8_entry_13 (by decide) ?_
    obtain ⟨v9, eh, h⟩ := ik_bd h
    refine ik_Si (As := [.int p1, .int 0, .int 7]) (rest := [.ref (a 0)]) ⟨hx, hb, hml, hown, hts⟩ (c_X8_isIn l D cI cZ a A p1 0 7 σ _ eh) (va_cwS 3 hts gX8_entry_X8_isIn rfl rfl rfl (by decide +kernel) ⟨Nat.le_of_ble_eq_true rfl, Nat.le_of_ble_eq_true rfl⟩) hP hK hD hN hS rfl hl.1 rfl (Nat.le_of_ble_eq_true rfl) dX8_entry_15 (fun H locs hP hD hS => ?_)
    clear eh
    refine lv_if_eq (tgt := 25) hx hb dX8_entry_18 (by decide) (fun c10 => ?_) (fun c10 => ?_)
    · have h := ik_t c10 h
      exact hj25 () h _ _ _ hP hD hS (lv_sub hl [0, 1, 2, 3, 4, 5] rfl)
    · have h := ik_f c10 h
      refine lv_iconst (v := 1) hx hb dX8_entry_21 (by decide) ?_
      refine lv_goto (tgt := 26) hx hb dX8_entry_22 (by decide) ?_
      exact hj26 _ h _ _ _ hP hD hS (lv_sub hl [0, 1, 2, 3, 4, 5] rfl)
abbrev rm_X8_hold : Room := { frames := 1, cells := 0, slots := 0, locals := 22 }
theorem in_X8_hold_X8 : ∀ w ∈ wsX80, w ∈ wsX8_hold := by decide +kernel
set_option maxHeartbeats 4000000 in
set_option maxRecDepth 100000 in
theorem c_X8_hold (l : Launch) (D : va_G) (cI cZ : ClassId) (a : Nat → Nat) (A : Nat → Prop) (p0 : Int32) (p1 : Int32) (σ : mk_S) (σz : mk_S) (h : fX8_hold p0 p1 σ = some σz) : Met l yX8_hold wsX8_hold rm_X8_hold (va_Pc [.ref (a 0), .int p0, .int p1] (ik_P D [(cI, .int), (cZ, .boolean)] [] (mk_W cI cZ a) A σ)) (ik_Qv D (mk_W cI cZ a) A σz) 0 0 A := by
  unfold fX8_hold at h
  refine Met.ofW (cc := cX8_hold) (maxL := 3) (ret := none) (by decide) rfl ?_
  intro p e s m args below meth c s₁ B hml hv
  obtain ⟨hAr, hP, hK, hD, hN⟩ := hv
  have hx := B.exec
  have hb := B.bytes
  have hr := B.returns
  have hts := atoms_spec (ws := wsX8_hold) B.pre
  have hown : s.vm.findClass RX8 = some m.cls := findClass_of_methodNamed B.named
  have hlocks := B.notSynchronized
  have hS : va_S A s.heap s.heap [] := va_S.rf
  have hl := lv_entry ([.ref (a 0), .int p0, .int p1]) (n := 3) (Nat.le_of_ble_eq_true rfl)
  rw [show entryFrame m args 3 = entryFrame m ([.ref (a 0), .int p0, .int p1] : List Value).toArray 3 from by rw [hAr], lg_entry_eq]
  generalize (lg_sl ([.ref (a 0), .int p0, .int p1]) ++ List.replicate (3 - (lg_sl ([.ref (a 0), .int p0, .int p1])).length) Slot.unset).toArray = ls at hl ⊢
  have hl : lv_has ls 3 [(0, .ref (a 0)), (1, .int p0), (2, .int p1)] := hl
  refine lv_aload_n hx hb dX8_hold_0 rfl (lv_at hl 0 rfl) ?_
  refine lv_iload_n hx hb dX8_hold_1 rfl (lv_at hl 1 rfl) ?_
  refine lv_iconst (v := 1) hx hb dX8_hold_2 (by decide) ?_
  refine lv_bipush (v := 24) hx hb dX8_hold_3 (by decide) ?_
  obtain ⟨v1, eh, h⟩ := ik_bd h
  refine ik_Si (As := [.int p0, .int 1, .int 24]) (rest := [.ref (a 0)]) ⟨hx, hb, hml, hown, hts⟩ (c_X8_isIn l D cI cZ a A p0 1 24 σ _ eh) (va_cwS 3 hts gX8_hold_X8_isIn rfl rfl rfl (by decide +kernel) ⟨Nat.le_of_ble_eq_true rfl, Nat.le_of_ble_eq_true rfl⟩) hP hK hD hN hS rfl hl.1 rfl (Nat.le_of_ble_eq_true rfl) dX8_hold_5 (fun H locs hP hD hS => ?_)
  clear eh
  obtain ⟨v2, σ3, eh, h⟩ := ik_bd2 h
  refine ik_Vi (As := [.int v1]) (rest := []) ⟨hx, hb, hml, hown, hts⟩ (c_X8_may l D cI cZ a A v1 σ _ _ eh) (cwV 1 hts gX8_hold_X8_may rfl rfl rfl (by decide +kernel) ⟨Nat.le_of_ble_eq_true rfl, Nat.le_of_ble_eq_true rfl⟩) (va_recv hK hP (ci := 6) (q0 := 0) rfl rfl) hP hK hD hN hS rfl hl.1 rfl (Nat.le_of_ble_eq_true rfl) dX8_hold_8 (fun H locs hP hD hS => ?_)
  clear eh
  refine lv_if_eq (tgt := 21) hx hb dX8_hold_11 (by decide) (fun c4 => ?_) (fun c4 => ?_)
  · have h := ik_t c4 h
    exact W.vret hx hb hr (fun t ht hW => ⟨⟨_, rfl, Option.some.inj h, by rw [ht]; exact hP, hD⟩, hS.F ht⟩) hS.2.2 dX8_hold_21
  · have h := ik_f c4 h
    refine lv_aload_n hx hb dX8_hold_14 rfl (lv_at hl 0 rfl) ?_
    refine va_get (D := D) (ci := 6) (v := .ref (a 3)) (C := RX8) (T := TX8) (N := 10) hx hb hts in_X8_hold_X8 hown hK hP 0 rfl rfl 3 (by decide) (hts (.fieldLink RX8 16 "ImageCheckerModel" "held" "[Z") (by decide +kernel)) (fun _ h9 => h9) rfl dX8_hold_15 ?_
    refine lv_iload_n hx hb dX8_hold_18 rfl (lv_at hl 1 rfl) ?_
    refine lv_iload_n hx hb dX8_hold_19 rfl (lv_at hl 2 rfl) ?_
    obtain ⟨σ5, eh, h⟩ := ik_bd h
    refine ik_zst (Wd := mk_W cI cZ a) (σ1 := σ5) hx hb hK hP hD hS 3 1 rfl rfl (fun _ => rfl) eh dX8_hold_20 (fun H locs hP hD hS => ?_)
    clear eh
    exact W.vret hx hb hr (fun t ht hW => ⟨⟨_, rfl, Option.some.inj h, by rw [ht]; exact hP, hD⟩, hS.F ht⟩) hS.2.2 dX8_hold_21
abbrev rm_X8_isBit : Room := { frames := 1, cells := 0, slots := 0, locals := 22 }
set_option maxHeartbeats 4000000 in
set_option maxRecDepth 100000 in
theorem c_X8_isBit (l : Launch) (D : va_G) (cI cZ : ClassId) (a : Nat → Nat) (A : Nat → Prop) (p0 : Int32) (p1 : Int32) (σ : mk_S) (rz : Int32) (h : fX8_isBit p0 p1 = some rz) : Met l yX8_isBit wsX8_isBit rm_X8_isBit (va_Pc [.int p0, .int p1] (ik_P D [(cI, .int), (cZ, .boolean)] [] (mk_W cI cZ a) A σ)) (ik_Qi D (mk_W cI cZ a) A rz σ) 0 0 A := by
  unfold fX8_isBit at h
  refine Met.ofW (cc := cX8_isBit) (maxL := 2) (ret := (some .boolean)) (by decide) rfl ?_
  intro p e s m args below meth c s₁ B hml hv
  obtain ⟨hAr, hP, hK, hD, hN⟩ := hv
  have hx := B.exec
  have hb := B.bytes
  have hr := B.returns
  have hts := atoms_spec (ws := wsX8_isBit) B.pre
  have hown : s.vm.findClass RX8 = some m.cls := findClass_of_methodNamed B.named
  have hlocks := B.notSynchronized
  have hS : va_S A s.heap s.heap [] := va_S.rf
  have hl := lv_entry ([.int p0, .int p1]) (n := 2) (Nat.le_of_ble_eq_true rfl)
  rw [show entryFrame m args 2 = entryFrame m ([.int p0, .int p1] : List Value).toArray 2 from by rw [hAr], lg_entry_eq]
  generalize (lg_sl ([.int p0, .int p1]) ++ List.replicate (2 - (lg_sl ([.int p0, .int p1])).length) Slot.unset).toArray = ls at hl ⊢
  have hl : lv_has ls 2 [(0, .int p0), (1, .int p1)] := hl
  refine lv_iload_n hx hb dX8_isBit_0 rfl (lv_at hl 0 rfl) ?_
  obtain ⟨j15, ej, h⟩ := jn_ex h
  have hj15 : ∀ (_u : Unit), j15 _u = some rz → ∀ (H : Heap) (locs : List Loc) (ls : Array Slot), va_P D vwCl (mk_W cI cZ a σ) H → va_D A (mk_W cI cZ a σ) → va_S A s.heap H locs → lv_has ls 2 [(0, .int p0), (1, .int p1)] → W p l e (headSpec wsX8_isBit rm_X8_isBit).room s m args below meth c H locs 0 0 (MQ below (ik_Qi D (mk_W cI cZ a) A rz σ) args s 0 0 A) (F0 m 15 ls []) := by
    rw [ej]; clear h
    intro _u h H locs ls hP hD hS hl
    refine lv_iload_n hx hb dX8_isBit_15 rfl (lv_at hl 0 rfl) ?_
    refine lv_iconst (v := 1) hx hb dX8_isBit_16 (by decide) ?_
    refine lv_icmp_ne (tgt := 34) hx hb dX8_isBit_17 (by decide) (fun c1 => ?_) (fun c1 => ?_)
    · have h := ik_f c1 h
      refine lv_iconst (v := 0) hx hb dX8_isBit_34 (by decide) ?_
      exact W.zret (v := 0) hx hb hr rfl (fun t ht hW => ⟨⟨_, _, rfl, ⟨Option.some.inj h, rfl⟩, by rw [ht]; exact hP, hD⟩, hS.F ht⟩) hS.2.2 dX8_isBit_35
    · have h := ik_t c1 h
      refine lv_iload_n hx hb dX8_isBit_20 rfl (lv_at hl 1 rfl) ?_
      refine lv_iconst (v := 1) hx hb dX8_isBit_21 (by decide) ?_
      refine lv_bipush (v := 24) hx hb dX8_isBit_22 (by decide) ?_
      obtain ⟨v2, eh, h⟩ := ik_bd h
      refine ik_Si (As := [.int p1, .int 1, .int 24]) (rest := []) ⟨hx, hb, hml, hown, hts⟩ (c_X8_isIn l D cI cZ a A p1 1 24 σ _ eh) (va_cwS 3 hts gX8_isBit_X8_isIn rfl rfl rfl (by decide +kernel) ⟨Nat.le_of_ble_eq_true rfl, Nat.le_of_ble_eq_true rfl⟩) hP hK hD hN hS rfl hl.1 rfl (Nat.le_of_ble_eq_true rfl) dX8_isBit_24 (fun H locs hP hD hS => ?_)
      clear eh
      refine lv_if_eq (tgt := 34) hx hb dX8_isBit_27 (by decide) (fun c3 => ?_) (fun c3 => ?_)
      · have h := ik_t c3 h
        refine lv_iconst (v := 0) hx hb dX8_isBit_34 (by decide) ?_
        exact W.zret (v := 0) hx hb hr rfl (fun t ht hW => ⟨⟨_, _, rfl, ⟨Option.some.inj h, rfl⟩, by rw [ht]; exact hP, hD⟩, hS.F ht⟩) hS.2.2 dX8_isBit_35
      · have h := ik_f c3 h
        refine lv_iconst (v := 1) hx hb dX8_isBit_30 (by decide) ?_
        refine lv_goto (tgt := 35) hx hb dX8_isBit_31 (by decide) ?_
        exact W.zret (v := 1) hx hb hr rfl (fun t ht hW => ⟨⟨_, _, rfl, ⟨Option.some.inj h, rfl⟩, by rw [ht]; exact hP, hD⟩, hS.F ht⟩) hS.2.2 dX8_isBit_35
  clear ej
  refine lv_if_ne (tgt := 15) hx hb dX8_isBit_1 (by decide) (fun c4 => ?_) (fun c4 => ?_)
  · have h := ik_f c4 h
    exact hj15 () h _ _ _ hP hD hS (lv_sub hl [0, 1] rfl)
  · have h := ik_t c4 h
    refine lv_iload_n hx hb dX8_isBit_4 rfl (lv_at hl 1 rfl) ?_
    refine lv_iconst (v := 1) hx hb dX8_isBit_5 (by decide) ?_
    refine lv_sipush (v := 200) hx hb dX8_isBit_6 (by decide) ?_
    obtain ⟨v5, eh, h⟩ := ik_bd h
    refine ik_Si (As := [.int p1, .int 1, .int 200]) (rest := []) ⟨hx, hb, hml, hown, hts⟩ (c_X8_isIn l D cI cZ a A p1 1 200 σ _ eh) (va_cwS 3 hts gX8_isBit_X8_isIn rfl rfl rfl (by decide +kernel) ⟨Nat.le_of_ble_eq_true rfl, Nat.le_of_ble_eq_true rfl⟩) hP hK hD hN hS rfl hl.1 rfl (Nat.le_of_ble_eq_true rfl) dX8_isBit_9 (fun H locs hP hD hS => ?_)
    clear eh
    refine lv_if_ne (tgt := 30) hx hb dX8_isBit_12 (by decide) (fun c6 => ?_) (fun c6 => ?_)
    · have h := ik_f c6 h
      refine lv_iconst (v := 1) hx hb dX8_isBit_30 (by decide) ?_
      refine lv_goto (tgt := 35) hx hb dX8_isBit_31 (by decide) ?_
      exact W.zret (v := 1) hx hb hr rfl (fun t ht hW => ⟨⟨_, _, rfl, ⟨Option.some.inj h, rfl⟩, by rw [ht]; exact hP, hD⟩, hS.F ht⟩) hS.2.2 dX8_isBit_35
    · have h := ik_t c6 h
      exact hj15 () h _ _ _ hP hD hS (lv_sub hl [0, 1] rfl)
abbrev rm_X8_bit : Room := { frames := 2, cells := 0, slots := 0, locals := 43 }
theorem in_X8_bit_X8 : ∀ w ∈ wsX80, w ∈ wsX8_bit := by decide +kernel
set_option maxHeartbeats 4000000 in
set_option maxRecDepth 100000 in
theorem c_X8_bit (l : Launch) (D : va_G) (cI cZ : ClassId) (a : Nat → Nat) (A : Nat → Prop) (p0 : Int32) (p1 : Int32) (p2 : Int32) (σ : mk_S) (σz : mk_S) (h : fX8_bit p0 p1 p2 σ = some σz) : Met l yX8_bit wsX8_bit rm_X8_bit (va_Pc [.ref (a 0), .int p0, .int p1, .int p2] (ik_P D [(cI, .int), (cZ, .boolean)] [] (mk_W cI cZ a) A σ)) (ik_Qv D (mk_W cI cZ a) A σz) 0 0 A := by
  unfold fX8_bit at h
  refine Met.ofW (cc := cX8_bit) (maxL := 4) (ret := none) (by decide) rfl ?_
  intro p e s m args below meth c s₁ B hml hv
  obtain ⟨hAr, hP, hK, hD, hN⟩ := hv
  have hx := B.exec
  have hb := B.bytes
  have hr := B.returns
  have hts := atoms_spec (ws := wsX8_bit) B.pre
  have hown : s.vm.findClass RX8 = some m.cls := findClass_of_methodNamed B.named
  have hlocks := B.notSynchronized
  have hS : va_S A s.heap s.heap [] := va_S.rf
  have hl := lv_entry ([.ref (a 0), .int p0, .int p1, .int p2]) (n := 4) (Nat.le_of_ble_eq_true rfl)
  rw [show entryFrame m args 4 = entryFrame m ([.ref (a 0), .int p0, .int p1, .int p2] : List Value).toArray 4 from by rw [hAr], lg_entry_eq]
  generalize (lg_sl ([.ref (a 0), .int p0, .int p1, .int p2]) ++ List.replicate (4 - (lg_sl ([.ref (a 0), .int p0, .int p1, .int p2])).length) Slot.unset).toArray = ls at hl ⊢
  have hl : lv_has ls 4 [(0, .ref (a 0)), (1, .int p0), (2, .int p1), (3, .int p2)] := hl
  refine lv_aload_n hx hb dX8_bit_0 rfl (lv_at hl 0 rfl) ?_
  refine lv_iload_n hx hb dX8_bit_1 rfl (lv_at hl 1 rfl) ?_
  refine lv_iload_n hx hb dX8_bit_2 rfl (lv_at hl 2 rfl) ?_
  obtain ⟨v1, eh, h⟩ := ik_bd h
  refine ik_Si (As := [.int p0, .int p1]) (rest := [.ref (a 0)]) ⟨hx, hb, hml, hown, hts⟩ (c_X8_isBit l D cI cZ a A p0 p1 σ _ eh) (va_cwS 2 hts gX8_bit_X8_isBit rfl rfl rfl (by decide +kernel) ⟨Nat.le_of_ble_eq_true rfl, Nat.le_of_ble_eq_true rfl⟩) hP hK hD hN hS rfl hl.1 rfl (Nat.le_of_ble_eq_true rfl) dX8_bit_3 (fun H locs hP hD hS => ?_)
  clear eh
  obtain ⟨v2, σ3, eh, h⟩ := ik_bd2 h
  refine ik_Vi (As := [.int v1]) (rest := []) ⟨hx, hb, hml, hown, hts⟩ (c_X8_may l D cI cZ a A v1 σ _ _ eh) (cwV 1 hts gX8_bit_X8_may rfl rfl rfl (by decide +kernel) ⟨Nat.le_of_ble_eq_true rfl, Nat.le_of_ble_eq_true rfl⟩) (va_recv hK hP (ci := 6) (q0 := 0) rfl rfl) hP hK hD hN hS rfl hl.1 rfl (Nat.le_of_ble_eq_true rfl) dX8_bit_6 (fun H locs hP hD hS => ?_)
  clear eh
  refine lv_if_eq (tgt := 41) hx hb dX8_bit_9 (by decide) (fun c4 => ?_) (fun c4 => ?_)
  · have h := ik_t c4 h
    exact W.vret hx hb hr (fun t ht hW => ⟨⟨_, rfl, Option.some.inj h, by rw [ht]; exact hP, hD⟩, hS.F ht⟩) hS.2.2 dX8_bit_41
  · have h := ik_f c4 h
    refine lv_aload_n hx hb dX8_bit_12 rfl (lv_at hl 0 rfl) ?_
    refine va_get (D := D) (ci := 6) (v := .ref (a 1)) (C := RX8) (T := TX8) (N := 10) hx hb hts in_X8_bit_X8 hown hK hP 0 rfl rfl 1 (by decide) (hts (.fieldLink RX8 7 "ImageCheckerModel" "all" "[I") (by decide +kernel)) (fun _ h9 => h9) rfl dX8_bit_13 ?_
    refine lv_iload_n hx hb dX8_bit_16 rfl (lv_at hl 1 rfl) ?_
    obtain ⟨j29, ej, h⟩ := jn_ex h
    have hj29 : ∀ (y5 : Int32), j29 y5 = some σz → ∀ (H : Heap) (locs : List Loc) (ls : Array Slot), va_P D vwCl (mk_W cI cZ a σ3) H → va_D A (mk_W cI cZ a σ3) → va_S A s.heap H locs → lv_has ls 4 [(2, .int p1), (3, .int p2)] → W p l e (headSpec wsX8_bit rm_X8_bit).room s m args below meth c H locs 0 0 (MQ below (ik_Qv D (mk_W cI cZ a) A σz) args s 0 0 A) (F0 m 29 ls [.int y5, .ref (a 1)]) := by
      rw [ej]; clear h
      intro y5 h H locs ls hP hD hS hl
      refine lv_iload_n hx hb dX8_bit_29 rfl (lv_at hl 0 rfl) ?_
      refine lv_iadd hx hb dX8_bit_30 ?_
      refine lv_iload_n hx hb dX8_bit_31 rfl (lv_at hl 1 rfl) ?_
      obtain ⟨j40, ej, h⟩ := jn_ex h
      have hj40 : ∀ (y6 : Int32), j40 y6 = some σz → ∀ (H : Heap) (locs : List Loc) (ls : Array Slot), va_P D vwCl (mk_W cI cZ a σ3) H → va_D A (mk_W cI cZ a σ3) → va_S A s.heap H locs → lv_has ls 4 [] → W p l e (headSpec wsX8_bit rm_X8_bit).room s m args below meth c H locs 0 0 (MQ below (ik_Qv D (mk_W cI cZ a) A σz) args s 0 0 A) (F0 m 40 ls [.int y6, .int (y5 + p1), .ref (a 1)]) := by
        rw [ej]; clear h
        intro y6 h H locs ls hP hD hS hl
        obtain ⟨σ7, eh, h⟩ := ik_bd h
        refine ik_st (Wd := mk_W cI cZ a) (σ1 := σ7) hx hb hK hP hD hS 1 0 rfl rfl (fun _ => rfl) eh dX8_bit_40 (fun H locs hP hD hS => ?_)
        clear eh
        exact W.vret hx hb hr (fun t ht hW => ⟨⟨_, rfl, Option.some.inj h, by rw [ht]; exact hP, hD⟩, hS.F ht⟩) hS.2.2 dX8_bit_41
      clear ej
      refine lv_if_eq (tgt := 39) hx hb dX8_bit_32 (by decide) (fun c8 => ?_) (fun c8 => ?_)
      · have h := ik_t c8 h
        refine lv_iconst (v := 0) hx hb dX8_bit_39 (by decide) ?_
        exact hj40 _ h _ _ _ hP hD hS (lv_sub hl [] rfl)
      · have h := ik_f c8 h
        refine lv_iconst (v := 1) hx hb dX8_bit_35 (by decide) ?_
        refine lv_goto (tgt := 40) hx hb dX8_bit_36 (by decide) ?_
        exact hj40 _ h _ _ _ hP hD hS (lv_sub hl [] rfl)
    clear ej
    refine lv_if_ne (tgt := 26) hx hb dX8_bit_17 (by decide) (fun c9 => ?_) (fun c9 => ?_)
    · have h := ik_f c9 h
      refine lv_sipush (v := 1401) hx hb dX8_bit_26 (by decide) ?_
      exact hj29 _ h _ _ _ hP hD hS (lv_sub hl [2, 3] rfl)
    · have h := ik_t c9 h
      refine lv_sipush (v := 1200) hx hb dX8_bit_20 (by decide) ?_
      refine lv_goto (tgt := 29) hx hb dX8_bit_23 (by decide) ?_
      exact hj29 _ h _ _ _ hP hD hS (lv_sub hl [2, 3] rfl)
abbrev rm_X8_tell : Room := { frames := 1, cells := 0, slots := 0, locals := 22 }
theorem in_X8_tell_X8 : ∀ w ∈ wsX80, w ∈ wsX8_tell := by decide +kernel
set_option maxHeartbeats 4000000 in
set_option maxRecDepth 100000 in
theorem c_X8_tell (l : Launch) (D : va_G) (cI cZ : ClassId) (a : Nat → Nat) (A : Nat → Prop) (p0 : Int32) (p1 : Int32) (σ : mk_S) (σz : mk_S) (h : fX8_tell p0 p1 σ = some σz) : Met l yX8_tell wsX8_tell rm_X8_tell (va_Pc [.ref (a 0), .int p0, .int p1] (ik_P D [(cI, .int), (cZ, .boolean)] [] (mk_W cI cZ a) A σ)) (ik_Qv D (mk_W cI cZ a) A σz) 0 0 A := by
  unfold fX8_tell at h
  refine Met.ofW (cc := cX8_tell) (maxL := 3) (ret := none) (by decide) rfl ?_
  intro p e s m args below meth c s₁ B hml hv
  obtain ⟨hAr, hP, hK, hD, hN⟩ := hv
  have hx := B.exec
  have hb := B.bytes
  have hr := B.returns
  have hts := atoms_spec (ws := wsX8_tell) B.pre
  have hown : s.vm.findClass RX8 = some m.cls := findClass_of_methodNamed B.named
  have hlocks := B.notSynchronized
  have hS : va_S A s.heap s.heap [] := va_S.rf
  have hl := lv_entry ([.ref (a 0), .int p0, .int p1]) (n := 3) (Nat.le_of_ble_eq_true rfl)
  rw [show entryFrame m args 3 = entryFrame m ([.ref (a 0), .int p0, .int p1] : List Value).toArray 3 from by rw [hAr], lg_entry_eq]
  generalize (lg_sl ([.ref (a 0), .int p0, .int p1]) ++ List.replicate (3 - (lg_sl ([.ref (a 0), .int p0, .int p1])).length) Slot.unset).toArray = ls at hl ⊢
  have hl : lv_has ls 3 [(0, .ref (a 0)), (1, .int p0), (2, .int p1)] := hl
  refine lv_aload_n hx hb dX8_tell_0 rfl (lv_at hl 0 rfl) ?_
  refine lv_iload_n hx hb dX8_tell_1 rfl (lv_at hl 1 rfl) ?_
  refine lv_iconst (v := 0) hx hb dX8_tell_2 (by decide) ?_
  refine lv_iconst (v := 2) hx hb dX8_tell_3 (by decide) ?_
  obtain ⟨v1, eh, h⟩ := ik_bd h
  refine ik_Si (As := [.int p0, .int 0, .int 2]) (rest := [.ref (a 0)]) ⟨hx, hb, hml, hown, hts⟩ (c_X8_isIn l D cI cZ a A p0 0 2 σ _ eh) (va_cwS 3 hts gX8_tell_X8_isIn rfl rfl rfl (by decide +kernel) ⟨Nat.le_of_ble_eq_true rfl, Nat.le_of_ble_eq_true rfl⟩) hP hK hD hN hS rfl hl.1 rfl (Nat.le_of_ble_eq_true rfl) dX8_tell_4 (fun H locs hP hD hS => ?_)
  clear eh
  obtain ⟨v2, σ3, eh, h⟩ := ik_bd2 h
  refine ik_Vi (As := [.int v1]) (rest := []) ⟨hx, hb, hml, hown, hts⟩ (c_X8_may l D cI cZ a A v1 σ _ _ eh) (cwV 1 hts gX8_tell_X8_may rfl rfl rfl (by decide +kernel) ⟨Nat.le_of_ble_eq_true rfl, Nat.le_of_ble_eq_true rfl⟩) (va_recv hK hP (ci := 6) (q0 := 0) rfl rfl) hP hK hD hN hS rfl hl.1 rfl (Nat.le_of_ble_eq_true rfl) dX8_tell_7 (fun H locs hP hD hS => ?_)
  clear eh
  refine lv_if_eq (tgt := 24) hx hb dX8_tell_10 (by decide) (fun c4 => ?_) (fun c4 => ?_)
  · have h := ik_t c4 h
    exact W.vret hx hb hr (fun t ht hW => ⟨⟨_, rfl, Option.some.inj h, by rw [ht]; exact hP, hD⟩, hS.F ht⟩) hS.2.2 dX8_tell_24
  · have h := ik_f c4 h
    refine lv_aload_n hx hb dX8_tell_13 rfl (lv_at hl 0 rfl) ?_
    refine va_get (D := D) (ci := 6) (v := .ref (a 1)) (C := RX8) (T := TX8) (N := 10) hx hb hts in_X8_tell_X8 hown hK hP 0 rfl rfl 1 (by decide) (hts (.fieldLink RX8 7 "ImageCheckerModel" "all" "[I") (by decide +kernel)) (fun _ h9 => h9) rfl dX8_tell_14 ?_
    refine lv_sipush (v := 1426) hx hb dX8_tell_17 (by decide) ?_
    refine lv_iload_n hx hb dX8_tell_20 rfl (lv_at hl 1 rfl) ?_
    refine lv_iadd hx hb dX8_tell_21 ?_
    refine lv_iload_n hx hb dX8_tell_22 rfl (lv_at hl 2 rfl) ?_
    obtain ⟨σ5, eh, h⟩ := ik_bd h
    refine ik_st (Wd := mk_W cI cZ a) (σ1 := σ5) hx hb hK hP hD hS 1 0 rfl rfl (fun _ => rfl) eh dX8_tell_23 (fun H locs hP hD hS => ?_)
    clear eh
    exact W.vret hx hb hr (fun t ht hW => ⟨⟨_, rfl, Option.some.inj h, by rw [ht]; exact hP, hD⟩, hS.F ht⟩) hS.2.2 dX8_tell_24
abbrev rm_X8_blank : Room := { frames := 0, cells := 0, slots := 0, locals := 0 }
theorem in_X8_blank_X8 : ∀ w ∈ wsX80, w ∈ wsX8_blank := by decide +kernel
set_option maxHeartbeats 4000000 in
set_option maxRecDepth 100000 in
theorem c_X8_blank (l : Launch) (D : va_G) (cI cZ : ClassId) (a : Nat → Nat) (A : Nat → Prop) (p0 : Int32) (p1 : Int32) (σ : mk_S) (σz : mk_S) (h : fX8_blank p0 p1 σ = some σz) : Met l yX8_blank wsX8_blank rm_X8_blank (va_Pc [.ref (a 0), .int p0, .int p1] (ik_P D [(cI, .int), (cZ, .boolean)] [] (mk_W cI cZ a) A σ)) (ik_Qv D (mk_W cI cZ a) A σz) 0 0 A := by
  unfold fX8_blank at h
  refine Met.ofW (cc := cX8_blank) (maxL := 4) (ret := none) (by decide) rfl ?_
  intro p e s m args below meth c s₁ B hml hv
  obtain ⟨hAr, hP, hK, hD, hN⟩ := hv
  have hx := B.exec
  have hb := B.bytes
  have hr := B.returns
  have hts := atoms_spec (ws := wsX8_blank) B.pre
  have hown : s.vm.findClass RX8 = some m.cls := findClass_of_methodNamed B.named
  have hlocks := B.notSynchronized
  have hS : va_S A s.heap s.heap [] := va_S.rf
  have hl := lv_entry ([.ref (a 0), .int p0, .int p1]) (n := 4) (Nat.le_of_ble_eq_true rfl)
  rw [show entryFrame m args 4 = entryFrame m ([.ref (a 0), .int p0, .int p1] : List Value).toArray 4 from by rw [hAr], lg_entry_eq]
  generalize (lg_sl ([.ref (a 0), .int p0, .int p1]) ++ List.replicate (4 - (lg_sl ([.ref (a 0), .int p0, .int p1])).length) Slot.unset).toArray = ls at hl ⊢
  have hl : lv_has ls 4 [(0, .ref (a 0)), (1, .int p0), (2, .int p1)] := hl
  refine lv_iload_n hx hb dX8_blank_0 rfl (lv_at hl 1 rfl) ?_
  refine lv_istore_n (lv' := [(3, .int p0), (0, .ref (a 0)), (1, .int p0), (2, .int p1)]) hx hb dX8_blank_1 rfl hl (by decide) rfl (fun ls hl => ?_)
  refine qp2_W (P := fun (x1 : Int32) (σ2 : mk_S) => ∀ (H : Heap) (locs : List Loc) (ls : Array Slot), va_P D vwCl (mk_W cI cZ a σ2) H → va_D A (mk_W cI cZ a σ2) → va_S A s.heap H locs → lv_has ls 4 [(0, .ref (a 0)), (2, .int p1), (3, .int x1)] → W p l e (headSpec wsX8_blank rm_X8_blank).room s m args below meth c H locs 0 0 (MQ below (ik_Qv D (mk_W cI cZ a) A σz) args s 0 0 A) (F0 m 2 ls [])) ?_ FU _ _ h _ _ _ hP hD hS (lv_sub hl [1, 3, 0] rfl)
  intro rec2 ih2 x1 σ2 h H locs ls hP hD hS hl
  refine lv_iload_n hx hb dX8_blank_2 rfl (lv_at hl 2 rfl) ?_
  refine lv_iload_n hx hb dX8_blank_3 rfl (lv_at hl 1 rfl) ?_
  refine lv_icmp_ge (tgt := 20) hx hb dX8_blank_4 (by decide) (fun c3 => ?_) (fun c3 => ?_)
  · have h := ik_t c3 h
    exact W.vret hx hb hr (fun t ht hW => ⟨⟨_, rfl, Option.some.inj h, by rw [ht]; exact hP, hD⟩, hS.F ht⟩) hS.2.2 dX8_blank_20
  · have h := ik_f c3 h
    refine lv_aload_n hx hb dX8_blank_7 rfl (lv_at hl 0 rfl) ?_
    refine va_get (D := D) (ci := 6) (v := .ref (a 1)) (C := RX8) (T := TX8) (N := 10) hx hb hts in_X8_blank_X8 hown hK hP 0 rfl rfl 1 (by decide) (hts (.fieldLink RX8 7 "ImageCheckerModel" "all" "[I") (by decide +kernel)) (fun _ h9 => h9) rfl dX8_blank_8 ?_
    refine lv_iload_n hx hb dX8_blank_11 rfl (lv_at hl 2 rfl) ?_
    refine lv_iconst (v := 0) hx hb dX8_blank_12 (by decide) ?_
    obtain ⟨σ4, eh, h⟩ := ik_bd h
    refine ik_st (Wd := mk_W cI cZ a) (σ1 := σ4) hx hb hK hP hD hS 1 0 rfl rfl (fun _ => rfl) eh dX8_blank_13 (fun H locs hP hD hS => ?_)
    clear eh
    refine lv_iinc (v := x1 + 1) (lv' := [(3, .int (x1 + 1)), (0, .ref (a 0)), (2, .int p1)]) hx hb dX8_blank_14 hl (k := 2) rfl rfl (by decide) rfl (fun ls hl => ?_)
    refine lv_goto (tgt := 2) hx hb dX8_blank_17 (by decide) ?_
    exact ih2 _ _ h _ _ _ hP hD hS (lv_sub hl [1, 2, 0] rfl)
abbrev rm_X8_dropRecord : Room := { frames := 1, cells := 0, slots := 0, locals := 23 }
set_option maxHeartbeats 4000000 in
set_option maxRecDepth 100000 in
theorem c_X8_dropRecord (l : Launch) (D : va_G) (cI cZ : ClassId) (a : Nat → Nat) (A : Nat → Prop) (p0 : Int32) (σ : mk_S) (σz : mk_S) (h : fX8_dropRecord p0 σ = some σz) : Met l yX8_dropRecord wsX8_dropRecord rm_X8_dropRecord (va_Pc [.ref (a 0), .int p0] (ik_P D [(cI, .int), (cZ, .boolean)] [] (mk_W cI cZ a) A σ)) (ik_Qv D (mk_W cI cZ a) A σz) 0 0 A := by
  unfold fX8_dropRecord at h
  refine Met.ofW (cc := cX8_dropRecord) (maxL := 2) (ret := none) (by decide) rfl ?_
  intro p e s m args below meth c s₁ B hml hv
  obtain ⟨hAr, hP, hK, hD, hN⟩ := hv
  have hx := B.exec
  have hb := B.bytes
  have hr := B.returns
  have hts := atoms_spec (ws := wsX8_dropRecord) B.pre
  have hown : s.vm.findClass RX8 = some m.cls := findClass_of_methodNamed B.named
  have hlocks := B.notSynchronized
  have hS : va_S A s.heap s.heap [] := va_S.rf
  have hl := lv_entry ([.ref (a 0), .int p0]) (n := 2) (Nat.le_of_ble_eq_true rfl)
  rw [show entryFrame m args 2 = entryFrame m ([.ref (a 0), .int p0] : List Value).toArray 2 from by rw [hAr], lg_entry_eq]
  generalize (lg_sl ([.ref (a 0), .int p0]) ++ List.replicate (2 - (lg_sl ([.ref (a 0), .int p0])).length) Slot.unset).toArray = ls at hl ⊢
  have hl : lv_has ls 2 [(0, .ref (a 0)), (1, .int p0)] := hl
  refine lv_aload_n hx hb dX8_dropRecord_0 rfl (lv_at hl 0 rfl) ?_
  refine lv_bipush (v := 47) hx hb dX8_dropRecord_1 (by decide) ?_
  refine lv_iload_n hx hb dX8_dropRecord_3 rfl (lv_at hl 1 rfl) ?_
  refine lv_imul hx hb dX8_dropRecord_4 ?_
  refine lv_bipush (v := 47) hx hb dX8_dropRecord_5 (by decide) ?_
  refine lv_iload_n hx hb dX8_dropRecord_7 rfl (lv_at hl 1 rfl) ?_
  refine lv_imul hx hb dX8_dropRecord_8 ?_
  refine lv_bipush (v := 47) hx hb dX8_dropRecord_9 (by decide) ?_
  refine lv_iadd hx hb dX8_dropRecord_11 ?_
  obtain ⟨σ1, eh, h⟩ := ik_bd h
  refine ik_Vv (As := [.int (47 * p0), .int ((47 * p0) + 47)]) (rest := []) ⟨hx, hb, hml, hown, hts⟩ (c_X8_blank l D cI cZ a A (47 * p0) ((47 * p0) + 47) σ _ eh) (cwV 2 hts gX8_dropRecord_X8_blank rfl rfl rfl (by decide +kernel) ⟨Nat.le_of_ble_eq_true rfl, Nat.le_of_ble_eq_true rfl⟩) (va_recv hK hP (ci := 6) (q0 := 0) rfl rfl) hP hK hD hN hS rfl hl.1 rfl (Nat.le_of_ble_eq_true rfl) dX8_dropRecord_12 (fun H locs hP hD hS => ?_)
  clear eh
  exact W.vret hx hb hr (fun t ht hW => ⟨⟨_, rfl, Option.some.inj h, by rw [ht]; exact hP, hD⟩, hS.F ht⟩) hS.2.2 dX8_dropRecord_15
