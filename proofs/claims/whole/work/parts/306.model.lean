abbrev rm_X8_hang : Room := { frames := 2, cells := 0, slots := 0, locals := 49 }
theorem in_X8_hang_X8 : ∀ w ∈ wsX80, w ∈ wsX8_hang := by decide +kernel
set_option maxHeartbeats 4000000 in
set_option maxRecDepth 100000 in
theorem c_X8_hang (l : Launch) (D : va_G) (cI cZ : ClassId) (a : Nat → Nat) (A : Nat → Prop) (p0 : Int32) (σ : mk_S) (σz : mk_S) (h : fX8_hang p0 σ = some σz) : Met l yX8_hang wsX8_hang rm_X8_hang (va_Pc [.ref (a 0), .int p0] (ik_P D [(cI, .int), (cZ, .boolean)] [] (mk_W cI cZ a) A σ)) (ik_Qv D (mk_W cI cZ a) A σz) 0 0 A := by
  unfold fX8_hang at h
  refine Met.ofW (cc := cX8_hang) (maxL := 4) (ret := none) (by decide) rfl ?_
  intro p e s m args below meth c s₁ B hml hv
  obtain ⟨hAr, hP, hK, hD, hN⟩ := hv
  have hx := B.exec
  have hb := B.bytes
  have hr := B.returns
  have hts := atoms_spec (ws := wsX8_hang) B.pre
  have hown : s.vm.findClass RX8 = some m.cls := findClass_of_methodNamed B.named
  have hlocks := B.notSynchronized
  have hS : va_S A s.heap s.heap [] := va_S.rf
  have hl := lv_entry ([.ref (a 0), .int p0]) (n := 4) (Nat.le_of_ble_eq_true rfl)
  rw [show entryFrame m args 4 = entryFrame m ([.ref (a 0), .int p0] : List Value).toArray 4 from by rw [hAr], lg_entry_eq]
  generalize (lg_sl ([.ref (a 0), .int p0]) ++ List.replicate (4 - (lg_sl ([.ref (a 0), .int p0])).length) Slot.unset).toArray = ls at hl ⊢
  have hl : lv_has ls 4 [(0, .ref (a 0)), (1, .int p0)] := hl
  refine lv_aload_n hx hb dX8_hang_0 rfl (lv_at hl 0 rfl) ?_
  refine lv_iload_n hx hb dX8_hang_1 rfl (lv_at hl 1 rfl) ?_
  obtain ⟨σ1, eh, h⟩ := ik_bd h
  refine ik_Vv (As := [.int p0]) (rest := []) ⟨hx, hb, hml, hown, hts⟩ (c_X8_dropEntries l D cI cZ a A p0 σ _ eh) (cwV 1 hts gX8_hang_X8_dropEntries rfl rfl rfl (by decide +kernel) ⟨Nat.le_of_ble_eq_true rfl, Nat.le_of_ble_eq_true rfl⟩) (va_recv hK hP (ci := 6) (q0 := 0) rfl rfl) hP hK hD hN hS rfl hl.1 rfl (Nat.le_of_ble_eq_true rfl) dX8_hang_2 (fun H locs hP hD hS => ?_)
  clear eh
  refine lv_iconst (v := 0) hx hb dX8_hang_5 (by decide) ?_
  refine lv_istore_n (lv' := [(2, .int 0), (0, .ref (a 0)), (1, .int p0)]) hx hb dX8_hang_6 rfl hl (by decide) rfl (fun ls hl => ?_)
  refine qp1_W (P := fun (x2 : Int32) => ∀ (H : Heap) (locs : List Loc) (ls : Array Slot), va_P D vwCl (mk_W cI cZ a σ1) H → va_D A (mk_W cI cZ a σ1) → va_S A s.heap H locs → lv_has ls 4 [(0, .ref (a 0)), (1, .int p0), (2, .int x2)] → W p l e (headSpec wsX8_hang rm_X8_hang).room s m args below meth c H locs 0 0 (MQ below (ik_Qv D (mk_W cI cZ a) A σz) args s 0 0 A) (F0 m 7 ls [])) ?_ FU _ h _ _ _ hP hD hS (lv_sub hl [1, 2, 0] rfl)
  intro rec7 ih7 x2 h H locs ls hP hD hS hl
  refine lv_iload_n hx hb dX8_hang_7 rfl (lv_at hl 2 rfl) ?_
  refine lv_bipush (v := 8) hx hb dX8_hang_8 (by decide) ?_
  obtain ⟨j32, ej, h⟩ := jn_ex h
  have hj32 : ∀ (_u : Unit), j32 _u = some σz → ∀ (H : Heap) (locs : List Loc) (ls : Array Slot), va_P D vwCl (mk_W cI cZ a σ1) H → va_D A (mk_W cI cZ a σ1) → va_S A s.heap H locs → lv_has ls 4 [(0, .ref (a 0)), (1, .int p0), (2, .int x2)] → W p l e (headSpec wsX8_hang rm_X8_hang).room s m args below meth c H locs 0 0 (MQ below (ik_Qv D (mk_W cI cZ a) A σz) args s 0 0 A) (F0 m 32 ls []) := by
    rw [ej]; clear h
    intro _u h H locs ls hP hD hS hl
    refine lv_iload_n hx hb dX8_hang_32 rfl (lv_at hl 2 rfl) ?_
    refine lv_bipush (v := 8) hx hb dX8_hang_33 (by decide) ?_
    refine lv_icmp_ne (tgt := 44) hx hb dX8_hang_35 (by decide) (fun c3 => ?_) (fun c3 => ?_)
    · have h := ik_f c3 h
      refine lv_iconst (v := 1) hx hb dX8_hang_44 (by decide) ?_
      refine lv_istore_n (lv' := [(3, .int 1), (0, .ref (a 0)), (1, .int p0), (2, .int x2)]) hx hb dX8_hang_45 rfl hl (by decide) rfl (fun ls hl => ?_)
      refine qp1_W (P := fun (x4 : Int32) => ∀ (H : Heap) (locs : List Loc) (ls : Array Slot), va_P D vwCl (mk_W cI cZ a σ1) H → va_D A (mk_W cI cZ a σ1) → va_S A s.heap H locs → lv_has ls 4 [(0, .ref (a 0)), (1, .int p0), (2, .int x2), (3, .int x4)] → W p l e (headSpec wsX8_hang rm_X8_hang).room s m args below meth c H locs 0 0 (MQ below (ik_Qv D (mk_W cI cZ a) A σz) args s 0 0 A) (F0 m 46 ls [])) ?_ FU _ h _ _ _ hP hD hS (lv_sub hl [1, 2, 3, 0] rfl)
      intro rec46 ih46 x4 h H locs ls hP hD hS hl
      refine lv_aload_n hx hb dX8_hang_46 rfl (lv_at hl 0 rfl) ?_
      refine lv_iconst (v := 1) hx hb dX8_hang_47 (by decide) ?_
      refine lv_iload_n hx hb dX8_hang_48 rfl (lv_at hl 2 rfl) ?_
      refine lv_iload_n hx hb dX8_hang_49 rfl (lv_at hl 3 rfl) ?_
      obtain ⟨v5, eh, h⟩ := ik_bd h
      refine ik_Vi (As := [.int 1, .int x2, .int x4]) (rest := []) ⟨hx, hb, hml, hown, hts⟩ (c_X8_hasName l D cI cZ a A 1 x2 x4 σ1 _ eh) (cwV 3 hts gX8_hang_X8_hasName rfl rfl rfl (by decide +kernel) ⟨Nat.le_of_ble_eq_true rfl, Nat.le_of_ble_eq_true rfl⟩) (va_recv hK hP (ci := 6) (q0 := 0) rfl rfl) hP hK hD hN hS rfl hl.1 rfl (Nat.le_of_ble_eq_true rfl) dX8_hang_50 (fun H locs hP hD hS => ?_)
      clear eh
      refine lv_if_eq (tgt := 62) hx hb dX8_hang_53 (by decide) (fun c6 => ?_) (fun c6 => ?_)
      · have h := ik_t c6 h
        refine lv_aload_n hx hb dX8_hang_62 rfl (lv_at hl 0 rfl) ?_
        refine lv_iconst (v := 1) hx hb dX8_hang_63 (by decide) ?_
        refine lv_iload_n hx hb dX8_hang_64 rfl (lv_at hl 2 rfl) ?_
        obtain ⟨v7, eh, h⟩ := ik_bd h
        refine ik_Si (As := [.int 1, .int x2]) (rest := [.ref (a 0)]) ⟨hx, hb, hml, hown, hts⟩ (c_X8_entryAt l D cI cZ a A 1 x2 σ1 _ eh) (va_cwS 2 hts gX8_hang_X8_entryAt rfl rfl rfl (by decide +kernel) ⟨Nat.le_of_ble_eq_true rfl, Nat.le_of_ble_eq_true rfl⟩) hP hK hD hN hS rfl hl.1 rfl (Nat.le_of_ble_eq_true rfl) dX8_hang_65 (fun H locs hP hD hS => ?_)
        clear eh
        refine lv_iload_n hx hb dX8_hang_68 rfl (lv_at hl 3 rfl) ?_
        refine lv_iload_n hx hb dX8_hang_69 rfl (lv_at hl 1 rfl) ?_
        refine lv_aload_n hx hb dX8_hang_70 rfl (lv_at hl 0 rfl) ?_
        refine lv_iload_n hx hb dX8_hang_71 rfl (lv_at hl 1 rfl) ?_
        obtain ⟨v8, eh, h⟩ := ik_bd h
        refine ik_Vi (As := [.int p0]) (rest := [.int p0, .int x4, .int v7, .ref (a 0)]) ⟨hx, hb, hml, hown, hts⟩ (c_X8_kindOf l D cI cZ a A p0 σ1 _ eh) (cwV 1 hts gX8_hang_X8_kindOf rfl rfl rfl (by decide +kernel) ⟨Nat.le_of_ble_eq_true rfl, Nat.le_of_ble_eq_true rfl⟩) (va_recv hK hP (ci := 6) (q0 := 0) rfl rfl) hP hK hD hN hS rfl hl.1 rfl (Nat.le_of_ble_eq_true rfl) dX8_hang_72 (fun H locs hP hD hS => ?_)
        clear eh
        obtain ⟨σ9, eh, h⟩ := ik_bd h
        refine ik_Vv (As := [.int v7, .int x4, .int p0, .int v8]) (rest := []) ⟨hx, hb, hml, hown, hts⟩ (c_X8_put l D cI cZ a A v7 x4 p0 v8 σ1 _ eh) (cwV 4 hts gX8_hang_X8_put rfl rfl rfl (by decide +kernel) ⟨Nat.le_of_ble_eq_true rfl, Nat.le_of_ble_eq_true rfl⟩) (va_recv hK hP (ci := 6) (q0 := 0) rfl rfl) hP hK hD hN hS rfl hl.1 rfl (Nat.le_of_ble_eq_true rfl) dX8_hang_75 (fun H locs hP hD hS => ?_)
        clear eh
        exact W.vret hx hb hr (fun t ht hW => ⟨⟨_, rfl, Option.some.inj h, by rw [ht]; exact hP, hD⟩, hS.F ht⟩) hS.2.2 dX8_hang_78
      · have h := ik_f c6 h
        refine lv_iinc (v := x4 + 1) (lv' := [(3, .int (x4 + 1)), (0, .ref (a 0)), (1, .int p0), (2, .int x2)]) hx hb dX8_hang_56 hl (k := 3) rfl rfl (by decide) rfl (fun ls hl => ?_)
        refine lv_goto (tgt := 46) hx hb dX8_hang_59 (by decide) ?_
        exact ih46 _ h _ _ _ hP hD hS (lv_sub hl [1, 2, 3, 0] rfl)
    · have h := ik_t c3 h
      refine lv_aload_n hx hb dX8_hang_38 rfl (lv_at hl 0 rfl) ?_
      refine lv_iload_n hx hb dX8_hang_39 rfl (lv_at hl 1 rfl) ?_
      obtain ⟨σ10, eh, h⟩ := ik_bd h
      refine ik_Vv (As := [.int p0]) (rest := []) ⟨hx, hb, hml, hown, hts⟩ (c_X8_dropRecord l D cI cZ a A p0 σ1 _ eh) (cwV 1 hts gX8_hang_X8_dropRecord rfl rfl rfl (by decide +kernel) ⟨Nat.le_of_ble_eq_true rfl, Nat.le_of_ble_eq_true rfl⟩) (va_recv hK hP (ci := 6) (q0 := 0) rfl rfl) hP hK hD hN hS rfl hl.1 rfl (Nat.le_of_ble_eq_true rfl) dX8_hang_40 (fun H locs hP hD hS => ?_)
      clear eh
      exact W.vret hx hb hr (fun t ht hW => ⟨⟨_, rfl, Option.some.inj h, by rw [ht]; exact hP, hD⟩, hS.F ht⟩) hS.2.2 dX8_hang_43
  clear ej
  refine lv_icmp_ge (tgt := 32) hx hb dX8_hang_10 (by decide) (fun c11 => ?_) (fun c11 => ?_)
  · have h := ik_t c11 h
    exact hj32 () h _ _ _ hP hD hS (lv_sub hl [0, 1, 2] rfl)
  · have h := ik_f c11 h
    refine lv_aload_n hx hb dX8_hang_13 rfl (lv_at hl 0 rfl) ?_
    refine va_get (D := D) (ci := 6) (v := .ref (a 1)) (C := RX8) (T := TX8) (N := 10) hx hb hts in_X8_hang_X8 hown hK hP 0 rfl rfl 1 (by decide) (hts (.fieldLink RX8 7 "ImageCheckerModel" "all" "[I") (by decide +kernel)) (fun _ h9 => h9) rfl dX8_hang_14 ?_
    refine lv_iconst (v := 1) hx hb dX8_hang_17 (by decide) ?_
    refine lv_iload_n hx hb dX8_hang_18 rfl (lv_at hl 2 rfl) ?_
    obtain ⟨v12, eh, h⟩ := ik_bd h
    refine ik_Si (As := [.int 1, .int x2]) (rest := [.ref (a 1)]) ⟨hx, hb, hml, hown, hts⟩ (c_X8_entryAt l D cI cZ a A 1 x2 σ1 _ eh) (va_cwS 2 hts gX8_hang_X8_entryAt rfl rfl rfl (by decide +kernel) ⟨Nat.le_of_ble_eq_true rfl, Nat.le_of_ble_eq_true rfl⟩) hP hK hD hN hS rfl hl.1 rfl (Nat.le_of_ble_eq_true rfl) dX8_hang_19 (fun H locs hP hD hS => ?_)
    clear eh
    obtain ⟨v13, eh, h⟩ := ik_bd h
    refine ik_ld hx hb hK hP 1 0 rfl rfl eh dX8_hang_22 ?_
    clear eh
    refine lv_if_eq (tgt := 32) hx hb dX8_hang_23 (by decide) (fun c14 => ?_) (fun c14 => ?_)
    · have h := ik_t c14 h
      exact hj32 () h _ _ _ hP hD hS (lv_sub hl [0, 1, 2] rfl)
    · have h := ik_f c14 h
      refine lv_iinc (v := x2 + 1) (lv' := [(2, .int (x2 + 1)), (0, .ref (a 0)), (1, .int p0)]) hx hb dX8_hang_26 hl (k := 2) rfl rfl (by decide) rfl (fun ls hl => ?_)
      refine lv_goto (tgt := 7) hx hb dX8_hang_29 (by decide) ?_
      exact ih7 _ h _ _ _ hP hD hS (lv_sub hl [1, 2, 0] rfl)
abbrev rm_X8_checkHanging : Room := { frames := 3, cells := 0, slots := 0, locals := 72 }
theorem in_X8_checkHanging_X8 : ∀ w ∈ wsX80, w ∈ wsX8_checkHanging := by decide +kernel
set_option maxHeartbeats 4000000 in
set_option maxRecDepth 100000 in
theorem c_X8_checkHanging (l : Launch) (D : va_G) (cI cZ : ClassId) (a : Nat → Nat) (A : Nat → Prop) (σ : mk_S) (σz : mk_S) (h : fX8_checkHanging σ = some σz) : Met l yX8_checkHanging wsX8_checkHanging rm_X8_checkHanging (va_Pc [.ref (a 0)] (ik_P D [(cI, .int), (cZ, .boolean)] [] (mk_W cI cZ a) A σ)) (ik_Qv D (mk_W cI cZ a) A σz) 0 0 A := by
  unfold fX8_checkHanging at h
  refine Met.ofW (cc := cX8_checkHanging) (maxL := 2) (ret := none) (by decide) rfl ?_
  intro p e s m args below meth c s₁ B hml hv
  obtain ⟨hAr, hP, hK, hD, hN⟩ := hv
  have hx := B.exec
  have hb := B.bytes
  have hr := B.returns
  have hts := atoms_spec (ws := wsX8_checkHanging) B.pre
  have hown : s.vm.findClass RX8 = some m.cls := findClass_of_methodNamed B.named
  have hlocks := B.notSynchronized
  have hS : va_S A s.heap s.heap [] := va_S.rf
  have hl := lv_entry ([.ref (a 0)]) (n := 2) (Nat.le_of_ble_eq_true rfl)
  rw [show entryFrame m args 2 = entryFrame m ([.ref (a 0)] : List Value).toArray 2 from by rw [hAr], lg_entry_eq]
  generalize (lg_sl ([.ref (a 0)]) ++ List.replicate (2 - (lg_sl ([.ref (a 0)])).length) Slot.unset).toArray = ls at hl ⊢
  have hl : lv_has ls 2 [(0, .ref (a 0))] := hl
  refine lv_aload_n hx hb dX8_checkHanging_0 rfl (lv_at hl 0 rfl) ?_
  obtain ⟨σ1, eh, h⟩ := ik_bd h
  refine ik_Vv (As := []) (rest := []) ⟨hx, hb, hml, hown, hts⟩ (c_X8_findWaiting l D cI cZ a A  σ _ eh) (cwV 0 hts gX8_checkHanging_X8_findWaiting rfl rfl rfl (by decide +kernel) ⟨Nat.le_of_ble_eq_true rfl, Nat.le_of_ble_eq_true rfl⟩) (va_recv hK hP (ci := 6) (q0 := 0) rfl rfl) hP hK hD hN hS rfl hl.1 rfl (Nat.le_of_ble_eq_true rfl) dX8_checkHanging_1 (fun H locs hP hD hS => ?_)
  clear eh
  refine lv_iconst (v := 1) hx hb dX8_checkHanging_4 (by decide) ?_
  refine lv_istore_n (lv' := [(1, .int 1), (0, .ref (a 0))]) hx hb dX8_checkHanging_5 rfl hl (by decide) rfl (fun ls hl => ?_)
  refine qp2_W (P := fun (x2 : Int32) (σ3 : mk_S) => ∀ (H : Heap) (locs : List Loc) (ls : Array Slot), va_P D vwCl (mk_W cI cZ a σ3) H → va_D A (mk_W cI cZ a σ3) → va_S A s.heap H locs → lv_has ls 2 [(0, .ref (a 0)), (1, .int x2)] → W p l e (headSpec wsX8_checkHanging rm_X8_checkHanging).room s m args below meth c H locs 0 0 (MQ below (ik_Qv D (mk_W cI cZ a) A σz) args s 0 0 A) (F0 m 6 ls [])) ?_ FU _ _ h _ _ _ hP hD hS (lv_sub hl [1, 0] rfl)
  intro rec6 ih6 x2 σ3 h H locs ls hP hD hS hl
  refine lv_iload_n hx hb dX8_checkHanging_6 rfl (lv_at hl 1 rfl) ?_
  refine lv_bipush (v := 24) hx hb dX8_checkHanging_7 (by decide) ?_
  refine lv_icmp_gt (tgt := 83) hx hb dX8_checkHanging_9 (by decide) (fun c4 => ?_) (fun c4 => ?_)
  · have h := ik_t c4 h
    exact W.vret hx hb hr (fun t ht hW => ⟨⟨_, rfl, Option.some.inj h, by rw [ht]; exact hP, hD⟩, hS.F ht⟩) hS.2.2 dX8_checkHanging_83
  · have h := ik_f c4 h
    refine lv_aload_n hx hb dX8_checkHanging_12 rfl (lv_at hl 0 rfl) ?_
    obtain ⟨σ5, eh, h⟩ := ik_bd h
    refine ik_Vv (As := []) (rest := []) ⟨hx, hb, hml, hown, hts⟩ (c_X8_findReached l D cI cZ a A  σ3 _ eh) (cwV 0 hts gX8_checkHanging_X8_findReached rfl rfl rfl (by decide +kernel) ⟨Nat.le_of_ble_eq_true rfl, Nat.le_of_ble_eq_true rfl⟩) (va_recv hK hP (ci := 6) (q0 := 0) rfl rfl) hP hK hD hN hS rfl hl.1 rfl (Nat.le_of_ble_eq_true rfl) dX8_checkHanging_13 (fun H locs hP hD hS => ?_)
    clear eh
    refine lv_aload_n hx hb dX8_checkHanging_16 rfl (lv_at hl 0 rfl) ?_
    refine lv_iload_n hx hb dX8_checkHanging_17 rfl (lv_at hl 1 rfl) ?_
    obtain ⟨v6, eh, h⟩ := ik_bd h
    refine ik_Vi (As := [.int x2]) (rest := []) ⟨hx, hb, hml, hown, hts⟩ (c_X8_kindOf l D cI cZ a A x2 σ5 _ eh) (cwV 1 hts gX8_checkHanging_X8_kindOf rfl rfl rfl (by decide +kernel) ⟨Nat.le_of_ble_eq_true rfl, Nat.le_of_ble_eq_true rfl⟩) (va_recv hK hP (ci := 6) (q0 := 0) rfl rfl) hP hK hD hN hS rfl hl.1 rfl (Nat.le_of_ble_eq_true rfl) dX8_checkHanging_18 (fun H locs hP hD hS => ?_)
    clear eh
    refine lv_if_eq (tgt := 77) hx hb dX8_checkHanging_21 (by decide) (fun c7 => ?_) (fun c7 => ?_)
    · have h := ik_t c7 h
      refine lv_iinc (v := x2 + 1) (lv' := [(1, .int (x2 + 1)), (0, .ref (a 0))]) hx hb dX8_checkHanging_77 hl (k := 1) rfl rfl (by decide) rfl (fun ls hl => ?_)
      refine lv_goto (tgt := 6) hx hb dX8_checkHanging_80 (by decide) ?_
      exact ih6 _ _ h _ _ _ hP hD hS (lv_sub hl [1, 0] rfl)
    · have h := ik_f c7 h
      refine lv_aload_n hx hb dX8_checkHanging_24 rfl (lv_at hl 0 rfl) ?_
      refine va_get (D := D) (ci := 6) (v := .ref (a 5)) (C := RX8) (T := TX8) (N := 10) hx hb hts in_X8_checkHanging_X8 hown hK hP 0 rfl rfl 5 (by decide) (hts (.fieldLink RX8 23 "ImageCheckerModel" "reached" "[Z") (by decide +kernel)) (fun _ h9 => h9) rfl dX8_checkHanging_25 ?_
      refine lv_iload_n hx hb dX8_checkHanging_28 rfl (lv_at hl 1 rfl) ?_
      obtain ⟨v8, eh, h⟩ := ik_bd h
      refine ik_zld hx hb hK hP 5 1 rfl rfl eh dX8_checkHanging_29 ?_
      clear eh
      refine lv_if_eq (tgt := 36) hx hb dX8_checkHanging_30 (by decide) (fun c9 => ?_) (fun c9 => ?_)
      · have h := ik_t c9 h
        refine lv_aload_n hx hb dX8_checkHanging_36 rfl (lv_at hl 0 rfl) ?_
        refine va_get (D := D) (ci := 6) (v := .ref (a 6)) (C := RX8) (T := TX8) (N := 10) hx hb hts in_X8_checkHanging_X8 hown hK hP 0 rfl rfl 6 (by decide) (hts (.fieldLink RX8 26 "ImageCheckerModel" "rightly" "[Z") (by decide +kernel)) (fun _ h9 => h9) rfl dX8_checkHanging_37 ?_
        refine lv_iload_n hx hb dX8_checkHanging_40 rfl (lv_at hl 1 rfl) ?_
        obtain ⟨v10, eh, h⟩ := ik_bd h
        refine ik_zld hx hb hK hP 6 1 rfl rfl eh dX8_checkHanging_41 ?_
        clear eh
        refine lv_if_ne (tgt := 53) hx hb dX8_checkHanging_42 (by decide) (fun c11 => ?_) (fun c11 => ?_)
        · have h := ik_f c11 h
          refine lv_aload_n hx hb dX8_checkHanging_53 rfl (lv_at hl 0 rfl) ?_
          refine va_get (D := D) (ci := 6) (v := .ref (a 3)) (C := RX8) (T := TX8) (N := 10) hx hb hts in_X8_checkHanging_X8 hown hK hP 0 rfl rfl 3 (by decide) (hts (.fieldLink RX8 16 "ImageCheckerModel" "held" "[Z") (by decide +kernel)) (fun _ h9 => h9) rfl dX8_checkHanging_54 ?_
          refine lv_iload_n hx hb dX8_checkHanging_57 rfl (lv_at hl 1 rfl) ?_
          obtain ⟨v12, eh, h⟩ := ik_bd h
          refine ik_zld hx hb hK hP 3 1 rfl rfl eh dX8_checkHanging_58 ?_
          clear eh
          refine lv_if_eq (tgt := 72) hx hb dX8_checkHanging_59 (by decide) (fun c13 => ?_) (fun c13 => ?_)
          · have h := ik_t c13 h
            refine lv_aload_n hx hb dX8_checkHanging_72 rfl (lv_at hl 0 rfl) ?_
            refine lv_iload_n hx hb dX8_checkHanging_73 rfl (lv_at hl 1 rfl) ?_
            obtain ⟨σ14, eh, h⟩ := ik_bd h
            refine ik_Vv (As := [.int x2]) (rest := []) ⟨hx, hb, hml, hown, hts⟩ (c_X8_dropRecord l D cI cZ a A x2 σ5 _ eh) (cwV 1 hts gX8_checkHanging_X8_dropRecord rfl rfl rfl (by decide +kernel) ⟨Nat.le_of_ble_eq_true rfl, Nat.le_of_ble_eq_true rfl⟩) (va_recv hK hP (ci := 6) (q0 := 0) rfl rfl) hP hK hD hN hS rfl hl.1 rfl (Nat.le_of_ble_eq_true rfl) dX8_checkHanging_74 (fun H locs hP hD hS => ?_)
            clear eh
            refine lv_iinc (v := x2 + 1) (lv' := [(1, .int (x2 + 1)), (0, .ref (a 0))]) hx hb dX8_checkHanging_77 hl (k := 1) rfl rfl (by decide) rfl (fun ls hl => ?_)
            refine lv_goto (tgt := 6) hx hb dX8_checkHanging_80 (by decide) ?_
            exact ih6 _ _ h _ _ _ hP hD hS (lv_sub hl [1, 0] rfl)
          · have h := ik_f c13 h
            refine lv_aload_n hx hb dX8_checkHanging_62 rfl (lv_at hl 0 rfl) ?_
            refine va_get (D := D) (ci := 6) (v := .ref (a 8)) (C := RX8) (T := TX8) (N := 10) hx hb hts in_X8_checkHanging_X8 hown hK hP 0 rfl rfl 9 (by decide) (hts (.fieldLink RX8 32 "ImageCheckerModel" "goesOn" "[Z") (by decide +kernel)) (fun _ h9 => h9) rfl dX8_checkHanging_63 ?_
            refine lv_iload_n hx hb dX8_checkHanging_66 rfl (lv_at hl 1 rfl) ?_
            refine lv_iconst (v := 1) hx hb dX8_checkHanging_67 (by decide) ?_
            obtain ⟨σ15, eh, h⟩ := ik_bd h
            refine ik_zst (Wd := mk_W cI cZ a) (σ1 := σ15) hx hb hK hP hD hS 8 1 rfl rfl (fun _ => rfl) eh dX8_checkHanging_68 (fun H locs hP hD hS => ?_)
            clear eh
            refine lv_goto (tgt := 77) hx hb dX8_checkHanging_69 (by decide) ?_
            refine lv_iinc (v := x2 + 1) (lv' := [(1, .int (x2 + 1)), (0, .ref (a 0))]) hx hb dX8_checkHanging_77 hl (k := 1) rfl rfl (by decide) rfl (fun ls hl => ?_)
            refine lv_goto (tgt := 6) hx hb dX8_checkHanging_80 (by decide) ?_
            exact ih6 _ _ h _ _ _ hP hD hS (lv_sub hl [1, 0] rfl)
        · have h := ik_t c11 h
          refine lv_aload_n hx hb dX8_checkHanging_45 rfl (lv_at hl 0 rfl) ?_
          refine lv_iload_n hx hb dX8_checkHanging_46 rfl (lv_at hl 1 rfl) ?_
          obtain ⟨σ16, eh, h⟩ := ik_bd h
          refine ik_Vv (As := [.int x2]) (rest := []) ⟨hx, hb, hml, hown, hts⟩ (c_X8_hang l D cI cZ a A x2 σ5 _ eh) (cwV 1 hts gX8_checkHanging_X8_hang rfl rfl rfl (by decide +kernel) ⟨Nat.le_of_ble_eq_true rfl, Nat.le_of_ble_eq_true rfl⟩) (va_recv hK hP (ci := 6) (q0 := 0) rfl rfl) hP hK hD hN hS rfl hl.1 rfl (Nat.le_of_ble_eq_true rfl) dX8_checkHanging_47 (fun H locs hP hD hS => ?_)
          clear eh
          refine lv_goto (tgt := 77) hx hb dX8_checkHanging_50 (by decide) ?_
          refine lv_iinc (v := x2 + 1) (lv' := [(1, .int (x2 + 1)), (0, .ref (a 0))]) hx hb dX8_checkHanging_77 hl (k := 1) rfl rfl (by decide) rfl (fun ls hl => ?_)
          refine lv_goto (tgt := 6) hx hb dX8_checkHanging_80 (by decide) ?_
          exact ih6 _ _ h _ _ _ hP hD hS (lv_sub hl [1, 0] rfl)
      · have h := ik_f c9 h
        refine lv_goto (tgt := 77) hx hb dX8_checkHanging_33 (by decide) ?_
        refine lv_iinc (v := x2 + 1) (lv' := [(1, .int (x2 + 1)), (0, .ref (a 0))]) hx hb dX8_checkHanging_77 hl (k := 1) rfl rfl (by decide) rfl (fun ls hl => ?_)
        refine lv_goto (tgt := 6) hx hb dX8_checkHanging_80 (by decide) ?_
        exact ih6 _ _ h _ _ _ hP hD hS (lv_sub hl [1, 0] rfl)
abbrev rm_X8_foldersIn : Room := { frames := 1, cells := 0, slots := 0, locals := 21 }
theorem in_X8_foldersIn_X8 : ∀ w ∈ wsX80, w ∈ wsX8_foldersIn := by decide +kernel
set_option maxHeartbeats 4000000 in
set_option maxRecDepth 100000 in
theorem c_X8_foldersIn (l : Launch) (D : va_G) (cI cZ : ClassId) (a : Nat → Nat) (A : Nat → Prop) (p0 : Int32) (σ : mk_S) (rz : Int32) (h : fX8_foldersIn p0 σ = some rz) : Met l yX8_foldersIn wsX8_foldersIn rm_X8_foldersIn (va_Pc [.ref (a 0), .int p0] (ik_P D [(cI, .int), (cZ, .boolean)] [] (mk_W cI cZ a) A σ)) (ik_Qi D (mk_W cI cZ a) A rz σ) 0 0 A := by
  unfold fX8_foldersIn at h
  refine Met.ofW (cc := cX8_foldersIn) (maxL := 4) (ret := (some .int)) (by decide) rfl ?_
  intro p e s m args below meth c s₁ B hml hv
  obtain ⟨hAr, hP, hK, hD, hN⟩ := hv
  have hx := B.exec
  have hb := B.bytes
  have hr := B.returns
  have hts := atoms_spec (ws := wsX8_foldersIn) B.pre
  have hown : s.vm.findClass RX8 = some m.cls := findClass_of_methodNamed B.named
  have hlocks := B.notSynchronized
  have hS : va_S A s.heap s.heap [] := va_S.rf
  have hl := lv_entry ([.ref (a 0), .int p0]) (n := 4) (Nat.le_of_ble_eq_true rfl)
  rw [show entryFrame m args 4 = entryFrame m ([.ref (a 0), .int p0] : List Value).toArray 4 from by rw [hAr], lg_entry_eq]
  generalize (lg_sl ([.ref (a 0), .int p0]) ++ List.replicate (4 - (lg_sl ([.ref (a 0), .int p0])).length) Slot.unset).toArray = ls at hl ⊢
  have hl : lv_has ls 4 [(0, .ref (a 0)), (1, .int p0)] := hl
  refine lv_iconst (v := 0) hx hb dX8_foldersIn_0 (by decide) ?_
  refine lv_istore_n (lv' := [(2, .int 0), (0, .ref (a 0)), (1, .int p0)]) hx hb dX8_foldersIn_1 rfl hl (by decide) rfl (fun ls hl => ?_)
  refine lv_iconst (v := 0) hx hb dX8_foldersIn_2 (by decide) ?_
  refine lv_istore_n (lv' := [(3, .int 0), (2, .int 0), (0, .ref (a 0)), (1, .int p0)]) hx hb dX8_foldersIn_3 rfl hl (by decide) rfl (fun ls hl => ?_)
  refine qp2_W (P := fun (x1 : Int32) (x2 : Int32) => ∀ (H : Heap) (locs : List Loc) (ls : Array Slot), va_P D vwCl (mk_W cI cZ a σ) H → va_D A (mk_W cI cZ a σ) → va_S A s.heap H locs → lv_has ls 4 [(0, .ref (a 0)), (1, .int p0), (2, .int x1), (3, .int x2)] → W p l e (headSpec wsX8_foldersIn rm_X8_foldersIn).room s m args below meth c H locs 0 0 (MQ below (ik_Qi D (mk_W cI cZ a) A rz σ) args s 0 0 A) (F0 m 4 ls [])) ?_ FU _ _ h _ _ _ hP hD hS (lv_sub hl [2, 3, 1, 0] rfl)
  intro rec4 ih4 x1 x2 h H locs ls hP hD hS hl
  refine lv_iload_n hx hb dX8_foldersIn_4 rfl (lv_at hl 3 rfl) ?_
  refine lv_bipush (v := 8) hx hb dX8_foldersIn_5 (by decide) ?_
  refine lv_icmp_ge (tgt := 57) hx hb dX8_foldersIn_7 (by decide) (fun c3 => ?_) (fun c3 => ?_)
  · have h := ik_t c3 h
    refine lv_iload_n hx hb dX8_foldersIn_57 rfl (lv_at hl 2 rfl) ?_
    exact W.iret hx hb hr (fun t ht hW => ⟨⟨_, _, rfl, ⟨Option.some.inj h, rfl⟩, by rw [ht]; exact hP, hD⟩, hS.F ht⟩) hS.2.2 dX8_foldersIn_58
  · have h := ik_f c3 h
    refine lv_iload_n hx hb dX8_foldersIn_10 rfl (lv_at hl 2 rfl) ?_
    refine lv_aload_n hx hb dX8_foldersIn_11 rfl (lv_at hl 0 rfl) ?_
    refine va_get (D := D) (ci := 6) (v := .ref (a 1)) (C := RX8) (T := TX8) (N := 10) hx hb hts in_X8_foldersIn_X8 hown hK hP 0 rfl rfl 1 (by decide) (hts (.fieldLink RX8 7 "ImageCheckerModel" "all" "[I") (by decide +kernel)) (fun _ h9 => h9) rfl dX8_foldersIn_12 ?_
    refine lv_iload_n hx hb dX8_foldersIn_15 rfl (lv_at hl 1 rfl) ?_
    refine lv_iload_n hx hb dX8_foldersIn_16 rfl (lv_at hl 3 rfl) ?_
    obtain ⟨v4, eh, h⟩ := ik_bd h
    refine ik_Si (As := [.int p0, .int x2]) (rest := [.ref (a 1), .int x1]) ⟨hx, hb, hml, hown, hts⟩ (c_X8_entryAt l D cI cZ a A p0 x2 σ _ eh) (va_cwS 2 hts gX8_foldersIn_X8_entryAt rfl rfl rfl (by decide +kernel) ⟨Nat.le_of_ble_eq_true rfl, Nat.le_of_ble_eq_true rfl⟩) hP hK hD hN hS rfl hl.1 rfl (Nat.le_of_ble_eq_true rfl) dX8_foldersIn_17 (fun H locs hP hD hS => ?_)
    clear eh
    obtain ⟨v5, eh, h⟩ := ik_bd h
    refine ik_ld hx hb hK hP 1 0 rfl rfl eh dX8_foldersIn_20 ?_
    clear eh
    obtain ⟨j49, ej, h⟩ := jn_ex h
    have hj49 : ∀ (y6 : Int32), j49 y6 = some rz → ∀ (H : Heap) (locs : List Loc) (ls : Array Slot), va_P D vwCl (mk_W cI cZ a σ) H → va_D A (mk_W cI cZ a σ) → va_S A s.heap H locs → lv_has ls 4 [(0, .ref (a 0)), (1, .int p0), (3, .int x2)] → W p l e (headSpec wsX8_foldersIn rm_X8_foldersIn).room s m args below meth c H locs 0 0 (MQ below (ik_Qi D (mk_W cI cZ a) A rz σ) args s 0 0 A) (F0 m 49 ls [.int y6, .int x1]) := by
      rw [ej]; clear h
      intro y6 h H locs ls hP hD hS hl
      refine lv_iadd hx hb dX8_foldersIn_49 ?_
      refine lv_istore_n (lv' := [(2, .int (x1 + y6)), (0, .ref (a 0)), (1, .int p0), (3, .int x2)]) hx hb dX8_foldersIn_50 rfl hl (by decide) rfl (fun ls hl => ?_)
      refine lv_iinc (v := x2 + 1) (lv' := [(3, .int (x2 + 1)), (2, .int (x1 + y6)), (0, .ref (a 0)), (1, .int p0)]) hx hb dX8_foldersIn_51 hl (k := 3) rfl rfl (by decide) rfl (fun ls hl => ?_)
      refine lv_goto (tgt := 4) hx hb dX8_foldersIn_54 (by decide) ?_
      exact ih4 _ _ h _ _ _ hP hD hS (lv_sub hl [2, 3, 1, 0] rfl)
    clear ej
    obtain ⟨j48, ej, h⟩ := jn_ex h
    have hj48 : ∀ (_u : Unit), j48 _u = some rz → ∀ (H : Heap) (locs : List Loc) (ls : Array Slot), va_P D vwCl (mk_W cI cZ a σ) H → va_D A (mk_W cI cZ a σ) → va_S A s.heap H locs → lv_has ls 4 [(0, .ref (a 0)), (1, .int p0), (3, .int x2)] → W p l e (headSpec wsX8_foldersIn rm_X8_foldersIn).room s m args below meth c H locs 0 0 (MQ below (ik_Qi D (mk_W cI cZ a) A rz σ) args s 0 0 A) (F0 m 48 ls [.int x1]) := by
      rw [ej]; clear h
      intro _u h H locs ls hP hD hS hl
      refine lv_iconst (v := 0) hx hb dX8_foldersIn_48 (by decide) ?_
      exact hj49 _ h _ _ _ hP hD hS (lv_sub hl [0, 1, 2] rfl)
    clear ej
    refine lv_if_eq (tgt := 48) hx hb dX8_foldersIn_21 (by decide) (fun c7 => ?_) (fun c7 => ?_)
    · have h := ik_t c7 h
      exact hj48 () h _ _ _ hP hD hS (lv_sub hl [0, 1, 3] rfl)
    · have h := ik_f c7 h
      refine lv_aload_n hx hb dX8_foldersIn_24 rfl (lv_at hl 0 rfl) ?_
      refine lv_aload_n hx hb dX8_foldersIn_25 rfl (lv_at hl 0 rfl) ?_
      refine va_get (D := D) (ci := 6) (v := .ref (a 1)) (C := RX8) (T := TX8) (N := 10) hx hb hts in_X8_foldersIn_X8 hown hK hP 0 rfl rfl 1 (by decide) (hts (.fieldLink RX8 7 "ImageCheckerModel" "all" "[I") (by decide +kernel)) (fun _ h9 => h9) rfl dX8_foldersIn_26 ?_
      refine lv_iload_n hx hb dX8_foldersIn_29 rfl (lv_at hl 1 rfl) ?_
      refine lv_iload_n hx hb dX8_foldersIn_30 rfl (lv_at hl 3 rfl) ?_
      obtain ⟨v8, eh, h⟩ := ik_bd h
      refine ik_Si (As := [.int p0, .int x2]) (rest := [.ref (a 1), .ref (a 0), .int x1]) ⟨hx, hb, hml, hown, hts⟩ (c_X8_entryAt l D cI cZ a A p0 x2 σ _ eh) (va_cwS 2 hts gX8_foldersIn_X8_entryAt rfl rfl rfl (by decide +kernel) ⟨Nat.le_of_ble_eq_true rfl, Nat.le_of_ble_eq_true rfl⟩) hP hK hD hN hS rfl hl.1 rfl (Nat.le_of_ble_eq_true rfl) dX8_foldersIn_31 (fun H locs hP hD hS => ?_)
      clear eh
      refine lv_iconst (v := 1) hx hb dX8_foldersIn_34 (by decide) ?_
      refine lv_iadd hx hb dX8_foldersIn_35 ?_
      obtain ⟨v9, eh, h⟩ := ik_bd h
      refine ik_ld hx hb hK hP 1 0 rfl rfl eh dX8_foldersIn_36 ?_
      clear eh
      obtain ⟨v10, eh, h⟩ := ik_bd h
      refine ik_Vi (As := [.int v9]) (rest := [.int x1]) ⟨hx, hb, hml, hown, hts⟩ (c_X8_kindOf l D cI cZ a A v9 σ _ eh) (cwV 1 hts gX8_foldersIn_X8_kindOf rfl rfl rfl (by decide +kernel) ⟨Nat.le_of_ble_eq_true rfl, Nat.le_of_ble_eq_true rfl⟩) (va_recv hK hP (ci := 6) (q0 := 0) rfl rfl) hP hK hD hN hS rfl hl.1 rfl (Nat.le_of_ble_eq_true rfl) dX8_foldersIn_37 (fun H locs hP hD hS => ?_)
      clear eh
      refine lv_iconst (v := 2) hx hb dX8_foldersIn_40 (by decide) ?_
      refine lv_icmp_ne (tgt := 48) hx hb dX8_foldersIn_41 (by decide) (fun c11 => ?_) (fun c11 => ?_)
      · have h := ik_f c11 h
        exact hj48 () h _ _ _ hP hD hS (lv_sub hl [0, 1, 3] rfl)
      · have h := ik_t c11 h
        refine lv_iconst (v := 1) hx hb dX8_foldersIn_44 (by decide) ?_
        refine lv_goto (tgt := 49) hx hb dX8_foldersIn_45 (by decide) ?_
        exact hj49 _ h _ _ _ hP hD hS (lv_sub hl [0, 1, 3] rfl)
