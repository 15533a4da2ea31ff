abbrev rm_X5_bitCell : Room := { frames := 0, cells := 0, slots := 0, locals := 0 }
set_option maxHeartbeats 4000000 in
set_option maxRecDepth 100000 in
theorem c_X5_bitCell (l : Launch) (D : va_G) (cI cZ : ClassId) (a : Nat → Nat) (A : Nat → Prop) (p0 : Int32) (p1 : Int32) (σ : ck_S) (rz : Int32) (h : fX5_bitCell p0 p1 = some rz) : Met l yX5_bitCell wsX5_bitCell rm_X5_bitCell (va_Pc [.int p0, .int p1] (ik_P D [(cI, .int), (cZ, .boolean)] ck_N (ck_W cI cZ a) A σ)) (ik_Qi D (ck_W cI cZ a) A rz σ) 0 0 A := by
  unfold fX5_bitCell at h
  refine Met.ofW (cc := cX5_bitCell) (maxL := 2) (ret := (some .int)) (by decide) rfl ?_
  intro p e s m args below meth c s₁ B hml hv
  obtain ⟨hAr, hP, hK, hD, hN⟩ := hv
  have hx := B.exec
  have hb := B.bytes
  have hr := B.returns
  have hts := atoms_spec (ws := wsX5_bitCell) B.pre
  have hown : s.vm.findClass RX5 = some m.cls := findClass_of_methodNamed B.named
  have hlocks := B.notSynchronized
  have hS : va_S A s.heap s.heap [] := va_S.rf
  have hl := lv_entry ([.int p0, .int p1]) (n := 2) (Nat.le_of_ble_eq_true rfl)
  rw [show entryFrame m args 2 = entryFrame m ([.int p0, .int p1] : List Value).toArray 2 from by rw [hAr], lg_entry_eq]
  generalize (lg_sl ([.int p0, .int p1]) ++ List.replicate (2 - (lg_sl ([.int p0, .int p1])).length) Slot.unset).toArray = ls at hl ⊢
  have hl : lv_has ls 2 [(0, .int p0), (1, .int p1)] := hl
  refine lv_iload_n hx hb dX5_bitCell_0 rfl (lv_at hl 0 rfl) ?_
  obtain ⟨j13, ej, h⟩ := jn_ex h
  have hj13 : ∀ (y1 : Int32), j13 y1 = some rz → ∀ (H : Heap) (locs : List Loc) (ls : Array Slot), va_P D vwCl (ck_W cI cZ a σ) H → va_D A (ck_W cI cZ a σ) → va_S A s.heap H locs → lv_has ls 2 [(1, .int p1)] → W p l e (headSpec wsX5_bitCell rm_X5_bitCell).room s m args below meth c H locs 0 0 (MQ below (ik_Qi D (ck_W cI cZ a) A rz σ) args s 0 0 A) (F0 m 13 ls [.int y1]) := by
    rw [ej]; clear h
    intro y1 h H locs ls hP hD hS hl
    refine lv_iload_n hx hb dX5_bitCell_13 rfl (lv_at hl 0 rfl) ?_
    refine lv_iadd hx hb dX5_bitCell_14 ?_
    refine lv_iconst (v := 1) hx hb dX5_bitCell_15 (by decide) ?_
    refine lv_isub hx hb dX5_bitCell_16 ?_
    exact W.iret hx hb hr (fun t ht hW => ⟨⟨_, _, rfl, ⟨Option.some.inj h, rfl⟩, by rw [ht]; exact hP, hD⟩, hS.F ht⟩) hS.2.2 dX5_bitCell_17
  clear ej
  refine lv_if_ne (tgt := 10) hx hb dX5_bitCell_1 (by decide) (fun c2 => ?_) (fun c2 => ?_)
  · have h := ik_f c2 h
    refine lv_sipush (v := 1328) hx hb dX5_bitCell_10 (by decide) ?_
    exact hj13 _ h _ _ _ hP hD hS (lv_sub hl [1] rfl)
  · have h := ik_t c2 h
    refine lv_sipush (v := 1128) hx hb dX5_bitCell_4 (by decide) ?_
    refine lv_goto (tgt := 13) hx hb dX5_bitCell_7 (by decide) ?_
    exact hj13 _ h _ _ _ hP hD hS (lv_sub hl [1] rfl)
abbrev rm_X5_putBit : Room := { frames := 1, cells := 0, slots := 0, locals := 21 }
theorem in_X5_putBit_X5 : ∀ w ∈ wsX50, w ∈ wsX5_putBit := by decide +kernel
set_option maxHeartbeats 4000000 in
set_option maxRecDepth 100000 in
theorem c_X5_putBit (l : Launch) (D : va_G) (cI cZ : ClassId) (a : Nat → Nat) (A : Nat → Prop) (p0 : Int32) (p1 : Int32) (p2 : Int32) (σ : ck_S) (σz : ck_S) (h : fX5_putBit p0 p1 p2 σ = some σz) : Met l yX5_putBit wsX5_putBit rm_X5_putBit (va_Pc [.ref (a 1), .int p0, .int p1, .int p2] (ik_P D [(cI, .int), (cZ, .boolean)] ck_N (ck_W cI cZ a) A σ)) (ik_Qv D (ck_W cI cZ a) A σz) 0 0 A := by
  unfold fX5_putBit at h
  refine Met.ofW (cc := cX5_putBit) (maxL := 4) (ret := none) (by decide) rfl ?_
  intro p e s m args below meth c s₁ B hml hv
  obtain ⟨hAr, hP, hK, hD, hN⟩ := hv
  have hx := B.exec
  have hb := B.bytes
  have hr := B.returns
  have hts := atoms_spec (ws := wsX5_putBit) B.pre
  have hown : s.vm.findClass RX5 = some m.cls := findClass_of_methodNamed B.named
  have hlocks := B.notSynchronized
  have hS : va_S A s.heap s.heap [] := va_S.rf
  have hl := lv_entry ([.ref (a 1), .int p0, .int p1, .int p2]) (n := 4) (Nat.le_of_ble_eq_true rfl)
  rw [show entryFrame m args 4 = entryFrame m ([.ref (a 1), .int p0, .int p1, .int p2] : List Value).toArray 4 from by rw [hAr], lg_entry_eq]
  generalize (lg_sl ([.ref (a 1), .int p0, .int p1, .int p2]) ++ List.replicate (4 - (lg_sl ([.ref (a 1), .int p0, .int p1, .int p2])).length) Slot.unset).toArray = ls at hl ⊢
  have hl : lv_has ls 4 [(0, .ref (a 1)), (1, .int p0), (2, .int p1), (3, .int p2)] := hl
  refine lv_aload_n hx hb dX5_putBit_0 rfl (lv_at hl 0 rfl) ?_
  refine va_get (D := D) (ci := 3) (v := .ref (a 2)) (C := RX5) (T := TX5) (N := 2) hx hb hts in_X5_putBit_X5 hown hK hP 1 rfl rfl 0 (by decide) (hts (.fieldLink RX5 11 "ImageChecker$Tables" "cells" "[I") (by decide +kernel)) (fun _ h9 => h9) rfl dX5_putBit_1 ?_
  refine lv_iload_n hx hb dX5_putBit_4 rfl (lv_at hl 1 rfl) ?_
  refine lv_iload_n hx hb dX5_putBit_5 rfl (lv_at hl 2 rfl) ?_
  obtain ⟨v1, eh, h⟩ := ik_bd h
  refine ik_Si (As := [.int p0, .int p1]) (rest := [.ref (a 2)]) ⟨hx, hb, hml, hown, hts⟩ (c_X5_bitCell l D cI cZ a A p0 p1 σ _ eh) (va_cwS 2 hts gX5_putBit_X5_bitCell rfl rfl rfl (by decide +kernel) ⟨Nat.le_of_ble_eq_true rfl, Nat.le_of_ble_eq_true rfl⟩) hP hK hD hN hS rfl hl.1 rfl (Nat.le_of_ble_eq_true rfl) dX5_putBit_6 (fun H locs hP hD hS => ?_)
  clear eh
  refine lv_iload_n hx hb dX5_putBit_9 rfl (lv_at hl 3 rfl) ?_
  obtain ⟨σ2, eh, h⟩ := ik_bd h
  refine ik_st (Wd := ck_W cI cZ a) (σ1 := σ2) hx hb hK hP hD hS 2 0 rfl rfl (fun _ => rfl) eh dX5_putBit_10 (fun H locs hP hD hS => ?_)
  clear eh
  exact W.vret hx hb hr (fun t ht hW => ⟨⟨_, rfl, Option.some.inj h, by rw [ht]; exact hP, hD⟩, hS.F ht⟩) hS.2.2 dX5_putBit_11
abbrev rm_X5_fileCell : Room := { frames := 0, cells := 0, slots := 0, locals := 0 }
set_option maxHeartbeats 4000000 in
set_option maxRecDepth 100000 in
theorem c_X5_fileCell (l : Launch) (D : va_G) (cI cZ : ClassId) (a : Nat → Nat) (A : Nat → Prop) (p0 : Int32) (σ : ck_S) (rz : Int32) (h : fX5_fileCell p0 = some rz) : Met l yX5_fileCell wsX5_fileCell rm_X5_fileCell (va_Pc [.int p0] (ik_P D [(cI, .int), (cZ, .boolean)] ck_N (ck_W cI cZ a) A σ)) (ik_Qi D (ck_W cI cZ a) A rz σ) 0 0 A := by
  unfold fX5_fileCell at h
  refine Met.ofW (cc := cX5_fileCell) (maxL := 1) (ret := (some .int)) (by decide) rfl ?_
  intro p e s m args below meth c s₁ B hml hv
  obtain ⟨hAr, hP, hK, hD, hN⟩ := hv
  have hx := B.exec
  have hb := B.bytes
  have hr := B.returns
  have hts := atoms_spec (ws := wsX5_fileCell) B.pre
  have hown : s.vm.findClass RX5 = some m.cls := findClass_of_methodNamed B.named
  have hlocks := B.notSynchronized
  have hS : va_S A s.heap s.heap [] := va_S.rf
  have hl := lv_entry ([.int p0]) (n := 1) (Nat.le_of_ble_eq_true rfl)
  rw [show entryFrame m args 1 = entryFrame m ([.int p0] : List Value).toArray 1 from by rw [hAr], lg_entry_eq]
  generalize (lg_sl ([.int p0]) ++ List.replicate (1 - (lg_sl ([.int p0])).length) Slot.unset).toArray = ls at hl ⊢
  have hl : lv_has ls 1 [(0, .int p0)] := hl
  refine lv_iload_n hx hb dX5_fileCell_0 rfl (lv_at hl 0 rfl) ?_
  refine lv_iconst (v := 1) hx hb dX5_fileCell_1 (by decide) ?_
  refine lv_isub hx hb dX5_fileCell_2 ?_
  refine lv_bipush (v := 47) hx hb dX5_fileCell_3 (by decide) ?_
  refine lv_imul hx hb dX5_fileCell_5 ?_
  exact W.iret hx hb hr (fun t ht hW => ⟨⟨_, _, rfl, ⟨Option.some.inj h, rfl⟩, by rw [ht]; exact hP, hD⟩, hS.F ht⟩) hS.2.2 dX5_fileCell_6
abbrev rm_X5_number : Room := { frames := 1, cells := 0, slots := 0, locals := 20 }
theorem in_X5_number_X5 : ∀ w ∈ wsX50, w ∈ wsX5_number := by decide +kernel
set_option maxHeartbeats 4000000 in
set_option maxRecDepth 100000 in
theorem c_X5_number (l : Launch) (D : va_G) (cI cZ : ClassId) (a : Nat → Nat) (A : Nat → Prop) (p0 : Int32) (p1 : Int32) (σ : ck_S) (rz : Int32) (h : fX5_number p0 p1 σ = some rz) : Met l yX5_number wsX5_number rm_X5_number (va_Pc [.ref (a 1), .int p0, .int p1] (ik_P D [(cI, .int), (cZ, .boolean)] ck_N (ck_W cI cZ a) A σ)) (ik_Qi D (ck_W cI cZ a) A rz σ) 0 0 A := by
  unfold fX5_number at h
  refine Met.ofW (cc := cX5_number) (maxL := 3) (ret := (some .int)) (by decide) rfl ?_
  intro p e s m args below meth c s₁ B hml hv
  obtain ⟨hAr, hP, hK, hD, hN⟩ := hv
  have hx := B.exec
  have hb := B.bytes
  have hr := B.returns
  have hts := atoms_spec (ws := wsX5_number) B.pre
  have hown : s.vm.findClass RX5 = some m.cls := findClass_of_methodNamed B.named
  have hlocks := B.notSynchronized
  have hS : va_S A s.heap s.heap [] := va_S.rf
  have hl := lv_entry ([.ref (a 1), .int p0, .int p1]) (n := 3) (Nat.le_of_ble_eq_true rfl)
  rw [show entryFrame m args 3 = entryFrame m ([.ref (a 1), .int p0, .int p1] : List Value).toArray 3 from by rw [hAr], lg_entry_eq]
  generalize (lg_sl ([.ref (a 1), .int p0, .int p1]) ++ List.replicate (3 - (lg_sl ([.ref (a 1), .int p0, .int p1])).length) Slot.unset).toArray = ls at hl ⊢
  have hl : lv_has ls 3 [(0, .ref (a 1)), (1, .int p0), (2, .int p1)] := hl
  refine lv_aload_n hx hb dX5_number_0 rfl (lv_at hl 0 rfl) ?_
  refine va_get (D := D) (ci := 3) (v := .ref (a 2)) (C := RX5) (T := TX5) (N := 2) hx hb hts in_X5_number_X5 hown hK hP 1 rfl rfl 0 (by decide) (hts (.fieldLink RX5 11 "ImageChecker$Tables" "cells" "[I") (by decide +kernel)) (fun _ h9 => h9) rfl dX5_number_1 ?_
  refine lv_iload_n hx hb dX5_number_4 rfl (lv_at hl 1 rfl) ?_
  obtain ⟨v1, eh, h⟩ := ik_bd h
  refine ik_Si (As := [.int p0]) (rest := [.ref (a 2)]) ⟨hx, hb, hml, hown, hts⟩ (c_X5_fileCell l D cI cZ a A p0 σ _ eh) (va_cwS 1 hts gX5_number_X5_fileCell rfl rfl rfl (by decide +kernel) ⟨Nat.le_of_ble_eq_true rfl, Nat.le_of_ble_eq_true rfl⟩) hP hK hD hN hS rfl hl.1 rfl (Nat.le_of_ble_eq_true rfl) dX5_number_5 (fun H locs hP hD hS => ?_)
  clear eh
  refine lv_iload_n hx hb dX5_number_8 rfl (lv_at hl 2 rfl) ?_
  refine lv_iadd hx hb dX5_number_9 ?_
  obtain ⟨v2, eh, h⟩ := ik_bd h
  refine ik_ld hx hb hK hP 2 0 rfl rfl eh dX5_number_10 ?_
  clear eh
  exact W.iret hx hb hr (fun t ht hW => ⟨⟨_, _, rfl, ⟨Option.some.inj h, rfl⟩, by rw [ht]; exact hP, hD⟩, hS.F ht⟩) hS.2.2 dX5_number_11
abbrev rm_X5_runCell : Room := { frames := 0, cells := 0, slots := 0, locals := 0 }
set_option maxHeartbeats 4000000 in
set_option maxRecDepth 100000 in
theorem c_X5_runCell (l : Launch) (D : va_G) (cI cZ : ClassId) (a : Nat → Nat) (A : Nat → Prop) (p0 : Int32) (p1 : Int32) (σ : ck_S) (rz : Int32) (h : fX5_runCell p0 p1 = some rz) : Met l yX5_runCell wsX5_runCell rm_X5_runCell (va_Pc [.int p0, .int p1] (ik_P D [(cI, .int), (cZ, .boolean)] ck_N (ck_W cI cZ a) A σ)) (ik_Qi D (ck_W cI cZ a) A rz σ) 0 0 A := by
  unfold fX5_runCell at h
  refine Met.ofW (cc := cX5_runCell) (maxL := 2) (ret := (some .int)) (by decide) rfl ?_
  intro p e s m args below meth c s₁ B hml hv
  obtain ⟨hAr, hP, hK, hD, hN⟩ := hv
  have hx := B.exec
  have hb := B.bytes
  have hr := B.returns
  have hts := atoms_spec (ws := wsX5_runCell) B.pre
  have hown : s.vm.findClass RX5 = some m.cls := findClass_of_methodNamed B.named
  have hlocks := B.notSynchronized
  have hS : va_S A s.heap s.heap [] := va_S.rf
  have hl := lv_entry ([.int p0, .int p1]) (n := 2) (Nat.le_of_ble_eq_true rfl)
  rw [show entryFrame m args 2 = entryFrame m ([.int p0, .int p1] : List Value).toArray 2 from by rw [hAr], lg_entry_eq]
  generalize (lg_sl ([.int p0, .int p1]) ++ List.replicate (2 - (lg_sl ([.int p0, .int p1])).length) Slot.unset).toArray = ls at hl ⊢
  have hl : lv_has ls 2 [(0, .int p0), (1, .int p1)] := hl
  refine lv_iload_n hx hb dX5_runCell_0 rfl (lv_at hl 0 rfl) ?_
  refine lv_iconst (v := 1) hx hb dX5_runCell_1 (by decide) ?_
  refine lv_isub hx hb dX5_runCell_2 ?_
  refine lv_bipush (v := 47) hx hb dX5_runCell_3 (by decide) ?_
  refine lv_imul hx hb dX5_runCell_5 ?_
  refine lv_iconst (v := 5) hx hb dX5_runCell_6 (by decide) ?_
  refine lv_iadd hx hb dX5_runCell_7 ?_
  refine lv_iload_n hx hb dX5_runCell_8 rfl (lv_at hl 1 rfl) ?_
  refine lv_iconst (v := 3) hx hb dX5_runCell_9 (by decide) ?_
  refine lv_imul hx hb dX5_runCell_10 ?_
  refine lv_iadd hx hb dX5_runCell_11 ?_
  exact W.iret hx hb hr (fun t ht hW => ⟨⟨_, _, rfl, ⟨Option.some.inj h, rfl⟩, by rw [ht]; exact hP, hD⟩, hS.F ht⟩) hS.2.2 dX5_runCell_12
abbrev rm_X5_runPart : Room := { frames := 1, cells := 0, slots := 0, locals := 21 }
theorem in_X5_runPart_X5 : ∀ w ∈ wsX50, w ∈ wsX5_runPart := by decide +kernel
set_option maxHeartbeats 4000000 in
set_option maxRecDepth 100000 in
theorem c_X5_runPart (l : Launch) (D : va_G) (cI cZ : ClassId) (a : Nat → Nat) (A : Nat → Prop) (p0 : Int32) (p1 : Int32) (p2 : Int32) (σ : ck_S) (rz : Int32) (h : fX5_runPart p0 p1 p2 σ = some rz) : Met l yX5_runPart wsX5_runPart rm_X5_runPart (va_Pc [.ref (a 1), .int p0, .int p1, .int p2] (ik_P D [(cI, .int), (cZ, .boolean)] ck_N (ck_W cI cZ a) A σ)) (ik_Qi D (ck_W cI cZ a) A rz σ) 0 0 A := by
  unfold fX5_runPart at h
  refine Met.ofW (cc := cX5_runPart) (maxL := 4) (ret := (some .int)) (by decide) rfl ?_
  intro p e s m args below meth c s₁ B hml hv
  obtain ⟨hAr, hP, hK, hD, hN⟩ := hv
  have hx := B.exec
  have hb := B.bytes
  have hr := B.returns
  have hts := atoms_spec (ws := wsX5_runPart) B.pre
  have hown : s.vm.findClass RX5 = some m.cls := findClass_of_methodNamed B.named
  have hlocks := B.notSynchronized
  have hS : va_S A s.heap s.heap [] := va_S.rf
  have hl := lv_entry ([.ref (a 1), .int p0, .int p1, .int p2]) (n := 4) (Nat.le_of_ble_eq_true rfl)
  rw [show entryFrame m args 4 = entryFrame m ([.ref (a 1), .int p0, .int p1, .int p2] : List Value).toArray 4 from by rw [hAr], lg_entry_eq]
  generalize (lg_sl ([.ref (a 1), .int p0, .int p1, .int p2]) ++ List.replicate (4 - (lg_sl ([.ref (a 1), .int p0, .int p1, .int p2])).length) Slot.unset).toArray = ls at hl ⊢
  have hl : lv_has ls 4 [(0, .ref (a 1)), (1, .int p0), (2, .int p1), (3, .int p2)] := hl
  refine lv_aload_n hx hb dX5_runPart_0 rfl (lv_at hl 0 rfl) ?_
  refine va_get (D := D) (ci := 3) (v := .ref (a 2)) (C := RX5) (T := TX5) (N := 2) hx hb hts in_X5_runPart_X5 hown hK hP 1 rfl rfl 0 (by decide) (hts (.fieldLink RX5 11 "ImageChecker$Tables" "cells" "[I") (by decide +kernel)) (fun _ h9 => h9) rfl dX5_runPart_1 ?_
  refine lv_iload_n hx hb dX5_runPart_4 rfl (lv_at hl 1 rfl) ?_
  refine lv_iload_n hx hb dX5_runPart_5 rfl (lv_at hl 2 rfl) ?_
  obtain ⟨v1, eh, h⟩ := ik_bd h
  refine ik_Si (As := [.int p0, .int p1]) (rest := [.ref (a 2)]) ⟨hx, hb, hml, hown, hts⟩ (c_X5_runCell l D cI cZ a A p0 p1 σ _ eh) (va_cwS 2 hts gX5_runPart_X5_runCell rfl rfl rfl (by decide +kernel) ⟨Nat.le_of_ble_eq_true rfl, Nat.le_of_ble_eq_true rfl⟩) hP hK hD hN hS rfl hl.1 rfl (Nat.le_of_ble_eq_true rfl) dX5_runPart_6 (fun H locs hP hD hS => ?_)
  clear eh
  refine lv_iload_n hx hb dX5_runPart_9 rfl (lv_at hl 3 rfl) ?_
  refine lv_iadd hx hb dX5_runPart_10 ?_
  obtain ⟨v2, eh, h⟩ := ik_bd h
  refine ik_ld hx hb hK hP 2 0 rfl rfl eh dX5_runPart_11 ?_
  clear eh
  exact W.iret hx hb hr (fun t ht hW => ⟨⟨_, _, rfl, ⟨Option.some.inj h, rfl⟩, by rw [ht]; exact hP, hD⟩, hS.F ht⟩) hS.2.2 dX5_runPart_12
abbrev rm_X0_takeBlocks : Room := { frames := 2, cells := 0, slots := 0, locals := 44 }
set_option maxHeartbeats 4000000 in
set_option maxRecDepth 100000 in
theorem c_X0_takeBlocks (l : Launch) (D : va_G) (cI cZ : ClassId) (a : Nat → Nat) (A : Nat → Prop) (p1 : Int32) (p2 : Int32) (σ : ck_S) (σz : ck_S) (h : fX0_takeBlocks p1 p2 σ = some σz) : Met l yX0_takeBlocks wsX0_takeBlocks rm_X0_takeBlocks (va_Pc [.ref (a 1), .int p1, .int p2] (ik_P D [(cI, .int), (cZ, .boolean)] ck_N (ck_W cI cZ a) A σ)) (ik_Qv D (ck_W cI cZ a) A σz) 0 0 A := by
  unfold fX0_takeBlocks at h
  refine Met.ofW (cc := cX0_takeBlocks) (maxL := 5) (ret := none) (by decide) rfl ?_
  intro p e s m args below meth c s₁ B hml hv
  obtain ⟨hAr, hP, hK, hD, hN⟩ := hv
  have hx := B.exec
  have hb := B.bytes
  have hr := B.returns
  have hts := atoms_spec (ws := wsX0_takeBlocks) B.pre
  have hown : s.vm.findClass RX0 = some m.cls := findClass_of_methodNamed B.named
  have hlocks := B.notSynchronized
  have hS : va_S A s.heap s.heap [] := va_S.rf
  have hl := lv_entry ([.ref (a 1), .int p1, .int p2]) (n := 5) (Nat.le_of_ble_eq_true rfl)
  rw [show entryFrame m args 5 = entryFrame m ([.ref (a 1), .int p1, .int p2] : List Value).toArray 5 from by rw [hAr], lg_entry_eq]
  generalize (lg_sl ([.ref (a 1), .int p1, .int p2]) ++ List.replicate (5 - (lg_sl ([.ref (a 1), .int p1, .int p2])).length) Slot.unset).toArray = ls at hl ⊢
  have hl : lv_has ls 5 [(0, .ref (a 1)), (1, .int p1), (2, .int p2)] := hl
  refine lv_iconst (v := 0) hx hb dX0_takeBlocks_0 (by decide) ?_
  refine lv_istore_n (lv' := [(3, .int 0), (0, .ref (a 1)), (1, .int p1), (2, .int p2)]) hx hb dX0_takeBlocks_1 rfl hl (by decide) rfl (fun ls hl => ?_)
  refine qp2_W (P := fun (x1 : Int32) (σ2 : ck_S) => ∀ (H : Heap) (locs : List Loc) (ls : Array Slot), va_P D vwCl (ck_W cI cZ a σ2) H → va_D A (ck_W cI cZ a σ2) → va_S A s.heap H locs → lv_has ls 5 [(0, .ref (a 1)), (1, .int p1), (2, .int p2), (3, .int x1)] → W p l e (headSpec wsX0_takeBlocks rm_X0_takeBlocks).room s m args below meth c H locs 0 0 (MQ below (ik_Qv D (ck_W cI cZ a) A σz) args s 0 0 A) (F0 m 2 ls [])) ?_ FU _ _ h _ _ _ hP hD hS (lv_sub hl [1, 2, 3, 0] rfl)
  intro rec2 ih2 x1 σ2 h H locs ls hP hD hS hl
  refine lv_iload_n hx hb dX0_takeBlocks_2 rfl (lv_at hl 3 rfl) ?_
  refine lv_iload_n hx hb dX0_takeBlocks_3 rfl (lv_at hl 2 rfl) ?_
  refine lv_icmp_ge (tgt := 46) hx hb dX0_takeBlocks_4 (by decide) (fun c3 => ?_) (fun c3 => ?_)
  · have h := ik_t c3 h
    exact W.vret hx hb hr (fun t ht hW => ⟨⟨_, rfl, Option.some.inj h, by rw [ht]; exact hP, hD⟩, hS.F ht⟩) hS.2.2 dX0_takeBlocks_46
  · have h := ik_f c3 h
    refine lv_iload_n hx hb dX0_takeBlocks_7 rfl (lv_at hl 3 rfl) ?_
    refine lv_bipush (v := 64) hx hb dX0_takeBlocks_8 (by decide) ?_
    refine lv_icmp_ge (tgt := 46) hx hb dX0_takeBlocks_10 (by decide) (fun c4 => ?_) (fun c4 => ?_)
    · have h := ik_t c4 h
      exact W.vret hx hb hr (fun t ht hW => ⟨⟨_, rfl, Option.some.inj h, by rw [ht]; exact hP, hD⟩, hS.F ht⟩) hS.2.2 dX0_takeBlocks_46
    · have h := ik_f c4 h
      refine lv_iload_n hx hb dX0_takeBlocks_13 rfl (lv_at hl 1 rfl) ?_
      refine lv_iload_n hx hb dX0_takeBlocks_14 rfl (lv_at hl 3 rfl) ?_
      refine lv_iadd hx hb dX0_takeBlocks_15 ?_
      refine lv_istore (lv' := [(4, .int (p1 + x1)), (0, .ref (a 1)), (1, .int p1), (2, .int p2), (3, .int x1)]) hx hb dX0_takeBlocks_16 hl (by decide) rfl (fun ls hl => ?_)
      refine lv_iload hx hb dX0_takeBlocks_18 (lv_at hl 0 rfl) ?_
      refine lv_iconst (v := 1) hx hb dX0_takeBlocks_20 (by decide) ?_
      refine lv_icmp_lt (tgt := 40) hx hb dX0_takeBlocks_21 (by decide) (fun c5 => ?_) (fun c5 => ?_)
      · have h := ik_t c5 h
        refine lv_iinc (v := x1 + 1) (lv' := [(3, .int (x1 + 1)), (4, .int (p1 + x1)), (0, .ref (a 1)), (1, .int p1), (2, .int p2)]) hx hb dX0_takeBlocks_40 hl (k := 4) rfl rfl (by decide) rfl (fun ls hl => ?_)
        refine lv_goto (tgt := 2) hx hb dX0_takeBlocks_43 (by decide) ?_
        exact ih2 _ _ h _ _ _ hP hD hS (lv_sub hl [2, 3, 4, 0] rfl)
      · have h := ik_f c5 h
        refine lv_iload hx hb dX0_takeBlocks_24 (lv_at hl 0 rfl) ?_
        refine lv_sipush (v := 200) hx hb dX0_takeBlocks_26 (by decide) ?_
        refine lv_icmp_gt (tgt := 40) hx hb dX0_takeBlocks_29 (by decide) (fun c6 => ?_) (fun c6 => ?_)
        · have h := ik_t c6 h
          refine lv_iinc (v := x1 + 1) (lv' := [(3, .int (x1 + 1)), (4, .int (p1 + x1)), (0, .ref (a 1)), (1, .int p1), (2, .int p2)]) hx hb dX0_takeBlocks_40 hl (k := 4) rfl rfl (by decide) rfl (fun ls hl => ?_)
          refine lv_goto (tgt := 2) hx hb dX0_takeBlocks_43 (by decide) ?_
          exact ih2 _ _ h _ _ _ hP hD hS (lv_sub hl [2, 3, 4, 0] rfl)
        · have h := ik_f c6 h
          refine lv_aload_n hx hb dX0_takeBlocks_32 rfl (lv_at hl 1 rfl) ?_
          refine lv_iconst (v := 0) hx hb dX0_takeBlocks_33 (by decide) ?_
          refine lv_iload hx hb dX0_takeBlocks_34 (lv_at hl 0 rfl) ?_
          refine lv_iconst (v := 1) hx hb dX0_takeBlocks_36 (by decide) ?_
          obtain ⟨σ7, eh, h⟩ := ik_bd h
          refine ik_Vv (As := [.int 0, .int (p1 + x1), .int 1]) (rest := []) ⟨hx, hb, hml, hown, hts⟩ (c_X5_putBit l D cI cZ a A 0 (p1 + x1) 1 σ2 _ eh) (cwV 3 hts gX0_takeBlocks_X5_putBit rfl rfl rfl (by decide +kernel) ⟨Nat.le_of_ble_eq_true rfl, Nat.le_of_ble_eq_true rfl⟩) (va_recv hK hP (ci := 3) (q0 := 1) rfl rfl) hP hK hD hN hS rfl hl.1 rfl (Nat.le_of_ble_eq_true rfl) dX0_takeBlocks_37 (fun H locs hP hD hS => ?_)
          clear eh
          refine lv_iinc (v := x1 + 1) (lv' := [(3, .int (x1 + 1)), (4, .int (p1 + x1)), (0, .ref (a 1)), (1, .int p1), (2, .int p2)]) hx hb dX0_takeBlocks_40 hl (k := 4) rfl rfl (by decide) rfl (fun ls hl => ?_)
          refine lv_goto (tgt := 2) hx hb dX0_takeBlocks_43 (by decide) ?_
          exact ih2 _ _ h _ _ _ hP hD hS (lv_sub hl [2, 3, 4, 0] rfl)
abbrev rm_X5_bitOf : Room := { frames := 1, cells := 0, slots := 0, locals := 21 }
theorem in_X5_bitOf_X5 : ∀ w ∈ wsX50, w ∈ wsX5_bitOf := by decide +kernel
set_option maxHeartbeats 4000000 in
set_option maxRecDepth 100000 in
theorem c_X5_bitOf (l : Launch) (D : va_G) (cI cZ : ClassId) (a : Nat → Nat) (A : Nat → Prop) (p0 : Int32) (p1 : Int32) (σ : ck_S) (rz : Int32) (h : fX5_bitOf p0 p1 σ = some rz) : Met l yX5_bitOf wsX5_bitOf rm_X5_bitOf (va_Pc [.ref (a 1), .int p0, .int p1] (ik_P D [(cI, .int), (cZ, .boolean)] ck_N (ck_W cI cZ a) A σ)) (ik_Qi D (ck_W cI cZ a) A rz σ) 0 0 A := by
  unfold fX5_bitOf at h
  refine Met.ofW (cc := cX5_bitOf) (maxL := 3) (ret := (some .int)) (by decide) rfl ?_
  intro p e s m args below meth c s₁ B hml hv
  obtain ⟨hAr, hP, hK, hD, hN⟩ := hv
  have hx := B.exec
  have hb := B.bytes
  have hr := B.returns
  have hts := atoms_spec (ws := wsX5_bitOf) B.pre
  have hown : s.vm.findClass RX5 = some m.cls := findClass_of_methodNamed B.named
  have hlocks := B.notSynchronized
  have hS : va_S A s.heap s.heap [] := va_S.rf
  have hl := lv_entry ([.ref (a 1), .int p0, .int p1]) (n := 3) (Nat.le_of_ble_eq_true rfl)
  rw [show entryFrame m args 3 = entryFrame m ([.ref (a 1), .int p0, .int p1] : List Value).toArray 3 from by rw [hAr], lg_entry_eq]
  generalize (lg_sl ([.ref (a 1), .int p0, .int p1]) ++ List.replicate (3 - (lg_sl ([.ref (a 1), .int p0, .int p1])).length) Slot.unset).toArray = ls at hl ⊢
  have hl : lv_has ls 3 [(0, .ref (a 1)), (1, .int p0), (2, .int p1)] := hl
  refine lv_aload_n hx hb dX5_bitOf_0 rfl (lv_at hl 0 rfl) ?_
  refine va_get (D := D) (ci := 3) (v := .ref (a 2)) (C := RX5) (T := TX5) (N := 2) hx hb hts in_X5_bitOf_X5 hown hK hP 1 rfl rfl 0 (by decide) (hts (.fieldLink RX5 11 "ImageChecker$Tables" "cells" "[I") (by decide +kernel)) (fun _ h9 => h9) rfl dX5_bitOf_1 ?_
  refine lv_iload_n hx hb dX5_bitOf_4 rfl (lv_at hl 1 rfl) ?_
  refine lv_iload_n hx hb dX5_bitOf_5 rfl (lv_at hl 2 rfl) ?_
  obtain ⟨v1, eh, h⟩ := ik_bd h
  refine ik_Si (As := [.int p0, .int p1]) (rest := [.ref (a 2)]) ⟨hx, hb, hml, hown, hts⟩ (c_X5_bitCell l D cI cZ a A p0 p1 σ _ eh) (va_cwS 2 hts gX5_bitOf_X5_bitCell rfl rfl rfl (by decide +kernel) ⟨Nat.le_of_ble_eq_true rfl, Nat.le_of_ble_eq_true rfl⟩) hP hK hD hN hS rfl hl.1 rfl (Nat.le_of_ble_eq_true rfl) dX5_bitOf_6 (fun H locs hP hD hS => ?_)
  clear eh
  obtain ⟨v2, eh, h⟩ := ik_bd h
  refine ik_ld hx hb hK hP 2 0 rfl rfl eh dX5_bitOf_9 ?_
  clear eh
  exact W.iret hx hb hr (fun t ht hW => ⟨⟨_, _, rfl, ⟨Option.some.inj h, rfl⟩, by rw [ht]; exact hP, hD⟩, hS.F ht⟩) hS.2.2 dX5_bitOf_10
abbrev rm_X0_countFree : Room := { frames := 2, cells := 0, slots := 0, locals := 43 }
set_option maxHeartbeats 4000000 in
set_option maxRecDepth 100000 in
theorem c_X0_countFree (l : Launch) (D : va_G) (cI cZ : ClassId) (a : Nat → Nat) (A : Nat → Prop) (p1 : Int32) (p2 : Int32) (σ : ck_S) (rz : Int32) (h : fX0_countFree p1 p2 σ = some rz) : Met l yX0_countFree wsX0_countFree rm_X0_countFree (va_Pc [.ref (a 1), .int p1, .int p2] (ik_P D [(cI, .int), (cZ, .boolean)] ck_N (ck_W cI cZ a) A σ)) (ik_Qi D (ck_W cI cZ a) A rz σ) 0 0 A := by
  unfold fX0_countFree at h
  refine Met.ofW (cc := cX0_countFree) (maxL := 5) (ret := (some .int)) (by decide) rfl ?_
  intro p e s m args below meth c s₁ B hml hv
  obtain ⟨hAr, hP, hK, hD, hN⟩ := hv
  have hx := B.exec
  have hb := B.bytes
  have hr := B.returns
  have hts := atoms_spec (ws := wsX0_countFree) B.pre
  have hown : s.vm.findClass RX0 = some m.cls := findClass_of_methodNamed B.named
  have hlocks := B.notSynchronized
  have hS : va_S A s.heap s.heap [] := va_S.rf
  have hl := lv_entry ([.ref (a 1), .int p1, .int p2]) (n := 5) (Nat.le_of_ble_eq_true rfl)
  rw [show entryFrame m args 5 = entryFrame m ([.ref (a 1), .int p1, .int p2] : List Value).toArray 5 from by rw [hAr], lg_entry_eq]
  generalize (lg_sl ([.ref (a 1), .int p1, .int p2]) ++ List.replicate (5 - (lg_sl ([.ref (a 1), .int p1, .int p2])).length) Slot.unset).toArray = ls at hl ⊢
  have hl : lv_has ls 5 [(0, .ref (a 1)), (1, .int p1), (2, .int p2)] := hl
  refine lv_iconst (v := 0) hx hb dX0_countFree_0 (by decide) ?_
  refine lv_istore_n (lv' := [(3, .int 0), (0, .ref (a 1)), (1, .int p1), (2, .int p2)]) hx hb dX0_countFree_1 rfl hl (by decide) rfl (fun ls hl => ?_)
  refine lv_iconst (v := 1) hx hb dX0_countFree_2 (by decide) ?_
  refine lv_istore (lv' := [(4, .int 1), (3, .int 0), (0, .ref (a 1)), (1, .int p1), (2, .int p2)]) hx hb dX0_countFree_3 hl (by decide) rfl (fun ls hl => ?_)
  refine qp2_W (P := fun (x1 : Int32) (x2 : Int32) => ∀ (H : Heap) (locs : List Loc) (ls : Array Slot), va_P D vwCl (ck_W cI cZ a σ) H → va_D A (ck_W cI cZ a σ) → va_S A s.heap H locs → lv_has ls 5 [(0, .ref (a 1)), (1, .int p1), (2, .int p2), (3, .int x1), (4, .int x2)] → W p l e (headSpec wsX0_countFree rm_X0_countFree).room s m args below meth c H locs 0 0 (MQ below (ik_Qi D (ck_W cI cZ a) A rz σ) args s 0 0 A) (F0 m 5 ls [])) ?_ FU _ _ h _ _ _ hP hD hS (lv_sub hl [2, 3, 4, 1, 0] rfl)
  intro rec5 ih5 x1 x2 h H locs ls hP hD hS hl
  refine lv_iload hx hb dX0_countFree_5 (lv_at hl 4 rfl) ?_
  refine lv_iload_n hx hb dX0_countFree_7 rfl (lv_at hl 2 rfl) ?_
  refine lv_icmp_gt (tgt := 30) hx hb dX0_countFree_8 (by decide) (fun c3 => ?_) (fun c3 => ?_)
  · have h := ik_t c3 h
    refine lv_iload_n hx hb dX0_countFree_30 rfl (lv_at hl 3 rfl) ?_
    exact W.iret hx hb hr (fun t ht hW => ⟨⟨_, _, rfl, ⟨Option.some.inj h, rfl⟩, by rw [ht]; exact hP, hD⟩, hS.F ht⟩) hS.2.2 dX0_countFree_31
  · have h := ik_f c3 h
    refine lv_aload_n hx hb dX0_countFree_11 rfl (lv_at hl 0 rfl) ?_
    refine lv_iload_n hx hb dX0_countFree_12 rfl (lv_at hl 1 rfl) ?_
    refine lv_iload hx hb dX0_countFree_13 (lv_at hl 4 rfl) ?_
    obtain ⟨v4, eh, h⟩ := ik_bd h
    refine ik_Vi (As := [.int p1, .int x2]) (rest := []) ⟨hx, hb, hml, hown, hts⟩ (c_X5_bitOf l D cI cZ a A p1 x2 σ _ eh) (cwV 2 hts gX0_countFree_X5_bitOf rfl rfl rfl (by decide +kernel) ⟨Nat.le_of_ble_eq_true rfl, Nat.le_of_ble_eq_true rfl⟩) (va_recv hK hP (ci := 3) (q0 := 1) rfl rfl) hP hK hD hN hS rfl hl.1 rfl (Nat.le_of_ble_eq_true rfl) dX0_countFree_15 (fun H locs hP hD hS => ?_)
    clear eh
    refine lv_if_ne (tgt := 24) hx hb dX0_countFree_18 (by decide) (fun c5 => ?_) (fun c5 => ?_)
    · have h := ik_f c5 h
      refine lv_iinc (v := x2 + 1) (lv' := [(4, .int (x2 + 1)), (0, .ref (a 1)), (1, .int p1), (2, .int p2), (3, .int x1)]) hx hb dX0_countFree_24 hl (k := 4) rfl rfl (by decide) rfl (fun ls hl => ?_)
      refine lv_goto (tgt := 5) hx hb dX0_countFree_27 (by decide) ?_
      exact ih5 _ _ h _ _ _ hP hD hS (lv_sub hl [1, 2, 3, 4, 0] rfl)
    · have h := ik_t c5 h
      refine lv_iinc (v := x1 + 1) (lv' := [(3, .int (x1 + 1)), (0, .ref (a 1)), (1, .int p1), (2, .int p2), (4, .int x2)]) hx hb dX0_countFree_21 hl (k := 3) rfl rfl (by decide) rfl (fun ls hl => ?_)
      refine lv_iinc (v := x2 + 1) (lv' := [(4, .int (x2 + 1)), (3, .int (x1 + 1)), (0, .ref (a 1)), (1, .int p1), (2, .int p2)]) hx hb dX0_countFree_24 hl (k := 4) rfl rfl (by decide) rfl (fun ls hl => ?_)
      refine lv_goto (tgt := 5) hx hb dX0_countFree_27 (by decide) ?_
      exact ih5 _ _ h _ _ _ hP hD hS (lv_sub hl [2, 3, 4, 1, 0] rfl)
abbrev rm_X5_putTold : Room := { frames := 0, cells := 0, slots := 0, locals := 0 }
theorem in_X5_putTold_X5 : ∀ w ∈ wsX50, w ∈ wsX5_putTold := by decide +kernel
set_option maxHeartbeats 4000000 in
set_option maxRecDepth 100000 in
theorem c_X5_putTold (l : Launch) (D : va_G) (cI cZ : ClassId) (a : Nat → Nat) (A : Nat → Prop) (p0 : Int32) (p1 : Int32) (σ : ck_S) (σz : ck_S) (h : fX5_putTold p0 p1 σ = some σz) : Met l yX5_putTold wsX5_putTold rm_X5_putTold (va_Pc [.ref (a 1), .int p0, .int p1] (ik_P D [(cI, .int), (cZ, .boolean)] ck_N (ck_W cI cZ a) A σ)) (ik_Qv D (ck_W cI cZ a) A σz) 0 0 A := by
  unfold fX5_putTold at h
  refine Met.ofW (cc := cX5_putTold) (maxL := 3) (ret := none) (by decide) rfl ?_
  intro p e s m args below meth c s₁ B hml hv
  obtain ⟨hAr, hP, hK, hD, hN⟩ := hv
  have hx := B.exec
  have hb := B.bytes
  have hr := B.returns
  have hts := atoms_spec (ws := wsX5_putTold) B.pre
  have hown : s.vm.findClass RX5 = some m.cls := findClass_of_methodNamed B.named
  have hlocks := B.notSynchronized
  have hS : va_S A s.heap s.heap [] := va_S.rf
  have hl := lv_entry ([.ref (a 1), .int p0, .int p1]) (n := 3) (Nat.le_of_ble_eq_true rfl)
  rw [show entryFrame m args 3 = entryFrame m ([.ref (a 1), .int p0, .int p1] : List Value).toArray 3 from by rw [hAr], lg_entry_eq]
  generalize (lg_sl ([.ref (a 1), .int p0, .int p1]) ++ List.replicate (3 - (lg_sl ([.ref (a 1), .int p0, .int p1])).length) Slot.unset).toArray = ls at hl ⊢
  have hl : lv_has ls 3 [(0, .ref (a 1)), (1, .int p0), (2, .int p1)] := hl
  refine lv_aload_n hx hb dX5_putTold_0 rfl (lv_at hl 0 rfl) ?_
  refine va_get (D := D) (ci := 3) (v := .ref (a 2)) (C := RX5) (T := TX5) (N := 2) hx hb hts in_X5_putTold_X5 hown hK hP 1 rfl rfl 0 (by decide) (hts (.fieldLink RX5 11 "ImageChecker$Tables" "cells" "[I") (by decide +kernel)) (fun _ h9 => h9) rfl dX5_putTold_1 ?_
  refine lv_sipush (v := 1352) hx hb dX5_putTold_4 (by decide) ?_
  refine lv_iload_n hx hb dX5_putTold_7 rfl (lv_at hl 1 rfl) ?_
  refine lv_iadd hx hb dX5_putTold_8 ?_
  refine lv_iload_n hx hb dX5_putTold_9 rfl (lv_at hl 2 rfl) ?_
  obtain ⟨σ1, eh, h⟩ := ik_bd h
  refine ik_st (Wd := ck_W cI cZ a) (σ1 := σ1) hx hb hK hP hD hS 2 0 rfl rfl (fun _ => rfl) eh dX5_putTold_10 (fun H locs hP hD hS => ?_)
  clear eh
  exact W.vret hx hb hr (fun t ht hW => ⟨⟨_, rfl, Option.some.inj h, by rw [ht]; exact hP, hD⟩, hS.F ht⟩) hS.2.2 dX5_putTold_11
