abbrev rm_X5_differFromMemory : Room := { frames := 0, cells := 0, slots := 0, locals := 0 }
theorem in_X5_differFromMemory_X5 : ∀ w ∈ wsX50, w ∈ wsX5_differFromMemory := by decide +kernel
set_option maxHeartbeats 4000000 in
set_option maxRecDepth 100000 in
theorem c_X5_differFromMemory (l : Launch) (D : va_G) (cI cZ : ClassId) (a : Nat → Nat) (A : Nat → Prop) (σ : ck_S) (rz : Int32) (h : fX5_differFromMemory σ = some rz) : Met l yX5_differFromMemory wsX5_differFromMemory rm_X5_differFromMemory (va_Pc [.ref (a 1)] (ik_P D [(cI, .int), (cZ, .boolean)] ck_N (ck_W cI cZ a) A σ)) (ik_Qi D (ck_W cI cZ a) A rz σ) 0 0 A := by
  unfold fX5_differFromMemory at h
  refine Met.ofW (cc := cX5_differFromMemory) (maxL := 2) (ret := (some .boolean)) (by decide) rfl ?_
  intro p e s m args below meth c s₁ B hml hv
  obtain ⟨hAr, hP, hK, hD, hN⟩ := hv
  have hx := B.exec
  have hb := B.bytes
  have hr := B.returns
  have hts := atoms_spec (ws := wsX5_differFromMemory) B.pre
  have hown : s.vm.findClass RX5 = some m.cls := findClass_of_methodNamed B.named
  have hlocks := B.notSynchronized
  have hS : va_S A s.heap s.heap [] := va_S.rf
  have hl := lv_entry ([.ref (a 1)]) (n := 2) (Nat.le_of_ble_eq_true rfl)
  rw [show entryFrame m args 2 = entryFrame m ([.ref (a 1)] : List Value).toArray 2 from by rw [hAr], lg_entry_eq]
  generalize (lg_sl ([.ref (a 1)]) ++ List.replicate (2 - (lg_sl ([.ref (a 1)])).length) Slot.unset).toArray = ls at hl ⊢
  have hl : lv_has ls 2 [(0, .ref (a 1))] := hl
  refine lv_iconst (v := 0) hx hb dX5_differFromMemory_0 (by decide) ?_
  refine lv_istore_n (lv' := [(1, .int 0), (0, .ref (a 1))]) hx hb dX5_differFromMemory_1 rfl hl (by decide) rfl (fun ls hl => ?_)
  refine qp1_W (P := fun (x1 : Int32) => ∀ (H : Heap) (locs : List Loc) (ls : Array Slot), va_P D vwCl (ck_W cI cZ a σ) H → va_D A (ck_W cI cZ a σ) → va_S A s.heap H locs → lv_has ls 2 [(0, .ref (a 1)), (1, .int x1)] → W p l e (headSpec wsX5_differFromMemory rm_X5_differFromMemory).room s m args below meth c H locs 0 0 (MQ below (ik_Qi D (ck_W cI cZ a) A rz σ) args s 0 0 A) (F0 m 2 ls [])) ?_ FU _ h _ _ _ hP hD hS (lv_sub hl [1, 0] rfl)
  intro rec2 ih2 x1 h H locs ls hP hD hS hl
  refine lv_iload_n hx hb dX5_differFromMemory_2 rfl (lv_at hl 1 rfl) ?_
  refine lv_sipush (v := 1355) hx hb dX5_differFromMemory_3 (by decide) ?_
  refine lv_icmp_ge (tgt := 32) hx hb dX5_differFromMemory_6 (by decide) (fun c2 => ?_) (fun c2 => ?_)
  · have h := ik_t c2 h
    refine lv_iconst (v := 0) hx hb dX5_differFromMemory_32 (by decide) ?_
    exact W.zret (v := 0) hx hb hr rfl (fun t ht hW => ⟨⟨_, _, rfl, ⟨Option.some.inj h, rfl⟩, by rw [ht]; exact hP, hD⟩, hS.F ht⟩) hS.2.2 dX5_differFromMemory_33
  · have h := ik_f c2 h
    refine lv_aload_n hx hb dX5_differFromMemory_9 rfl (lv_at hl 0 rfl) ?_
    refine va_get (D := D) (ci := 3) (v := .ref (a 2)) (C := RX5) (T := TX5) (N := 2) hx hb hts in_X5_differFromMemory_X5 hown hK hP 1 rfl rfl 0 (by decide) (hts (.fieldLink RX5 11 "ImageChecker$Tables" "cells" "[I") (by decide +kernel)) (fun _ h9 => h9) rfl dX5_differFromMemory_10 ?_
    refine lv_iload_n hx hb dX5_differFromMemory_13 rfl (lv_at hl 1 rfl) ?_
    obtain ⟨v3, eh, h⟩ := ik_bd h
    refine ik_ld hx hb hK hP 2 0 rfl rfl eh dX5_differFromMemory_14 ?_
    clear eh
    refine lv_aload_n hx hb dX5_differFromMemory_15 rfl (lv_at hl 0 rfl) ?_
    refine va_get (D := D) (ci := 3) (v := .ref (a 3)) (C := RX5) (T := TX5) (N := 2) hx hb hts in_X5_differFromMemory_X5 hown hK hP 1 rfl rfl 1 (by decide) (hts (.fieldLink RX5 15 "ImageChecker$Tables" "memory" "[I") (by decide +kernel)) (fun _ h9 => h9) rfl dX5_differFromMemory_16 ?_
    refine lv_iload_n hx hb dX5_differFromMemory_19 rfl (lv_at hl 1 rfl) ?_
    obtain ⟨v4, eh, h⟩ := ik_bd h
    refine ik_ld hx hb hK hP 3 0 rfl rfl eh dX5_differFromMemory_20 ?_
    clear eh
    refine lv_icmp_eq (tgt := 26) hx hb dX5_differFromMemory_21 (by decide) (fun c5 => ?_) (fun c5 => ?_)
    · have h := ik_t c5 h
      refine lv_iinc (v := x1 + 1) (lv' := [(1, .int (x1 + 1)), (0, .ref (a 1))]) hx hb dX5_differFromMemory_26 hl (k := 1) rfl rfl (by decide) rfl (fun ls hl => ?_)
      refine lv_goto (tgt := 2) hx hb dX5_differFromMemory_29 (by decide) ?_
      exact ih2 _ h _ _ _ hP hD hS (lv_sub hl [1, 0] rfl)
    · have h := ik_f c5 h
      refine lv_iconst (v := 1) hx hb dX5_differFromMemory_24 (by decide) ?_
      exact W.zret (v := 1) hx hb hr rfl (fun t ht hW => ⟨⟨_, _, rfl, ⟨Option.some.inj h, rfl⟩, by rw [ht]; exact hP, hD⟩, hS.F ht⟩) hS.2.2 dX5_differFromMemory_25
abbrev rm_X5_toldNumber : Room := { frames := 0, cells := 0, slots := 0, locals := 0 }
theorem in_X5_toldNumber_X5 : ∀ w ∈ wsX50, w ∈ wsX5_toldNumber := by decide +kernel
set_option maxHeartbeats 4000000 in
set_option maxRecDepth 100000 in
theorem c_X5_toldNumber (l : Launch) (D : va_G) (cI cZ : ClassId) (a : Nat → Nat) (A : Nat → Prop) (p0 : Int32) (σ : ck_S) (rz : Int32) (h : fX5_toldNumber p0 σ = some rz) : Met l yX5_toldNumber wsX5_toldNumber rm_X5_toldNumber (va_Pc [.ref (a 1), .int p0] (ik_P D [(cI, .int), (cZ, .boolean)] ck_N (ck_W cI cZ a) A σ)) (ik_Qi D (ck_W cI cZ a) A rz σ) 0 0 A := by
  unfold fX5_toldNumber at h
  refine Met.ofW (cc := cX5_toldNumber) (maxL := 2) (ret := (some .int)) (by decide) rfl ?_
  intro p e s m args below meth c s₁ B hml hv
  obtain ⟨hAr, hP, hK, hD, hN⟩ := hv
  have hx := B.exec
  have hb := B.bytes
  have hr := B.returns
  have hts := atoms_spec (ws := wsX5_toldNumber) B.pre
  have hown : s.vm.findClass RX5 = some m.cls := findClass_of_methodNamed B.named
  have hlocks := B.notSynchronized
  have hS : va_S A s.heap s.heap [] := va_S.rf
  have hl := lv_entry ([.ref (a 1), .int p0]) (n := 2) (Nat.le_of_ble_eq_true rfl)
  rw [show entryFrame m args 2 = entryFrame m ([.ref (a 1), .int p0] : List Value).toArray 2 from by rw [hAr], lg_entry_eq]
  generalize (lg_sl ([.ref (a 1), .int p0]) ++ List.replicate (2 - (lg_sl ([.ref (a 1), .int p0])).length) Slot.unset).toArray = ls at hl ⊢
  have hl : lv_has ls 2 [(0, .ref (a 1)), (1, .int p0)] := hl
  refine lv_aload_n hx hb dX5_toldNumber_0 rfl (lv_at hl 0 rfl) ?_
  refine va_get (D := D) (ci := 3) (v := .ref (a 2)) (C := RX5) (T := TX5) (N := 2) hx hb hts in_X5_toldNumber_X5 hown hK hP 1 rfl rfl 0 (by decide) (hts (.fieldLink RX5 11 "ImageChecker$Tables" "cells" "[I") (by decide +kernel)) (fun _ h9 => h9) rfl dX5_toldNumber_1 ?_
  refine lv_sipush (v := 1352) hx hb dX5_toldNumber_4 (by decide) ?_
  refine lv_iload_n hx hb dX5_toldNumber_7 rfl (lv_at hl 1 rfl) ?_
  refine lv_iadd hx hb dX5_toldNumber_8 ?_
  obtain ⟨v1, eh, h⟩ := ik_bd h
  refine ik_ld hx hb hK hP 2 0 rfl rfl eh dX5_toldNumber_9 ?_
  clear eh
  exact W.iret hx hb hr (fun t ht hW => ⟨⟨_, _, rfl, ⟨Option.some.inj h, rfl⟩, by rw [ht]; exact hP, hD⟩, hS.F ht⟩) hS.2.2 dX5_toldNumber_10
abbrev rm_X6_mayWait : Room := { frames := 3, cells := 0, slots := 0, locals := 68 }
set_option maxHeartbeats 4000000 in
set_option maxRecDepth 100000 in
theorem c_X6_mayWait (l : Launch) (D : va_G) (cI cZ : ClassId) (a : Nat → Nat) (A : Nat → Prop) (p1 : Int32) (σ : ck_S) (rz : Int32) (h : fX6_mayWait p1 σ = some rz) : Met l yX6_mayWait wsX6_mayWait rm_X6_mayWait (va_Pc [.ref (a 1), .int p1] (ik_P D [(cI, .int), (cZ, .boolean)] ck_N (ck_W cI cZ a) A σ)) (ik_Qi D (ck_W cI cZ a) A rz σ) 0 0 A := by
  unfold fX6_mayWait at h
  refine Met.ofW (cc := cX6_mayWait) (maxL := 3) (ret := (some .boolean)) (by decide) rfl ?_
  intro p e s m args below meth c s₁ B hml hv
  obtain ⟨hAr, hP, hK, hD, hN⟩ := hv
  have hx := B.exec
  have hb := B.bytes
  have hr := B.returns
  have hts := atoms_spec (ws := wsX6_mayWait) B.pre
  have hown : s.vm.findClass RX6 = some m.cls := findClass_of_methodNamed B.named
  have hlocks := B.notSynchronized
  have hS : va_S A s.heap s.heap [] := va_S.rf
  have hl := lv_entry ([.ref (a 1), .int p1]) (n := 3) (Nat.le_of_ble_eq_true rfl)
  rw [show entryFrame m args 3 = entryFrame m ([.ref (a 1), .int p1] : List Value).toArray 3 from by rw [hAr], lg_entry_eq]
  generalize (lg_sl ([.ref (a 1), .int p1]) ++ List.replicate (3 - (lg_sl ([.ref (a 1), .int p1])).length) Slot.unset).toArray = ls at hl ⊢
  have hl : lv_has ls 3 [(0, .ref (a 1)), (1, .int p1)] := hl
  refine lv_aload_n hx hb dX6_mayWait_0 rfl (lv_at hl 0 rfl) ?_
  refine lv_iload_n hx hb dX6_mayWait_1 rfl (lv_at hl 1 rfl) ?_
  refine lv_iconst (v := 0) hx hb dX6_mayWait_2 (by decide) ?_
  obtain ⟨v1, eh, h⟩ := ik_bd h
  refine ik_Vi (As := [.int p1, .int 0]) (rest := []) ⟨hx, hb, hml, hown, hts⟩ (c_X5_number l D cI cZ a A p1 0 σ _ eh) (cwV 2 hts gX6_mayWait_X5_number rfl rfl rfl (by decide +kernel) ⟨Nat.le_of_ble_eq_true rfl, Nat.le_of_ble_eq_true rfl⟩) (va_recv hK hP (ci := 3) (q0 := 1) rfl rfl) hP hK hD hN hS rfl hl.1 rfl (Nat.le_of_ble_eq_true rfl) dX6_mayWait_3 (fun H locs hP hD hS => ?_)
  clear eh
  refine lv_istore_n (lv' := [(2, .int v1), (0, .ref (a 1)), (1, .int p1)]) hx hb dX6_mayWait_6 rfl hl (by decide) rfl (fun ls hl => ?_)
  refine lv_iload_n hx hb dX6_mayWait_7 rfl (lv_at hl 0 rfl) ?_
  refine lv_if_eq (tgt := 37) hx hb dX6_mayWait_8 (by decide) (fun c2 => ?_) (fun c2 => ?_)
  · have h := ik_t c2 h
    refine lv_iconst (v := 0) hx hb dX6_mayWait_37 (by decide) ?_
    exact W.zret (v := 0) hx hb hr rfl (fun t ht hW => ⟨⟨_, _, rfl, ⟨Option.some.inj h, rfl⟩, by rw [ht]; exact hP, hD⟩, hS.F ht⟩) hS.2.2 dX6_mayWait_38
  · have h := ik_f c2 h
    refine lv_iload_n hx hb dX6_mayWait_11 rfl (lv_at hl 0 rfl) ?_
    refine lv_iconst (v := 2) hx hb dX6_mayWait_12 (by decide) ?_
    refine lv_icmp_eq (tgt := 37) hx hb dX6_mayWait_13 (by decide) (fun c3 => ?_) (fun c3 => ?_)
    · have h := ik_t c3 h
      refine lv_iconst (v := 0) hx hb dX6_mayWait_37 (by decide) ?_
      exact W.zret (v := 0) hx hb hr rfl (fun t ht hW => ⟨⟨_, _, rfl, ⟨Option.some.inj h, rfl⟩, by rw [ht]; exact hP, hD⟩, hS.F ht⟩) hS.2.2 dX6_mayWait_38
    · have h := ik_f c3 h
      refine lv_aload_n hx hb dX6_mayWait_16 rfl (lv_at hl 1 rfl) ?_
      refine lv_iload_n hx hb dX6_mayWait_17 rfl (lv_at hl 2 rfl) ?_
      refine lv_iconst (v := 2) hx hb dX6_mayWait_18 (by decide) ?_
      obtain ⟨v4, eh, h⟩ := ik_bd h
      refine ik_Vi (As := [.int p1, .int 2]) (rest := []) ⟨hx, hb, hml, hown, hts⟩ (c_X5_number l D cI cZ a A p1 2 σ _ eh) (cwV 2 hts gX6_mayWait_X5_number rfl rfl rfl (by decide +kernel) ⟨Nat.le_of_ble_eq_true rfl, Nat.le_of_ble_eq_true rfl⟩) (va_recv hK hP (ci := 3) (q0 := 1) rfl rfl) hP hK hD hN hS rfl hl.1 rfl (Nat.le_of_ble_eq_true rfl) dX6_mayWait_19 (fun H locs hP hD hS => ?_)
      clear eh
      refine lv_if_ne (tgt := 37) hx hb dX6_mayWait_22 (by decide) (fun c5 => ?_) (fun c5 => ?_)
      · have h := ik_f c5 h
        refine lv_iconst (v := 0) hx hb dX6_mayWait_37 (by decide) ?_
        exact W.zret (v := 0) hx hb hr rfl (fun t ht hW => ⟨⟨_, _, rfl, ⟨Option.some.inj h, rfl⟩, by rw [ht]; exact hP, hD⟩, hS.F ht⟩) hS.2.2 dX6_mayWait_38
      · have h := ik_t c5 h
        refine lv_aload_n hx hb dX6_mayWait_25 rfl (lv_at hl 1 rfl) ?_
        refine lv_iload_n hx hb dX6_mayWait_26 rfl (lv_at hl 2 rfl) ?_
        obtain ⟨v6, eh, h⟩ := ik_bd h
        refine ik_Vi (As := [.int p1]) (rest := []) ⟨hx, hb, hml, hown, hts⟩ (c_X5_countEntriesFor l D cI cZ a A p1 σ _ eh) (cwV 1 hts gX6_mayWait_X5_countEntriesFor rfl rfl rfl (by decide +kernel) ⟨Nat.le_of_ble_eq_true rfl, Nat.le_of_ble_eq_true rfl⟩) (va_recv hK hP (ci := 3) (q0 := 1) rfl rfl) hP hK hD hN hS rfl hl.1 rfl (Nat.le_of_ble_eq_true rfl) dX6_mayWait_27 (fun H locs hP hD hS => ?_)
        clear eh
        refine lv_if_ne (tgt := 37) hx hb dX6_mayWait_30 (by decide) (fun c7 => ?_) (fun c7 => ?_)
        · have h := ik_f c7 h
          refine lv_iconst (v := 0) hx hb dX6_mayWait_37 (by decide) ?_
          exact W.zret (v := 0) hx hb hr rfl (fun t ht hW => ⟨⟨_, _, rfl, ⟨Option.some.inj h, rfl⟩, by rw [ht]; exact hP, hD⟩, hS.F ht⟩) hS.2.2 dX6_mayWait_38
        · have h := ik_t c7 h
          refine lv_iconst (v := 1) hx hb dX6_mayWait_33 (by decide) ?_
          refine lv_goto (tgt := 38) hx hb dX6_mayWait_34 (by decide) ?_
          exact W.zret (v := 1) hx hb hr rfl (fun t ht hW => ⟨⟨_, _, rfl, ⟨Option.some.inj h, rfl⟩, by rw [ht]; exact hP, hD⟩, hS.F ht⟩) hS.2.2 dX6_mayWait_38
abbrev rm_X6_addIfHeld : Room := { frames := 0, cells := 0, slots := 0, locals := 0 }
theorem in_X6_addIfHeld_X6 : ∀ w ∈ wsX60, w ∈ wsX6_addIfHeld := by decide +kernel
set_option maxHeartbeats 4000000 in
set_option maxRecDepth 100000 in
theorem c_X6_addIfHeld (l : Launch) (D : va_G) (cI cZ : ClassId) (a : Nat → Nat) (A : Nat → Prop) (p0 : Int32) (p1 : Int32) (σ : ck_S) (σz : ck_S) (h : fX6_addIfHeld p0 p1 σ = some σz) : Met l yX6_addIfHeld wsX6_addIfHeld rm_X6_addIfHeld (va_Pc [.ref (a 12), .int p0, .int p1] (ik_P D [(cI, .int), (cZ, .boolean)] ck_N (ck_W cI cZ a) A σ)) (ik_Qv D (ck_W cI cZ a) A σz) 0 0 A := by
  unfold fX6_addIfHeld at h
  refine Met.ofW (cc := cX6_addIfHeld) (maxL := 3) (ret := none) (by decide) rfl ?_
  intro p e s m args below meth c s₁ B hml hv
  obtain ⟨hAr, hP, hK, hD, hN⟩ := hv
  have hx := B.exec
  have hb := B.bytes
  have hr := B.returns
  have hts := atoms_spec (ws := wsX6_addIfHeld) B.pre
  have hown : s.vm.findClass RX6 = some m.cls := findClass_of_methodNamed B.named
  have hlocks := B.notSynchronized
  have hS : va_S A s.heap s.heap [] := va_S.rf
  have hl := lv_entry ([.ref (a 12), .int p0, .int p1]) (n := 3) (Nat.le_of_ble_eq_true rfl)
  rw [show entryFrame m args 3 = entryFrame m ([.ref (a 12), .int p0, .int p1] : List Value).toArray 3 from by rw [hAr], lg_entry_eq]
  generalize (lg_sl ([.ref (a 12), .int p0, .int p1]) ++ List.replicate (3 - (lg_sl ([.ref (a 12), .int p0, .int p1])).length) Slot.unset).toArray = ls at hl ⊢
  have hl : lv_has ls 3 [(0, .ref (a 12)), (1, .int p0), (2, .int p1)] := hl
  refine lv_iload_n hx hb dX6_addIfHeld_0 rfl (lv_at hl 2 rfl) ?_
  refine lv_if_eq (tgt := 33) hx hb dX6_addIfHeld_1 (by decide) (fun c1 => ?_) (fun c1 => ?_)
  · have h := ik_t c1 h
    exact W.vret hx hb hr (fun t ht hW => ⟨⟨_, rfl, Option.some.inj h, by rw [ht]; exact hP, hD⟩, hS.F ht⟩) hS.2.2 dX6_addIfHeld_33
  · have h := ik_f c1 h
    refine lv_aload_n hx hb dX6_addIfHeld_4 rfl (lv_at hl 0 rfl) ?_
    refine va_get (D := D) (ci := 4) (v := .int (ck_count σ)) (C := RX6) (T := TX6) (N := 4) hx hb hts in_X6_addIfHeld_X6 hown hK hP 12 rfl rfl 3 (by decide) (hts (.fieldLink RX6 22 "ImageChecker$WaitingList" "count" "I") (by decide +kernel)) (fun _ h9 => h9) rfl dX6_addIfHeld_5 ?_
    refine lv_bipush (v := 24) hx hb dX6_addIfHeld_8 (by decide) ?_
    refine lv_icmp_ge (tgt := 33) hx hb dX6_addIfHeld_10 (by decide) (fun c2 => ?_) (fun c2 => ?_)
    · have h := ik_t c2 h
      exact W.vret hx hb hr (fun t ht hW => ⟨⟨_, rfl, Option.some.inj h, by rw [ht]; exact hP, hD⟩, hS.F ht⟩) hS.2.2 dX6_addIfHeld_33
    · have h := ik_f c2 h
      refine lv_aload_n hx hb dX6_addIfHeld_13 rfl (lv_at hl 0 rfl) ?_
      refine va_get (D := D) (ci := 4) (v := .ref (a 15)) (C := RX6) (T := TX6) (N := 4) hx hb hts in_X6_addIfHeld_X6 hown hK hP 12 rfl rfl 2 (by decide) (hts (.fieldLink RX6 18 "ImageChecker$WaitingList" "waitOn" "[I") (by decide +kernel)) (fun _ h9 => h9) rfl dX6_addIfHeld_14 ?_
      refine lv_aload_n hx hb dX6_addIfHeld_17 rfl (lv_at hl 0 rfl) ?_
      refine va_get (D := D) (ci := 4) (v := .int (ck_count σ)) (C := RX6) (T := TX6) (N := 4) hx hb hts in_X6_addIfHeld_X6 hown hK hP 12 rfl rfl 3 (by decide) (hts (.fieldLink RX6 22 "ImageChecker$WaitingList" "count" "I") (by decide +kernel)) (fun _ h9 => h9) rfl dX6_addIfHeld_18 ?_
      refine lv_iload_n hx hb dX6_addIfHeld_21 rfl (lv_at hl 1 rfl) ?_
      obtain ⟨σ3, eh, h⟩ := ik_bd h
      refine ik_st (Wd := ck_W cI cZ a) (σ1 := σ3) hx hb hK hP hD hS 15 0 rfl rfl (fun _ => rfl) eh dX6_addIfHeld_22 (fun H locs hP hD hS => ?_)
      clear eh
      refine lv_aload_n hx hb dX6_addIfHeld_23 rfl (lv_at hl 0 rfl) ?_
      refine lv_dup hx hb dX6_addIfHeld_24 rfl ?_
      refine va_get (D := D) (ci := 4) (v := .int (ck_count σ3)) (C := RX6) (T := TX6) (N := 4) hx hb hts in_X6_addIfHeld_X6 hown hK hP 12 rfl rfl 3 (by decide) (hts (.fieldLink RX6 22 "ImageChecker$WaitingList" "count" "I") (by decide +kernel)) (fun _ h9 => h9) rfl dX6_addIfHeld_25 ?_
      refine lv_iconst (v := 1) hx hb dX6_addIfHeld_28 (by decide) ?_
      refine lv_iadd hx hb dX6_addIfHeld_29 ?_
      obtain ⟨σ4, eh, h⟩ := ik_bd h
      refine va_put (D := D) (ci := 4) (v := .int ((ck_count σ3) + 1)) (ty := .int) (C := RX6) (T := TX6) (N := 4) hx hb hts in_X6_addIfHeld_X6 tyX6 tyX6_ok nmX6 hown hK hP hD hS 12 rfl rfl 3 (by decide) (hts (.fieldLink RX6 22 "ImageChecker$WaitingList" "count" "I") (by decide +kernel)) (fun _ h9 => h9) rfl (by decide +kernel) rfl rfl (Nat.le_of_ble_eq_true rfl) dX6_addIfHeld_30 (fun H locs hP hD hS => ?_)
      have hP : va_P D vwCl (ck_W cI cZ a σ4) H := by rw [← Option.some.inj eh]; exact hP
      have hD : va_D A (ck_W cI cZ a σ4) := by rw [← Option.some.inj eh]; exact hD
      clear eh
      exact W.vret hx hb hr (fun t ht hW => ⟨⟨_, rfl, Option.some.inj h, by rw [ht]; exact hP, hD⟩, hS.F ht⟩) hS.2.2 dX6_addIfHeld_33
abbrev rm_X6_gather : Room := { frames := 4, cells := 0, slots := 0, locals := 90 }
theorem in_X6_gather_X6 : ∀ w ∈ wsX60, w ∈ wsX6_gather := by decide +kernel
set_option maxHeartbeats 4000000 in
set_option maxRecDepth 100000 in
theorem c_X6_gather (l : Launch) (D : va_G) (cI cZ : ClassId) (a : Nat → Nat) (A : Nat → Prop) (σ : ck_S) (σz : ck_S) (h : fX6_gather σ = some σz) : Met l yX6_gather wsX6_gather rm_X6_gather (va_Pc [.ref (a 12), .ref (a 1), .ref (a 4)] (ik_P D [(cI, .int), (cZ, .boolean)] ck_N (ck_W cI cZ a) A σ)) (ik_Qv D (ck_W cI cZ a) A σz) 0 0 A := by
  unfold fX6_gather at h
  refine Met.ofW (cc := cX6_gather) (maxL := 5) (ret := none) (by decide) rfl ?_
  intro p e s m args below meth c s₁ B hml hv
  obtain ⟨hAr, hP, hK, hD, hN⟩ := hv
  have hx := B.exec
  have hb := B.bytes
  have hr := B.returns
  have hts := atoms_spec (ws := wsX6_gather) B.pre
  have hown : s.vm.findClass RX6 = some m.cls := findClass_of_methodNamed B.named
  have hlocks := B.notSynchronized
  have hS : va_S A s.heap s.heap [] := va_S.rf
  have hl := lv_entry ([.ref (a 12), .ref (a 1), .ref (a 4)]) (n := 5) (Nat.le_of_ble_eq_true rfl)
  rw [show entryFrame m args 5 = entryFrame m ([.ref (a 12), .ref (a 1), .ref (a 4)] : List Value).toArray 5 from by rw [hAr], lg_entry_eq]
  generalize (lg_sl ([.ref (a 12), .ref (a 1), .ref (a 4)]) ++ List.replicate (5 - (lg_sl ([.ref (a 12), .ref (a 1), .ref (a 4)])).length) Slot.unset).toArray = ls at hl ⊢
  have hl : lv_has ls 5 [(0, .ref (a 12)), (1, .ref (a 1)), (2, .ref (a 4))] := hl
  refine lv_aload_n hx hb dX6_gather_0 rfl (lv_at hl 0 rfl) ?_
  refine va_get (D := D) (ci := 4) (v := .ref (a 13)) (C := RX6) (T := TX6) (N := 4) hx hb hts in_X6_gather_X6 hown hK hP 12 rfl rfl 0 (by decide) (hts (.fieldLink RX6 9 "ImageChecker$WaitingList" "cameBefore" "[Z") (by decide +kernel)) (fun _ h9 => h9) rfl dX6_gather_1 ?_
  obtain ⟨σ1, eh, h⟩ := ik_bd h
  refine ik_Nv (As := [.ref (a 13)]) (rest := []) ⟨hx, hb, hml, hown, hts⟩ (c_X7_unmark_13 l D cI cZ a A  σ _ eh) ⟨va_cnB (host := "ImageChecker") 1 hts gX6_gather_X7_unmark_n26 rfl rfl rfl (hN (RX6, 26, yX7_unmark) (by decide)) (hts (.initialized RX7) (by decide +kernel)) (by decide +kernel) ⟨Nat.le_of_ble_eq_true rfl, Nat.le_of_ble_eq_true rfl⟩, hts (.static yX7_unmark) (by decide +kernel), trivial⟩ hP hK hD hN hS rfl hl.1 rfl (Nat.le_of_ble_eq_true rfl) dX6_gather_4 (fun H locs hP hD hS => ?_)
  clear eh
  refine lv_aload_n hx hb dX6_gather_7 rfl (lv_at hl 0 rfl) ?_
  refine va_get (D := D) (ci := 4) (v := .ref (a 14)) (C := RX6) (T := TX6) (N := 4) hx hb hts in_X6_gather_X6 hown hK hP 12 rfl rfl 1 (by decide) (hts (.fieldLink RX6 15 "ImageChecker$WaitingList" "waitsRightly" "[Z") (by decide +kernel)) (fun _ h9 => h9) rfl dX6_gather_8 ?_
  obtain ⟨σ2, eh, h⟩ := ik_bd h
  refine ik_Nv (As := [.ref (a 14)]) (rest := []) ⟨hx, hb, hml, hown, hts⟩ (c_X7_unmark_14 l D cI cZ a A  σ1 _ eh) ⟨va_cnB (host := "ImageChecker") 1 hts gX6_gather_X7_unmark_n26 rfl rfl rfl (hN (RX6, 26, yX7_unmark) (by decide)) (hts (.initialized RX7) (by decide +kernel)) (by decide +kernel) ⟨Nat.le_of_ble_eq_true rfl, Nat.le_of_ble_eq_true rfl⟩, hts (.static yX7_unmark) (by decide +kernel), trivial⟩ hP hK hD hN hS rfl hl.1 rfl (Nat.le_of_ble_eq_true rfl) dX6_gather_11 (fun H locs hP hD hS => ?_)
  clear eh
  refine lv_aload_n hx hb dX6_gather_14 rfl (lv_at hl 0 rfl) ?_
  refine lv_iconst (v := 0) hx hb dX6_gather_15 (by decide) ?_
  obtain ⟨σ3, eh, h⟩ := ik_bd h
  refine va_put (D := D) (ci := 4) (v := .int 0) (ty := .int) (C := RX6) (T := TX6) (N := 4) hx hb hts in_X6_gather_X6 tyX6 tyX6_ok nmX6 hown hK hP hD hS 12 rfl rfl 3 (by decide) (hts (.fieldLink RX6 22 "ImageChecker$WaitingList" "count" "I") (by decide +kernel)) (fun _ h9 => h9) rfl (by decide +kernel) rfl rfl (Nat.le_of_ble_eq_true rfl) dX6_gather_16 (fun H locs hP hD hS => ?_)
  have hP : va_P D vwCl (ck_W cI cZ a σ3) H := by rw [← Option.some.inj eh]; exact hP
  have hD : va_D A (ck_W cI cZ a σ3) := by rw [← Option.some.inj eh]; exact hD
  clear eh
  refine lv_aload_n hx hb dX6_gather_19 rfl (lv_at hl 1 rfl) ?_
  refine lv_iconst (v := 2) hx hb dX6_gather_20 (by decide) ?_
  obtain ⟨v4, eh, h⟩ := ik_bd h
  refine ik_Vi (As := [.int 2]) (rest := []) ⟨hx, hb, hml, hown, hts⟩ (c_X5_toldNumber l D cI cZ a A 2 σ3 _ eh) (cwV 1 hts gX6_gather_X5_toldNumber rfl rfl rfl (by decide +kernel) ⟨Nat.le_of_ble_eq_true rfl, Nat.le_of_ble_eq_true rfl⟩) (va_recv hK hP (ci := 3) (q0 := 1) rfl rfl) hP hK hD hN hS rfl hl.1 rfl (Nat.le_of_ble_eq_true rfl) dX6_gather_21 (fun H locs hP hD hS => ?_)
  clear eh
  refine lv_istore_n (lv' := [(3, .int v4), (0, .ref (a 12)), (1, .ref (a 1)), (2, .ref (a 4))]) hx hb dX6_gather_24 rfl hl (by decide) rfl (fun ls hl => ?_)
  refine lv_iconst (v := 0) hx hb dX6_gather_25 (by decide) ?_
  refine lv_istore (lv' := [(4, .int 0), (3, .int v4), (0, .ref (a 12)), (1, .ref (a 1)), (2, .ref (a 4))]) hx hb dX6_gather_26 hl (by decide) rfl (fun ls hl => ?_)
  refine qp3_W (P := fun (x5 : Int32) (x6 : Int32) (σ7 : ck_S) => ∀ (H : Heap) (locs : List Loc) (ls : Array Slot), va_P D vwCl (ck_W cI cZ a σ7) H → va_D A (ck_W cI cZ a σ7) → va_S A s.heap H locs → lv_has ls 5 [(0, .ref (a 12)), (1, .ref (a 1)), (2, .ref (a 4)), (3, .int x5), (4, .int x6)] → W p l e (headSpec wsX6_gather rm_X6_gather).room s m args below meth c H locs 0 0 (MQ below (ik_Qv D (ck_W cI cZ a) A σz) args s 0 0 A) (F0 m 28 ls [])) ?_ FU _ _ _ h _ _ _ hP hD hS (lv_sub hl [2, 3, 4, 1, 0] rfl)
  intro rec28 ih28 x5 x6 σ7 h H locs ls hP hD hS hl
  refine lv_iload hx hb dX6_gather_28 (lv_at hl 4 rfl) ?_
  refine lv_bipush (v := 24) hx hb dX6_gather_30 (by decide) ?_
  refine lv_icmp_ge (tgt := 94) hx hb dX6_gather_32 (by decide) (fun c8 => ?_) (fun c8 => ?_)
  · have h := ik_t c8 h
    exact W.vret hx hb hr (fun t ht hW => ⟨⟨_, rfl, Option.some.inj h, by rw [ht]; exact hP, hD⟩, hS.F ht⟩) hS.2.2 dX6_gather_94
  · have h := ik_f c8 h
    refine lv_iload_n hx hb dX6_gather_35 rfl (lv_at hl 3 rfl) ?_
    obtain ⟨v9, eh, h⟩ := ik_bd h
    refine ik_Ni (As := [.int x5]) (rest := []) ⟨hx, hb, hml, hown, hts⟩ (c_X7_isFile l D cI cZ a A x5 σ7 _ eh) ⟨va_cnB (host := "ImageChecker") 1 hts gX6_gather_X7_isFile_n36 rfl rfl rfl (hN (RX6, 36, yX7_isFile) (by decide)) (hts (.initialized RX7) (by decide +kernel)) (by decide +kernel) ⟨Nat.le_of_ble_eq_true rfl, Nat.le_of_ble_eq_true rfl⟩, hts (.static yX7_isFile) (by decide +kernel), trivial⟩ hP hK hD hN hS rfl hl.1 rfl (Nat.le_of_ble_eq_true rfl) dX6_gather_36 (fun H locs hP hD hS => ?_)
    clear eh
    refine lv_if_eq (tgt := 94) hx hb dX6_gather_39 (by decide) (fun c10 => ?_) (fun c10 => ?_)
    · have h := ik_t c10 h
      exact W.vret hx hb hr (fun t ht hW => ⟨⟨_, rfl, Option.some.inj h, by rw [ht]; exact hP, hD⟩, hS.F ht⟩) hS.2.2 dX6_gather_94
    · have h := ik_f c10 h
      refine lv_aload_n hx hb dX6_gather_42 rfl (lv_at hl 0 rfl) ?_
      refine va_get (D := D) (ci := 4) (v := .ref (a 13)) (C := RX6) (T := TX6) (N := 4) hx hb hts in_X6_gather_X6 hown hK hP 12 rfl rfl 0 (by decide) (hts (.fieldLink RX6 9 "ImageChecker$WaitingList" "cameBefore" "[Z") (by decide +kernel)) (fun _ h9 => h9) rfl dX6_gather_43 ?_
      refine lv_iload_n hx hb dX6_gather_46 rfl (lv_at hl 3 rfl) ?_
      obtain ⟨v11, eh, h⟩ := ik_bd h
      refine ik_zld hx hb hK hP 13 1 rfl rfl eh dX6_gather_47 ?_
      clear eh
      refine lv_if_ne (tgt := 94) hx hb dX6_gather_48 (by decide) (fun c12 => ?_) (fun c12 => ?_)
      · have h := ik_f c12 h
        exact W.vret hx hb hr (fun t ht hW => ⟨⟨_, rfl, Option.some.inj h, by rw [ht]; exact hP, hD⟩, hS.F ht⟩) hS.2.2 dX6_gather_94
      · have h := ik_t c12 h
        refine lv_aload_n hx hb dX6_gather_51 rfl (lv_at hl 0 rfl) ?_
        refine va_get (D := D) (ci := 4) (v := .ref (a 13)) (C := RX6) (T := TX6) (N := 4) hx hb hts in_X6_gather_X6 hown hK hP 12 rfl rfl 0 (by decide) (hts (.fieldLink RX6 9 "ImageChecker$WaitingList" "cameBefore" "[Z") (by decide +kernel)) (fun _ h9 => h9) rfl dX6_gather_52 ?_
        refine lv_iload_n hx hb dX6_gather_55 rfl (lv_at hl 3 rfl) ?_
        refine lv_iconst (v := 1) hx hb dX6_gather_56 (by decide) ?_
        obtain ⟨σ13, eh, h⟩ := ik_bd h
        refine ik_zst (Wd := ck_W cI cZ a) (σ1 := σ13) hx hb hK hP hD hS 13 1 rfl rfl (fun _ => rfl) eh dX6_gather_57 (fun H locs hP hD hS => ?_)
        clear eh
        refine lv_aload_n hx hb dX6_gather_58 rfl (lv_at hl 1 rfl) ?_
        refine lv_iload_n hx hb dX6_gather_59 rfl (lv_at hl 3 rfl) ?_
        obtain ⟨v14, eh, h⟩ := ik_bd h
        refine ik_Si (As := [.ref (a 1), .int x5]) (rest := []) ⟨hx, hb, hml, hown, hts⟩ (c_X6_mayWait l D cI cZ a A x5 σ13 _ eh) (va_cwS 2 hts gX6_gather_X6_mayWait rfl rfl rfl (by decide +kernel) ⟨Nat.le_of_ble_eq_true rfl, Nat.le_of_ble_eq_true rfl⟩) hP hK hD hN hS rfl hl.1 rfl (Nat.le_of_ble_eq_true rfl) dX6_gather_60 (fun H locs hP hD hS => ?_)
        clear eh
        obtain ⟨j81, ej, h⟩ := jn_ex h
        have hj81 : ∀ (σ15 : ck_S), j81 σ15 = some σz → ∀ (H : Heap) (locs : List Loc) (ls : Array Slot), va_P D vwCl (ck_W cI cZ a σ15) H → va_D A (ck_W cI cZ a σ15) → va_S A s.heap H locs → lv_has ls 5 [(0, .ref (a 12)), (1, .ref (a 1)), (2, .ref (a 4)), (3, .int x5), (4, .int x6)] → W p l e (headSpec wsX6_gather rm_X6_gather).room s m args below meth c H locs 0 0 (MQ below (ik_Qv D (ck_W cI cZ a) A σz) args s 0 0 A) (F0 m 81 ls []) := by
          rw [ej]; clear h
          intro σ15 h H locs ls hP hD hS hl
          refine lv_aload_n hx hb dX6_gather_81 rfl (lv_at hl 1 rfl) ?_
          refine lv_iload_n hx hb dX6_gather_82 rfl (lv_at hl 3 rfl) ?_
          refine lv_iconst (v := 3) hx hb dX6_gather_83 (by decide) ?_
          obtain ⟨v16, eh, h⟩ := ik_bd h
          refine ik_Vi (As := [.int x5, .int 3]) (rest := []) ⟨hx, hb, hml, hown, hts⟩ (c_X5_number l D cI cZ a A x5 3 σ15 _ eh) (cwV 2 hts gX6_gather_X5_number rfl rfl rfl (by decide +kernel) ⟨Nat.le_of_ble_eq_true rfl, Nat.le_of_ble_eq_true rfl⟩) (va_recv hK hP (ci := 3) (q0 := 1) rfl rfl) hP hK hD hN hS rfl hl.1 rfl (Nat.le_of_ble_eq_true rfl) dX6_gather_84 (fun H locs hP hD hS => ?_)
          clear eh
          refine lv_istore_n (lv' := [(3, .int v16), (0, .ref (a 12)), (1, .ref (a 1)), (2, .ref (a 4)), (4, .int x6)]) hx hb dX6_gather_87 rfl hl (by decide) rfl (fun ls hl => ?_)
          refine lv_iinc (v := x6 + 1) (lv' := [(4, .int (x6 + 1)), (3, .int v16), (0, .ref (a 12)), (1, .ref (a 1)), (2, .ref (a 4))]) hx hb dX6_gather_88 hl (k := 4) rfl rfl (by decide) rfl (fun ls hl => ?_)
          refine lv_goto (tgt := 28) hx hb dX6_gather_91 (by decide) ?_
          exact ih28 _ _ _ h _ _ _ hP hD hS (lv_sub hl [2, 3, 4, 1, 0] rfl)
        clear ej
        refine lv_if_eq (tgt := 81) hx hb dX6_gather_63 (by decide) (fun c17 => ?_) (fun c17 => ?_)
        · have h := ik_t c17 h
          exact hj81 _ h _ _ _ hP hD hS (lv_sub hl [0, 1, 2, 3, 4] rfl)
        · have h := ik_f c17 h
          refine lv_aload_n hx hb dX6_gather_66 rfl (lv_at hl 0 rfl) ?_
          refine va_get (D := D) (ci := 4) (v := .ref (a 14)) (C := RX6) (T := TX6) (N := 4) hx hb hts in_X6_gather_X6 hown hK hP 12 rfl rfl 1 (by decide) (hts (.fieldLink RX6 15 "ImageChecker$WaitingList" "waitsRightly" "[Z") (by decide +kernel)) (fun _ h9 => h9) rfl dX6_gather_67 ?_
          refine lv_iload_n hx hb dX6_gather_70 rfl (lv_at hl 3 rfl) ?_
          refine lv_iconst (v := 1) hx hb dX6_gather_71 (by decide) ?_
          obtain ⟨σ18, eh, h⟩ := ik_bd h
          refine ik_zst (Wd := ck_W cI cZ a) (σ1 := σ18) hx hb hK hP hD hS 14 1 rfl rfl (fun _ => rfl) eh dX6_gather_72 (fun H locs hP hD hS => ?_)
          clear eh
          refine lv_aload_n hx hb dX6_gather_73 rfl (lv_at hl 0 rfl) ?_
          refine lv_iload_n hx hb dX6_gather_74 rfl (lv_at hl 3 rfl) ?_
          refine lv_aload_n hx hb dX6_gather_75 rfl (lv_at hl 2 rfl) ?_
          refine lv_iload_n hx hb dX6_gather_76 rfl (lv_at hl 3 rfl) ?_
          obtain ⟨v19, eh, h⟩ := ik_bd h
          refine ik_zld hx hb hK hP 4 1 rfl rfl eh dX6_gather_77 ?_
          clear eh
          obtain ⟨σ20, eh, h⟩ := ik_bd h
          refine ik_Vv (As := [.int x5, .int v19]) (rest := []) ⟨hx, hb, hml, hown, hts⟩ (c_X6_addIfHeld l D cI cZ a A x5 v19 σ18 _ eh) (cwV 2 hts gX6_gather_X6_addIfHeld rfl rfl rfl (by decide +kernel) ⟨Nat.le_of_ble_eq_true rfl, Nat.le_of_ble_eq_true rfl⟩) (va_recv hK hP (ci := 4) (q0 := 12) rfl rfl) hP hK hD hN hS rfl hl.1 rfl (Nat.le_of_ble_eq_true rfl) dX6_gather_78 (fun H locs hP hD hS => ?_)
          clear eh
          exact hj81 _ h _ _ _ hP hD hS (lv_sub hl [0, 1, 2, 3, 4] rfl)
abbrev rm_X7_clear : Room := { frames := 3, cells := 0, slots := 0, locals := 65 }
theorem in_X7_clear_X7 : ∀ w ∈ wsX70, w ∈ wsX7_clear := by decide +kernel
set_option maxHeartbeats 4000000 in
set_option maxRecDepth 100000 in
theorem c_X7_clear (l : Launch) (D : va_G) (cI cZ : ClassId) (a : Nat → Nat) (A : Nat → Prop) (σ : ck_S) (σz : ck_S) (h : fX7_clear σ = some σz) : Met l yX7_clear wsX7_clear rm_X7_clear (va_Pc [.ref (a 0)] (ik_P D [(cI, .int), (cZ, .boolean)] ck_N (ck_W cI cZ a) A σ)) (ik_Qv D (ck_W cI cZ a) A σz) 0 0 A := by
  unfold fX7_clear at h
  refine Met.ofW (cc := cX7_clear) (maxL := 1) (ret := none) (by decide) rfl ?_
  intro p e s m args below meth c s₁ B hml hv
  obtain ⟨hAr, hP, hK, hD, hN⟩ := hv
  have hx := B.exec
  have hb := B.bytes
  have hr := B.returns
  have hts := atoms_spec (ws := wsX7_clear) B.pre
  have hown : s.vm.findClass RX7 = some m.cls := findClass_of_methodNamed B.named
  have hlocks := B.notSynchronized
  have hS : va_S A s.heap s.heap [] := va_S.rf
  have hl := lv_entry ([.ref (a 0)]) (n := 1) (Nat.le_of_ble_eq_true rfl)
  rw [show entryFrame m args 1 = entryFrame m ([.ref (a 0)] : List Value).toArray 1 from by rw [hAr], lg_entry_eq]
  generalize (lg_sl ([.ref (a 0)]) ++ List.replicate (1 - (lg_sl ([.ref (a 0)])).length) Slot.unset).toArray = ls at hl ⊢
  have hl : lv_has ls 1 [(0, .ref (a 0))] := hl
  refine lv_aload_n hx hb dX7_clear_0 rfl (lv_at hl 0 rfl) ?_
  refine va_get (D := D) (ci := 5) (v := .ref (a 1)) (C := RX7) (T := TX7) (N := 6) hx hb hts in_X7_clear_X7 hown hK hP 0 rfl rfl 0 (by decide) (hts (.fieldLink RX7 10 "ImageChecker" "tables" "LImageChecker$Tables;") (by decide +kernel)) (fun _ h9 => h9) rfl dX7_clear_1 ?_
  obtain ⟨σ1, eh, h⟩ := ik_bd h
  refine ik_Vv (As := []) (rest := []) ⟨hx, hb, hml, hown, hts⟩ (c_X5_makeWhole l D cI cZ a A  σ _ eh) (cwV 0 hts gX7_clear_X5_makeWhole rfl rfl rfl (by decide +kernel) ⟨Nat.le_of_ble_eq_true rfl, Nat.le_of_ble_eq_true rfl⟩) (va_recv hK hP (ci := 3) (q0 := 1) rfl rfl) hP hK hD hN hS rfl hl.1 rfl (Nat.le_of_ble_eq_true rfl) dX7_clear_4 (fun H locs hP hD hS => ?_)
  clear eh
  refine lv_aload_n hx hb dX7_clear_7 rfl (lv_at hl 0 rfl) ?_
  refine va_get (D := D) (ci := 5) (v := .ref (a 4)) (C := RX7) (T := TX7) (N := 6) hx hb hts in_X7_clear_X7 hown hK hP 0 rfl rfl 1 (by decide) (hts (.fieldLink RX7 16 "ImageChecker" "held" "[Z") (by decide +kernel)) (fun _ h9 => h9) rfl dX7_clear_8 ?_
  obtain ⟨σ2, eh, h⟩ := ik_bd h
  refine ik_Sv (As := [.ref (a 4)]) (rest := []) ⟨hx, hb, hml, hown, hts⟩ (c_X7_unmark_4 l D cI cZ a A  σ1 _ eh) (va_cwS 1 hts gX7_clear_X7_unmark rfl rfl rfl (by decide +kernel) ⟨Nat.le_of_ble_eq_true rfl, Nat.le_of_ble_eq_true rfl⟩) hP hK hD hN hS rfl hl.1 rfl (Nat.le_of_ble_eq_true rfl) dX7_clear_11 (fun H locs hP hD hS => ?_)
  clear eh
  exact W.vret hx hb hr (fun t ht hW => ⟨⟨_, rfl, Option.some.inj h, by rw [ht]; exact hP, hD⟩, hS.F ht⟩) hS.2.2 dX7_clear_14
abbrev rm_X7_weightIfMended : Room := { frames := 2, cells := 0, slots := 0, locals := 80 }
theorem in_X7_weightIfMended_X7 : ∀ w ∈ wsX70, w ∈ wsX7_weightIfMended := by decide +kernel
set_option maxHeartbeats 4000000 in
set_option maxRecDepth 100000 in
theorem c_X7_weightIfMended (l : Launch) (D : va_G) (cI cZ : ClassId) (a : Nat → Nat) (A : Nat → Prop) (p0 : Int32) (σ : ck_S) (rz : Int32) (σz : ck_S) (h : fX7_weightIfMended p0 σ = some (rz, σz)) : Met l yX7_weightIfMended wsX7_weightIfMended rm_X7_weightIfMended (va_Pc [.ref (a 0), .int p0] (ik_P D [(cI, .int), (cZ, .boolean)] ck_N (ck_W cI cZ a) A σ)) (ik_Qi D (ck_W cI cZ a) A rz σz) 0 0 A := by
  unfold fX7_weightIfMended at h
  refine Met.ofW (cc := cX7_weightIfMended) (maxL := 3) (ret := (some .int)) (by decide) rfl ?_
  intro p e s m args below meth c s₁ B hml hv
  obtain ⟨hAr, hP, hK, hD, hN⟩ := hv
  have hx := B.exec
  have hb := B.bytes
  have hr := B.returns
  have hts := atoms_spec (ws := wsX7_weightIfMended) B.pre
  have hown : s.vm.findClass RX7 = some m.cls := findClass_of_methodNamed B.named
  have hlocks := B.notSynchronized
  have hS : va_S A s.heap s.heap [] := va_S.rf
  have hl := lv_entry ([.ref (a 0), .int p0]) (n := 3) (Nat.le_of_ble_eq_true rfl)
  rw [show entryFrame m args 3 = entryFrame m ([.ref (a 0), .int p0] : List Value).toArray 3 from by rw [hAr], lg_entry_eq]
  generalize (lg_sl ([.ref (a 0), .int p0]) ++ List.replicate (3 - (lg_sl ([.ref (a 0), .int p0])).length) Slot.unset).toArray = ls at hl ⊢
  have hl : lv_has ls 3 [(0, .ref (a 0)), (1, .int p0)] := hl
  refine lv_aload_n hx hb dX7_weightIfMended_0 rfl (lv_at hl 0 rfl) ?_
  refine va_get (D := D) (ci := 5) (v := .ref (a 1)) (C := RX7) (T := TX7) (N := 6) hx hb hts in_X7_weightIfMended_X7 hown hK hP 0 rfl rfl 0 (by decide) (hts (.fieldLink RX7 10 "ImageChecker" "tables" "LImageChecker$Tables;") (by decide +kernel)) (fun _ h9 => h9) rfl dX7_weightIfMended_1 ?_
  obtain ⟨v1, eh, h⟩ := ik_bd h
  refine ik_Vi (As := []) (rest := []) ⟨hx, hb, hml, hown, hts⟩ (c_X5_differFromMemory l D cI cZ a A  σ _ eh) (cwV 0 hts gX7_weightIfMended_X5_differFromMemory rfl rfl rfl (by decide +kernel) ⟨Nat.le_of_ble_eq_true rfl, Nat.le_of_ble_eq_true rfl⟩) (va_recv hK hP (ci := 3) (q0 := 1) rfl rfl) hP hK hD hN hS rfl hl.1 rfl (Nat.le_of_ble_eq_true rfl) dX7_weightIfMended_4 (fun H locs hP hD hS => ?_)
  clear eh
  refine lv_istore_n (lv' := [(2, .int v1), (0, .ref (a 0)), (1, .int p0)]) hx hb dX7_weightIfMended_7 rfl hl (by decide) rfl (fun ls hl => ?_)
  refine lv_aload_n hx hb dX7_weightIfMended_8 rfl (lv_at hl 1 rfl) ?_
  refine va_get (D := D) (ci := 5) (v := .ref (a 1)) (C := RX7) (T := TX7) (N := 6) hx hb hts in_X7_weightIfMended_X7 hown hK hP 0 rfl rfl 0 (by decide) (hts (.fieldLink RX7 10 "ImageChecker" "tables" "LImageChecker$Tables;") (by decide +kernel)) (fun _ h9 => h9) rfl dX7_weightIfMended_9 ?_
  obtain ⟨σ2, eh, h⟩ := ik_bd h
  refine ik_Vv (As := []) (rest := []) ⟨hx, hb, hml, hown, hts⟩ (c_X5_remember l D cI cZ a A  σ _ eh) (cwV 0 hts gX7_weightIfMended_X5_remember rfl rfl rfl (by decide +kernel) ⟨Nat.le_of_ble_eq_true rfl, Nat.le_of_ble_eq_true rfl⟩) (va_recv hK hP (ci := 3) (q0 := 1) rfl rfl) hP hK hD hN hS rfl hl.1 rfl (Nat.le_of_ble_eq_true rfl) dX7_weightIfMended_12 (fun H locs hP hD hS => ?_)
  clear eh
  refine lv_iload_n hx hb dX7_weightIfMended_15 rfl (lv_at hl 0 rfl) ?_
  refine lv_if_eq (tgt := 23) hx hb dX7_weightIfMended_16 (by decide) (fun c3 => ?_) (fun c3 => ?_)
  · have h := ik_t c3 h
    refine lv_iconst (v := 0) hx hb dX7_weightIfMended_23 (by decide) ?_
    exact W.iret hx hb hr (fun t ht hW => ⟨⟨_, _, rfl, ⟨congrArg Prod.fst (Option.some.inj h), congrArg Prod.snd (Option.some.inj h)⟩, by rw [ht]; exact hP, hD⟩, hS.F ht⟩) hS.2.2 dX7_weightIfMended_24
  · have h := ik_f c3 h
    refine lv_iload_n hx hb dX7_weightIfMended_19 rfl (lv_at hl 2 rfl) ?_
    refine lv_goto (tgt := 24) hx hb dX7_weightIfMended_20 (by decide) ?_
    exact W.iret hx hb hr (fun t ht hW => ⟨⟨_, _, rfl, ⟨congrArg Prod.fst (Option.some.inj h), congrArg Prod.snd (Option.some.inj h)⟩, by rw [ht]; exact hP, hD⟩, hS.F ht⟩) hS.2.2 dX7_weightIfMended_24
abbrev rm_X7_check : Room := { frames := 6, cells := 0, slots := 0, locals := 141 }
theorem in_X7_check_X7 : ∀ w ∈ wsX70, w ∈ wsX7_check := by decide +kernel
set_option maxHeartbeats 4000000 in
set_option maxRecDepth 100000 in
theorem c_X7_check (l : Launch) (D : va_G) (cI cZ : ClassId) (a : Nat → Nat) (A : Nat → Prop) (σ : ck_S) (rz : Int32) (σz : ck_S) (h : fX7_check σ = some (rz, σz)) : Met l yX7_check wsX7_check rm_X7_check (va_Pc [.ref (a 0)] (ik_P D [(cI, .int), (cZ, .boolean)] ck_N (ck_W cI cZ a) A σ)) (ik_Qi D (ck_W cI cZ a) A rz σz) 0 0 A := by
  unfold fX7_check at h
  refine Met.ofW (cc := cX7_check) (maxL := 2) (ret := (some .int)) (by decide) rfl ?_
  intro p e s m args below meth c s₁ B hml hv
  obtain ⟨hAr, hP, hK, hD, hN⟩ := hv
  have hx := B.exec
  have hb := B.bytes
  have hr := B.returns
  have hts := atoms_spec (ws := wsX7_check) B.pre
  have hown : s.vm.findClass RX7 = some m.cls := findClass_of_methodNamed B.named
  have hlocks := B.notSynchronized
  have hS : va_S A s.heap s.heap [] := va_S.rf
  have hl := lv_entry ([.ref (a 0)]) (n := 2) (Nat.le_of_ble_eq_true rfl)
  rw [show entryFrame m args 2 = entryFrame m ([.ref (a 0)] : List Value).toArray 2 from by rw [hAr], lg_entry_eq]
  generalize (lg_sl ([.ref (a 0)]) ++ List.replicate (2 - (lg_sl ([.ref (a 0)])).length) Slot.unset).toArray = ls at hl ⊢
  have hl : lv_has ls 2 [(0, .ref (a 0))] := hl
  refine lv_aload_n hx hb dX7_check_0 rfl (lv_at hl 0 rfl) ?_
  refine va_get (D := D) (ci := 5) (v := .ref (a 1)) (C := RX7) (T := TX7) (N := 6) hx hb hts in_X7_check_X7 hown hK hP 0 rfl rfl 0 (by decide) (hts (.fieldLink RX7 10 "ImageChecker" "tables" "LImageChecker$Tables;") (by decide +kernel)) (fun _ h9 => h9) rfl dX7_check_1 ?_
  obtain ⟨σ1, eh, h⟩ := ik_bd h
  refine ik_Vv (As := []) (rest := []) ⟨hx, hb, hml, hown, hts⟩ (c_X5_remember l D cI cZ a A  σ _ eh) (cwV 0 hts gX7_check_X5_remember rfl rfl rfl (by decide +kernel) ⟨Nat.le_of_ble_eq_true rfl, Nat.le_of_ble_eq_true rfl⟩) (va_recv hK hP (ci := 3) (q0 := 1) rfl rfl) hP hK hD hN hS rfl hl.1 rfl (Nat.le_of_ble_eq_true rfl) dX7_check_4 (fun H locs hP hD hS => ?_)
  clear eh
  refine lv_aload_n hx hb dX7_check_7 rfl (lv_at hl 0 rfl) ?_
  refine va_get (D := D) (ci := 5) (v := .ref (a 5)) (C := RX7) (T := TX7) (N := 6) hx hb hts in_X7_check_X7 hown hK hP 0 rfl rfl 2 (by decide) (hts (.fieldLink RX7 23 "ImageChecker" "records" "LImageChecker$RecordPass;") (by decide +kernel)) (fun _ h9 => h9) rfl dX7_check_8 ?_
  refine lv_aload_n hx hb dX7_check_11 rfl (lv_at hl 0 rfl) ?_
  refine va_get (D := D) (ci := 5) (v := .ref (a 1)) (C := RX7) (T := TX7) (N := 6) hx hb hts in_X7_check_X7 hown hK hP 0 rfl rfl 0 (by decide) (hts (.fieldLink RX7 10 "ImageChecker" "tables" "LImageChecker$Tables;") (by decide +kernel)) (fun _ h9 => h9) rfl dX7_check_12 ?_
  obtain ⟨σ2, eh, h⟩ := ik_bd h
  refine ik_Vv (As := [.ref (a 1)]) (rest := []) ⟨hx, hb, hml, hown, hts⟩ (c_X4_mend l D cI cZ a A  σ1 _ eh) (cwV 1 hts gX7_check_X4_mend rfl rfl rfl (by decide +kernel) ⟨Nat.le_of_ble_eq_true rfl, Nat.le_of_ble_eq_true rfl⟩) (va_recv hK hP (ci := 2) (q0 := 5) rfl rfl) hP hK hD hN hS rfl hl.1 rfl (Nat.le_of_ble_eq_true rfl) dX7_check_15 (fun H locs hP hD hS => ?_)
  clear eh
  refine lv_aload_n hx hb dX7_check_18 rfl (lv_at hl 0 rfl) ?_
  refine lv_iconst (v := 1) hx hb dX7_check_19 (by decide) ?_
  obtain ⟨v3, σ4, eh, h⟩ := ik_bd2 h
  refine ik_Vi (As := [.int 1]) (rest := []) ⟨hx, hb, hml, hown, hts⟩ (c_X7_weightIfMended l D cI cZ a A 1 σ2 _ _ eh) (cwV 1 hts gX7_check_X7_weightIfMended rfl rfl rfl (by decide +kernel) ⟨Nat.le_of_ble_eq_true rfl, Nat.le_of_ble_eq_true rfl⟩) (va_recv hK hP (ci := 5) (q0 := 0) rfl rfl) hP hK hD hN hS rfl hl.1 rfl (Nat.le_of_ble_eq_true rfl) dX7_check_20 (fun H locs hP hD hS => ?_)
  clear eh
  refine lv_istore_n (lv' := [(1, .int v3), (0, .ref (a 0))]) hx hb dX7_check_23 rfl hl (by decide) rfl (fun ls hl => ?_)
  refine lv_aload_n hx hb dX7_check_24 rfl (lv_at hl 1 rfl) ?_
  refine va_get (D := D) (ci := 5) (v := .ref (a 7)) (C := RX7) (T := TX7) (N := 6) hx hb hts in_X7_check_X7 hown hK hP 0 rfl rfl 3 (by decide) (hts (.fieldLink RX7 30 "ImageChecker" "folders" "LImageChecker$FolderPass;") (by decide +kernel)) (fun _ h9 => h9) rfl dX7_check_25 ?_
  refine lv_aload_n hx hb dX7_check_28 rfl (lv_at hl 1 rfl) ?_
  refine va_get (D := D) (ci := 5) (v := .ref (a 1)) (C := RX7) (T := TX7) (N := 6) hx hb hts in_X7_check_X7 hown hK hP 0 rfl rfl 0 (by decide) (hts (.fieldLink RX7 10 "ImageChecker" "tables" "LImageChecker$Tables;") (by decide +kernel)) (fun _ h9 => h9) rfl dX7_check_29 ?_
  obtain ⟨σ5, eh, h⟩ := ik_bd h
  refine ik_Vv (As := [.ref (a 1)]) (rest := []) ⟨hx, hb, hml, hown, hts⟩ (c_X1_mend l D cI cZ a A  σ4 _ eh) (cwV 1 hts gX7_check_X1_mend rfl rfl rfl (by decide +kernel) ⟨Nat.le_of_ble_eq_true rfl, Nat.le_of_ble_eq_true rfl⟩) (va_recv hK hP (ci := 0) (q0 := 7) rfl rfl) hP hK hD hN hS rfl hl.1 rfl (Nat.le_of_ble_eq_true rfl) dX7_check_32 (fun H locs hP hD hS => ?_)
  clear eh
  refine lv_iload_n hx hb dX7_check_35 rfl (lv_at hl 0 rfl) ?_
  refine lv_aload_n hx hb dX7_check_36 rfl (lv_at hl 1 rfl) ?_
  refine lv_iconst (v := 2) hx hb dX7_check_37 (by decide) ?_
  obtain ⟨v6, σ7, eh, h⟩ := ik_bd2 h
  refine ik_Vi (As := [.int 2]) (rest := [.int v3]) ⟨hx, hb, hml, hown, hts⟩ (c_X7_weightIfMended l D cI cZ a A 2 σ5 _ _ eh) (cwV 1 hts gX7_check_X7_weightIfMended rfl rfl rfl (by decide +kernel) ⟨Nat.le_of_ble_eq_true rfl, Nat.le_of_ble_eq_true rfl⟩) (va_recv hK hP (ci := 5) (q0 := 0) rfl rfl) hP hK hD hN hS rfl hl.1 rfl (Nat.le_of_ble_eq_true rfl) dX7_check_38 (fun H locs hP hD hS => ?_)
  clear eh
  refine lv_iadd hx hb dX7_check_41 ?_
  refine lv_istore_n (lv' := [(1, .int (v3 + v6)), (0, .ref (a 0))]) hx hb dX7_check_42 rfl hl (by decide) rfl (fun ls hl => ?_)
  refine lv_aload_n hx hb dX7_check_43 rfl (lv_at hl 1 rfl) ?_
  refine va_get (D := D) (ci := 5) (v := .ref (a 12)) (C := RX7) (T := TX7) (N := 6) hx hb hts in_X7_check_X7 hown hK hP 0 rfl rfl 5 (by decide) (hts (.fieldLink RX7 44 "ImageChecker" "waiting" "LImageChecker$WaitingList;") (by decide +kernel)) (fun _ h9 => h9) rfl dX7_check_44 ?_
  refine lv_aload_n hx hb dX7_check_47 rfl (lv_at hl 1 rfl) ?_
  refine va_get (D := D) (ci := 5) (v := .ref (a 1)) (C := RX7) (T := TX7) (N := 6) hx hb hts in_X7_check_X7 hown hK hP 0 rfl rfl 0 (by decide) (hts (.fieldLink RX7 10 "ImageChecker" "tables" "LImageChecker$Tables;") (by decide +kernel)) (fun _ h9 => h9) rfl dX7_check_48 ?_
  refine lv_aload_n hx hb dX7_check_51 rfl (lv_at hl 1 rfl) ?_
  refine va_get (D := D) (ci := 5) (v := .ref (a 4)) (C := RX7) (T := TX7) (N := 6) hx hb hts in_X7_check_X7 hown hK hP 0 rfl rfl 1 (by decide) (hts (.fieldLink RX7 16 "ImageChecker" "held" "[Z") (by decide +kernel)) (fun _ h9 => h9) rfl dX7_check_52 ?_
  obtain ⟨σ8, eh, h⟩ := ik_bd h
  refine ik_Vv (As := [.ref (a 1), .ref (a 4)]) (rest := []) ⟨hx, hb, hml, hown, hts⟩ (c_X6_gather l D cI cZ a A  σ7 _ eh) (cwV 2 hts gX7_check_X6_gather rfl rfl rfl (by decide +kernel) ⟨Nat.le_of_ble_eq_true rfl, Nat.le_of_ble_eq_true rfl⟩) (va_recv hK hP (ci := 4) (q0 := 12) rfl rfl) hP hK hD hN hS rfl hl.1 rfl (Nat.le_of_ble_eq_true rfl) dX7_check_55 (fun H locs hP hD hS => ?_)
  clear eh
  refine lv_aload_n hx hb dX7_check_58 rfl (lv_at hl 1 rfl) ?_
  refine va_get (D := D) (ci := 5) (v := .ref (a 9)) (C := RX7) (T := TX7) (N := 6) hx hb hts in_X7_check_X7 hown hK hP 0 rfl rfl 4 (by decide) (hts (.fieldLink RX7 37 "ImageChecker" "hanging" "LImageChecker$HangingPass;") (by decide +kernel)) (fun _ h9 => h9) rfl dX7_check_59 ?_
  refine lv_aload_n hx hb dX7_check_62 rfl (lv_at hl 1 rfl) ?_
  refine va_get (D := D) (ci := 5) (v := .ref (a 1)) (C := RX7) (T := TX7) (N := 6) hx hb hts in_X7_check_X7 hown hK hP 0 rfl rfl 0 (by decide) (hts (.fieldLink RX7 10 "ImageChecker" "tables" "LImageChecker$Tables;") (by decide +kernel)) (fun _ h9 => h9) rfl dX7_check_63 ?_
  refine lv_aload_n hx hb dX7_check_66 rfl (lv_at hl 1 rfl) ?_
  refine va_get (D := D) (ci := 5) (v := .ref (a 12)) (C := RX7) (T := TX7) (N := 6) hx hb hts in_X7_check_X7 hown hK hP 0 rfl rfl 5 (by decide) (hts (.fieldLink RX7 44 "ImageChecker" "waiting" "LImageChecker$WaitingList;") (by decide +kernel)) (fun _ h9 => h9) rfl dX7_check_67 ?_
  refine lv_aload_n hx hb dX7_check_70 rfl (lv_at hl 1 rfl) ?_
  refine va_get (D := D) (ci := 5) (v := .ref (a 4)) (C := RX7) (T := TX7) (N := 6) hx hb hts in_X7_check_X7 hown hK hP 0 rfl rfl 1 (by decide) (hts (.fieldLink RX7 16 "ImageChecker" "held" "[Z") (by decide +kernel)) (fun _ h9 => h9) rfl dX7_check_71 ?_
  obtain ⟨σ9, eh, h⟩ := ik_bd h
  refine ik_Vv (As := [.ref (a 1), .ref (a 12), .ref (a 4)]) (rest := []) ⟨hx, hb, hml, hown, hts⟩ (c_X2_mend l D cI cZ a A  σ8 _ eh) (cwV 3 hts gX7_check_X2_mend rfl rfl rfl (by decide +kernel) ⟨Nat.le_of_ble_eq_true rfl, Nat.le_of_ble_eq_true rfl⟩) (va_recv hK hP (ci := 1) (q0 := 9) rfl rfl) hP hK hD hN hS rfl hl.1 rfl (Nat.le_of_ble_eq_true rfl) dX7_check_74 (fun H locs hP hD hS => ?_)
  clear eh
  refine lv_iload_n hx hb dX7_check_77 rfl (lv_at hl 0 rfl) ?_
  refine lv_aload_n hx hb dX7_check_78 rfl (lv_at hl 1 rfl) ?_
  refine lv_iconst (v := 4) hx hb dX7_check_79 (by decide) ?_
  obtain ⟨v10, σ11, eh, h⟩ := ik_bd2 h
  refine ik_Vi (As := [.int 4]) (rest := [.int (v3 + v6)]) ⟨hx, hb, hml, hown, hts⟩ (c_X7_weightIfMended l D cI cZ a A 4 σ9 _ _ eh) (cwV 1 hts gX7_check_X7_weightIfMended rfl rfl rfl (by decide +kernel) ⟨Nat.le_of_ble_eq_true rfl, Nat.le_of_ble_eq_true rfl⟩) (va_recv hK hP (ci := 5) (q0 := 0) rfl rfl) hP hK hD hN hS rfl hl.1 rfl (Nat.le_of_ble_eq_true rfl) dX7_check_80 (fun H locs hP hD hS => ?_)
  clear eh
  refine lv_iadd hx hb dX7_check_83 ?_
  refine lv_istore_n (lv' := [(1, .int ((v3 + v6) + v10)), (0, .ref (a 0))]) hx hb dX7_check_84 rfl hl (by decide) rfl (fun ls hl => ?_)
  refine lv_aload_n hx hb dX7_check_85 rfl (lv_at hl 1 rfl) ?_
  refine va_get (D := D) (ci := 5) (v := .ref (a 1)) (C := RX7) (T := TX7) (N := 6) hx hb hts in_X7_check_X7 hown hK hP 0 rfl rfl 0 (by decide) (hts (.fieldLink RX7 10 "ImageChecker" "tables" "LImageChecker$Tables;") (by decide +kernel)) (fun _ h9 => h9) rfl dX7_check_86 ?_
  refine lv_aload_n hx hb dX7_check_89 rfl (lv_at hl 1 rfl) ?_
  refine va_get (D := D) (ci := 5) (v := .ref (a 12)) (C := RX7) (T := TX7) (N := 6) hx hb hts in_X7_check_X7 hown hK hP 0 rfl rfl 5 (by decide) (hts (.fieldLink RX7 44 "ImageChecker" "waiting" "LImageChecker$WaitingList;") (by decide +kernel)) (fun _ h9 => h9) rfl dX7_check_90 ?_
  obtain ⟨σ12, eh, h⟩ := ik_bd h
  refine ik_Sv (As := [.ref (a 1), .ref (a 12)]) (rest := []) ⟨hx, hb, hml, hown, hts⟩ (c_X3_mend l D cI cZ a A  σ11 _ eh) (va_cwS 2 hts gX7_check_X3_mend rfl rfl rfl (by decide +kernel) ⟨Nat.le_of_ble_eq_true rfl, Nat.le_of_ble_eq_true rfl⟩) hP hK hD hN hS rfl hl.1 rfl (Nat.le_of_ble_eq_true rfl) dX7_check_93 (fun H locs hP hD hS => ?_)
  clear eh
  refine lv_iload_n hx hb dX7_check_96 rfl (lv_at hl 0 rfl) ?_
  refine lv_aload_n hx hb dX7_check_97 rfl (lv_at hl 1 rfl) ?_
  refine lv_bipush (v := 8) hx hb dX7_check_98 (by decide) ?_
  obtain ⟨v13, σ14, eh, h⟩ := ik_bd2 h
  refine ik_Vi (As := [.int 8]) (rest := [.int ((v3 + v6) + v10)]) ⟨hx, hb, hml, hown, hts⟩ (c_X7_weightIfMended l D cI cZ a A 8 σ12 _ _ eh) (cwV 1 hts gX7_check_X7_weightIfMended rfl rfl rfl (by decide +kernel) ⟨Nat.le_of_ble_eq_true rfl, Nat.le_of_ble_eq_true rfl⟩) (va_recv hK hP (ci := 5) (q0 := 0) rfl rfl) hP hK hD hN hS rfl hl.1 rfl (Nat.le_of_ble_eq_true rfl) dX7_check_100 (fun H locs hP hD hS => ?_)
  clear eh
  refine lv_iadd hx hb dX7_check_103 ?_
  refine lv_istore_n (lv' := [(1, .int (((v3 + v6) + v10) + v13)), (0, .ref (a 0))]) hx hb dX7_check_104 rfl hl (by decide) rfl (fun ls hl => ?_)
  refine lv_aload_n hx hb dX7_check_105 rfl (lv_at hl 1 rfl) ?_
  refine va_get (D := D) (ci := 5) (v := .ref (a 1)) (C := RX7) (T := TX7) (N := 6) hx hb hts in_X7_check_X7 hown hK hP 0 rfl rfl 0 (by decide) (hts (.fieldLink RX7 10 "ImageChecker" "tables" "LImageChecker$Tables;") (by decide +kernel)) (fun _ h9 => h9) rfl dX7_check_106 ?_
  obtain ⟨σ15, eh, h⟩ := ik_bd h
  refine ik_Sv (As := [.ref (a 1)]) (rest := []) ⟨hx, hb, hml, hown, hts⟩ (c_X0_mend l D cI cZ a A  σ14 _ eh) (va_cwS 1 hts gX7_check_X0_mend rfl rfl rfl (by decide +kernel) ⟨Nat.le_of_ble_eq_true rfl, Nat.le_of_ble_eq_true rfl⟩) hP hK hD hN hS rfl hl.1 rfl (Nat.le_of_ble_eq_true rfl) dX7_check_109 (fun H locs hP hD hS => ?_)
  clear eh
  refine lv_iload_n hx hb dX7_check_112 rfl (lv_at hl 0 rfl) ?_
  refine lv_aload_n hx hb dX7_check_113 rfl (lv_at hl 1 rfl) ?_
  refine lv_bipush (v := 16) hx hb dX7_check_114 (by decide) ?_
  obtain ⟨v16, σ17, eh, h⟩ := ik_bd2 h
  refine ik_Vi (As := [.int 16]) (rest := [.int (((v3 + v6) + v10) + v13)]) ⟨hx, hb, hml, hown, hts⟩ (c_X7_weightIfMended l D cI cZ a A 16 σ15 _ _ eh) (cwV 1 hts gX7_check_X7_weightIfMended rfl rfl rfl (by decide +kernel) ⟨Nat.le_of_ble_eq_true rfl, Nat.le_of_ble_eq_true rfl⟩) (va_recv hK hP (ci := 5) (q0 := 0) rfl rfl) hP hK hD hN hS rfl hl.1 rfl (Nat.le_of_ble_eq_true rfl) dX7_check_116 (fun H locs hP hD hS => ?_)
  clear eh
  refine lv_iadd hx hb dX7_check_119 ?_
  refine lv_istore_n (lv' := [(1, .int ((((v3 + v6) + v10) + v13) + v16)), (0, .ref (a 0))]) hx hb dX7_check_120 rfl hl (by decide) rfl (fun ls hl => ?_)
  refine lv_iload_n hx hb dX7_check_121 rfl (lv_at hl 0 rfl) ?_
  exact W.iret hx hb hr (fun t ht hW => ⟨⟨_, _, rfl, ⟨congrArg Prod.fst (Option.some.inj h), congrArg Prod.snd (Option.some.inj h)⟩, by rw [ht]; exact hP, hD⟩, hS.F ht⟩) hS.2.2 dX7_check_122
