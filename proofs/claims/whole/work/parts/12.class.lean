abbrev rm_X1_isNameRight : Room := { frames := 3, cells := 0, slots := 0, locals := 68 }
set_option maxHeartbeats 4000000 in
set_option maxRecDepth 100000 in
theorem c_X1_isNameRight (l : Launch) (D : va_G) (cI cZ : ClassId) (a : Nat → Nat) (A : Nat → Prop) (p1 : Int32) (p2 : Int32) (p3 : Int32) (σ : ck_S) (rz : Int32) (h : fX1_isNameRight p1 p2 p3 σ = some rz) : Met l yX1_isNameRight wsX1_isNameRight rm_X1_isNameRight (va_Pc [.ref (a 1), .int p1, .int p2, .int p3] (ik_P D [(cI, .int), (cZ, .boolean)] ck_N (ck_W cI cZ a) A σ)) (ik_Qi D (ck_W cI cZ a) A rz σ) 0 0 A := by
  unfold fX1_isNameRight at h
  refine Met.ofW (cc := cX1_isNameRight) (maxL := 4) (ret := (some .boolean)) (by decide) rfl ?_
  intro p e s m args below meth c s₁ B hml hv
  obtain ⟨hAr, hP, hK, hD, hN⟩ := hv
  have hx := B.exec
  have hb := B.bytes
  have hr := B.returns
  have hts := atoms_spec (ws := wsX1_isNameRight) B.pre
  have hown : s.vm.findClass RX1 = some m.cls := findClass_of_methodNamed B.named
  have hlocks := B.notSynchronized
  have hS : va_S A s.heap s.heap [] := va_S.rf
  have hl := lv_entry ([.ref (a 1), .int p1, .int p2, .int p3]) (n := 4) (Nat.le_of_ble_eq_true rfl)
  rw [show entryFrame m args 4 = entryFrame m ([.ref (a 1), .int p1, .int p2, .int p3] : List Value).toArray 4 from by rw [hAr], lg_entry_eq]
  generalize (lg_sl ([.ref (a 1), .int p1, .int p2, .int p3]) ++ List.replicate (4 - (lg_sl ([.ref (a 1), .int p1, .int p2, .int p3])).length) Slot.unset).toArray = ls at hl ⊢
  have hl : lv_has ls 4 [(0, .ref (a 1)), (1, .int p1), (2, .int p2), (3, .int p3)] := hl
  refine lv_iload_n hx hb dX1_isNameRight_0 rfl (lv_at hl 3 rfl) ?_
  refine lv_iconst (v := 1) hx hb dX1_isNameRight_1 (by decide) ?_
  refine lv_icmp_lt (tgt := 27) hx hb dX1_isNameRight_2 (by decide) (fun c1 => ?_) (fun c1 => ?_)
  · have h := ik_t c1 h
    refine lv_iconst (v := 0) hx hb dX1_isNameRight_27 (by decide) ?_
    exact W.zret (v := 0) hx hb hr rfl (fun t ht hW => ⟨⟨_, _, rfl, ⟨Option.some.inj h, rfl⟩, by rw [ht]; exact hP, hD⟩, hS.F ht⟩) hS.2.2 dX1_isNameRight_28
  · have h := ik_f c1 h
    refine lv_iload_n hx hb dX1_isNameRight_5 rfl (lv_at hl 3 rfl) ?_
    refine lv_sipush (v := 255) hx hb dX1_isNameRight_6 (by decide) ?_
    refine lv_icmp_gt (tgt := 27) hx hb dX1_isNameRight_9 (by decide) (fun c2 => ?_) (fun c2 => ?_)
    · have h := ik_t c2 h
      refine lv_iconst (v := 0) hx hb dX1_isNameRight_27 (by decide) ?_
      exact W.zret (v := 0) hx hb hr rfl (fun t ht hW => ⟨⟨_, _, rfl, ⟨Option.some.inj h, rfl⟩, by rw [ht]; exact hP, hD⟩, hS.F ht⟩) hS.2.2 dX1_isNameRight_28
    · have h := ik_f c2 h
      refine lv_aload_n hx hb dX1_isNameRight_12 rfl (lv_at hl 0 rfl) ?_
      refine lv_iload_n hx hb dX1_isNameRight_13 rfl (lv_at hl 1 rfl) ?_
      refine lv_iload_n hx hb dX1_isNameRight_14 rfl (lv_at hl 2 rfl) ?_
      refine lv_iload_n hx hb dX1_isNameRight_15 rfl (lv_at hl 3 rfl) ?_
      obtain ⟨v3, eh, h⟩ := ik_bd h
      refine ik_Vi (As := [.int p1, .int p2, .int p3]) (rest := []) ⟨hx, hb, hml, hown, hts⟩ (c_X5_placeOfName l D cI cZ a A p1 p2 p3 σ _ eh) (cwV 3 hts gX1_isNameRight_X5_placeOfName rfl rfl rfl (by decide +kernel) ⟨Nat.le_of_ble_eq_true rfl, Nat.le_of_ble_eq_true rfl⟩) (va_recv hK hP (ci := 3) (q0 := 1) rfl rfl) hP hK hD hN hS rfl hl.1 rfl (Nat.le_of_ble_eq_true rfl) dX1_isNameRight_16 (fun H locs hP hD hS => ?_)
      clear eh
      refine lv_iload_n hx hb dX1_isNameRight_19 rfl (lv_at hl 2 rfl) ?_
      refine lv_icmp_ne (tgt := 27) hx hb dX1_isNameRight_20 (by decide) (fun c4 => ?_) (fun c4 => ?_)
      · have h := ik_f c4 h
        refine lv_iconst (v := 0) hx hb dX1_isNameRight_27 (by decide) ?_
        exact W.zret (v := 0) hx hb hr rfl (fun t ht hW => ⟨⟨_, _, rfl, ⟨Option.some.inj h, rfl⟩, by rw [ht]; exact hP, hD⟩, hS.F ht⟩) hS.2.2 dX1_isNameRight_28
      · have h := ik_t c4 h
        refine lv_iconst (v := 1) hx hb dX1_isNameRight_23 (by decide) ?_
        refine lv_goto (tgt := 28) hx hb dX1_isNameRight_24 (by decide) ?_
        exact W.zret (v := 1) hx hb hr rfl (fun t ht hW => ⟨⟨_, _, rfl, ⟨Option.some.inj h, rfl⟩, by rw [ht]; exact hP, hD⟩, hS.F ht⟩) hS.2.2 dX1_isNameRight_28
abbrev rm_X7_isFile : Room := { frames := 0, cells := 0, slots := 0, locals := 0 }
set_option maxHeartbeats 4000000 in
set_option maxRecDepth 100000 in
theorem c_X7_isFile (l : Launch) (D : va_G) (cI cZ : ClassId) (a : Nat → Nat) (A : Nat → Prop) (p0 : Int32) (σ : ck_S) (rz : Int32) (h : fX7_isFile p0 = some rz) : Met l yX7_isFile wsX7_isFile rm_X7_isFile (va_Pc [.int p0] (ik_P D [(cI, .int), (cZ, .boolean)] ck_N (ck_W cI cZ a) A σ)) (ik_Qi D (ck_W cI cZ a) A rz σ) 0 0 A := by
  unfold fX7_isFile at h
  refine Met.ofW (cc := cX7_isFile) (maxL := 1) (ret := (some .boolean)) (by decide) rfl ?_
  intro p e s m args below meth c s₁ B hml hv
  obtain ⟨hAr, hP, hK, hD, hN⟩ := hv
  have hx := B.exec
  have hb := B.bytes
  have hr := B.returns
  have hts := atoms_spec (ws := wsX7_isFile) B.pre
  have hown : s.vm.findClass RX7 = some m.cls := findClass_of_methodNamed B.named
  have hlocks := B.notSynchronized
  have hS : va_S A s.heap s.heap [] := va_S.rf
  have hl := lv_entry ([.int p0]) (n := 1) (Nat.le_of_ble_eq_true rfl)
  rw [show entryFrame m args 1 = entryFrame m ([.int p0] : List Value).toArray 1 from by rw [hAr], lg_entry_eq]
  generalize (lg_sl ([.int p0]) ++ List.replicate (1 - (lg_sl ([.int p0])).length) Slot.unset).toArray = ls at hl ⊢
  have hl : lv_has ls 1 [(0, .int p0)] := hl
  refine lv_iload_n hx hb dX7_isFile_0 rfl (lv_at hl 0 rfl) ?_
  refine lv_iconst (v := 1) hx hb dX7_isFile_1 (by decide) ?_
  refine lv_icmp_lt (tgt := 15) hx hb dX7_isFile_2 (by decide) (fun c1 => ?_) (fun c1 => ?_)
  · have h := ik_t c1 h
    refine lv_iconst (v := 0) hx hb dX7_isFile_15 (by decide) ?_
    exact W.zret (v := 0) hx hb hr rfl (fun t ht hW => ⟨⟨_, _, rfl, ⟨Option.some.inj h, rfl⟩, by rw [ht]; exact hP, hD⟩, hS.F ht⟩) hS.2.2 dX7_isFile_16
  · have h := ik_f c1 h
    refine lv_iload_n hx hb dX7_isFile_5 rfl (lv_at hl 0 rfl) ?_
    refine lv_bipush (v := 24) hx hb dX7_isFile_6 (by decide) ?_
    refine lv_icmp_gt (tgt := 15) hx hb dX7_isFile_8 (by decide) (fun c2 => ?_) (fun c2 => ?_)
    · have h := ik_t c2 h
      refine lv_iconst (v := 0) hx hb dX7_isFile_15 (by decide) ?_
      exact W.zret (v := 0) hx hb hr rfl (fun t ht hW => ⟨⟨_, _, rfl, ⟨Option.some.inj h, rfl⟩, by rw [ht]; exact hP, hD⟩, hS.F ht⟩) hS.2.2 dX7_isFile_16
    · have h := ik_f c2 h
      refine lv_iconst (v := 1) hx hb dX7_isFile_11 (by decide) ?_
      refine lv_goto (tgt := 16) hx hb dX7_isFile_12 (by decide) ?_
      exact W.zret (v := 1) hx hb hr rfl (fun t ht hW => ⟨⟨_, _, rfl, ⟨Option.some.inj h, rfl⟩, by rw [ht]; exact hP, hD⟩, hS.F ht⟩) hS.2.2 dX7_isFile_16
abbrev rm_X1_mayLeadTo : Room := { frames := 2, cells := 0, slots := 0, locals := 42 }
theorem in_X1_mayLeadTo_X1 : ∀ w ∈ wsX10, w ∈ wsX1_mayLeadTo := by decide +kernel
set_option maxHeartbeats 4000000 in
set_option maxRecDepth 100000 in
theorem c_X1_mayLeadTo (l : Launch) (D : va_G) (cI cZ : ClassId) (a : Nat → Nat) (A : Nat → Prop) (p1 : Int32) (σ : ck_S) (rz : Int32) (h : fX1_mayLeadTo p1 σ = some rz) : Met l yX1_mayLeadTo wsX1_mayLeadTo rm_X1_mayLeadTo (va_Pc [.ref (a 7), .ref (a 1), .int p1] (ik_P D [(cI, .int), (cZ, .boolean)] ck_N (ck_W cI cZ a) A σ)) (ik_Qi D (ck_W cI cZ a) A rz σ) 0 0 A := by
  unfold fX1_mayLeadTo at h
  refine Met.ofW (cc := cX1_mayLeadTo) (maxL := 4) (ret := (some .boolean)) (by decide) rfl ?_
  intro p e s m args below meth c s₁ B hml hv
  obtain ⟨hAr, hP, hK, hD, hN⟩ := hv
  have hx := B.exec
  have hb := B.bytes
  have hr := B.returns
  have hts := atoms_spec (ws := wsX1_mayLeadTo) B.pre
  have hown : s.vm.findClass RX1 = some m.cls := findClass_of_methodNamed B.named
  have hlocks := B.notSynchronized
  have hS : va_S A s.heap s.heap [] := va_S.rf
  have hl := lv_entry ([.ref (a 7), .ref (a 1), .int p1]) (n := 4) (Nat.le_of_ble_eq_true rfl)
  rw [show entryFrame m args 4 = entryFrame m ([.ref (a 7), .ref (a 1), .int p1] : List Value).toArray 4 from by rw [hAr], lg_entry_eq]
  generalize (lg_sl ([.ref (a 7), .ref (a 1), .int p1]) ++ List.replicate (4 - (lg_sl ([.ref (a 7), .ref (a 1), .int p1])).length) Slot.unset).toArray = ls at hl ⊢
  have hl : lv_has ls 4 [(0, .ref (a 7)), (1, .ref (a 1)), (2, .int p1)] := hl
  refine lv_iload_n hx hb dX1_mayLeadTo_0 rfl (lv_at hl 2 rfl) ?_
  obtain ⟨v1, eh, h⟩ := ik_bd h
  refine ik_Ni (As := [.int p1]) (rest := []) ⟨hx, hb, hml, hown, hts⟩ (c_X7_isFile l D cI cZ a A p1 σ _ eh) ⟨va_cnB (host := "ImageChecker") 1 hts gX1_mayLeadTo_X7_isFile_n52 rfl rfl rfl (hN (RX1, 52, yX7_isFile) (by decide)) (hts (.initialized RX7) (by decide +kernel)) (by decide +kernel) ⟨Nat.le_of_ble_eq_true rfl, Nat.le_of_ble_eq_true rfl⟩, hts (.static yX7_isFile) (by decide +kernel), trivial⟩ hP hK hD hN hS rfl hl.1 rfl (Nat.le_of_ble_eq_true rfl) dX1_mayLeadTo_1 (fun H locs hP hD hS => ?_)
  clear eh
  refine lv_if_eq (tgt := 12) hx hb dX1_mayLeadTo_4 (by decide) (fun c2 => ?_) (fun c2 => ?_)
  · have h := ik_t c2 h
    refine lv_iconst (v := 0) hx hb dX1_mayLeadTo_12 (by decide) ?_
    exact W.zret (v := 0) hx hb hr rfl (fun t ht hW => ⟨⟨_, _, rfl, ⟨Option.some.inj h, rfl⟩, by rw [ht]; exact hP, hD⟩, hS.F ht⟩) hS.2.2 dX1_mayLeadTo_13
  · have h := ik_f c2 h
    refine lv_iload_n hx hb dX1_mayLeadTo_7 rfl (lv_at hl 2 rfl) ?_
    refine lv_iconst (v := 1) hx hb dX1_mayLeadTo_8 (by decide) ?_
    refine lv_icmp_ne (tgt := 14) hx hb dX1_mayLeadTo_9 (by decide) (fun c3 => ?_) (fun c3 => ?_)
    · have h := ik_f c3 h
      refine lv_aload_n hx hb dX1_mayLeadTo_14 rfl (lv_at hl 1 rfl) ?_
      refine lv_iload_n hx hb dX1_mayLeadTo_15 rfl (lv_at hl 2 rfl) ?_
      refine lv_iconst (v := 0) hx hb dX1_mayLeadTo_16 (by decide) ?_
      obtain ⟨v4, eh, h⟩ := ik_bd h
      refine ik_Vi (As := [.int p1, .int 0]) (rest := []) ⟨hx, hb, hml, hown, hts⟩ (c_X5_number l D cI cZ a A p1 0 σ _ eh) (cwV 2 hts gX1_mayLeadTo_X5_number rfl rfl rfl (by decide +kernel) ⟨Nat.le_of_ble_eq_true rfl, Nat.le_of_ble_eq_true rfl⟩) (va_recv hK hP (ci := 3) (q0 := 1) rfl rfl) hP hK hD hN hS rfl hl.1 rfl (Nat.le_of_ble_eq_true rfl) dX1_mayLeadTo_17 (fun H locs hP hD hS => ?_)
      clear eh
      refine lv_istore_n (lv' := [(3, .int v4), (0, .ref (a 7)), (1, .ref (a 1)), (2, .int p1)]) hx hb dX1_mayLeadTo_20 rfl hl (by decide) rfl (fun ls hl => ?_)
      refine lv_iload_n hx hb dX1_mayLeadTo_21 rfl (lv_at hl 0 rfl) ?_
      refine lv_if_eq (tgt := 43) hx hb dX1_mayLeadTo_22 (by decide) (fun c5 => ?_) (fun c5 => ?_)
      · have h := ik_t c5 h
        refine lv_iconst (v := 0) hx hb dX1_mayLeadTo_43 (by decide) ?_
        exact W.zret (v := 0) hx hb hr rfl (fun t ht hW => ⟨⟨_, _, rfl, ⟨Option.some.inj h, rfl⟩, by rw [ht]; exact hP, hD⟩, hS.F ht⟩) hS.2.2 dX1_mayLeadTo_44
      · have h := ik_f c5 h
        refine lv_iload_n hx hb dX1_mayLeadTo_25 rfl (lv_at hl 0 rfl) ?_
        refine lv_iconst (v := 2) hx hb dX1_mayLeadTo_26 (by decide) ?_
        refine lv_icmp_ne (tgt := 39) hx hb dX1_mayLeadTo_27 (by decide) (fun c6 => ?_) (fun c6 => ?_)
        · have h := ik_f c6 h
          refine lv_iconst (v := 1) hx hb dX1_mayLeadTo_39 (by decide) ?_
          refine lv_goto (tgt := 44) hx hb dX1_mayLeadTo_40 (by decide) ?_
          exact W.zret (v := 1) hx hb hr rfl (fun t ht hW => ⟨⟨_, _, rfl, ⟨Option.some.inj h, rfl⟩, by rw [ht]; exact hP, hD⟩, hS.F ht⟩) hS.2.2 dX1_mayLeadTo_44
        · have h := ik_t c6 h
          refine lv_aload_n hx hb dX1_mayLeadTo_30 rfl (lv_at hl 1 rfl) ?_
          refine va_get (D := D) (ci := 0) (v := .ref (a 8)) (C := RX1) (T := TX1) (N := 1) hx hb hts in_X1_mayLeadTo_X1 hown hK hP 7 rfl rfl 0 (by decide) (hts (.fieldLink RX1 9 "ImageChecker$FolderPass" "hasEntry" "[Z") (by decide +kernel)) (fun _ h9 => h9) rfl dX1_mayLeadTo_31 ?_
          refine lv_iload_n hx hb dX1_mayLeadTo_34 rfl (lv_at hl 3 rfl) ?_
          obtain ⟨v7, eh, h⟩ := ik_bd h
          refine ik_zld hx hb hK hP 8 1 rfl rfl eh dX1_mayLeadTo_35 ?_
          clear eh
          refine lv_if_ne (tgt := 43) hx hb dX1_mayLeadTo_36 (by decide) (fun c8 => ?_) (fun c8 => ?_)
          · have h := ik_f c8 h
            refine lv_iconst (v := 0) hx hb dX1_mayLeadTo_43 (by decide) ?_
            exact W.zret (v := 0) hx hb hr rfl (fun t ht hW => ⟨⟨_, _, rfl, ⟨Option.some.inj h, rfl⟩, by rw [ht]; exact hP, hD⟩, hS.F ht⟩) hS.2.2 dX1_mayLeadTo_44
          · have h := ik_t c8 h
            refine lv_iconst (v := 1) hx hb dX1_mayLeadTo_39 (by decide) ?_
            refine lv_goto (tgt := 44) hx hb dX1_mayLeadTo_40 (by decide) ?_
            exact W.zret (v := 1) hx hb hr rfl (fun t ht hW => ⟨⟨_, _, rfl, ⟨Option.some.inj h, rfl⟩, by rw [ht]; exact hP, hD⟩, hS.F ht⟩) hS.2.2 dX1_mayLeadTo_44
    · have h := ik_t c3 h
      refine lv_iconst (v := 0) hx hb dX1_mayLeadTo_12 (by decide) ?_
      exact W.zret (v := 0) hx hb hr rfl (fun t ht hW => ⟨⟨_, _, rfl, ⟨Option.some.inj h, rfl⟩, by rw [ht]; exact hP, hD⟩, hS.F ht⟩) hS.2.2 dX1_mayLeadTo_13
abbrev rm_X5_putEntry : Room := { frames := 1, cells := 0, slots := 0, locals := 21 }
theorem in_X5_putEntry_X5 : ∀ w ∈ wsX50, w ∈ wsX5_putEntry := by decide +kernel
set_option maxHeartbeats 4000000 in
set_option maxRecDepth 100000 in
theorem c_X5_putEntry (l : Launch) (D : va_G) (cI cZ : ClassId) (a : Nat → Nat) (A : Nat → Prop) (p0 : Int32) (p1 : Int32) (p2 : Int32) (p3 : Int32) (p4 : Int32) (σ : ck_S) (σz : ck_S) (h : fX5_putEntry p0 p1 p2 p3 p4 σ = some σz) : Met l yX5_putEntry wsX5_putEntry rm_X5_putEntry (va_Pc [.ref (a 1), .int p0, .int p1, .int p2, .int p3, .int p4] (ik_P D [(cI, .int), (cZ, .boolean)] ck_N (ck_W cI cZ a) A σ)) (ik_Qv D (ck_W cI cZ a) A σz) 0 0 A := by
  unfold fX5_putEntry at h
  refine Met.ofW (cc := cX5_putEntry) (maxL := 7) (ret := none) (by decide) rfl ?_
  intro p e s m args below meth c s₁ B hml hv
  obtain ⟨hAr, hP, hK, hD, hN⟩ := hv
  have hx := B.exec
  have hb := B.bytes
  have hr := B.returns
  have hts := atoms_spec (ws := wsX5_putEntry) B.pre
  have hown : s.vm.findClass RX5 = some m.cls := findClass_of_methodNamed B.named
  have hlocks := B.notSynchronized
  have hS : va_S A s.heap s.heap [] := va_S.rf
  have hl := lv_entry ([.ref (a 1), .int p0, .int p1, .int p2, .int p3, .int p4]) (n := 7) (Nat.le_of_ble_eq_true rfl)
  rw [show entryFrame m args 7 = entryFrame m ([.ref (a 1), .int p0, .int p1, .int p2, .int p3, .int p4] : List Value).toArray 7 from by rw [hAr], lg_entry_eq]
  generalize (lg_sl ([.ref (a 1), .int p0, .int p1, .int p2, .int p3, .int p4]) ++ List.replicate (7 - (lg_sl ([.ref (a 1), .int p0, .int p1, .int p2, .int p3, .int p4])).length) Slot.unset).toArray = ls at hl ⊢
  have hl : lv_has ls 7 [(0, .ref (a 1)), (1, .int p0), (2, .int p1), (3, .int p2), (4, .int p3), (5, .int p4)] := hl
  refine lv_iload_n hx hb dX5_putEntry_0 rfl (lv_at hl 1 rfl) ?_
  refine lv_iload_n hx hb dX5_putEntry_1 rfl (lv_at hl 2 rfl) ?_
  obtain ⟨v1, eh, h⟩ := ik_bd h
  refine ik_Si (As := [.int p0, .int p1]) (rest := []) ⟨hx, hb, hml, hown, hts⟩ (c_X5_entryCell l D cI cZ a A p0 p1 σ _ eh) (va_cwS 2 hts gX5_putEntry_X5_entryCell rfl rfl rfl (by decide +kernel) ⟨Nat.le_of_ble_eq_true rfl, Nat.le_of_ble_eq_true rfl⟩) hP hK hD hN hS rfl hl.1 rfl (Nat.le_of_ble_eq_true rfl) dX5_putEntry_2 (fun H locs hP hD hS => ?_)
  clear eh
  refine lv_istore (lv' := [(6, .int v1), (0, .ref (a 1)), (1, .int p0), (2, .int p1), (3, .int p2), (4, .int p3), (5, .int p4)]) hx hb dX5_putEntry_5 hl (by decide) rfl (fun ls hl => ?_)
  refine lv_aload_n hx hb dX5_putEntry_7 rfl (lv_at hl 1 rfl) ?_
  refine va_get (D := D) (ci := 3) (v := .ref (a 2)) (C := RX5) (T := TX5) (N := 2) hx hb hts in_X5_putEntry_X5 hown hK hP 1 rfl rfl 0 (by decide) (hts (.fieldLink RX5 11 "ImageChecker$Tables" "cells" "[I") (by decide +kernel)) (fun _ h9 => h9) rfl dX5_putEntry_8 ?_
  refine lv_iload hx hb dX5_putEntry_11 (lv_at hl 0 rfl) ?_
  refine lv_iconst (v := 0) hx hb dX5_putEntry_13 (by decide) ?_
  refine lv_iadd hx hb dX5_putEntry_14 ?_
  refine lv_iload_n hx hb dX5_putEntry_15 rfl (lv_at hl 4 rfl) ?_
  obtain ⟨σ2, eh, h⟩ := ik_bd h
  refine ik_st (Wd := ck_W cI cZ a) (σ1 := σ2) hx hb hK hP hD hS 2 0 rfl rfl (fun _ => rfl) eh dX5_putEntry_16 (fun H locs hP hD hS => ?_)
  clear eh
  refine lv_aload_n hx hb dX5_putEntry_17 rfl (lv_at hl 1 rfl) ?_
  refine va_get (D := D) (ci := 3) (v := .ref (a 2)) (C := RX5) (T := TX5) (N := 2) hx hb hts in_X5_putEntry_X5 hown hK hP 1 rfl rfl 0 (by decide) (hts (.fieldLink RX5 11 "ImageChecker$Tables" "cells" "[I") (by decide +kernel)) (fun _ h9 => h9) rfl dX5_putEntry_18 ?_
  refine lv_iload hx hb dX5_putEntry_21 (lv_at hl 0 rfl) ?_
  refine lv_iconst (v := 1) hx hb dX5_putEntry_23 (by decide) ?_
  refine lv_iadd hx hb dX5_putEntry_24 ?_
  refine lv_iload hx hb dX5_putEntry_25 (lv_at hl 5 rfl) ?_
  obtain ⟨σ3, eh, h⟩ := ik_bd h
  refine ik_st (Wd := ck_W cI cZ a) (σ1 := σ3) hx hb hK hP hD hS 2 0 rfl rfl (fun _ => rfl) eh dX5_putEntry_27 (fun H locs hP hD hS => ?_)
  clear eh
  refine lv_aload_n hx hb dX5_putEntry_28 rfl (lv_at hl 1 rfl) ?_
  refine va_get (D := D) (ci := 3) (v := .ref (a 2)) (C := RX5) (T := TX5) (N := 2) hx hb hts in_X5_putEntry_X5 hown hK hP 1 rfl rfl 0 (by decide) (hts (.fieldLink RX5 11 "ImageChecker$Tables" "cells" "[I") (by decide +kernel)) (fun _ h9 => h9) rfl dX5_putEntry_29 ?_
  refine lv_iload hx hb dX5_putEntry_32 (lv_at hl 0 rfl) ?_
  refine lv_iconst (v := 2) hx hb dX5_putEntry_34 (by decide) ?_
  refine lv_iadd hx hb dX5_putEntry_35 ?_
  refine lv_iload hx hb dX5_putEntry_36 (lv_at hl 6 rfl) ?_
  obtain ⟨σ4, eh, h⟩ := ik_bd h
  refine ik_st (Wd := ck_W cI cZ a) (σ1 := σ4) hx hb hK hP hD hS 2 0 rfl rfl (fun _ => rfl) eh dX5_putEntry_38 (fun H locs hP hD hS => ?_)
  clear eh
  exact W.vret hx hb hr (fun t ht hW => ⟨⟨_, rfl, Option.some.inj h, by rw [ht]; exact hP, hD⟩, hS.F ht⟩) hS.2.2 dX5_putEntry_39
abbrev rm_X5_wipeCells : Room := { frames := 0, cells := 0, slots := 0, locals := 0 }
theorem in_X5_wipeCells_X5 : ∀ w ∈ wsX50, w ∈ wsX5_wipeCells := by decide +kernel
set_option maxHeartbeats 4000000 in
set_option maxRecDepth 100000 in
theorem c_X5_wipeCells (l : Launch) (D : va_G) (cI cZ : ClassId) (a : Nat → Nat) (A : Nat → Prop) (p0 : Int32) (p1 : Int32) (σ : ck_S) (σz : ck_S) (h : fX5_wipeCells p0 p1 σ = some σz) : Met l yX5_wipeCells wsX5_wipeCells rm_X5_wipeCells (va_Pc [.ref (a 1), .int p0, .int p1] (ik_P D [(cI, .int), (cZ, .boolean)] ck_N (ck_W cI cZ a) A σ)) (ik_Qv D (ck_W cI cZ a) A σz) 0 0 A := by
  unfold fX5_wipeCells at h
  refine Met.ofW (cc := cX5_wipeCells) (maxL := 4) (ret := none) (by decide) rfl ?_
  intro p e s m args below meth c s₁ B hml hv
  obtain ⟨hAr, hP, hK, hD, hN⟩ := hv
  have hx := B.exec
  have hb := B.bytes
  have hr := B.returns
  have hts := atoms_spec (ws := wsX5_wipeCells) B.pre
  have hown : s.vm.findClass RX5 = some m.cls := findClass_of_methodNamed B.named
  have hlocks := B.notSynchronized
  have hS : va_S A s.heap s.heap [] := va_S.rf
  have hl := lv_entry ([.ref (a 1), .int p0, .int p1]) (n := 4) (Nat.le_of_ble_eq_true rfl)
  rw [show entryFrame m args 4 = entryFrame m ([.ref (a 1), .int p0, .int p1] : List Value).toArray 4 from by rw [hAr], lg_entry_eq]
  generalize (lg_sl ([.ref (a 1), .int p0, .int p1]) ++ List.replicate (4 - (lg_sl ([.ref (a 1), .int p0, .int p1])).length) Slot.unset).toArray = ls at hl ⊢
  have hl : lv_has ls 4 [(0, .ref (a 1)), (1, .int p0), (2, .int p1)] := hl
  refine lv_iload_n hx hb dX5_wipeCells_0 rfl (lv_at hl 1 rfl) ?_
  refine lv_istore_n (lv' := [(3, .int p0), (0, .ref (a 1)), (1, .int p0), (2, .int p1)]) hx hb dX5_wipeCells_1 rfl hl (by decide) rfl (fun ls hl => ?_)
  refine qp2_W (P := fun (x1 : Int32) (σ2 : ck_S) => ∀ (H : Heap) (locs : List Loc) (ls : Array Slot), va_P D vwCl (ck_W cI cZ a σ2) H → va_D A (ck_W cI cZ a σ2) → va_S A s.heap H locs → lv_has ls 4 [(0, .ref (a 1)), (2, .int p1), (3, .int x1)] → W p l e (headSpec wsX5_wipeCells rm_X5_wipeCells).room s m args below meth c H locs 0 0 (MQ below (ik_Qv D (ck_W cI cZ a) A σz) args s 0 0 A) (F0 m 2 ls [])) ?_ FU _ _ h _ _ _ hP hD hS (lv_sub hl [1, 3, 0] rfl)
  intro rec2 ih2 x1 σ2 h H locs ls hP hD hS hl
  refine lv_iload_n hx hb dX5_wipeCells_2 rfl (lv_at hl 2 rfl) ?_
  refine lv_iload_n hx hb dX5_wipeCells_3 rfl (lv_at hl 1 rfl) ?_
  refine lv_icmp_ge (tgt := 20) hx hb dX5_wipeCells_4 (by decide) (fun c3 => ?_) (fun c3 => ?_)
  · have h := ik_t c3 h
    exact W.vret hx hb hr (fun t ht hW => ⟨⟨_, rfl, Option.some.inj h, by rw [ht]; exact hP, hD⟩, hS.F ht⟩) hS.2.2 dX5_wipeCells_20
  · have h := ik_f c3 h
    refine lv_aload_n hx hb dX5_wipeCells_7 rfl (lv_at hl 0 rfl) ?_
    refine va_get (D := D) (ci := 3) (v := .ref (a 2)) (C := RX5) (T := TX5) (N := 2) hx hb hts in_X5_wipeCells_X5 hown hK hP 1 rfl rfl 0 (by decide) (hts (.fieldLink RX5 11 "ImageChecker$Tables" "cells" "[I") (by decide +kernel)) (fun _ h9 => h9) rfl dX5_wipeCells_8 ?_
    refine lv_iload_n hx hb dX5_wipeCells_11 rfl (lv_at hl 2 rfl) ?_
    refine lv_iconst (v := 0) hx hb dX5_wipeCells_12 (by decide) ?_
    obtain ⟨σ4, eh, h⟩ := ik_bd h
    refine ik_st (Wd := ck_W cI cZ a) (σ1 := σ4) hx hb hK hP hD hS 2 0 rfl rfl (fun _ => rfl) eh dX5_wipeCells_13 (fun H locs hP hD hS => ?_)
    clear eh
    refine lv_iinc (v := x1 + 1) (lv' := [(3, .int (x1 + 1)), (0, .ref (a 1)), (2, .int p1)]) hx hb dX5_wipeCells_14 hl (k := 2) rfl rfl (by decide) rfl (fun ls hl => ?_)
    refine lv_goto (tgt := 2) hx hb dX5_wipeCells_17 (by decide) ?_
    exact ih2 _ _ h _ _ _ hP hD hS (lv_sub hl [1, 2, 0] rfl)
abbrev rm_X5_wipeEntriesFrom : Room := { frames := 1, cells := 0, slots := 0, locals := 23 }
set_option maxHeartbeats 4000000 in
set_option maxRecDepth 100000 in
theorem c_X5_wipeEntriesFrom (l : Launch) (D : va_G) (cI cZ : ClassId) (a : Nat → Nat) (A : Nat → Prop) (p0 : Int32) (p1 : Int32) (σ : ck_S) (σz : ck_S) (h : fX5_wipeEntriesFrom p0 p1 σ = some σz) : Met l yX5_wipeEntriesFrom wsX5_wipeEntriesFrom rm_X5_wipeEntriesFrom (va_Pc [.ref (a 1), .int p0, .int p1] (ik_P D [(cI, .int), (cZ, .boolean)] ck_N (ck_W cI cZ a) A σ)) (ik_Qv D (ck_W cI cZ a) A σz) 0 0 A := by
  unfold fX5_wipeEntriesFrom at h
  refine Met.ofW (cc := cX5_wipeEntriesFrom) (maxL := 3) (ret := none) (by decide) rfl ?_
  intro p e s m args below meth c s₁ B hml hv
  obtain ⟨hAr, hP, hK, hD, hN⟩ := hv
  have hx := B.exec
  have hb := B.bytes
  have hr := B.returns
  have hts := atoms_spec (ws := wsX5_wipeEntriesFrom) B.pre
  have hown : s.vm.findClass RX5 = some m.cls := findClass_of_methodNamed B.named
  have hlocks := B.notSynchronized
  have hS : va_S A s.heap s.heap [] := va_S.rf
  have hl := lv_entry ([.ref (a 1), .int p0, .int p1]) (n := 3) (Nat.le_of_ble_eq_true rfl)
  rw [show entryFrame m args 3 = entryFrame m ([.ref (a 1), .int p0, .int p1] : List Value).toArray 3 from by rw [hAr], lg_entry_eq]
  generalize (lg_sl ([.ref (a 1), .int p0, .int p1]) ++ List.replicate (3 - (lg_sl ([.ref (a 1), .int p0, .int p1])).length) Slot.unset).toArray = ls at hl ⊢
  have hl : lv_has ls 3 [(0, .ref (a 1)), (1, .int p0), (2, .int p1)] := hl
  refine lv_aload_n hx hb dX5_wipeEntriesFrom_0 rfl (lv_at hl 0 rfl) ?_
  refine lv_iload_n hx hb dX5_wipeEntriesFrom_1 rfl (lv_at hl 1 rfl) ?_
  refine lv_iload_n hx hb dX5_wipeEntriesFrom_2 rfl (lv_at hl 2 rfl) ?_
  obtain ⟨v1, eh, h⟩ := ik_bd h
  refine ik_Si (As := [.int p0, .int p1]) (rest := [.ref (a 1)]) ⟨hx, hb, hml, hown, hts⟩ (c_X5_entryCell l D cI cZ a A p0 p1 σ _ eh) (va_cwS 2 hts gX5_wipeEntriesFrom_X5_entryCell rfl rfl rfl (by decide +kernel) ⟨Nat.le_of_ble_eq_true rfl, Nat.le_of_ble_eq_true rfl⟩) hP hK hD hN hS rfl hl.1 rfl (Nat.le_of_ble_eq_true rfl) dX5_wipeEntriesFrom_3 (fun H locs hP hD hS => ?_)
  clear eh
  refine lv_iload_n hx hb dX5_wipeEntriesFrom_6 rfl (lv_at hl 1 rfl) ?_
  refine lv_bipush (v := 8) hx hb dX5_wipeEntriesFrom_7 (by decide) ?_
  obtain ⟨v2, eh, h⟩ := ik_bd h
  refine ik_Si (As := [.int p0, .int 8]) (rest := [.int v1, .ref (a 1)]) ⟨hx, hb, hml, hown, hts⟩ (c_X5_entryCell l D cI cZ a A p0 8 σ _ eh) (va_cwS 2 hts gX5_wipeEntriesFrom_X5_entryCell rfl rfl rfl (by decide +kernel) ⟨Nat.le_of_ble_eq_true rfl, Nat.le_of_ble_eq_true rfl⟩) hP hK hD hN hS rfl hl.1 rfl (Nat.le_of_ble_eq_true rfl) dX5_wipeEntriesFrom_9 (fun H locs hP hD hS => ?_)
  clear eh
  obtain ⟨σ3, eh, h⟩ := ik_bd h
  refine ik_Vv (As := [.int v1, .int v2]) (rest := []) ⟨hx, hb, hml, hown, hts⟩ (c_X5_wipeCells l D cI cZ a A v1 v2 σ _ eh) (cwV 2 hts gX5_wipeEntriesFrom_X5_wipeCells rfl rfl rfl (by decide +kernel) ⟨Nat.le_of_ble_eq_true rfl, Nat.le_of_ble_eq_true rfl⟩) (va_recv hK hP (ci := 3) (q0 := 1) rfl rfl) hP hK hD hN hS rfl hl.1 rfl (Nat.le_of_ble_eq_true rfl) dX5_wipeEntriesFrom_12 (fun H locs hP hD hS => ?_)
  clear eh
  exact W.vret hx hb hr (fun t ht hW => ⟨⟨_, rfl, Option.some.inj h, by rw [ht]; exact hP, hD⟩, hS.F ht⟩) hS.2.2 dX5_wipeEntriesFrom_15
abbrev rm_X1_mendFolder : Room := { frames := 4, cells := 0, slots := 0, locals := 91 }
theorem in_X1_mendFolder_X1 : ∀ w ∈ wsX10, w ∈ wsX1_mendFolder := by decide +kernel
set_option maxHeartbeats 4000000 in
set_option maxRecDepth 100000 in
theorem c_X1_mendFolder (l : Launch) (D : va_G) (cI cZ : ClassId) (a : Nat → Nat) (A : Nat → Prop) (p1 : Int32) (σ : ck_S) (σz : ck_S) (h : fX1_mendFolder p1 σ = some σz) : Met l yX1_mendFolder wsX1_mendFolder rm_X1_mendFolder (va_Pc [.ref (a 7), .ref (a 1), .int p1] (ik_P D [(cI, .int), (cZ, .boolean)] ck_N (ck_W cI cZ a) A σ)) (ik_Qv D (ck_W cI cZ a) A σz) 0 0 A := by
  unfold fX1_mendFolder at h
  refine Met.ofW (cc := cX1_mendFolder) (maxL := 7) (ret := none) (by decide) rfl ?_
  intro p e s m args below meth c s₁ B hml hv
  obtain ⟨hAr, hP, hK, hD, hN⟩ := hv
  have hx := B.exec
  have hb := B.bytes
  have hr := B.returns
  have hts := atoms_spec (ws := wsX1_mendFolder) B.pre
  have hown : s.vm.findClass RX1 = some m.cls := findClass_of_methodNamed B.named
  have hlocks := B.notSynchronized
  have hS : va_S A s.heap s.heap [] := va_S.rf
  have hl := lv_entry ([.ref (a 7), .ref (a 1), .int p1]) (n := 7) (Nat.le_of_ble_eq_true rfl)
  rw [show entryFrame m args 7 = entryFrame m ([.ref (a 7), .ref (a 1), .int p1] : List Value).toArray 7 from by rw [hAr], lg_entry_eq]
  generalize (lg_sl ([.ref (a 7), .ref (a 1), .int p1]) ++ List.replicate (7 - (lg_sl ([.ref (a 7), .ref (a 1), .int p1])).length) Slot.unset).toArray = ls at hl ⊢
  have hl : lv_has ls 7 [(0, .ref (a 7)), (1, .ref (a 1)), (2, .int p1)] := hl
  refine lv_iconst (v := 0) hx hb dX1_mendFolder_0 (by decide) ?_
  refine lv_istore_n (lv' := [(3, .int 0), (0, .ref (a 7)), (1, .ref (a 1)), (2, .int p1)]) hx hb dX1_mendFolder_1 rfl hl (by decide) rfl (fun ls hl => ?_)
  refine lv_iconst (v := 0) hx hb dX1_mendFolder_2 (by decide) ?_
  refine lv_istore (lv' := [(4, .int 0), (3, .int 0), (0, .ref (a 7)), (1, .ref (a 1)), (2, .int p1)]) hx hb dX1_mendFolder_3 hl (by decide) rfl (fun ls hl => ?_)
  refine qp3_W (P := fun (x1 : Int32) (x2 : Int32) (σ3 : ck_S) => ∀ (H : Heap) (locs : List Loc) (ls : Array Slot), va_P D vwCl (ck_W cI cZ a σ3) H → va_D A (ck_W cI cZ a σ3) → va_S A s.heap H locs → lv_has ls 7 [(0, .ref (a 7)), (1, .ref (a 1)), (2, .int p1), (3, .int x1), (4, .int x2)] → W p l e (headSpec wsX1_mendFolder rm_X1_mendFolder).room s m args below meth c H locs 0 0 (MQ below (ik_Qv D (ck_W cI cZ a) A σz) args s 0 0 A) (F0 m 5 ls [])) ?_ FU _ _ _ h _ _ _ hP hD hS (lv_sub hl [2, 3, 4, 1, 0] rfl)
  intro rec5 ih5 x1 x2 σ3 h H locs ls hP hD hS hl
  refine lv_iload hx hb dX1_mendFolder_5 (lv_at hl 4 rfl) ?_
  refine lv_bipush (v := 8) hx hb dX1_mendFolder_7 (by decide) ?_
  refine lv_icmp_ge (tgt := 87) hx hb dX1_mendFolder_9 (by decide) (fun c4 => ?_) (fun c4 => ?_)
  · have h := ik_t c4 h
    refine lv_aload_n hx hb dX1_mendFolder_87 rfl (lv_at hl 1 rfl) ?_
    refine lv_iload_n hx hb dX1_mendFolder_88 rfl (lv_at hl 2 rfl) ?_
    refine lv_iload_n hx hb dX1_mendFolder_89 rfl (lv_at hl 3 rfl) ?_
    obtain ⟨σ5, eh, h⟩ := ik_bd h
    refine ik_Vv (As := [.int p1, .int x1]) (rest := []) ⟨hx, hb, hml, hown, hts⟩ (c_X5_wipeEntriesFrom l D cI cZ a A p1 x1 σ3 _ eh) (cwV 2 hts gX1_mendFolder_X5_wipeEntriesFrom rfl rfl rfl (by decide +kernel) ⟨Nat.le_of_ble_eq_true rfl, Nat.le_of_ble_eq_true rfl⟩) (va_recv hK hP (ci := 3) (q0 := 1) rfl rfl) hP hK hD hN hS rfl hl.1 rfl (Nat.le_of_ble_eq_true rfl) dX1_mendFolder_90 (fun H locs hP hD hS => ?_)
    clear eh
    exact W.vret hx hb hr (fun t ht hW => ⟨⟨_, rfl, Option.some.inj h, by rw [ht]; exact hP, hD⟩, hS.F ht⟩) hS.2.2 dX1_mendFolder_93
  · have h := ik_f c4 h
    refine lv_aload_n hx hb dX1_mendFolder_12 rfl (lv_at hl 1 rfl) ?_
    refine lv_iload_n hx hb dX1_mendFolder_13 rfl (lv_at hl 2 rfl) ?_
    refine lv_iload hx hb dX1_mendFolder_14 (lv_at hl 4 rfl) ?_
    refine lv_iconst (v := 0) hx hb dX1_mendFolder_16 (by decide) ?_
    obtain ⟨v6, eh, h⟩ := ik_bd h
    refine ik_Vi (As := [.int p1, .int x2, .int 0]) (rest := []) ⟨hx, hb, hml, hown, hts⟩ (c_X5_entryPart l D cI cZ a A p1 x2 0 σ3 _ eh) (cwV 3 hts gX1_mendFolder_X5_entryPart rfl rfl rfl (by decide +kernel) ⟨Nat.le_of_ble_eq_true rfl, Nat.le_of_ble_eq_true rfl⟩) (va_recv hK hP (ci := 3) (q0 := 1) rfl rfl) hP hK hD hN hS rfl hl.1 rfl (Nat.le_of_ble_eq_true rfl) dX1_mendFolder_17 (fun H locs hP hD hS => ?_)
    clear eh
    refine lv_istore (lv' := [(5, .int v6), (0, .ref (a 7)), (1, .ref (a 1)), (2, .int p1), (3, .int x1), (4, .int x2)]) hx hb dX1_mendFolder_20 hl (by decide) rfl (fun ls hl => ?_)
    refine lv_aload_n hx hb dX1_mendFolder_22 rfl (lv_at hl 2 rfl) ?_
    refine lv_iload_n hx hb dX1_mendFolder_23 rfl (lv_at hl 3 rfl) ?_
    refine lv_iload hx hb dX1_mendFolder_24 (lv_at hl 5 rfl) ?_
    refine lv_iconst (v := 1) hx hb dX1_mendFolder_26 (by decide) ?_
    obtain ⟨v7, eh, h⟩ := ik_bd h
    refine ik_Vi (As := [.int p1, .int x2, .int 1]) (rest := []) ⟨hx, hb, hml, hown, hts⟩ (c_X5_entryPart l D cI cZ a A p1 x2 1 σ3 _ eh) (cwV 3 hts gX1_mendFolder_X5_entryPart rfl rfl rfl (by decide +kernel) ⟨Nat.le_of_ble_eq_true rfl, Nat.le_of_ble_eq_true rfl⟩) (va_recv hK hP (ci := 3) (q0 := 1) rfl rfl) hP hK hD hN hS rfl hl.1 rfl (Nat.le_of_ble_eq_true rfl) dX1_mendFolder_27 (fun H locs hP hD hS => ?_)
    clear eh
    refine lv_istore (lv' := [(6, .int v7), (5, .int v6), (0, .ref (a 7)), (1, .ref (a 1)), (2, .int p1), (3, .int x1), (4, .int x2)]) hx hb dX1_mendFolder_30 hl (by decide) rfl (fun ls hl => ?_)
    refine lv_aload_n hx hb dX1_mendFolder_32 rfl (lv_at hl 3 rfl) ?_
    refine lv_iload_n hx hb dX1_mendFolder_33 rfl (lv_at hl 4 rfl) ?_
    refine lv_iload_n hx hb dX1_mendFolder_34 rfl (lv_at hl 5 rfl) ?_
    refine lv_iload hx hb dX1_mendFolder_35 (lv_at hl 1 rfl) ?_
    obtain ⟨v8, eh, h⟩ := ik_bd h
    refine ik_Si (As := [.ref (a 1), .int p1, .int x1, .int v6]) (rest := []) ⟨hx, hb, hml, hown, hts⟩ (c_X1_isNameRight l D cI cZ a A p1 x1 v6 σ3 _ eh) (va_cwS 4 hts gX1_mendFolder_X1_isNameRight rfl rfl rfl (by decide +kernel) ⟨Nat.le_of_ble_eq_true rfl, Nat.le_of_ble_eq_true rfl⟩) hP hK hD hN hS rfl hl.1 rfl (Nat.le_of_ble_eq_true rfl) dX1_mendFolder_37 (fun H locs hP hD hS => ?_)
    clear eh
    refine lv_if_eq (tgt := 81) hx hb dX1_mendFolder_40 (by decide) (fun c9 => ?_) (fun c9 => ?_)
    · have h := ik_t c9 h
      refine lv_iinc (v := x2 + 1) (lv' := [(4, .int (x2 + 1)), (6, .int v7), (5, .int v6), (0, .ref (a 7)), (1, .ref (a 1)), (2, .int p1), (3, .int x1)]) hx hb dX1_mendFolder_81 hl (k := 6) rfl rfl (by decide) rfl (fun ls hl => ?_)
      refine lv_goto (tgt := 5) hx hb dX1_mendFolder_84 (by decide) ?_
      exact ih5 _ _ _ h _ _ _ hP hD hS (lv_sub hl [3, 4, 5, 6, 0] rfl)
    · have h := ik_f c9 h
      refine lv_aload_n hx hb dX1_mendFolder_43 rfl (lv_at hl 2 rfl) ?_
      refine lv_aload_n hx hb dX1_mendFolder_44 rfl (lv_at hl 3 rfl) ?_
      refine lv_iload hx hb dX1_mendFolder_45 (lv_at hl 0 rfl) ?_
      obtain ⟨v10, eh, h⟩ := ik_bd h
      refine ik_Vi (As := [.ref (a 1), .int v7]) (rest := []) ⟨hx, hb, hml, hown, hts⟩ (c_X1_mayLeadTo l D cI cZ a A v7 σ3 _ eh) (cwV 2 hts gX1_mendFolder_X1_mayLeadTo rfl rfl rfl (by decide +kernel) ⟨Nat.le_of_ble_eq_true rfl, Nat.le_of_ble_eq_true rfl⟩) (va_recv hK hP (ci := 0) (q0 := 7) rfl rfl) hP hK hD hN hS rfl hl.1 rfl (Nat.le_of_ble_eq_true rfl) dX1_mendFolder_47 (fun H locs hP hD hS => ?_)
      clear eh
      refine lv_if_eq (tgt := 81) hx hb dX1_mendFolder_50 (by decide) (fun c11 => ?_) (fun c11 => ?_)
      · have h := ik_t c11 h
        refine lv_iinc (v := x2 + 1) (lv' := [(4, .int (x2 + 1)), (6, .int v7), (5, .int v6), (0, .ref (a 7)), (1, .ref (a 1)), (2, .int p1), (3, .int x1)]) hx hb dX1_mendFolder_81 hl (k := 6) rfl rfl (by decide) rfl (fun ls hl => ?_)
        refine lv_goto (tgt := 5) hx hb dX1_mendFolder_84 (by decide) ?_
        exact ih5 _ _ _ h _ _ _ hP hD hS (lv_sub hl [3, 4, 5, 6, 0] rfl)
      · have h := ik_f c11 h
        refine lv_aload_n hx hb dX1_mendFolder_53 rfl (lv_at hl 2 rfl) ?_
        refine va_get (D := D) (ci := 0) (v := .ref (a 8)) (C := RX1) (T := TX1) (N := 1) hx hb hts in_X1_mendFolder_X1 hown hK hP 7 rfl rfl 0 (by decide) (hts (.fieldLink RX1 9 "ImageChecker$FolderPass" "hasEntry" "[Z") (by decide +kernel)) (fun _ h9 => h9) rfl dX1_mendFolder_54 ?_
        refine lv_iload hx hb dX1_mendFolder_57 (lv_at hl 0 rfl) ?_
        refine lv_iconst (v := 1) hx hb dX1_mendFolder_59 (by decide) ?_
        obtain ⟨σ12, eh, h⟩ := ik_bd h
        refine ik_zst (Wd := ck_W cI cZ a) (σ1 := σ12) hx hb hK hP hD hS 8 1 rfl rfl (fun _ => rfl) eh dX1_mendFolder_60 (fun H locs hP hD hS => ?_)
        clear eh
        refine lv_aload_n hx hb dX1_mendFolder_61 rfl (lv_at hl 3 rfl) ?_
        refine lv_iload_n hx hb dX1_mendFolder_62 rfl (lv_at hl 4 rfl) ?_
        refine lv_iload_n hx hb dX1_mendFolder_63 rfl (lv_at hl 5 rfl) ?_
        refine lv_iload hx hb dX1_mendFolder_64 (lv_at hl 1 rfl) ?_
        refine lv_iload hx hb dX1_mendFolder_66 (lv_at hl 0 rfl) ?_
        refine lv_aload_n hx hb dX1_mendFolder_68 rfl (lv_at hl 3 rfl) ?_
        refine lv_iload hx hb dX1_mendFolder_69 (lv_at hl 0 rfl) ?_
        refine lv_iconst (v := 0) hx hb dX1_mendFolder_71 (by decide) ?_
        obtain ⟨v13, eh, h⟩ := ik_bd h
        refine ik_Vi (As := [.int v7, .int 0]) (rest := [.int v7, .int v6, .int x1, .int p1, .ref (a 1)]) ⟨hx, hb, hml, hown, hts⟩ (c_X5_number l D cI cZ a A v7 0 σ12 _ eh) (cwV 2 hts gX1_mendFolder_X5_number rfl rfl rfl (by decide +kernel) ⟨Nat.le_of_ble_eq_true rfl, Nat.le_of_ble_eq_true rfl⟩) (va_recv hK hP (ci := 3) (q0 := 1) rfl rfl) hP hK hD hN hS rfl hl.1 rfl (Nat.le_of_ble_eq_true rfl) dX1_mendFolder_72 (fun H locs hP hD hS => ?_)
        clear eh
        obtain ⟨σ14, eh, h⟩ := ik_bd h
        refine ik_Vv (As := [.int p1, .int x1, .int v6, .int v7, .int v13]) (rest := []) ⟨hx, hb, hml, hown, hts⟩ (c_X5_putEntry l D cI cZ a A p1 x1 v6 v7 v13 σ12 _ eh) (cwV 5 hts gX1_mendFolder_X5_putEntry rfl rfl rfl (by decide +kernel) ⟨Nat.le_of_ble_eq_true rfl, Nat.le_of_ble_eq_true rfl⟩) (va_recv hK hP (ci := 3) (q0 := 1) rfl rfl) hP hK hD hN hS rfl hl.1 rfl (Nat.le_of_ble_eq_true rfl) dX1_mendFolder_75 (fun H locs hP hD hS => ?_)
        clear eh
        refine lv_iinc (v := x1 + 1) (lv' := [(3, .int (x1 + 1)), (6, .int v7), (5, .int v6), (0, .ref (a 7)), (1, .ref (a 1)), (2, .int p1), (4, .int x2)]) hx hb dX1_mendFolder_78 hl (k := 5) rfl rfl (by decide) rfl (fun ls hl => ?_)
        refine lv_iinc (v := x2 + 1) (lv' := [(4, .int (x2 + 1)), (3, .int (x1 + 1)), (6, .int v7), (5, .int v6), (0, .ref (a 7)), (1, .ref (a 1)), (2, .int p1)]) hx hb dX1_mendFolder_81 hl (k := 6) rfl rfl (by decide) rfl (fun ls hl => ?_)
        refine lv_goto (tgt := 5) hx hb dX1_mendFolder_84 (by decide) ?_
        exact ih5 _ _ _ h _ _ _ hP hD hS (lv_sub hl [4, 5, 6, 1, 0] rfl)
abbrev rm_X1_mend : Room := { frames := 5, cells := 0, slots := 0, locals := 117 }
theorem in_X1_mend_X1 : ∀ w ∈ wsX10, w ∈ wsX1_mend := by decide +kernel
set_option maxHeartbeats 4000000 in
set_option maxRecDepth 100000 in
theorem c_X1_mend (l : Launch) (D : va_G) (cI cZ : ClassId) (a : Nat → Nat) (A : Nat → Prop) (σ : ck_S) (σz : ck_S) (h : fX1_mend σ = some σz) : Met l yX1_mend wsX1_mend rm_X1_mend (va_Pc [.ref (a 7), .ref (a 1)] (ik_P D [(cI, .int), (cZ, .boolean)] ck_N (ck_W cI cZ a) A σ)) (ik_Qv D (ck_W cI cZ a) A σz) 0 0 A := by
  unfold fX1_mend at h
  refine Met.ofW (cc := cX1_mend) (maxL := 3) (ret := none) (by decide) rfl ?_
  intro p e s m args below meth c s₁ B hml hv
  obtain ⟨hAr, hP, hK, hD, hN⟩ := hv
  have hx := B.exec
  have hb := B.bytes
  have hr := B.returns
  have hts := atoms_spec (ws := wsX1_mend) B.pre
  have hown : s.vm.findClass RX1 = some m.cls := findClass_of_methodNamed B.named
  have hlocks := B.notSynchronized
  have hS : va_S A s.heap s.heap [] := va_S.rf
  have hl := lv_entry ([.ref (a 7), .ref (a 1)]) (n := 3) (Nat.le_of_ble_eq_true rfl)
  rw [show entryFrame m args 3 = entryFrame m ([.ref (a 7), .ref (a 1)] : List Value).toArray 3 from by rw [hAr], lg_entry_eq]
  generalize (lg_sl ([.ref (a 7), .ref (a 1)]) ++ List.replicate (3 - (lg_sl ([.ref (a 7), .ref (a 1)])).length) Slot.unset).toArray = ls at hl ⊢
  have hl : lv_has ls 3 [(0, .ref (a 7)), (1, .ref (a 1))] := hl
  refine lv_aload_n hx hb dX1_mend_0 rfl (lv_at hl 0 rfl) ?_
  refine va_get (D := D) (ci := 0) (v := .ref (a 8)) (C := RX1) (T := TX1) (N := 1) hx hb hts in_X1_mend_X1 hown hK hP 7 rfl rfl 0 (by decide) (hts (.fieldLink RX1 9 "ImageChecker$FolderPass" "hasEntry" "[Z") (by decide +kernel)) (fun _ h9 => h9) rfl dX1_mend_1 ?_
  obtain ⟨σ1, eh, h⟩ := ik_bd h
  refine ik_Nv (As := [.ref (a 8)]) (rest := []) ⟨hx, hb, hml, hown, hts⟩ (c_X7_unmark_8 l D cI cZ a A  σ _ eh) ⟨va_cnB (host := "ImageChecker") 1 hts gX1_mend_X7_unmark_n15 rfl rfl rfl (hN (RX1, 15, yX7_unmark) (by decide)) (hts (.initialized RX7) (by decide +kernel)) (by decide +kernel) ⟨Nat.le_of_ble_eq_true rfl, Nat.le_of_ble_eq_true rfl⟩, hts (.static yX7_unmark) (by decide +kernel), trivial⟩ hP hK hD hN hS rfl hl.1 rfl (Nat.le_of_ble_eq_true rfl) dX1_mend_4 (fun H locs hP hD hS => ?_)
  clear eh
  refine lv_iconst (v := 1) hx hb dX1_mend_7 (by decide) ?_
  refine lv_istore_n (lv' := [(2, .int 1), (0, .ref (a 7)), (1, .ref (a 1))]) hx hb dX1_mend_8 rfl hl (by decide) rfl (fun ls hl => ?_)
  refine qp2_W (P := fun (x2 : Int32) (σ3 : ck_S) => ∀ (H : Heap) (locs : List Loc) (ls : Array Slot), va_P D vwCl (ck_W cI cZ a σ3) H → va_D A (ck_W cI cZ a σ3) → va_S A s.heap H locs → lv_has ls 3 [(0, .ref (a 7)), (1, .ref (a 1)), (2, .int x2)] → W p l e (headSpec wsX1_mend rm_X1_mend).room s m args below meth c H locs 0 0 (MQ below (ik_Qv D (ck_W cI cZ a) A σz) args s 0 0 A) (F0 m 9 ls [])) ?_ FU _ _ h _ _ _ hP hD hS (lv_sub hl [1, 2, 0] rfl)
  intro rec9 ih9 x2 σ3 h H locs ls hP hD hS hl
  refine lv_iload_n hx hb dX1_mend_9 rfl (lv_at hl 2 rfl) ?_
  refine lv_bipush (v := 24) hx hb dX1_mend_10 (by decide) ?_
  refine lv_icmp_gt (tgt := 37) hx hb dX1_mend_12 (by decide) (fun c4 => ?_) (fun c4 => ?_)
  · have h := ik_t c4 h
    exact W.vret hx hb hr (fun t ht hW => ⟨⟨_, rfl, Option.some.inj h, by rw [ht]; exact hP, hD⟩, hS.F ht⟩) hS.2.2 dX1_mend_37
  · have h := ik_f c4 h
    refine lv_aload_n hx hb dX1_mend_15 rfl (lv_at hl 1 rfl) ?_
    refine lv_iload_n hx hb dX1_mend_16 rfl (lv_at hl 2 rfl) ?_
    refine lv_iconst (v := 0) hx hb dX1_mend_17 (by decide) ?_
    obtain ⟨v5, eh, h⟩ := ik_bd h
    refine ik_Vi (As := [.int x2, .int 0]) (rest := []) ⟨hx, hb, hml, hown, hts⟩ (c_X5_number l D cI cZ a A x2 0 σ3 _ eh) (cwV 2 hts gX1_mend_X5_number rfl rfl rfl (by decide +kernel) ⟨Nat.le_of_ble_eq_true rfl, Nat.le_of_ble_eq_true rfl⟩) (va_recv hK hP (ci := 3) (q0 := 1) rfl rfl) hP hK hD hN hS rfl hl.1 rfl (Nat.le_of_ble_eq_true rfl) dX1_mend_18 (fun H locs hP hD hS => ?_)
    clear eh
    refine lv_iconst (v := 2) hx hb dX1_mend_21 (by decide) ?_
    refine lv_icmp_ne (tgt := 31) hx hb dX1_mend_22 (by decide) (fun c6 => ?_) (fun c6 => ?_)
    · have h := ik_f c6 h
      refine lv_iinc (v := x2 + 1) (lv' := [(2, .int (x2 + 1)), (0, .ref (a 7)), (1, .ref (a 1))]) hx hb dX1_mend_31 hl (k := 2) rfl rfl (by decide) rfl (fun ls hl => ?_)
      refine lv_goto (tgt := 9) hx hb dX1_mend_34 (by decide) ?_
      exact ih9 _ _ h _ _ _ hP hD hS (lv_sub hl [1, 2, 0] rfl)
    · have h := ik_t c6 h
      refine lv_aload_n hx hb dX1_mend_25 rfl (lv_at hl 0 rfl) ?_
      refine lv_aload_n hx hb dX1_mend_26 rfl (lv_at hl 1 rfl) ?_
      refine lv_iload_n hx hb dX1_mend_27 rfl (lv_at hl 2 rfl) ?_
      obtain ⟨σ7, eh, h⟩ := ik_bd h
      refine ik_Vv (As := [.ref (a 1), .int x2]) (rest := []) ⟨hx, hb, hml, hown, hts⟩ (c_X1_mendFolder l D cI cZ a A x2 σ3 _ eh) (cwV 2 hts gX1_mend_X1_mendFolder rfl rfl rfl (by decide +kernel) ⟨Nat.le_of_ble_eq_true rfl, Nat.le_of_ble_eq_true rfl⟩) (va_recv hK hP (ci := 0) (q0 := 7) rfl rfl) hP hK hD hN hS rfl hl.1 rfl (Nat.le_of_ble_eq_true rfl) dX1_mend_28 (fun H locs hP hD hS => ?_)
      clear eh
      refine lv_iinc (v := x2 + 1) (lv' := [(2, .int (x2 + 1)), (0, .ref (a 7)), (1, .ref (a 1))]) hx hb dX1_mend_31 hl (k := 2) rfl rfl (by decide) rfl (fun ls hl => ?_)
      refine lv_goto (tgt := 9) hx hb dX1_mend_34 (by decide) ?_
      exact ih9 _ _ h _ _ _ hP hD hS (lv_sub hl [1, 2, 0] rfl)
