abbrev rm_X8_about : Room := { frames := 1, cells := 0, slots := 0, locals := 22 }
theorem in_X8_about_X8 : ∀ w ∈ wsX80, w ∈ wsX8_about := by decide +kernel
set_option maxHeartbeats 4000000 in
set_option maxRecDepth 100000 in
theorem c_X8_about (l : Launch) (D : va_G) (cI cZ : ClassId) (a : Nat → Nat) (A : Nat → Prop) (p0 : Int32) (p1 : Int32) (σ : mk_S) (rz : Int32) (σz : mk_S) (h : fX8_about p0 p1 σ = some (rz, σz)) : Met l yX8_about wsX8_about rm_X8_about (va_Pc [.ref (a 0), .int p0, .int p1] (ik_P D [(cI, .int), (cZ, .boolean)] [] (mk_W cI cZ a) A σ)) (ik_Qi D (mk_W cI cZ a) A rz σz) 0 0 A := by
  unfold fX8_about at h
  refine Met.ofW (cc := cX8_about) (maxL := 3) (ret := (some .int)) (by decide) rfl ?_
  intro p e s m args below meth c s₁ B hml hv
  obtain ⟨hAr, hP, hK, hD, hN⟩ := hv
  have hx := B.exec
  have hb := B.bytes
  have hr := B.returns
  have hts := atoms_spec (ws := wsX8_about) B.pre
  have hown : s.vm.findClass RX8 = some m.cls := findClass_of_methodNamed B.named
  have hlocks := B.notSynchronized
  have hS : va_S A s.heap s.heap [] := va_S.rf
  have hl := lv_entry ([.ref (a 0), .int p0, .int p1]) (n := 3) (Nat.le_of_ble_eq_true rfl)
  rw [show entryFrame m args 3 = entryFrame m ([.ref (a 0), .int p0, .int p1] : List Value).toArray 3 from by rw [hAr], lg_entry_eq]
  generalize (lg_sl ([.ref (a 0), .int p0, .int p1]) ++ List.replicate (3 - (lg_sl ([.ref (a 0), .int p0, .int p1])).length) Slot.unset).toArray = ls at hl ⊢
  have hl : lv_has ls 3 [(0, .ref (a 0)), (1, .int p0), (2, .int p1)] := hl
  refine lv_aload_n hx hb dX8_about_0 rfl (lv_at hl 0 rfl) ?_
  refine lv_iload_n hx hb dX8_about_1 rfl (lv_at hl 1 rfl) ?_
  refine lv_iconst (v := 1) hx hb dX8_about_2 (by decide) ?_
  refine lv_bipush (v := 24) hx hb dX8_about_3 (by decide) ?_
  obtain ⟨v1, eh, h⟩ := ik_bd h
  refine ik_Si (As := [.int p0, .int 1, .int 24]) (rest := [.ref (a 0)]) ⟨hx, hb, hml, hown, hts⟩ (c_X8_isIn l D cI cZ a A p0 1 24 σ _ eh) (va_cwS 3 hts gX8_about_X8_isIn rfl rfl rfl (by decide +kernel) ⟨Nat.le_of_ble_eq_true rfl, Nat.le_of_ble_eq_true rfl⟩) hP hK hD hN hS rfl hl.1 rfl (Nat.le_of_ble_eq_true rfl) dX8_about_5 (fun H locs hP hD hS => ?_)
  clear eh
  obtain ⟨j25, ej, h⟩ := jn_ex h
  have hj25 : ∀ (y2 : Int32), j25 y2 = some (rz, σz) → ∀ (H : Heap) (locs : List Loc) (ls : Array Slot), va_P D vwCl (mk_W cI cZ a σ) H → va_D A (mk_W cI cZ a σ) → va_S A s.heap H locs → lv_has ls 3 [(0, .ref (a 0)), (1, .int p0), (2, .int p1)] → W p l e (headSpec wsX8_about rm_X8_about).room s m args below meth c H locs 0 0 (MQ below (ik_Qi D (mk_W cI cZ a) A rz σz) args s 0 0 A) (F0 m 25 ls [.int y2, .ref (a 0)]) := by
    rw [ej]; clear h
    intro y2 h H locs ls hP hD hS hl
    obtain ⟨v3, σ4, eh, h⟩ := ik_bd2 h
    refine ik_Vi (As := [.int y2]) (rest := []) ⟨hx, hb, hml, hown, hts⟩ (c_X8_may l D cI cZ a A y2 σ _ _ eh) (cwV 1 hts gX8_about_X8_may rfl rfl rfl (by decide +kernel) ⟨Nat.le_of_ble_eq_true rfl, Nat.le_of_ble_eq_true rfl⟩) (va_recv hK hP (ci := 6) (q0 := 0) rfl rfl) hP hK hD hN hS rfl hl.1 rfl (Nat.le_of_ble_eq_true rfl) dX8_about_25 (fun H locs hP hD hS => ?_)
    clear eh
    refine lv_if_eq (tgt := 45) hx hb dX8_about_28 (by decide) (fun c5 => ?_) (fun c5 => ?_)
    · have h := ik_t c5 h
      refine lv_iconst (v := 0) hx hb dX8_about_45 (by decide) ?_
      exact W.iret hx hb hr (fun t ht hW => ⟨⟨_, _, rfl, ⟨congrArg Prod.fst (Option.some.inj h), congrArg Prod.snd (Option.some.inj h)⟩, by rw [ht]; exact hP, hD⟩, hS.F ht⟩) hS.2.2 dX8_about_46
    · have h := ik_f c5 h
      refine lv_aload_n hx hb dX8_about_31 rfl (lv_at hl 0 rfl) ?_
      refine va_get (D := D) (ci := 6) (v := .ref (a 1)) (C := RX8) (T := TX8) (N := 10) hx hb hts in_X8_about_X8 hown hK hP 0 rfl rfl 1 (by decide) (hts (.fieldLink RX8 7 "ImageCheckerModel" "all" "[I") (by decide +kernel)) (fun _ h9 => h9) rfl dX8_about_32 ?_
      refine lv_bipush (v := 47) hx hb dX8_about_35 (by decide) ?_
      refine lv_iload_n hx hb dX8_about_37 rfl (lv_at hl 1 rfl) ?_
      refine lv_imul hx hb dX8_about_38 ?_
      refine lv_iload_n hx hb dX8_about_39 rfl (lv_at hl 2 rfl) ?_
      refine lv_iadd hx hb dX8_about_40 ?_
      obtain ⟨v6, eh, h⟩ := ik_bd h
      refine ik_ld hx hb hK hP 1 0 rfl rfl eh dX8_about_41 ?_
      clear eh
      refine lv_goto (tgt := 46) hx hb dX8_about_42 (by decide) ?_
      exact W.iret hx hb hr (fun t ht hW => ⟨⟨_, _, rfl, ⟨congrArg Prod.fst (Option.some.inj h), congrArg Prod.snd (Option.some.inj h)⟩, by rw [ht]; exact hP, hD⟩, hS.F ht⟩) hS.2.2 dX8_about_46
  clear ej
  obtain ⟨j24, ej, h⟩ := jn_ex h
  have hj24 : ∀ (_u : Unit), j24 _u = some (rz, σz) → ∀ (H : Heap) (locs : List Loc) (ls : Array Slot), va_P D vwCl (mk_W cI cZ a σ) H → va_D A (mk_W cI cZ a σ) → va_S A s.heap H locs → lv_has ls 3 [(0, .ref (a 0)), (1, .int p0), (2, .int p1)] → W p l e (headSpec wsX8_about rm_X8_about).room s m args below meth c H locs 0 0 (MQ below (ik_Qi D (mk_W cI cZ a) A rz σz) args s 0 0 A) (F0 m 24 ls [.ref (a 0)]) := by
    rw [ej]; clear h
    intro _u h H locs ls hP hD hS hl
    refine lv_iconst (v := 0) hx hb dX8_about_24 (by decide) ?_
    exact hj25 _ h _ _ _ hP hD hS (lv_sub hl [0, 1, 2] rfl)
  clear ej
  refine lv_if_eq (tgt := 24) hx hb dX8_about_8 (by decide) (fun c7 => ?_) (fun c7 => ?_)
  · have h := ik_t c7 h
    exact hj24 () h _ _ _ hP hD hS (lv_sub hl [0, 1, 2] rfl)
  · have h := ik_f c7 h
    refine lv_iload_n hx hb dX8_about_11 rfl (lv_at hl 2 rfl) ?_
    refine lv_iconst (v := 0) hx hb dX8_about_12 (by decide) ?_
    refine lv_iconst (v := 4) hx hb dX8_about_13 (by decide) ?_
    obtain ⟨v8, eh, h⟩ := ik_bd h
    refine ik_Si (As := [.int p1, .int 0, .int 4]) (rest := [.ref (a 0)]) ⟨hx, hb, hml, hown, hts⟩ (c_X8_isIn l D cI cZ a A p1 0 4 σ _ eh) (va_cwS 3 hts gX8_about_X8_isIn rfl rfl rfl (by decide +kernel) ⟨Nat.le_of_ble_eq_true rfl, Nat.le_of_ble_eq_true rfl⟩) hP hK hD hN hS rfl hl.1 rfl (Nat.le_of_ble_eq_true rfl) dX8_about_14 (fun H locs hP hD hS => ?_)
    clear eh
    refine lv_if_eq (tgt := 24) hx hb dX8_about_17 (by decide) (fun c9 => ?_) (fun c9 => ?_)
    · have h := ik_t c9 h
      exact hj24 () h _ _ _ hP hD hS (lv_sub hl [0, 1, 2] rfl)
    · have h := ik_f c9 h
      refine lv_iconst (v := 1) hx hb dX8_about_20 (by decide) ?_
      refine lv_goto (tgt := 25) hx hb dX8_about_21 (by decide) ?_
      exact hj25 _ h _ _ _ hP hD hS (lv_sub hl [0, 1, 2] rfl)
abbrev rm_X8_runOf : Room := { frames := 1, cells := 0, slots := 0, locals := 22 }
theorem in_X8_runOf_X8 : ∀ w ∈ wsX80, w ∈ wsX8_runOf := by decide +kernel
set_option maxHeartbeats 4000000 in
set_option maxRecDepth 100000 in
theorem c_X8_runOf (l : Launch) (D : va_G) (cI cZ : ClassId) (a : Nat → Nat) (A : Nat → Prop) (p0 : Int32) (p1 : Int32) (p2 : Int32) (σ : mk_S) (rz : Int32) (σz : mk_S) (h : fX8_runOf p0 p1 p2 σ = some (rz, σz)) : Met l yX8_runOf wsX8_runOf rm_X8_runOf (va_Pc [.ref (a 0), .int p0, .int p1, .int p2] (ik_P D [(cI, .int), (cZ, .boolean)] [] (mk_W cI cZ a) A σ)) (ik_Qi D (mk_W cI cZ a) A rz σz) 0 0 A := by
  unfold fX8_runOf at h
  refine Met.ofW (cc := cX8_runOf) (maxL := 4) (ret := (some .int)) (by decide) rfl ?_
  intro p e s m args below meth c s₁ B hml hv
  obtain ⟨hAr, hP, hK, hD, hN⟩ := hv
  have hx := B.exec
  have hb := B.bytes
  have hr := B.returns
  have hts := atoms_spec (ws := wsX8_runOf) B.pre
  have hown : s.vm.findClass RX8 = some m.cls := findClass_of_methodNamed B.named
  have hlocks := B.notSynchronized
  have hS : va_S A s.heap s.heap [] := va_S.rf
  have hl := lv_entry ([.ref (a 0), .int p0, .int p1, .int p2]) (n := 4) (Nat.le_of_ble_eq_true rfl)
  rw [show entryFrame m args 4 = entryFrame m ([.ref (a 0), .int p0, .int p1, .int p2] : List Value).toArray 4 from by rw [hAr], lg_entry_eq]
  generalize (lg_sl ([.ref (a 0), .int p0, .int p1, .int p2]) ++ List.replicate (4 - (lg_sl ([.ref (a 0), .int p0, .int p1, .int p2])).length) Slot.unset).toArray = ls at hl ⊢
  have hl : lv_has ls 4 [(0, .ref (a 0)), (1, .int p0), (2, .int p1), (3, .int p2)] := hl
  refine lv_aload_n hx hb dX8_runOf_0 rfl (lv_at hl 0 rfl) ?_
  refine lv_iload_n hx hb dX8_runOf_1 rfl (lv_at hl 1 rfl) ?_
  refine lv_iconst (v := 1) hx hb dX8_runOf_2 (by decide) ?_
  refine lv_bipush (v := 24) hx hb dX8_runOf_3 (by decide) ?_
  obtain ⟨v1, eh, h⟩ := ik_bd h
  refine ik_Si (As := [.int p0, .int 1, .int 24]) (rest := [.ref (a 0)]) ⟨hx, hb, hml, hown, hts⟩ (c_X8_isIn l D cI cZ a A p0 1 24 σ _ eh) (va_cwS 3 hts gX8_runOf_X8_isIn rfl rfl rfl (by decide +kernel) ⟨Nat.le_of_ble_eq_true rfl, Nat.le_of_ble_eq_true rfl⟩) hP hK hD hN hS rfl hl.1 rfl (Nat.le_of_ble_eq_true rfl) dX8_runOf_5 (fun H locs hP hD hS => ?_)
  clear eh
  obtain ⟨j34, ej, h⟩ := jn_ex h
  have hj34 : ∀ (y2 : Int32), j34 y2 = some (rz, σz) → ∀ (H : Heap) (locs : List Loc) (ls : Array Slot), va_P D vwCl (mk_W cI cZ a σ) H → va_D A (mk_W cI cZ a σ) → va_S A s.heap H locs → lv_has ls 4 [(0, .ref (a 0)), (1, .int p0), (2, .int p1), (3, .int p2)] → W p l e (headSpec wsX8_runOf rm_X8_runOf).room s m args below meth c H locs 0 0 (MQ below (ik_Qi D (mk_W cI cZ a) A rz σz) args s 0 0 A) (F0 m 34 ls [.int y2, .ref (a 0)]) := by
    rw [ej]; clear h
    intro y2 h H locs ls hP hD hS hl
    obtain ⟨v3, σ4, eh, h⟩ := ik_bd2 h
    refine ik_Vi (As := [.int y2]) (rest := []) ⟨hx, hb, hml, hown, hts⟩ (c_X8_may l D cI cZ a A y2 σ _ _ eh) (cwV 1 hts gX8_runOf_X8_may rfl rfl rfl (by decide +kernel) ⟨Nat.le_of_ble_eq_true rfl, Nat.le_of_ble_eq_true rfl⟩) (va_recv hK hP (ci := 6) (q0 := 0) rfl rfl) hP hK hD hN hS rfl hl.1 rfl (Nat.le_of_ble_eq_true rfl) dX8_runOf_34 (fun H locs hP hD hS => ?_)
    clear eh
    refine lv_if_eq (tgt := 55) hx hb dX8_runOf_37 (by decide) (fun c5 => ?_) (fun c5 => ?_)
    · have h := ik_t c5 h
      refine lv_iconst (v := 0) hx hb dX8_runOf_55 (by decide) ?_
      exact W.iret hx hb hr (fun t ht hW => ⟨⟨_, _, rfl, ⟨congrArg Prod.fst (Option.some.inj h), congrArg Prod.snd (Option.some.inj h)⟩, by rw [ht]; exact hP, hD⟩, hS.F ht⟩) hS.2.2 dX8_runOf_56
    · have h := ik_f c5 h
      refine lv_aload_n hx hb dX8_runOf_40 rfl (lv_at hl 0 rfl) ?_
      refine va_get (D := D) (ci := 6) (v := .ref (a 1)) (C := RX8) (T := TX8) (N := 10) hx hb hts in_X8_runOf_X8 hown hK hP 0 rfl rfl 1 (by decide) (hts (.fieldLink RX8 7 "ImageCheckerModel" "all" "[I") (by decide +kernel)) (fun _ h9 => h9) rfl dX8_runOf_41 ?_
      refine lv_iload_n hx hb dX8_runOf_44 rfl (lv_at hl 1 rfl) ?_
      refine lv_iload_n hx hb dX8_runOf_45 rfl (lv_at hl 2 rfl) ?_
      obtain ⟨v6, eh, h⟩ := ik_bd h
      refine ik_Si (As := [.int p0, .int p1]) (rest := [.ref (a 1)]) ⟨hx, hb, hml, hown, hts⟩ (c_X8_runAt l D cI cZ a A p0 p1 σ4 _ eh) (va_cwS 2 hts gX8_runOf_X8_runAt rfl rfl rfl (by decide +kernel) ⟨Nat.le_of_ble_eq_true rfl, Nat.le_of_ble_eq_true rfl⟩) hP hK hD hN hS rfl hl.1 rfl (Nat.le_of_ble_eq_true rfl) dX8_runOf_46 (fun H locs hP hD hS => ?_)
      clear eh
      refine lv_iload_n hx hb dX8_runOf_49 rfl (lv_at hl 3 rfl) ?_
      refine lv_iadd hx hb dX8_runOf_50 ?_
      obtain ⟨v7, eh, h⟩ := ik_bd h
      refine ik_ld hx hb hK hP 1 0 rfl rfl eh dX8_runOf_51 ?_
      clear eh
      refine lv_goto (tgt := 56) hx hb dX8_runOf_52 (by decide) ?_
      exact W.iret hx hb hr (fun t ht hW => ⟨⟨_, _, rfl, ⟨congrArg Prod.fst (Option.some.inj h), congrArg Prod.snd (Option.some.inj h)⟩, by rw [ht]; exact hP, hD⟩, hS.F ht⟩) hS.2.2 dX8_runOf_56
  clear ej
  obtain ⟨j33, ej, h⟩ := jn_ex h
  have hj33 : ∀ (_u : Unit), j33 _u = some (rz, σz) → ∀ (H : Heap) (locs : List Loc) (ls : Array Slot), va_P D vwCl (mk_W cI cZ a σ) H → va_D A (mk_W cI cZ a σ) → va_S A s.heap H locs → lv_has ls 4 [(0, .ref (a 0)), (1, .int p0), (2, .int p1), (3, .int p2)] → W p l e (headSpec wsX8_runOf rm_X8_runOf).room s m args below meth c H locs 0 0 (MQ below (ik_Qi D (mk_W cI cZ a) A rz σz) args s 0 0 A) (F0 m 33 ls [.ref (a 0)]) := by
    rw [ej]; clear h
    intro _u h H locs ls hP hD hS hl
    refine lv_iconst (v := 0) hx hb dX8_runOf_33 (by decide) ?_
    exact hj34 _ h _ _ _ hP hD hS (lv_sub hl [0, 1, 2, 3] rfl)
  clear ej
  refine lv_if_eq (tgt := 33) hx hb dX8_runOf_8 (by decide) (fun c8 => ?_) (fun c8 => ?_)
  · have h := ik_t c8 h
    exact hj33 () h _ _ _ hP hD hS (lv_sub hl [0, 1, 2, 3] rfl)
  · have h := ik_f c8 h
    refine lv_iload_n hx hb dX8_runOf_11 rfl (lv_at hl 2 rfl) ?_
    refine lv_iconst (v := 0) hx hb dX8_runOf_12 (by decide) ?_
    refine lv_iconst (v := 5) hx hb dX8_runOf_13 (by decide) ?_
    obtain ⟨v9, eh, h⟩ := ik_bd h
    refine ik_Si (As := [.int p1, .int 0, .int 5]) (rest := [.ref (a 0)]) ⟨hx, hb, hml, hown, hts⟩ (c_X8_isIn l D cI cZ a A p1 0 5 σ _ eh) (va_cwS 3 hts gX8_runOf_X8_isIn rfl rfl rfl (by decide +kernel) ⟨Nat.le_of_ble_eq_true rfl, Nat.le_of_ble_eq_true rfl⟩) hP hK hD hN hS rfl hl.1 rfl (Nat.le_of_ble_eq_true rfl) dX8_runOf_14 (fun H locs hP hD hS => ?_)
    clear eh
    refine lv_if_eq (tgt := 33) hx hb dX8_runOf_17 (by decide) (fun c10 => ?_) (fun c10 => ?_)
    · have h := ik_t c10 h
      exact hj33 () h _ _ _ hP hD hS (lv_sub hl [0, 1, 2, 3] rfl)
    · have h := ik_f c10 h
      refine lv_iload_n hx hb dX8_runOf_20 rfl (lv_at hl 3 rfl) ?_
      refine lv_iconst (v := 0) hx hb dX8_runOf_21 (by decide) ?_
      refine lv_iconst (v := 2) hx hb dX8_runOf_22 (by decide) ?_
      obtain ⟨v11, eh, h⟩ := ik_bd h
      refine ik_Si (As := [.int p2, .int 0, .int 2]) (rest := [.ref (a 0)]) ⟨hx, hb, hml, hown, hts⟩ (c_X8_isIn l D cI cZ a A p2 0 2 σ _ eh) (va_cwS 3 hts gX8_runOf_X8_isIn rfl rfl rfl (by decide +kernel) ⟨Nat.le_of_ble_eq_true rfl, Nat.le_of_ble_eq_true rfl⟩) hP hK hD hN hS rfl hl.1 rfl (Nat.le_of_ble_eq_true rfl) dX8_runOf_23 (fun H locs hP hD hS => ?_)
      clear eh
      refine lv_if_eq (tgt := 33) hx hb dX8_runOf_26 (by decide) (fun c12 => ?_) (fun c12 => ?_)
      · have h := ik_t c12 h
        exact hj33 () h _ _ _ hP hD hS (lv_sub hl [0, 1, 2, 3] rfl)
      · have h := ik_f c12 h
        refine lv_iconst (v := 1) hx hb dX8_runOf_29 (by decide) ?_
        refine lv_goto (tgt := 34) hx hb dX8_runOf_30 (by decide) ?_
        exact hj34 _ h _ _ _ hP hD hS (lv_sub hl [0, 1, 2, 3] rfl)
abbrev rm_X8_entryOf : Room := { frames := 1, cells := 0, slots := 0, locals := 22 }
theorem in_X8_entryOf_X8 : ∀ w ∈ wsX80, w ∈ wsX8_entryOf := by decide +kernel
set_option maxHeartbeats 4000000 in
set_option maxRecDepth 100000 in
theorem c_X8_entryOf (l : Launch) (D : va_G) (cI cZ : ClassId) (a : Nat → Nat) (A : Nat → Prop) (p0 : Int32) (p1 : Int32) (p2 : Int32) (σ : mk_S) (rz : Int32) (σz : mk_S) (h : fX8_entryOf p0 p1 p2 σ = some (rz, σz)) : Met l yX8_entryOf wsX8_entryOf rm_X8_entryOf (va_Pc [.ref (a 0), .int p0, .int p1, .int p2] (ik_P D [(cI, .int), (cZ, .boolean)] [] (mk_W cI cZ a) A σ)) (ik_Qi D (mk_W cI cZ a) A rz σz) 0 0 A := by
  unfold fX8_entryOf at h
  refine Met.ofW (cc := cX8_entryOf) (maxL := 4) (ret := (some .int)) (by decide) rfl ?_
  intro p e s m args below meth c s₁ B hml hv
  obtain ⟨hAr, hP, hK, hD, hN⟩ := hv
  have hx := B.exec
  have hb := B.bytes
  have hr := B.returns
  have hts := atoms_spec (ws := wsX8_entryOf) B.pre
  have hown : s.vm.findClass RX8 = some m.cls := findClass_of_methodNamed B.named
  have hlocks := B.notSynchronized
  have hS : va_S A s.heap s.heap [] := va_S.rf
  have hl := lv_entry ([.ref (a 0), .int p0, .int p1, .int p2]) (n := 4) (Nat.le_of_ble_eq_true rfl)
  rw [show entryFrame m args 4 = entryFrame m ([.ref (a 0), .int p0, .int p1, .int p2] : List Value).toArray 4 from by rw [hAr], lg_entry_eq]
  generalize (lg_sl ([.ref (a 0), .int p0, .int p1, .int p2]) ++ List.replicate (4 - (lg_sl ([.ref (a 0), .int p0, .int p1, .int p2])).length) Slot.unset).toArray = ls at hl ⊢
  have hl : lv_has ls 4 [(0, .ref (a 0)), (1, .int p0), (2, .int p1), (3, .int p2)] := hl
  refine lv_aload_n hx hb dX8_entryOf_0 rfl (lv_at hl 0 rfl) ?_
  refine lv_iload_n hx hb dX8_entryOf_1 rfl (lv_at hl 1 rfl) ?_
  refine lv_iconst (v := 1) hx hb dX8_entryOf_2 (by decide) ?_
  refine lv_bipush (v := 24) hx hb dX8_entryOf_3 (by decide) ?_
  obtain ⟨v1, eh, h⟩ := ik_bd h
  refine ik_Si (As := [.int p0, .int 1, .int 24]) (rest := [.ref (a 0)]) ⟨hx, hb, hml, hown, hts⟩ (c_X8_isIn l D cI cZ a A p0 1 24 σ _ eh) (va_cwS 3 hts gX8_entryOf_X8_isIn rfl rfl rfl (by decide +kernel) ⟨Nat.le_of_ble_eq_true rfl, Nat.le_of_ble_eq_true rfl⟩) hP hK hD hN hS rfl hl.1 rfl (Nat.le_of_ble_eq_true rfl) dX8_entryOf_5 (fun H locs hP hD hS => ?_)
  clear eh
  obtain ⟨j35, ej, h⟩ := jn_ex h
  have hj35 : ∀ (y2 : Int32), j35 y2 = some (rz, σz) → ∀ (H : Heap) (locs : List Loc) (ls : Array Slot), va_P D vwCl (mk_W cI cZ a σ) H → va_D A (mk_W cI cZ a σ) → va_S A s.heap H locs → lv_has ls 4 [(0, .ref (a 0)), (1, .int p0), (2, .int p1), (3, .int p2)] → W p l e (headSpec wsX8_entryOf rm_X8_entryOf).room s m args below meth c H locs 0 0 (MQ below (ik_Qi D (mk_W cI cZ a) A rz σz) args s 0 0 A) (F0 m 35 ls [.int y2, .ref (a 0)]) := by
    rw [ej]; clear h
    intro y2 h H locs ls hP hD hS hl
    obtain ⟨v3, σ4, eh, h⟩ := ik_bd2 h
    refine ik_Vi (As := [.int y2]) (rest := []) ⟨hx, hb, hml, hown, hts⟩ (c_X8_may l D cI cZ a A y2 σ _ _ eh) (cwV 1 hts gX8_entryOf_X8_may rfl rfl rfl (by decide +kernel) ⟨Nat.le_of_ble_eq_true rfl, Nat.le_of_ble_eq_true rfl⟩) (va_recv hK hP (ci := 6) (q0 := 0) rfl rfl) hP hK hD hN hS rfl hl.1 rfl (Nat.le_of_ble_eq_true rfl) dX8_entryOf_35 (fun H locs hP hD hS => ?_)
    clear eh
    refine lv_if_eq (tgt := 56) hx hb dX8_entryOf_38 (by decide) (fun c5 => ?_) (fun c5 => ?_)
    · have h := ik_t c5 h
      refine lv_iconst (v := 0) hx hb dX8_entryOf_56 (by decide) ?_
      exact W.iret hx hb hr (fun t ht hW => ⟨⟨_, _, rfl, ⟨congrArg Prod.fst (Option.some.inj h), congrArg Prod.snd (Option.some.inj h)⟩, by rw [ht]; exact hP, hD⟩, hS.F ht⟩) hS.2.2 dX8_entryOf_57
    · have h := ik_f c5 h
      refine lv_aload_n hx hb dX8_entryOf_41 rfl (lv_at hl 0 rfl) ?_
      refine va_get (D := D) (ci := 6) (v := .ref (a 1)) (C := RX8) (T := TX8) (N := 10) hx hb hts in_X8_entryOf_X8 hown hK hP 0 rfl rfl 1 (by decide) (hts (.fieldLink RX8 7 "ImageCheckerModel" "all" "[I") (by decide +kernel)) (fun _ h9 => h9) rfl dX8_entryOf_42 ?_
      refine lv_iload_n hx hb dX8_entryOf_45 rfl (lv_at hl 1 rfl) ?_
      refine lv_iload_n hx hb dX8_entryOf_46 rfl (lv_at hl 2 rfl) ?_
      obtain ⟨v6, eh, h⟩ := ik_bd h
      refine ik_Si (As := [.int p0, .int p1]) (rest := [.ref (a 1)]) ⟨hx, hb, hml, hown, hts⟩ (c_X8_entryAt l D cI cZ a A p0 p1 σ4 _ eh) (va_cwS 2 hts gX8_entryOf_X8_entryAt rfl rfl rfl (by decide +kernel) ⟨Nat.le_of_ble_eq_true rfl, Nat.le_of_ble_eq_true rfl⟩) hP hK hD hN hS rfl hl.1 rfl (Nat.le_of_ble_eq_true rfl) dX8_entryOf_47 (fun H locs hP hD hS => ?_)
      clear eh
      refine lv_iload_n hx hb dX8_entryOf_50 rfl (lv_at hl 3 rfl) ?_
      refine lv_iadd hx hb dX8_entryOf_51 ?_
      obtain ⟨v7, eh, h⟩ := ik_bd h
      refine ik_ld hx hb hK hP 1 0 rfl rfl eh dX8_entryOf_52 ?_
      clear eh
      refine lv_goto (tgt := 57) hx hb dX8_entryOf_53 (by decide) ?_
      exact W.iret hx hb hr (fun t ht hW => ⟨⟨_, _, rfl, ⟨congrArg Prod.fst (Option.some.inj h), congrArg Prod.snd (Option.some.inj h)⟩, by rw [ht]; exact hP, hD⟩, hS.F ht⟩) hS.2.2 dX8_entryOf_57
  clear ej
  obtain ⟨j34, ej, h⟩ := jn_ex h
  have hj34 : ∀ (_u : Unit), j34 _u = some (rz, σz) → ∀ (H : Heap) (locs : List Loc) (ls : Array Slot), va_P D vwCl (mk_W cI cZ a σ) H → va_D A (mk_W cI cZ a σ) → va_S A s.heap H locs → lv_has ls 4 [(0, .ref (a 0)), (1, .int p0), (2, .int p1), (3, .int p2)] → W p l e (headSpec wsX8_entryOf rm_X8_entryOf).room s m args below meth c H locs 0 0 (MQ below (ik_Qi D (mk_W cI cZ a) A rz σz) args s 0 0 A) (F0 m 34 ls [.ref (a 0)]) := by
    rw [ej]; clear h
    intro _u h H locs ls hP hD hS hl
    refine lv_iconst (v := 0) hx hb dX8_entryOf_34 (by decide) ?_
    exact hj35 _ h _ _ _ hP hD hS (lv_sub hl [0, 1, 2, 3] rfl)
  clear ej
  refine lv_if_eq (tgt := 34) hx hb dX8_entryOf_8 (by decide) (fun c8 => ?_) (fun c8 => ?_)
  · have h := ik_t c8 h
    exact hj34 () h _ _ _ hP hD hS (lv_sub hl [0, 1, 2, 3] rfl)
  · have h := ik_f c8 h
    refine lv_iload_n hx hb dX8_entryOf_11 rfl (lv_at hl 2 rfl) ?_
    refine lv_iconst (v := 0) hx hb dX8_entryOf_12 (by decide) ?_
    refine lv_bipush (v := 7) hx hb dX8_entryOf_13 (by decide) ?_
    obtain ⟨v9, eh, h⟩ := ik_bd h
    refine ik_Si (As := [.int p1, .int 0, .int 7]) (rest := [.ref (a 0)]) ⟨hx, hb, hml, hown, hts⟩ (c_X8_isIn l D cI cZ a A p1 0 7 σ _ eh) (va_cwS 3 hts gX8_entryOf_X8_isIn rfl rfl rfl (by decide +kernel) ⟨Nat.le_of_ble_eq_true rfl, Nat.le_of_ble_eq_true rfl⟩) hP hK hD hN hS rfl hl.1 rfl (Nat.le_of_ble_eq_true rfl) dX8_entryOf_15 (fun H locs hP hD hS => ?_)
    clear eh
    refine lv_if_eq (tgt := 34) hx hb dX8_entryOf_18 (by decide) (fun c10 => ?_) (fun c10 => ?_)
    · have h := ik_t c10 h
      exact hj34 () h _ _ _ hP hD hS (lv_sub hl [0, 1, 2, 3] rfl)
    · have h := ik_f c10 h
      refine lv_iload_n hx hb dX8_entryOf_21 rfl (lv_at hl 3 rfl) ?_
      refine lv_iconst (v := 0) hx hb dX8_entryOf_22 (by decide) ?_
      refine lv_iconst (v := 2) hx hb dX8_entryOf_23 (by decide) ?_
      obtain ⟨v11, eh, h⟩ := ik_bd h
      refine ik_Si (As := [.int p2, .int 0, .int 2]) (rest := [.ref (a 0)]) ⟨hx, hb, hml, hown, hts⟩ (c_X8_isIn l D cI cZ a A p2 0 2 σ _ eh) (va_cwS 3 hts gX8_entryOf_X8_isIn rfl rfl rfl (by decide +kernel) ⟨Nat.le_of_ble_eq_true rfl, Nat.le_of_ble_eq_true rfl⟩) hP hK hD hN hS rfl hl.1 rfl (Nat.le_of_ble_eq_true rfl) dX8_entryOf_24 (fun H locs hP hD hS => ?_)
      clear eh
      refine lv_if_eq (tgt := 34) hx hb dX8_entryOf_27 (by decide) (fun c12 => ?_) (fun c12 => ?_)
      · have h := ik_t c12 h
        exact hj34 () h _ _ _ hP hD hS (lv_sub hl [0, 1, 2, 3] rfl)
      · have h := ik_f c12 h
        refine lv_iconst (v := 1) hx hb dX8_entryOf_30 (by decide) ?_
        refine lv_goto (tgt := 35) hx hb dX8_entryOf_31 (by decide) ?_
        exact hj35 _ h _ _ _ hP hD hS (lv_sub hl [0, 1, 2, 3] rfl)
abbrev rm_X8_isTaken : Room := { frames := 2, cells := 0, slots := 0, locals := 43 }
theorem in_X8_isTaken_X8 : ∀ w ∈ wsX80, w ∈ wsX8_isTaken := by decide +kernel
set_option maxHeartbeats 4000000 in
set_option maxRecDepth 100000 in
theorem c_X8_isTaken (l : Launch) (D : va_G) (cI cZ : ClassId) (a : Nat → Nat) (A : Nat → Prop) (p0 : Int32) (p1 : Int32) (σ : mk_S) (rz : Int32) (σz : mk_S) (h : fX8_isTaken p0 p1 σ = some (rz, σz)) : Met l yX8_isTaken wsX8_isTaken rm_X8_isTaken (va_Pc [.ref (a 0), .int p0, .int p1] (ik_P D [(cI, .int), (cZ, .boolean)] [] (mk_W cI cZ a) A σ)) (ik_Qi D (mk_W cI cZ a) A rz σz) 0 0 A := by
  unfold fX8_isTaken at h
  refine Met.ofW (cc := cX8_isTaken) (maxL := 3) (ret := (some .boolean)) (by decide) rfl ?_
  intro p e s m args below meth c s₁ B hml hv
  obtain ⟨hAr, hP, hK, hD, hN⟩ := hv
  have hx := B.exec
  have hb := B.bytes
  have hr := B.returns
  have hts := atoms_spec (ws := wsX8_isTaken) B.pre
  have hown : s.vm.findClass RX8 = some m.cls := findClass_of_methodNamed B.named
  have hlocks := B.notSynchronized
  have hS : va_S A s.heap s.heap [] := va_S.rf
  have hl := lv_entry ([.ref (a 0), .int p0, .int p1]) (n := 3) (Nat.le_of_ble_eq_true rfl)
  rw [show entryFrame m args 3 = entryFrame m ([.ref (a 0), .int p0, .int p1] : List Value).toArray 3 from by rw [hAr], lg_entry_eq]
  generalize (lg_sl ([.ref (a 0), .int p0, .int p1]) ++ List.replicate (3 - (lg_sl ([.ref (a 0), .int p0, .int p1])).length) Slot.unset).toArray = ls at hl ⊢
  have hl : lv_has ls 3 [(0, .ref (a 0)), (1, .int p0), (2, .int p1)] := hl
  refine lv_aload_n hx hb dX8_isTaken_0 rfl (lv_at hl 0 rfl) ?_
  refine lv_iload_n hx hb dX8_isTaken_1 rfl (lv_at hl 1 rfl) ?_
  refine lv_iload_n hx hb dX8_isTaken_2 rfl (lv_at hl 2 rfl) ?_
  obtain ⟨v1, eh, h⟩ := ik_bd h
  refine ik_Si (As := [.int p0, .int p1]) (rest := [.ref (a 0)]) ⟨hx, hb, hml, hown, hts⟩ (c_X8_isBit l D cI cZ a A p0 p1 σ _ eh) (va_cwS 2 hts gX8_isTaken_X8_isBit rfl rfl rfl (by decide +kernel) ⟨Nat.le_of_ble_eq_true rfl, Nat.le_of_ble_eq_true rfl⟩) hP hK hD hN hS rfl hl.1 rfl (Nat.le_of_ble_eq_true rfl) dX8_isTaken_3 (fun H locs hP hD hS => ?_)
  clear eh
  obtain ⟨v2, σ3, eh, h⟩ := ik_bd2 h
  refine ik_Vi (As := [.int v1]) (rest := []) ⟨hx, hb, hml, hown, hts⟩ (c_X8_may l D cI cZ a A v1 σ _ _ eh) (cwV 1 hts gX8_isTaken_X8_may rfl rfl rfl (by decide +kernel) ⟨Nat.le_of_ble_eq_true rfl, Nat.le_of_ble_eq_true rfl⟩) (va_recv hK hP (ci := 6) (q0 := 0) rfl rfl) hP hK hD hN hS rfl hl.1 rfl (Nat.le_of_ble_eq_true rfl) dX8_isTaken_6 (fun H locs hP hD hS => ?_)
  clear eh
  refine lv_if_eq (tgt := 40) hx hb dX8_isTaken_9 (by decide) (fun c4 => ?_) (fun c4 => ?_)
  · have h := ik_t c4 h
    refine lv_iconst (v := 0) hx hb dX8_isTaken_40 (by decide) ?_
    exact W.zret (v := 0) hx hb hr rfl (fun t ht hW => ⟨⟨_, _, rfl, ⟨congrArg Prod.fst (Option.some.inj h), congrArg Prod.snd (Option.some.inj h)⟩, by rw [ht]; exact hP, hD⟩, hS.F ht⟩) hS.2.2 dX8_isTaken_41
  · have h := ik_f c4 h
    refine lv_aload_n hx hb dX8_isTaken_12 rfl (lv_at hl 0 rfl) ?_
    refine va_get (D := D) (ci := 6) (v := .ref (a 1)) (C := RX8) (T := TX8) (N := 10) hx hb hts in_X8_isTaken_X8 hown hK hP 0 rfl rfl 1 (by decide) (hts (.fieldLink RX8 7 "ImageCheckerModel" "all" "[I") (by decide +kernel)) (fun _ h9 => h9) rfl dX8_isTaken_13 ?_
    refine lv_iload_n hx hb dX8_isTaken_16 rfl (lv_at hl 1 rfl) ?_
    obtain ⟨j29, ej, h⟩ := jn_ex h
    have hj29 : ∀ (y5 : Int32), j29 y5 = some (rz, σz) → ∀ (H : Heap) (locs : List Loc) (ls : Array Slot), va_P D vwCl (mk_W cI cZ a σ3) H → va_D A (mk_W cI cZ a σ3) → va_S A s.heap H locs → lv_has ls 3 [(2, .int p1)] → W p l e (headSpec wsX8_isTaken rm_X8_isTaken).room s m args below meth c H locs 0 0 (MQ below (ik_Qi D (mk_W cI cZ a) A rz σz) args s 0 0 A) (F0 m 29 ls [.int y5, .ref (a 1)]) := by
      rw [ej]; clear h
      intro y5 h H locs ls hP hD hS hl
      refine lv_iload_n hx hb dX8_isTaken_29 rfl (lv_at hl 0 rfl) ?_
      refine lv_iadd hx hb dX8_isTaken_30 ?_
      obtain ⟨v6, eh, h⟩ := ik_bd h
      refine ik_ld hx hb hK hP 1 0 rfl rfl eh dX8_isTaken_31 ?_
      clear eh
      refine lv_iconst (v := 1) hx hb dX8_isTaken_32 (by decide) ?_
      refine lv_icmp_ne (tgt := 40) hx hb dX8_isTaken_33 (by decide) (fun c7 => ?_) (fun c7 => ?_)
      · have h := ik_f c7 h
        refine lv_iconst (v := 0) hx hb dX8_isTaken_40 (by decide) ?_
        exact W.zret (v := 0) hx hb hr rfl (fun t ht hW => ⟨⟨_, _, rfl, ⟨congrArg Prod.fst (Option.some.inj h), congrArg Prod.snd (Option.some.inj h)⟩, by rw [ht]; exact hP, hD⟩, hS.F ht⟩) hS.2.2 dX8_isTaken_41
      · have h := ik_t c7 h
        refine lv_iconst (v := 1) hx hb dX8_isTaken_36 (by decide) ?_
        refine lv_goto (tgt := 41) hx hb dX8_isTaken_37 (by decide) ?_
        exact W.zret (v := 1) hx hb hr rfl (fun t ht hW => ⟨⟨_, _, rfl, ⟨congrArg Prod.fst (Option.some.inj h), congrArg Prod.snd (Option.some.inj h)⟩, by rw [ht]; exact hP, hD⟩, hS.F ht⟩) hS.2.2 dX8_isTaken_41
    clear ej
    refine lv_if_ne (tgt := 26) hx hb dX8_isTaken_17 (by decide) (fun c8 => ?_) (fun c8 => ?_)
    · have h := ik_f c8 h
      refine lv_sipush (v := 1401) hx hb dX8_isTaken_26 (by decide) ?_
      exact hj29 _ h _ _ _ hP hD hS (lv_sub hl [2] rfl)
    · have h := ik_t c8 h
      refine lv_sipush (v := 1200) hx hb dX8_isTaken_20 (by decide) ?_
      refine lv_goto (tgt := 29) hx hb dX8_isTaken_23 (by decide) ?_
      exact hj29 _ h _ _ _ hP hD hS (lv_sub hl [2] rfl)
abbrev rm_X8_told : Room := { frames := 1, cells := 0, slots := 0, locals := 22 }
theorem in_X8_told_X8 : ∀ w ∈ wsX80, w ∈ wsX8_told := by decide +kernel
set_option maxHeartbeats 4000000 in
set_option maxRecDepth 100000 in
theorem c_X8_told (l : Launch) (D : va_G) (cI cZ : ClassId) (a : Nat → Nat) (A : Nat → Prop) (p0 : Int32) (σ : mk_S) (rz : Int32) (σz : mk_S) (h : fX8_told p0 σ = some (rz, σz)) : Met l yX8_told wsX8_told rm_X8_told (va_Pc [.ref (a 0), .int p0] (ik_P D [(cI, .int), (cZ, .boolean)] [] (mk_W cI cZ a) A σ)) (ik_Qi D (mk_W cI cZ a) A rz σz) 0 0 A := by
  unfold fX8_told at h
  refine Met.ofW (cc := cX8_told) (maxL := 2) (ret := (some .int)) (by decide) rfl ?_
  intro p e s m args below meth c s₁ B hml hv
  obtain ⟨hAr, hP, hK, hD, hN⟩ := hv
  have hx := B.exec
  have hb := B.bytes
  have hr := B.returns
  have hts := atoms_spec (ws := wsX8_told) B.pre
  have hown : s.vm.findClass RX8 = some m.cls := findClass_of_methodNamed B.named
  have hlocks := B.notSynchronized
  have hS : va_S A s.heap s.heap [] := va_S.rf
  have hl := lv_entry ([.ref (a 0), .int p0]) (n := 2) (Nat.le_of_ble_eq_true rfl)
  rw [show entryFrame m args 2 = entryFrame m ([.ref (a 0), .int p0] : List Value).toArray 2 from by rw [hAr], lg_entry_eq]
  generalize (lg_sl ([.ref (a 0), .int p0]) ++ List.replicate (2 - (lg_sl ([.ref (a 0), .int p0])).length) Slot.unset).toArray = ls at hl ⊢
  have hl : lv_has ls 2 [(0, .ref (a 0)), (1, .int p0)] := hl
  refine lv_aload_n hx hb dX8_told_0 rfl (lv_at hl 0 rfl) ?_
  refine lv_iload_n hx hb dX8_told_1 rfl (lv_at hl 1 rfl) ?_
  refine lv_iconst (v := 0) hx hb dX8_told_2 (by decide) ?_
  refine lv_iconst (v := 2) hx hb dX8_told_3 (by decide) ?_
  obtain ⟨v1, eh, h⟩ := ik_bd h
  refine ik_Si (As := [.int p0, .int 0, .int 2]) (rest := [.ref (a 0)]) ⟨hx, hb, hml, hown, hts⟩ (c_X8_isIn l D cI cZ a A p0 0 2 σ _ eh) (va_cwS 3 hts gX8_told_X8_isIn rfl rfl rfl (by decide +kernel) ⟨Nat.le_of_ble_eq_true rfl, Nat.le_of_ble_eq_true rfl⟩) hP hK hD hN hS rfl hl.1 rfl (Nat.le_of_ble_eq_true rfl) dX8_told_4 (fun H locs hP hD hS => ?_)
  clear eh
  obtain ⟨v2, σ3, eh, h⟩ := ik_bd2 h
  refine ik_Vi (As := [.int v1]) (rest := []) ⟨hx, hb, hml, hown, hts⟩ (c_X8_may l D cI cZ a A v1 σ _ _ eh) (cwV 1 hts gX8_told_X8_may rfl rfl rfl (by decide +kernel) ⟨Nat.le_of_ble_eq_true rfl, Nat.le_of_ble_eq_true rfl⟩) (va_recv hK hP (ci := 6) (q0 := 0) rfl rfl) hP hK hD hN hS rfl hl.1 rfl (Nat.le_of_ble_eq_true rfl) dX8_told_7 (fun H locs hP hD hS => ?_)
  clear eh
  refine lv_if_eq (tgt := 26) hx hb dX8_told_10 (by decide) (fun c4 => ?_) (fun c4 => ?_)
  · have h := ik_t c4 h
    refine lv_iconst (v := 0) hx hb dX8_told_26 (by decide) ?_
    exact W.iret hx hb hr (fun t ht hW => ⟨⟨_, _, rfl, ⟨congrArg Prod.fst (Option.some.inj h), congrArg Prod.snd (Option.some.inj h)⟩, by rw [ht]; exact hP, hD⟩, hS.F ht⟩) hS.2.2 dX8_told_27
  · have h := ik_f c4 h
    refine lv_aload_n hx hb dX8_told_13 rfl (lv_at hl 0 rfl) ?_
    refine va_get (D := D) (ci := 6) (v := .ref (a 1)) (C := RX8) (T := TX8) (N := 10) hx hb hts in_X8_told_X8 hown hK hP 0 rfl rfl 1 (by decide) (hts (.fieldLink RX8 7 "ImageCheckerModel" "all" "[I") (by decide +kernel)) (fun _ h9 => h9) rfl dX8_told_14 ?_
    refine lv_sipush (v := 1426) hx hb dX8_told_17 (by decide) ?_
    refine lv_iload_n hx hb dX8_told_20 rfl (lv_at hl 1 rfl) ?_
    refine lv_iadd hx hb dX8_told_21 ?_
    obtain ⟨v5, eh, h⟩ := ik_bd h
    refine ik_ld hx hb hK hP 1 0 rfl rfl eh dX8_told_22 ?_
    clear eh
    refine lv_goto (tgt := 27) hx hb dX8_told_23 (by decide) ?_
    exact W.iret hx hb hr (fun t ht hW => ⟨⟨_, _, rfl, ⟨congrArg Prod.fst (Option.some.inj h), congrArg Prod.snd (Option.some.inj h)⟩, by rw [ht]; exact hP, hD⟩, hS.F ht⟩) hS.2.2 dX8_told_27
abbrev rm_X8_entryNamed : Room := { frames := 1, cells := 0, slots := 0, locals := 21 }
theorem in_X8_entryNamed_X8 : ∀ w ∈ wsX80, w ∈ wsX8_entryNamed := by decide +kernel
set_option maxHeartbeats 4000000 in
set_option maxRecDepth 100000 in
theorem c_X8_entryNamed (l : Launch) (D : va_G) (cI cZ : ClassId) (a : Nat → Nat) (A : Nat → Prop) (p0 : Int32) (p1 : Int32) (σ : mk_S) (rz : Int32) (h : fX8_entryNamed p0 p1 σ = some rz) : Met l yX8_entryNamed wsX8_entryNamed rm_X8_entryNamed (va_Pc [.ref (a 0), .int p0, .int p1] (ik_P D [(cI, .int), (cZ, .boolean)] [] (mk_W cI cZ a) A σ)) (ik_Qi D (mk_W cI cZ a) A rz σ) 0 0 A := by
  unfold fX8_entryNamed at h
  refine Met.ofW (cc := cX8_entryNamed) (maxL := 4) (ret := (some .int)) (by decide) rfl ?_
  intro p e s m args below meth c s₁ B hml hv
  obtain ⟨hAr, hP, hK, hD, hN⟩ := hv
  have hx := B.exec
  have hb := B.bytes
  have hr := B.returns
  have hts := atoms_spec (ws := wsX8_entryNamed) B.pre
  have hown : s.vm.findClass RX8 = some m.cls := findClass_of_methodNamed B.named
  have hlocks := B.notSynchronized
  have hS : va_S A s.heap s.heap [] := va_S.rf
  have hl := lv_entry ([.ref (a 0), .int p0, .int p1]) (n := 4) (Nat.le_of_ble_eq_true rfl)
  rw [show entryFrame m args 4 = entryFrame m ([.ref (a 0), .int p0, .int p1] : List Value).toArray 4 from by rw [hAr], lg_entry_eq]
  generalize (lg_sl ([.ref (a 0), .int p0, .int p1]) ++ List.replicate (4 - (lg_sl ([.ref (a 0), .int p0, .int p1])).length) Slot.unset).toArray = ls at hl ⊢
  have hl : lv_has ls 4 [(0, .ref (a 0)), (1, .int p0), (2, .int p1)] := hl
  refine lv_iconst (v := 0) hx hb dX8_entryNamed_0 (by decide) ?_
  refine lv_istore_n (lv' := [(3, .int 0), (0, .ref (a 0)), (1, .int p0), (2, .int p1)]) hx hb dX8_entryNamed_1 rfl hl (by decide) rfl (fun ls hl => ?_)
  refine qp1_W (P := fun (x1 : Int32) => ∀ (H : Heap) (locs : List Loc) (ls : Array Slot), va_P D vwCl (mk_W cI cZ a σ) H → va_D A (mk_W cI cZ a σ) → va_S A s.heap H locs → lv_has ls 4 [(0, .ref (a 0)), (1, .int p0), (2, .int p1), (3, .int x1)] → W p l e (headSpec wsX8_entryNamed rm_X8_entryNamed).room s m args below meth c H locs 0 0 (MQ below (ik_Qi D (mk_W cI cZ a) A rz σ) args s 0 0 A) (F0 m 2 ls [])) ?_ FU _ h _ _ _ hP hD hS (lv_sub hl [1, 2, 3, 0] rfl)
  intro rec2 ih2 x1 h H locs ls hP hD hS hl
  refine lv_iload_n hx hb dX8_entryNamed_2 rfl (lv_at hl 3 rfl) ?_
  refine lv_bipush (v := 8) hx hb dX8_entryNamed_3 (by decide) ?_
  refine lv_icmp_ge (tgt := 41) hx hb dX8_entryNamed_5 (by decide) (fun c2 => ?_) (fun c2 => ?_)
  · have h := ik_t c2 h
    refine lv_iconst (v := 0) hx hb dX8_entryNamed_41 (by decide) ?_
    exact W.iret hx hb hr (fun t ht hW => ⟨⟨_, _, rfl, ⟨Option.some.inj h, rfl⟩, by rw [ht]; exact hP, hD⟩, hS.F ht⟩) hS.2.2 dX8_entryNamed_42
  · have h := ik_f c2 h
    refine lv_aload_n hx hb dX8_entryNamed_8 rfl (lv_at hl 0 rfl) ?_
    refine va_get (D := D) (ci := 6) (v := .ref (a 1)) (C := RX8) (T := TX8) (N := 10) hx hb hts in_X8_entryNamed_X8 hown hK hP 0 rfl rfl 1 (by decide) (hts (.fieldLink RX8 7 "ImageCheckerModel" "all" "[I") (by decide +kernel)) (fun _ h9 => h9) rfl dX8_entryNamed_9 ?_
    refine lv_iload_n hx hb dX8_entryNamed_12 rfl (lv_at hl 1 rfl) ?_
    refine lv_iload_n hx hb dX8_entryNamed_13 rfl (lv_at hl 3 rfl) ?_
    obtain ⟨v3, eh, h⟩ := ik_bd h
    refine ik_Si (As := [.int p0, .int x1]) (rest := [.ref (a 1)]) ⟨hx, hb, hml, hown, hts⟩ (c_X8_entryAt l D cI cZ a A p0 x1 σ _ eh) (va_cwS 2 hts gX8_entryNamed_X8_entryAt rfl rfl rfl (by decide +kernel) ⟨Nat.le_of_ble_eq_true rfl, Nat.le_of_ble_eq_true rfl⟩) hP hK hD hN hS rfl hl.1 rfl (Nat.le_of_ble_eq_true rfl) dX8_entryNamed_14 (fun H locs hP hD hS => ?_)
    clear eh
    obtain ⟨v4, eh, h⟩ := ik_bd h
    refine ik_ld hx hb hK hP 1 0 rfl rfl eh dX8_entryNamed_17 ?_
    clear eh
    refine lv_iload_n hx hb dX8_entryNamed_18 rfl (lv_at hl 2 rfl) ?_
    refine lv_icmp_ne (tgt := 35) hx hb dX8_entryNamed_19 (by decide) (fun c5 => ?_) (fun c5 => ?_)
    · have h := ik_f c5 h
      refine lv_iinc (v := x1 + 1) (lv' := [(3, .int (x1 + 1)), (0, .ref (a 0)), (1, .int p0), (2, .int p1)]) hx hb dX8_entryNamed_35 hl (k := 3) rfl rfl (by decide) rfl (fun ls hl => ?_)
      refine lv_goto (tgt := 2) hx hb dX8_entryNamed_38 (by decide) ?_
      exact ih2 _ h _ _ _ hP hD hS (lv_sub hl [1, 2, 3, 0] rfl)
    · have h := ik_t c5 h
      refine lv_aload_n hx hb dX8_entryNamed_22 rfl (lv_at hl 0 rfl) ?_
      refine va_get (D := D) (ci := 6) (v := .ref (a 1)) (C := RX8) (T := TX8) (N := 10) hx hb hts in_X8_entryNamed_X8 hown hK hP 0 rfl rfl 1 (by decide) (hts (.fieldLink RX8 7 "ImageCheckerModel" "all" "[I") (by decide +kernel)) (fun _ h9 => h9) rfl dX8_entryNamed_23 ?_
      refine lv_iload_n hx hb dX8_entryNamed_26 rfl (lv_at hl 1 rfl) ?_
      refine lv_iload_n hx hb dX8_entryNamed_27 rfl (lv_at hl 3 rfl) ?_
      obtain ⟨v6, eh, h⟩ := ik_bd h
      refine ik_Si (As := [.int p0, .int x1]) (rest := [.ref (a 1)]) ⟨hx, hb, hml, hown, hts⟩ (c_X8_entryAt l D cI cZ a A p0 x1 σ _ eh) (va_cwS 2 hts gX8_entryNamed_X8_entryAt rfl rfl rfl (by decide +kernel) ⟨Nat.le_of_ble_eq_true rfl, Nat.le_of_ble_eq_true rfl⟩) hP hK hD hN hS rfl hl.1 rfl (Nat.le_of_ble_eq_true rfl) dX8_entryNamed_28 (fun H locs hP hD hS => ?_)
      clear eh
      refine lv_iconst (v := 1) hx hb dX8_entryNamed_31 (by decide) ?_
      refine lv_iadd hx hb dX8_entryNamed_32 ?_
      obtain ⟨v7, eh, h⟩ := ik_bd h
      refine ik_ld hx hb hK hP 1 0 rfl rfl eh dX8_entryNamed_33 ?_
      clear eh
      exact W.iret hx hb hr (fun t ht hW => ⟨⟨_, _, rfl, ⟨Option.some.inj h, rfl⟩, by rw [ht]; exact hP, hD⟩, hS.F ht⟩) hS.2.2 dX8_entryNamed_34
