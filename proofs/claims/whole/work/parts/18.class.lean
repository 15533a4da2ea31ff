abbrev rm_X7_fileNamed : Room := { frames := 3, cells := 0, slots := 0, locals := 68 }
theorem in_X7_fileNamed_X7 : ∀ w ∈ wsX70, w ∈ wsX7_fileNamed := by decide +kernel
set_option maxHeartbeats 4000000 in
set_option maxRecDepth 100000 in
theorem c_X7_fileNamed (l : Launch) (D : va_G) (cI cZ : ClassId) (a : Nat → Nat) (A : Nat → Prop) (p0 : Int32) (p1 : Int32) (σ : ck_S) (rz : Int32) (h : fX7_fileNamed p0 p1 σ = some rz) : Met l yX7_fileNamed wsX7_fileNamed rm_X7_fileNamed (va_Pc [.ref (a 0), .int p0, .int p1] (ik_P D [(cI, .int), (cZ, .boolean)] ck_N (ck_W cI cZ a) A σ)) (ik_Qi D (ck_W cI cZ a) A rz σ) 0 0 A := by
  unfold fX7_fileNamed at h
  refine Met.ofW (cc := cX7_fileNamed) (maxL := 4) (ret := (some .int)) (by decide) rfl ?_
  intro p e s m args below meth c s₁ B hml hv
  obtain ⟨hAr, hP, hK, hD, hN⟩ := hv
  have hx := B.exec
  have hb := B.bytes
  have hr := B.returns
  have hts := atoms_spec (ws := wsX7_fileNamed) B.pre
  have hown : s.vm.findClass RX7 = some m.cls := findClass_of_methodNamed B.named
  have hlocks := B.notSynchronized
  have hS : va_S A s.heap s.heap [] := va_S.rf
  have hl := lv_entry ([.ref (a 0), .int p0, .int p1]) (n := 4) (Nat.le_of_ble_eq_true rfl)
  rw [show entryFrame m args 4 = entryFrame m ([.ref (a 0), .int p0, .int p1] : List Value).toArray 4 from by rw [hAr], lg_entry_eq]
  generalize (lg_sl ([.ref (a 0), .int p0, .int p1]) ++ List.replicate (4 - (lg_sl ([.ref (a 0), .int p0, .int p1])).length) Slot.unset).toArray = ls at hl ⊢
  have hl : lv_has ls 4 [(0, .ref (a 0)), (1, .int p0), (2, .int p1)] := hl
  refine lv_aload_n hx hb dX7_fileNamed_0 rfl (lv_at hl 0 rfl) ?_
  refine va_get (D := D) (ci := 5) (v := .ref (a 1)) (C := RX7) (T := TX7) (N := 6) hx hb hts in_X7_fileNamed_X7 hown hK hP 0 rfl rfl 0 (by decide) (hts (.fieldLink RX7 10 "ImageChecker" "tables" "LImageChecker$Tables;") (by decide +kernel)) (fun _ h9 => h9) rfl dX7_fileNamed_1 ?_
  refine lv_iload_n hx hb dX7_fileNamed_4 rfl (lv_at hl 1 rfl) ?_
  refine lv_iconst (v := 0) hx hb dX7_fileNamed_5 (by decide) ?_
  obtain ⟨v1, eh, h⟩ := ik_bd h
  refine ik_Vi (As := [.int p0, .int 0]) (rest := []) ⟨hx, hb, hml, hown, hts⟩ (c_X5_number l D cI cZ a A p0 0 σ _ eh) (cwV 2 hts gX7_fileNamed_X5_number rfl rfl rfl (by decide +kernel) ⟨Nat.le_of_ble_eq_true rfl, Nat.le_of_ble_eq_true rfl⟩) (va_recv hK hP (ci := 3) (q0 := 1) rfl rfl) hP hK hD hN hS rfl hl.1 rfl (Nat.le_of_ble_eq_true rfl) dX7_fileNamed_6 (fun H locs hP hD hS => ?_)
  clear eh
  refine lv_iconst (v := 2) hx hb dX7_fileNamed_9 (by decide) ?_
  refine lv_icmp_eq (tgt := 15) hx hb dX7_fileNamed_10 (by decide) (fun c2 => ?_) (fun c2 => ?_)
  · have h := ik_t c2 h
    refine lv_aload_n hx hb dX7_fileNamed_15 rfl (lv_at hl 0 rfl) ?_
    refine va_get (D := D) (ci := 5) (v := .ref (a 1)) (C := RX7) (T := TX7) (N := 6) hx hb hts in_X7_fileNamed_X7 hown hK hP 0 rfl rfl 0 (by decide) (hts (.fieldLink RX7 10 "ImageChecker" "tables" "LImageChecker$Tables;") (by decide +kernel)) (fun _ h9 => h9) rfl dX7_fileNamed_16 ?_
    refine lv_iload_n hx hb dX7_fileNamed_19 rfl (lv_at hl 1 rfl) ?_
    refine lv_bipush (v := 8) hx hb dX7_fileNamed_20 (by decide) ?_
    refine lv_iload_n hx hb dX7_fileNamed_22 rfl (lv_at hl 2 rfl) ?_
    obtain ⟨v3, eh, h⟩ := ik_bd h
    refine ik_Vi (As := [.int p0, .int 8, .int p1]) (rest := []) ⟨hx, hb, hml, hown, hts⟩ (c_X5_placeOfName l D cI cZ a A p0 8 p1 σ _ eh) (cwV 3 hts gX7_fileNamed_X5_placeOfName rfl rfl rfl (by decide +kernel) ⟨Nat.le_of_ble_eq_true rfl, Nat.le_of_ble_eq_true rfl⟩) (va_recv hK hP (ci := 3) (q0 := 1) rfl rfl) hP hK hD hN hS rfl hl.1 rfl (Nat.le_of_ble_eq_true rfl) dX7_fileNamed_23 (fun H locs hP hD hS => ?_)
    clear eh
    refine lv_istore_n (lv' := [(3, .int v3), (0, .ref (a 0)), (1, .int p0), (2, .int p1)]) hx hb dX7_fileNamed_26 rfl hl (by decide) rfl (fun ls hl => ?_)
    refine lv_iload_n hx hb dX7_fileNamed_27 rfl (lv_at hl 0 rfl) ?_
    refine lv_bipush (v := 8) hx hb dX7_fileNamed_28 (by decide) ?_
    refine lv_icmp_ge (tgt := 46) hx hb dX7_fileNamed_30 (by decide) (fun c4 => ?_) (fun c4 => ?_)
    · have h := ik_t c4 h
      refine lv_iconst (v := 0) hx hb dX7_fileNamed_46 (by decide) ?_
      exact W.iret hx hb hr (fun t ht hW => ⟨⟨_, _, rfl, ⟨Option.some.inj h, rfl⟩, by rw [ht]; exact hP, hD⟩, hS.F ht⟩) hS.2.2 dX7_fileNamed_47
    · have h := ik_f c4 h
      refine lv_aload_n hx hb dX7_fileNamed_33 rfl (lv_at hl 1 rfl) ?_
      refine va_get (D := D) (ci := 5) (v := .ref (a 1)) (C := RX7) (T := TX7) (N := 6) hx hb hts in_X7_fileNamed_X7 hown hK hP 0 rfl rfl 0 (by decide) (hts (.fieldLink RX7 10 "ImageChecker" "tables" "LImageChecker$Tables;") (by decide +kernel)) (fun _ h9 => h9) rfl dX7_fileNamed_34 ?_
      refine lv_iload_n hx hb dX7_fileNamed_37 rfl (lv_at hl 2 rfl) ?_
      refine lv_iload_n hx hb dX7_fileNamed_38 rfl (lv_at hl 0 rfl) ?_
      refine lv_iconst (v := 1) hx hb dX7_fileNamed_39 (by decide) ?_
      obtain ⟨v5, eh, h⟩ := ik_bd h
      refine ik_Vi (As := [.int p0, .int v3, .int 1]) (rest := []) ⟨hx, hb, hml, hown, hts⟩ (c_X5_entryPart l D cI cZ a A p0 v3 1 σ _ eh) (cwV 3 hts gX7_fileNamed_X5_entryPart rfl rfl rfl (by decide +kernel) ⟨Nat.le_of_ble_eq_true rfl, Nat.le_of_ble_eq_true rfl⟩) (va_recv hK hP (ci := 3) (q0 := 1) rfl rfl) hP hK hD hN hS rfl hl.1 rfl (Nat.le_of_ble_eq_true rfl) dX7_fileNamed_40 (fun H locs hP hD hS => ?_)
      clear eh
      refine lv_goto (tgt := 47) hx hb dX7_fileNamed_43 (by decide) ?_
      exact W.iret hx hb hr (fun t ht hW => ⟨⟨_, _, rfl, ⟨Option.some.inj h, rfl⟩, by rw [ht]; exact hP, hD⟩, hS.F ht⟩) hS.2.2 dX7_fileNamed_47
  · have h := ik_f c2 h
    refine lv_iconst (v := 0) hx hb dX7_fileNamed_13 (by decide) ?_
    exact W.iret hx hb hr (fun t ht hW => ⟨⟨_, _, rfl, ⟨Option.some.inj h, rfl⟩, by rw [ht]; exact hP, hD⟩, hS.F ht⟩) hS.2.2 dX7_fileNamed_14
abbrev rm_X7_find : Room := { frames := 4, cells := 0, slots := 0, locals := 91 }
set_option maxHeartbeats 4000000 in
set_option maxRecDepth 100000 in
theorem c_X7_find (l : Launch) (D : va_G) (cI cZ : ClassId) (a : Nat → Nat) (A : Nat → Prop) (p0 : Int64) (σ : ck_S) (rz : Int32) (h : fX7_find p0 σ = some rz) : Met l yX7_find wsX7_find rm_X7_find (va_Pc [.ref (a 0), .long p0] (ik_P D [(cI, .int), (cZ, .boolean)] ck_N (ck_W cI cZ a) A σ)) (ik_Qi D (ck_W cI cZ a) A rz σ) 0 0 A := by
  unfold fX7_find at h
  refine Met.ofW (cc := cX7_find) (maxL := 6) (ret := (some .int)) (by decide) rfl ?_
  intro p e s m args below meth c s₁ B hml hv
  obtain ⟨hAr, hP, hK, hD, hN⟩ := hv
  have hx := B.exec
  have hb := B.bytes
  have hr := B.returns
  have hts := atoms_spec (ws := wsX7_find) B.pre
  have hown : s.vm.findClass RX7 = some m.cls := findClass_of_methodNamed B.named
  have hlocks := B.notSynchronized
  have hS : va_S A s.heap s.heap [] := va_S.rf
  have hl := lv_entry ([.ref (a 0), .long p0]) (n := 6) (Nat.le_of_ble_eq_true rfl)
  rw [show entryFrame m args 6 = entryFrame m ([.ref (a 0), .long p0] : List Value).toArray 6 from by rw [hAr], lg_entry_eq]
  generalize (lg_sl ([.ref (a 0), .long p0]) ++ List.replicate (6 - (lg_sl ([.ref (a 0), .long p0])).length) Slot.unset).toArray = ls at hl ⊢
  have hl : lv_has ls 6 [(0, .ref (a 0)), (1, .long p0)] := hl
  refine lv_iconst (v := 1) hx hb dX7_find_0 (by decide) ?_
  refine lv_istore_n (lv' := [(3, .int 1), (0, .ref (a 0)), (1, .long p0)]) hx hb dX7_find_1 rfl hl (by decide) rfl (fun ls hl => ?_)
  refine lv_iconst (v := 0) hx hb dX7_find_2 (by decide) ?_
  refine lv_istore (lv' := [(4, .int 0), (3, .int 1), (0, .ref (a 0)), (1, .long p0)]) hx hb dX7_find_3 hl (by decide) rfl (fun ls hl => ?_)
  refine qp2_W (P := fun (x1 : Int32) (x2 : Int32) => ∀ (H : Heap) (locs : List Loc) (ls : Array Slot), va_P D vwCl (ck_W cI cZ a σ) H → va_D A (ck_W cI cZ a σ) → va_S A s.heap H locs → lv_has ls 6 [(0, .ref (a 0)), (1, .long p0), (3, .int x1), (4, .int x2)] → W p l e (headSpec wsX7_find rm_X7_find).room s m args below meth c H locs 0 0 (MQ below (ik_Qi D (ck_W cI cZ a) A rz σ) args s 0 0 A) (F0 m 5 ls [])) ?_ FU _ _ h _ _ _ hP hD hS (lv_sub hl [2, 3, 1, 0] rfl)
  intro rec5 ih5 x1 x2 h H locs ls hP hD hS hl
  refine lv_iload hx hb dX7_find_5 (lv_at hl 3 rfl) ?_
  refine lv_bipush (v := 8) hx hb dX7_find_7 (by decide) ?_
  refine lv_icmp_ge (tgt := 56) hx hb dX7_find_9 (by decide) (fun c3 => ?_) (fun c3 => ?_)
  · have h := ik_t c3 h
    refine lv_iload_n hx hb dX7_find_56 rfl (lv_at hl 2 rfl) ?_
    exact W.iret hx hb hr (fun t ht hW => ⟨⟨_, _, rfl, ⟨Option.some.inj h, rfl⟩, by rw [ht]; exact hP, hD⟩, hS.F ht⟩) hS.2.2 dX7_find_57
  · have h := ik_f c3 h
    refine lv_lload_n hx hb dX7_find_12 rfl (lv_at hl 1 rfl) ?_
    refine lv_bipush (v := 8) hx hb dX7_find_13 (by decide) ?_
    refine lv_iload hx hb dX7_find_15 (lv_at hl 3 rfl) ?_
    refine lv_imul hx hb dX7_find_17 ?_
    refine lv_lushr (v := (p0.toUInt64 >>> ((8 * x2).toInt64.toUInt64 &&& Int64.toUInt64 63)).toInt64) hx hb dX7_find_18 rfl ?_
    refine lv_l2i (v := ((p0.toUInt64 >>> ((8 * x2).toInt64.toUInt64 &&& Int64.toUInt64 63)).toInt64).toInt32) hx hb dX7_find_19 rfl ?_
    refine lv_sipush (v := 255) hx hb dX7_find_20 (by decide) ?_
    refine lv_iand hx hb dX7_find_23 ?_
    refine lv_istore (lv' := [(5, .int ((((p0.toUInt64 >>> ((8 * x2).toInt64.toUInt64 &&& Int64.toUInt64 63)).toInt64).toInt32) &&& 255)), (0, .ref (a 0)), (1, .long p0), (3, .int x1), (4, .int x2)]) hx hb dX7_find_24 hl (by decide) rfl (fun ls hl => ?_)
    refine lv_iload hx hb dX7_find_26 (lv_at hl 0 rfl) ?_
    refine lv_if_ne (tgt := 33) hx hb dX7_find_28 (by decide) (fun c4 => ?_) (fun c4 => ?_)
    · have h := ik_f c4 h
      refine lv_aload_n hx hb dX7_find_33 rfl (lv_at hl 1 rfl) ?_
      refine lv_iload_n hx hb dX7_find_34 rfl (lv_at hl 3 rfl) ?_
      refine lv_iload hx hb dX7_find_35 (lv_at hl 0 rfl) ?_
      obtain ⟨v5, eh, h⟩ := ik_bd h
      refine ik_Vi (As := [.int x1, .int ((((p0.toUInt64 >>> ((8 * x2).toInt64.toUInt64 &&& Int64.toUInt64 63)).toInt64).toInt32) &&& 255)]) (rest := []) ⟨hx, hb, hml, hown, hts⟩ (c_X7_fileNamed l D cI cZ a A x1 ((((p0.toUInt64 >>> ((8 * x2).toInt64.toUInt64 &&& Int64.toUInt64 63)).toInt64).toInt32) &&& 255) σ _ eh) (cwV 2 hts gX7_find_X7_fileNamed rfl rfl rfl (by decide +kernel) ⟨Nat.le_of_ble_eq_true rfl, Nat.le_of_ble_eq_true rfl⟩) (va_recv hK hP (ci := 5) (q0 := 0) rfl rfl) hP hK hD hN hS rfl hl.1 rfl (Nat.le_of_ble_eq_true rfl) dX7_find_37 (fun H locs hP hD hS => ?_)
      clear eh
      refine lv_istore_n (lv' := [(3, .int v5), (5, .int ((((p0.toUInt64 >>> ((8 * x2).toInt64.toUInt64 &&& Int64.toUInt64 63)).toInt64).toInt32) &&& 255)), (0, .ref (a 0)), (1, .long p0), (4, .int x2)]) hx hb dX7_find_40 rfl hl (by decide) rfl (fun ls hl => ?_)
      refine lv_iload_n hx hb dX7_find_41 rfl (lv_at hl 0 rfl) ?_
      obtain ⟨v6, eh, h⟩ := ik_bd h
      refine ik_Si (As := [.int v5]) (rest := []) ⟨hx, hb, hml, hown, hts⟩ (c_X7_isFile l D cI cZ a A v5 σ _ eh) (va_cwS 1 hts gX7_find_X7_isFile rfl rfl rfl (by decide +kernel) ⟨Nat.le_of_ble_eq_true rfl, Nat.le_of_ble_eq_true rfl⟩) hP hK hD hN hS rfl hl.1 rfl (Nat.le_of_ble_eq_true rfl) dX7_find_42 (fun H locs hP hD hS => ?_)
      clear eh
      refine lv_if_ne (tgt := 50) hx hb dX7_find_45 (by decide) (fun c7 => ?_) (fun c7 => ?_)
      · have h := ik_f c7 h
        refine lv_iinc (v := x2 + 1) (lv' := [(4, .int (x2 + 1)), (3, .int v5), (5, .int ((((p0.toUInt64 >>> ((8 * x2).toInt64.toUInt64 &&& Int64.toUInt64 63)).toInt64).toInt32) &&& 255)), (0, .ref (a 0)), (1, .long p0)]) hx hb dX7_find_50 hl (k := 4) rfl rfl (by decide) rfl (fun ls hl => ?_)
        refine lv_goto (tgt := 5) hx hb dX7_find_53 (by decide) ?_
        exact ih5 _ _ h _ _ _ hP hD hS (lv_sub hl [3, 4, 1, 0] rfl)
      · have h := ik_t c7 h
        refine lv_iconst (v := 0) hx hb dX7_find_48 (by decide) ?_
        exact W.iret hx hb hr (fun t ht hW => ⟨⟨_, _, rfl, ⟨Option.some.inj h, rfl⟩, by rw [ht]; exact hP, hD⟩, hS.F ht⟩) hS.2.2 dX7_find_49
    · have h := ik_t c4 h
      refine lv_iload_n hx hb dX7_find_31 rfl (lv_at hl 3 rfl) ?_
      exact W.iret hx hb hr (fun t ht hW => ⟨⟨_, _, rfl, ⟨Option.some.inj h, rfl⟩, by rw [ht]; exact hP, hD⟩, hS.F ht⟩) hS.2.2 dX7_find_32
