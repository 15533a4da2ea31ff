abbrev rm_X5_putRun : Room := { frames := 1, cells := 0, slots := 0, locals := 21 }
theorem in_X5_putRun_X5 : ∀ w ∈ wsX50, w ∈ wsX5_putRun := by decide +kernel
set_option maxHeartbeats 4000000 in
set_option maxRecDepth 100000 in
theorem c_X5_putRun (l : Launch) (D : va_G) (cI cZ : ClassId) (a : Nat → Nat) (A : Nat → Prop) (p0 : Int32) (p1 : Int32) (p2 : Int32) (p3 : Int32) (p4 : Int32) (σ : ck_S) (σz : ck_S) (h : fX5_putRun p0 p1 p2 p3 p4 σ = some σz) : Met l yX5_putRun wsX5_putRun rm_X5_putRun (va_Pc [.ref (a 1), .int p0, .int p1, .int p2, .int p3, .int p4] (ik_P D [(cI, .int), (cZ, .boolean)] ck_N (ck_W cI cZ a) A σ)) (ik_Qv D (ck_W cI cZ a) A σz) 0 0 A := by
  unfold fX5_putRun at h
  refine Met.ofW (cc := cX5_putRun) (maxL := 7) (ret := none) (by decide) rfl ?_
  intro p e s m args below meth c s₁ B hml hv
  obtain ⟨hAr, hP, hK, hD, hN⟩ := hv
  have hx := B.exec
  have hb := B.bytes
  have hr := B.returns
  have hts := atoms_spec (ws := wsX5_putRun) B.pre
  have hown : s.vm.findClass RX5 = some m.cls := findClass_of_methodNamed B.named
  have hlocks := B.notSynchronized
  have hS : va_S A s.heap s.heap [] := va_S.rf
  have hl := lv_entry ([.ref (a 1), .int p0, .int p1, .int p2, .int p3, .int p4]) (n := 7) (Nat.le_of_ble_eq_true rfl)
  rw [show entryFrame m args 7 = entryFrame m ([.ref (a 1), .int p0, .int p1, .int p2, .int p3, .int p4] : List Value).toArray 7 from by rw [hAr], lg_entry_eq]
  generalize (lg_sl ([.ref (a 1), .int p0, .int p1, .int p2, .int p3, .int p4]) ++ List.replicate (7 - (lg_sl ([.ref (a 1), .int p0, .int p1, .int p2, .int p3, .int p4])).length) Slot.unset).toArray = ls at hl ⊢
  have hl : lv_has ls 7 [(0, .ref (a 1)), (1, .int p0), (2, .int p1), (3, .int p2), (4, .int p3), (5, .int p4)] := hl
  refine lv_iload_n hx hb dX5_putRun_0 rfl (lv_at hl 1 rfl) ?_
  refine lv_iload_n hx hb dX5_putRun_1 rfl (lv_at hl 2 rfl) ?_
  obtain ⟨v1, eh, h⟩ := ik_bd h
  refine ik_Si (As := [.int p0, .int p1]) (rest := []) ⟨hx, hb, hml, hown, hts⟩ (c_X5_runCell l D cI cZ a A p0 p1 σ _ eh) (va_cwS 2 hts gX5_putRun_X5_runCell rfl rfl rfl (by decide +kernel) ⟨Nat.le_of_ble_eq_true rfl, Nat.le_of_ble_eq_true rfl⟩) hP hK hD hN hS rfl hl.1 rfl (Nat.le_of_ble_eq_true rfl) dX5_putRun_2 (fun H locs hP hD hS => ?_)
  clear eh
  refine lv_istore (lv' := [(6, .int v1), (0, .ref (a 1)), (1, .int p0), (2, .int p1), (3, .int p2), (4, .int p3), (5, .int p4)]) hx hb dX5_putRun_5 hl (by decide) rfl (fun ls hl => ?_)
  refine lv_aload_n hx hb dX5_putRun_7 rfl (lv_at hl 1 rfl) ?_
  refine va_get (D := D) (ci := 3) (v := .ref (a 2)) (C := RX5) (T := TX5) (N := 2) hx hb hts in_X5_putRun_X5 hown hK hP 1 rfl rfl 0 (by decide) (hts (.fieldLink RX5 11 "ImageChecker$Tables" "cells" "[I") (by decide +kernel)) (fun _ h9 => h9) rfl dX5_putRun_8 ?_
  refine lv_iload hx hb dX5_putRun_11 (lv_at hl 0 rfl) ?_
  refine lv_iconst (v := 0) hx hb dX5_putRun_13 (by decide) ?_
  refine lv_iadd hx hb dX5_putRun_14 ?_
  refine lv_iload_n hx hb dX5_putRun_15 rfl (lv_at hl 4 rfl) ?_
  obtain ⟨σ2, eh, h⟩ := ik_bd h
  refine ik_st (Wd := ck_W cI cZ a) (σ1 := σ2) hx hb hK hP hD hS 2 0 rfl rfl (fun _ => rfl) eh dX5_putRun_16 (fun H locs hP hD hS => ?_)
  clear eh
  refine lv_aload_n hx hb dX5_putRun_17 rfl (lv_at hl 1 rfl) ?_
  refine va_get (D := D) (ci := 3) (v := .ref (a 2)) (C := RX5) (T := TX5) (N := 2) hx hb hts in_X5_putRun_X5 hown hK hP 1 rfl rfl 0 (by decide) (hts (.fieldLink RX5 11 "ImageChecker$Tables" "cells" "[I") (by decide +kernel)) (fun _ h9 => h9) rfl dX5_putRun_18 ?_
  refine lv_iload hx hb dX5_putRun_21 (lv_at hl 0 rfl) ?_
  refine lv_iconst (v := 1) hx hb dX5_putRun_23 (by decide) ?_
  refine lv_iadd hx hb dX5_putRun_24 ?_
  refine lv_iload hx hb dX5_putRun_25 (lv_at hl 5 rfl) ?_
  obtain ⟨σ3, eh, h⟩ := ik_bd h
  refine ik_st (Wd := ck_W cI cZ a) (σ1 := σ3) hx hb hK hP hD hS 2 0 rfl rfl (fun _ => rfl) eh dX5_putRun_27 (fun H locs hP hD hS => ?_)
  clear eh
  refine lv_aload_n hx hb dX5_putRun_28 rfl (lv_at hl 1 rfl) ?_
  refine va_get (D := D) (ci := 3) (v := .ref (a 2)) (C := RX5) (T := TX5) (N := 2) hx hb hts in_X5_putRun_X5 hown hK hP 1 rfl rfl 0 (by decide) (hts (.fieldLink RX5 11 "ImageChecker$Tables" "cells" "[I") (by decide +kernel)) (fun _ h9 => h9) rfl dX5_putRun_29 ?_
  refine lv_iload hx hb dX5_putRun_32 (lv_at hl 0 rfl) ?_
  refine lv_iconst (v := 2) hx hb dX5_putRun_34 (by decide) ?_
  refine lv_iadd hx hb dX5_putRun_35 ?_
  refine lv_iload hx hb dX5_putRun_36 (lv_at hl 6 rfl) ?_
  obtain ⟨σ4, eh, h⟩ := ik_bd h
  refine ik_st (Wd := ck_W cI cZ a) (σ1 := σ4) hx hb hK hP hD hS 2 0 rfl rfl (fun _ => rfl) eh dX5_putRun_38 (fun H locs hP hD hS => ?_)
  clear eh
  exact W.vret hx hb hr (fun t ht hW => ⟨⟨_, rfl, Option.some.inj h, by rw [ht]; exact hP, hD⟩, hS.F ht⟩) hS.2.2 dX5_putRun_39
abbrev rm_X4_mendRuns : Room := { frames := 2, cells := 0, slots := 0, locals := 47 }
set_option maxHeartbeats 4000000 in
set_option maxRecDepth 100000 in
theorem c_X4_mendRuns (l : Launch) (D : va_G) (cI cZ : ClassId) (a : Nat → Nat) (A : Nat → Prop) (p1 : Int32) (σ : ck_S) (σz : ck_S) (h : fX4_mendRuns p1 σ = some σz) : Met l yX4_mendRuns wsX4_mendRuns rm_X4_mendRuns (va_Pc [.ref (a 5), .ref (a 1), .int p1] (ik_P D [(cI, .int), (cZ, .boolean)] ck_N (ck_W cI cZ a) A σ)) (ik_Qv D (ck_W cI cZ a) A σz) 0 0 A := by
  unfold fX4_mendRuns at h
  refine Met.ofW (cc := cX4_mendRuns) (maxL := 10) (ret := none) (by decide) rfl ?_
  intro p e s m args below meth c s₁ B hml hv
  obtain ⟨hAr, hP, hK, hD, hN⟩ := hv
  have hx := B.exec
  have hb := B.bytes
  have hr := B.returns
  have hts := atoms_spec (ws := wsX4_mendRuns) B.pre
  have hown : s.vm.findClass RX4 = some m.cls := findClass_of_methodNamed B.named
  have hlocks := B.notSynchronized
  have hS : va_S A s.heap s.heap [] := va_S.rf
  have hl := lv_entry ([.ref (a 5), .ref (a 1), .int p1]) (n := 10) (Nat.le_of_ble_eq_true rfl)
  rw [show entryFrame m args 10 = entryFrame m ([.ref (a 5), .ref (a 1), .int p1] : List Value).toArray 10 from by rw [hAr], lg_entry_eq]
  generalize (lg_sl ([.ref (a 5), .ref (a 1), .int p1]) ++ List.replicate (10 - (lg_sl ([.ref (a 5), .ref (a 1), .int p1])).length) Slot.unset).toArray = ls at hl ⊢
  have hl : lv_has ls 10 [(0, .ref (a 5)), (1, .ref (a 1)), (2, .int p1)] := hl
  refine lv_aload_n hx hb dX4_mendRuns_0 rfl (lv_at hl 1 rfl) ?_
  refine lv_iload_n hx hb dX4_mendRuns_1 rfl (lv_at hl 2 rfl) ?_
  refine lv_iconst (v := 1) hx hb dX4_mendRuns_2 (by decide) ?_
  obtain ⟨v1, eh, h⟩ := ik_bd h
  refine ik_Vi (As := [.int p1, .int 1]) (rest := []) ⟨hx, hb, hml, hown, hts⟩ (c_X5_number l D cI cZ a A p1 1 σ _ eh) (cwV 2 hts gX4_mendRuns_X5_number rfl rfl rfl (by decide +kernel) ⟨Nat.le_of_ble_eq_true rfl, Nat.le_of_ble_eq_true rfl⟩) (va_recv hK hP (ci := 3) (q0 := 1) rfl rfl) hP hK hD hN hS rfl hl.1 rfl (Nat.le_of_ble_eq_true rfl) dX4_mendRuns_3 (fun H locs hP hD hS => ?_)
  clear eh
  refine lv_sipush (v := 1024) hx hb dX4_mendRuns_6 (by decide) ?_
  refine lv_iadd hx hb dX4_mendRuns_9 ?_
  refine lv_iconst (v := 1) hx hb dX4_mendRuns_10 (by decide) ?_
  refine lv_isub hx hb dX4_mendRuns_11 ?_
  refine lv_sipush (v := 1024) hx hb dX4_mendRuns_12 (by decide) ?_
  refine lv_idiv hx hb dX4_mendRuns_15 (by decide) ?_
  refine lv_istore_n (lv' := [(3, .int (((v1 + 1024) - 1) / 1024)), (0, .ref (a 5)), (1, .ref (a 1)), (2, .int p1)]) hx hb dX4_mendRuns_16 rfl hl (by decide) rfl (fun ls hl => ?_)
  refine lv_iconst (v := 0) hx hb dX4_mendRuns_17 (by decide) ?_
  refine lv_istore (lv' := [(4, .int 0), (3, .int (((v1 + 1024) - 1) / 1024)), (0, .ref (a 5)), (1, .ref (a 1)), (2, .int p1)]) hx hb dX4_mendRuns_18 hl (by decide) rfl (fun ls hl => ?_)
  refine lv_iconst (v := 0) hx hb dX4_mendRuns_20 (by decide) ?_
  refine lv_istore (lv' := [(5, .int 0), (4, .int 0), (3, .int (((v1 + 1024) - 1) / 1024)), (0, .ref (a 5)), (1, .ref (a 1)), (2, .int p1)]) hx hb dX4_mendRuns_21 hl (by decide) rfl (fun ls hl => ?_)
  refine lv_iconst (v := 0) hx hb dX4_mendRuns_23 (by decide) ?_
  refine lv_istore (lv' := [(6, .int 0), (5, .int 0), (4, .int 0), (3, .int (((v1 + 1024) - 1) / 1024)), (0, .ref (a 5)), (1, .ref (a 1)), (2, .int p1)]) hx hb dX4_mendRuns_24 hl (by decide) rfl (fun ls hl => ?_)
  refine qp4_W (P := fun (x2 : Int32) (x3 : Int32) (x4 : Int32) (σ5 : ck_S) => ∀ (H : Heap) (locs : List Loc) (ls : Array Slot), va_P D vwCl (ck_W cI cZ a σ5) H → va_D A (ck_W cI cZ a σ5) → va_S A s.heap H locs → lv_has ls 10 [(0, .ref (a 5)), (1, .ref (a 1)), (2, .int p1), (3, .int (((v1 + 1024) - 1) / 1024)), (4, .int x2), (5, .int x3), (6, .int x4)] → W p l e (headSpec wsX4_mendRuns rm_X4_mendRuns).room s m args below meth c H locs 0 0 (MQ below (ik_Qv D (ck_W cI cZ a) A σz) args s 0 0 A) (F0 m 26 ls [])) ?_ FU _ _ _ _ h _ _ _ hP hD hS (lv_sub hl [4, 5, 6, 3, 2, 1, 0] rfl)
  intro rec26 ih26 x2 x3 x4 σ5 h H locs ls hP hD hS hl
  refine lv_iload hx hb dX4_mendRuns_26 (lv_at hl 6 rfl) ?_
  refine lv_bipush (v := 6) hx hb dX4_mendRuns_28 (by decide) ?_
  refine lv_icmp_ge (tgt := 153) hx hb dX4_mendRuns_30 (by decide) (fun c6 => ?_) (fun c6 => ?_)
  · have h := ik_t c6 h
    refine lv_aload_n hx hb dX4_mendRuns_153 rfl (lv_at hl 1 rfl) ?_
    refine lv_iload_n hx hb dX4_mendRuns_154 rfl (lv_at hl 2 rfl) ?_
    refine lv_iload hx hb dX4_mendRuns_155 (lv_at hl 4 rfl) ?_
    obtain ⟨σ7, eh, h⟩ := ik_bd h
    refine ik_Vv (As := [.int p1, .int x2]) (rest := []) ⟨hx, hb, hml, hown, hts⟩ (c_X5_wipeRunsFrom l D cI cZ a A p1 x2 σ5 _ eh) (cwV 2 hts gX4_mendRuns_X5_wipeRunsFrom rfl rfl rfl (by decide +kernel) ⟨Nat.le_of_ble_eq_true rfl, Nat.le_of_ble_eq_true rfl⟩) (va_recv hK hP (ci := 3) (q0 := 1) rfl rfl) hP hK hD hN hS rfl hl.1 rfl (Nat.le_of_ble_eq_true rfl) dX4_mendRuns_157 (fun H locs hP hD hS => ?_)
    clear eh
    exact W.vret hx hb hr (fun t ht hW => ⟨⟨_, rfl, Option.some.inj h, by rw [ht]; exact hP, hD⟩, hS.F ht⟩) hS.2.2 dX4_mendRuns_160
  · have h := ik_f c6 h
    refine lv_aload_n hx hb dX4_mendRuns_33 rfl (lv_at hl 1 rfl) ?_
    refine lv_iload_n hx hb dX4_mendRuns_34 rfl (lv_at hl 2 rfl) ?_
    refine lv_iload hx hb dX4_mendRuns_35 (lv_at hl 6 rfl) ?_
    refine lv_iconst (v := 0) hx hb dX4_mendRuns_37 (by decide) ?_
    obtain ⟨v8, eh, h⟩ := ik_bd h
    refine ik_Vi (As := [.int p1, .int x4, .int 0]) (rest := []) ⟨hx, hb, hml, hown, hts⟩ (c_X5_runPart l D cI cZ a A p1 x4 0 σ5 _ eh) (cwV 3 hts gX4_mendRuns_X5_runPart rfl rfl rfl (by decide +kernel) ⟨Nat.le_of_ble_eq_true rfl, Nat.le_of_ble_eq_true rfl⟩) (va_recv hK hP (ci := 3) (q0 := 1) rfl rfl) hP hK hD hN hS rfl hl.1 rfl (Nat.le_of_ble_eq_true rfl) dX4_mendRuns_38 (fun H locs hP hD hS => ?_)
    clear eh
    refine lv_istore (lv' := [(7, .int v8), (0, .ref (a 5)), (1, .ref (a 1)), (2, .int p1), (3, .int (((v1 + 1024) - 1) / 1024)), (4, .int x2), (5, .int x3), (6, .int x4)]) hx hb dX4_mendRuns_41 hl (by decide) rfl (fun ls hl => ?_)
    refine lv_aload_n hx hb dX4_mendRuns_43 rfl (lv_at hl 2 rfl) ?_
    refine lv_iload_n hx hb dX4_mendRuns_44 rfl (lv_at hl 3 rfl) ?_
    refine lv_iload hx hb dX4_mendRuns_45 (lv_at hl 7 rfl) ?_
    refine lv_iconst (v := 1) hx hb dX4_mendRuns_47 (by decide) ?_
    obtain ⟨v9, eh, h⟩ := ik_bd h
    refine ik_Vi (As := [.int p1, .int x4, .int 1]) (rest := []) ⟨hx, hb, hml, hown, hts⟩ (c_X5_runPart l D cI cZ a A p1 x4 1 σ5 _ eh) (cwV 3 hts gX4_mendRuns_X5_runPart rfl rfl rfl (by decide +kernel) ⟨Nat.le_of_ble_eq_true rfl, Nat.le_of_ble_eq_true rfl⟩) (va_recv hK hP (ci := 3) (q0 := 1) rfl rfl) hP hK hD hN hS rfl hl.1 rfl (Nat.le_of_ble_eq_true rfl) dX4_mendRuns_48 (fun H locs hP hD hS => ?_)
    clear eh
    refine lv_istore (lv' := [(8, .int v9), (7, .int v8), (0, .ref (a 5)), (1, .ref (a 1)), (2, .int p1), (3, .int (((v1 + 1024) - 1) / 1024)), (4, .int x2), (5, .int x3), (6, .int x4)]) hx hb dX4_mendRuns_51 hl (by decide) rfl (fun ls hl => ?_)
    refine lv_aload_n hx hb dX4_mendRuns_53 rfl (lv_at hl 3 rfl) ?_
    refine lv_iload_n hx hb dX4_mendRuns_54 rfl (lv_at hl 4 rfl) ?_
    refine lv_iload hx hb dX4_mendRuns_55 (lv_at hl 8 rfl) ?_
    refine lv_iconst (v := 2) hx hb dX4_mendRuns_57 (by decide) ?_
    obtain ⟨v10, eh, h⟩ := ik_bd h
    refine ik_Vi (As := [.int p1, .int x4, .int 2]) (rest := []) ⟨hx, hb, hml, hown, hts⟩ (c_X5_runPart l D cI cZ a A p1 x4 2 σ5 _ eh) (cwV 3 hts gX4_mendRuns_X5_runPart rfl rfl rfl (by decide +kernel) ⟨Nat.le_of_ble_eq_true rfl, Nat.le_of_ble_eq_true rfl⟩) (va_recv hK hP (ci := 3) (q0 := 1) rfl rfl) hP hK hD hN hS rfl hl.1 rfl (Nat.le_of_ble_eq_true rfl) dX4_mendRuns_58 (fun H locs hP hD hS => ?_)
    clear eh
    refine lv_istore (lv' := [(9, .int v10), (8, .int v9), (7, .int v8), (0, .ref (a 5)), (1, .ref (a 1)), (2, .int p1), (3, .int (((v1 + 1024) - 1) / 1024)), (4, .int x2), (5, .int x3), (6, .int x4)]) hx hb dX4_mendRuns_61 hl (by decide) rfl (fun ls hl => ?_)
    refine lv_iload hx hb dX4_mendRuns_63 (lv_at hl 2 rfl) ?_
    refine lv_iload hx hb dX4_mendRuns_65 (lv_at hl 1 rfl) ?_
    refine lv_iload hx hb dX4_mendRuns_67 (lv_at hl 0 rfl) ?_
    obtain ⟨v11, eh, h⟩ := ik_bd h
    refine ik_Si (As := [.int v8, .int v9, .int v10]) (rest := []) ⟨hx, hb, hml, hown, hts⟩ (c_X4_isRight l D cI cZ a A v8 v9 v10 σ5 _ eh) (va_cwS 3 hts gX4_mendRuns_X4_isRight rfl rfl rfl (by decide +kernel) ⟨Nat.le_of_ble_eq_true rfl, Nat.le_of_ble_eq_true rfl⟩) hP hK hD hN hS rfl hl.1 rfl (Nat.le_of_ble_eq_true rfl) dX4_mendRuns_69 (fun H locs hP hD hS => ?_)
    clear eh
    refine lv_if_ne (tgt := 78) hx hb dX4_mendRuns_72 (by decide) (fun c12 => ?_) (fun c12 => ?_)
    · have h := ik_f c12 h
      refine lv_iload hx hb dX4_mendRuns_78 (lv_at hl 1 rfl) ?_
      refine lv_iload_n hx hb dX4_mendRuns_80 rfl (lv_at hl 6 rfl) ?_
      refine lv_iload hx hb dX4_mendRuns_81 (lv_at hl 2 rfl) ?_
      refine lv_isub hx hb dX4_mendRuns_83 ?_
      refine va_mmin hx hb (hml.trans hl.1.symm) hown (hts (.methodLink RX4 72 Lib.Math.min.name) (by decide +kernel)) (hts (.static Lib.Math.min.name) (by decide +kernel)) (hts (.initialized "java/lang/Math") (by decide +kernel)) (hts (.code Lib.Math.min.name Lib.Math.min.code 2 (some .int)) (by decide +kernel)) (by decide) (by decide) (Nat.zero_le _) (Nat.zero_le _) dX4_mendRuns_84 ?_
      obtain ⟨v13, eh, h⟩ := ik_bd h
      refine ik_nm (Option.some.inj eh) ?_
      clear eh
      refine lv_istore (lv' := [(8, .int v13), (9, .int v10), (7, .int v8), (0, .ref (a 5)), (1, .ref (a 1)), (2, .int p1), (3, .int (((v1 + 1024) - 1) / 1024)), (4, .int x2), (5, .int x3), (6, .int x4)]) hx hb dX4_mendRuns_87 hl (by decide) rfl (fun ls hl => ?_)
      refine lv_iload hx hb dX4_mendRuns_89 (lv_at hl 0 rfl) ?_
      refine lv_iconst (v := 1) hx hb dX4_mendRuns_91 (by decide) ?_
      refine lv_icmp_lt (tgt := 147) hx hb dX4_mendRuns_92 (by decide) (fun c14 => ?_) (fun c14 => ?_)
      · have h := ik_t c14 h
        refine lv_iinc (v := x4 + 1) (lv' := [(6, .int (x4 + 1)), (8, .int v13), (9, .int v10), (7, .int v8), (0, .ref (a 5)), (1, .ref (a 1)), (2, .int p1), (3, .int (((v1 + 1024) - 1) / 1024)), (4, .int x2), (5, .int x3)]) hx hb dX4_mendRuns_147 hl (k := 9) rfl rfl (by decide) rfl (fun ls hl => ?_)
        refine lv_goto (tgt := 26) hx hb dX4_mendRuns_150 (by decide) ?_
        exact ih26 _ _ _ _ h _ _ _ hP hD hS (lv_sub hl [4, 5, 6, 7, 8, 9, 0] rfl)
      · have h := ik_f c14 h
        refine lv_iload hx hb dX4_mendRuns_95 (lv_at hl 2 rfl) ?_
        refine lv_iload hx hb dX4_mendRuns_97 (lv_at hl 8 rfl) ?_
        refine lv_icmp_lt (tgt := 147) hx hb dX4_mendRuns_99 (by decide) (fun c15 => ?_) (fun c15 => ?_)
        · have h := ik_t c15 h
          refine lv_iinc (v := x4 + 1) (lv' := [(6, .int (x4 + 1)), (8, .int v13), (9, .int v10), (7, .int v8), (0, .ref (a 5)), (1, .ref (a 1)), (2, .int p1), (3, .int (((v1 + 1024) - 1) / 1024)), (4, .int x2), (5, .int x3)]) hx hb dX4_mendRuns_147 hl (k := 9) rfl rfl (by decide) rfl (fun ls hl => ?_)
          refine lv_goto (tgt := 26) hx hb dX4_mendRuns_150 (by decide) ?_
          exact ih26 _ _ _ _ h _ _ _ hP hD hS (lv_sub hl [4, 5, 6, 7, 8, 9, 0] rfl)
        · have h := ik_f c15 h
          refine lv_aload_n hx hb dX4_mendRuns_102 rfl (lv_at hl 3 rfl) ?_
          refine lv_iload hx hb dX4_mendRuns_103 (lv_at hl 1 rfl) ?_
          refine lv_iload hx hb dX4_mendRuns_105 (lv_at hl 0 rfl) ?_
          obtain ⟨v16, eh, h⟩ := ik_bd h
          refine ik_Vi (As := [.int v10, .int v13]) (rest := []) ⟨hx, hb, hml, hown, hts⟩ (c_X4_isAnyInRuns l D cI cZ a A v10 v13 σ5 _ eh) (cwV 2 hts gX4_mendRuns_X4_isAnyInRuns rfl rfl rfl (by decide +kernel) ⟨Nat.le_of_ble_eq_true rfl, Nat.le_of_ble_eq_true rfl⟩) (va_recv hK hP (ci := 2) (q0 := 5) rfl rfl) hP hK hD hN hS rfl hl.1 rfl (Nat.le_of_ble_eq_true rfl) dX4_mendRuns_107 (fun H locs hP hD hS => ?_)
          clear eh
          refine lv_if_eq (tgt := 116) hx hb dX4_mendRuns_110 (by decide) (fun c17 => ?_) (fun c17 => ?_)
          · have h := ik_t c17 h
            refine lv_aload_n hx hb dX4_mendRuns_116 rfl (lv_at hl 3 rfl) ?_
            refine lv_iload hx hb dX4_mendRuns_117 (lv_at hl 1 rfl) ?_
            refine lv_iload hx hb dX4_mendRuns_119 (lv_at hl 0 rfl) ?_
            obtain ⟨σ18, eh, h⟩ := ik_bd h
            refine ik_Vv (As := [.int v10, .int v13]) (rest := []) ⟨hx, hb, hml, hown, hts⟩ (c_X4_markInRuns l D cI cZ a A v10 v13 σ5 _ eh) (cwV 2 hts gX4_mendRuns_X4_markInRuns rfl rfl rfl (by decide +kernel) ⟨Nat.le_of_ble_eq_true rfl, Nat.le_of_ble_eq_true rfl⟩) (va_recv hK hP (ci := 2) (q0 := 5) rfl rfl) hP hK hD hN hS rfl hl.1 rfl (Nat.le_of_ble_eq_true rfl) dX4_mendRuns_121 (fun H locs hP hD hS => ?_)
            clear eh
            refine lv_aload_n hx hb dX4_mendRuns_124 rfl (lv_at hl 4 rfl) ?_
            refine lv_iload_n hx hb dX4_mendRuns_125 rfl (lv_at hl 5 rfl) ?_
            refine lv_iload hx hb dX4_mendRuns_126 (lv_at hl 7 rfl) ?_
            refine lv_iload hx hb dX4_mendRuns_128 (lv_at hl 2 rfl) ?_
            refine lv_iload hx hb dX4_mendRuns_130 (lv_at hl 0 rfl) ?_
            refine lv_iload hx hb dX4_mendRuns_132 (lv_at hl 1 rfl) ?_
            obtain ⟨σ19, eh, h⟩ := ik_bd h
            refine ik_Vv (As := [.int p1, .int x2, .int v8, .int v13, .int v10]) (rest := []) ⟨hx, hb, hml, hown, hts⟩ (c_X5_putRun l D cI cZ a A p1 x2 v8 v13 v10 σ18 _ eh) (cwV 5 hts gX4_mendRuns_X5_putRun rfl rfl rfl (by decide +kernel) ⟨Nat.le_of_ble_eq_true rfl, Nat.le_of_ble_eq_true rfl⟩) (va_recv hK hP (ci := 3) (q0 := 1) rfl rfl) hP hK hD hN hS rfl hl.1 rfl (Nat.le_of_ble_eq_true rfl) dX4_mendRuns_134 (fun H locs hP hD hS => ?_)
            clear eh
            refine lv_iinc (v := x2 + 1) (lv' := [(4, .int (x2 + 1)), (8, .int v13), (9, .int v10), (7, .int v8), (0, .ref (a 5)), (1, .ref (a 1)), (2, .int p1), (3, .int (((v1 + 1024) - 1) / 1024)), (5, .int x3), (6, .int x4)]) hx hb dX4_mendRuns_137 hl (k := 7) rfl rfl (by decide) rfl (fun ls hl => ?_)
            refine lv_iload hx hb dX4_mendRuns_140 (lv_at hl 3 rfl) ?_
            refine lv_iload hx hb dX4_mendRuns_142 (lv_at hl 1 rfl) ?_
            refine lv_iadd hx hb dX4_mendRuns_144 ?_
            refine lv_istore (lv' := [(5, .int (v8 + v13)), (4, .int (x2 + 1)), (8, .int v13), (9, .int v10), (7, .int v8), (0, .ref (a 5)), (1, .ref (a 1)), (2, .int p1), (3, .int (((v1 + 1024) - 1) / 1024)), (6, .int x4)]) hx hb dX4_mendRuns_145 hl (by decide) rfl (fun ls hl => ?_)
            refine lv_iinc (v := x4 + 1) (lv' := [(6, .int (x4 + 1)), (5, .int (v8 + v13)), (4, .int (x2 + 1)), (8, .int v13), (9, .int v10), (7, .int v8), (0, .ref (a 5)), (1, .ref (a 1)), (2, .int p1), (3, .int (((v1 + 1024) - 1) / 1024))]) hx hb dX4_mendRuns_147 hl (k := 9) rfl rfl (by decide) rfl (fun ls hl => ?_)
            refine lv_goto (tgt := 26) hx hb dX4_mendRuns_150 (by decide) ?_
            exact ih26 _ _ _ _ h _ _ _ hP hD hS (lv_sub hl [6, 7, 8, 9, 2, 1, 0] rfl)
          · have h := ik_f c17 h
            refine lv_goto (tgt := 147) hx hb dX4_mendRuns_113 (by decide) ?_
            refine lv_iinc (v := x4 + 1) (lv' := [(6, .int (x4 + 1)), (8, .int v13), (9, .int v10), (7, .int v8), (0, .ref (a 5)), (1, .ref (a 1)), (2, .int p1), (3, .int (((v1 + 1024) - 1) / 1024)), (4, .int x2), (5, .int x3)]) hx hb dX4_mendRuns_147 hl (k := 9) rfl rfl (by decide) rfl (fun ls hl => ?_)
            refine lv_goto (tgt := 26) hx hb dX4_mendRuns_150 (by decide) ?_
            exact ih26 _ _ _ _ h _ _ _ hP hD hS (lv_sub hl [4, 5, 6, 7, 8, 9, 0] rfl)
    · have h := ik_t c12 h
      refine lv_goto (tgt := 147) hx hb dX4_mendRuns_75 (by decide) ?_
      refine lv_iinc (v := x4 + 1) (lv' := [(6, .int (x4 + 1)), (9, .int v10), (8, .int v9), (7, .int v8), (0, .ref (a 5)), (1, .ref (a 1)), (2, .int p1), (3, .int (((v1 + 1024) - 1) / 1024)), (4, .int x2), (5, .int x3)]) hx hb dX4_mendRuns_147 hl (k := 9) rfl rfl (by decide) rfl (fun ls hl => ?_)
      refine lv_goto (tgt := 26) hx hb dX4_mendRuns_150 (by decide) ?_
      exact ih26 _ _ _ _ h _ _ _ hP hD hS (lv_sub hl [4, 5, 6, 7, 8, 9, 0] rfl)
abbrev rm_X4_mendRecord : Room := { frames := 4, cells := 0, slots := 0, locals := 93 }
set_option maxHeartbeats 4000000 in
set_option maxRecDepth 100000 in
theorem c_X4_mendRecord (l : Launch) (D : va_G) (cI cZ : ClassId) (a : Nat → Nat) (A : Nat → Prop) (p1 : Int32) (σ : ck_S) (σz : ck_S) (h : fX4_mendRecord p1 σ = some σz) : Met l yX4_mendRecord wsX4_mendRecord rm_X4_mendRecord (va_Pc [.ref (a 5), .ref (a 1), .int p1] (ik_P D [(cI, .int), (cZ, .boolean)] ck_N (ck_W cI cZ a) A σ)) (ik_Qv D (ck_W cI cZ a) A σz) 0 0 A := by
  unfold fX4_mendRecord at h
  refine Met.ofW (cc := cX4_mendRecord) (maxL := 4) (ret := none) (by decide) rfl ?_
  intro p e s m args below meth c s₁ B hml hv
  obtain ⟨hAr, hP, hK, hD, hN⟩ := hv
  have hx := B.exec
  have hb := B.bytes
  have hr := B.returns
  have hts := atoms_spec (ws := wsX4_mendRecord) B.pre
  have hown : s.vm.findClass RX4 = some m.cls := findClass_of_methodNamed B.named
  have hlocks := B.notSynchronized
  have hS : va_S A s.heap s.heap [] := va_S.rf
  have hl := lv_entry ([.ref (a 5), .ref (a 1), .int p1]) (n := 4) (Nat.le_of_ble_eq_true rfl)
  rw [show entryFrame m args 4 = entryFrame m ([.ref (a 5), .ref (a 1), .int p1] : List Value).toArray 4 from by rw [hAr], lg_entry_eq]
  generalize (lg_sl ([.ref (a 5), .ref (a 1), .int p1]) ++ List.replicate (4 - (lg_sl ([.ref (a 5), .ref (a 1), .int p1])).length) Slot.unset).toArray = ls at hl ⊢
  have hl : lv_has ls 4 [(0, .ref (a 5)), (1, .ref (a 1)), (2, .int p1)] := hl
  refine lv_aload_n hx hb dX4_mendRecord_0 rfl (lv_at hl 1 rfl) ?_
  refine lv_iload_n hx hb dX4_mendRecord_1 rfl (lv_at hl 2 rfl) ?_
  refine lv_iconst (v := 0) hx hb dX4_mendRecord_2 (by decide) ?_
  obtain ⟨v1, eh, h⟩ := ik_bd h
  refine ik_Vi (As := [.int p1, .int 0]) (rest := []) ⟨hx, hb, hml, hown, hts⟩ (c_X5_number l D cI cZ a A p1 0 σ _ eh) (cwV 2 hts gX4_mendRecord_X5_number rfl rfl rfl (by decide +kernel) ⟨Nat.le_of_ble_eq_true rfl, Nat.le_of_ble_eq_true rfl⟩) (va_recv hK hP (ci := 3) (q0 := 1) rfl rfl) hP hK hD hN hS rfl hl.1 rfl (Nat.le_of_ble_eq_true rfl) dX4_mendRecord_3 (fun H locs hP hD hS => ?_)
  clear eh
  refine lv_istore_n (lv' := [(3, .int v1), (0, .ref (a 5)), (1, .ref (a 1)), (2, .int p1)]) hx hb dX4_mendRecord_6 rfl hl (by decide) rfl (fun ls hl => ?_)
  refine lv_iload_n hx hb dX4_mendRecord_7 rfl (lv_at hl 0 rfl) ?_
  obtain ⟨j16, ej, h⟩ := jn_ex h
  have hj16 : ∀ (_u : Unit), j16 _u = some σz → ∀ (H : Heap) (locs : List Loc) (ls : Array Slot), va_P D vwCl (ck_W cI cZ a σ) H → va_D A (ck_W cI cZ a σ) → va_S A s.heap H locs → lv_has ls 4 [(1, .ref (a 1)), (2, .int p1)] → W p l e (headSpec wsX4_mendRecord rm_X4_mendRecord).room s m args below meth c H locs 0 0 (MQ below (ik_Qv D (ck_W cI cZ a) A σz) args s 0 0 A) (F0 m 16 ls []) := by
    rw [ej]; clear h
    intro _u h H locs ls hP hD hS hl
    refine lv_aload_n hx hb dX4_mendRecord_16 rfl (lv_at hl 0 rfl) ?_
    refine lv_iload_n hx hb dX4_mendRecord_17 rfl (lv_at hl 1 rfl) ?_
    obtain ⟨σ2, eh, h⟩ := ik_bd h
    refine ik_Vv (As := [.int p1]) (rest := []) ⟨hx, hb, hml, hown, hts⟩ (c_X5_wipeFile l D cI cZ a A p1 σ _ eh) (cwV 1 hts gX4_mendRecord_X5_wipeFile rfl rfl rfl (by decide +kernel) ⟨Nat.le_of_ble_eq_true rfl, Nat.le_of_ble_eq_true rfl⟩) (va_recv hK hP (ci := 3) (q0 := 1) rfl rfl) hP hK hD hN hS rfl hl.1 rfl (Nat.le_of_ble_eq_true rfl) dX4_mendRecord_18 (fun H locs hP hD hS => ?_)
    clear eh
    exact W.vret hx hb hr (fun t ht hW => ⟨⟨_, rfl, Option.some.inj h, by rw [ht]; exact hP, hD⟩, hS.F ht⟩) hS.2.2 dX4_mendRecord_21
  clear ej
  refine lv_if_le (tgt := 16) hx hb dX4_mendRecord_8 (by decide) (fun c3 => ?_) (fun c3 => ?_)
  · have h := ik_t c3 h
    exact hj16 () h _ _ _ hP hD hS (lv_sub hl [2, 3] rfl)
  · have h := ik_f c3 h
    refine lv_iload_n hx hb dX4_mendRecord_11 rfl (lv_at hl 0 rfl) ?_
    refine lv_iconst (v := 3) hx hb dX4_mendRecord_12 (by decide) ?_
    refine lv_icmp_le (tgt := 22) hx hb dX4_mendRecord_13 (by decide) (fun c4 => ?_) (fun c4 => ?_)
    · have h := ik_t c4 h
      refine lv_aload_n hx hb dX4_mendRecord_22 rfl (lv_at hl 1 rfl) ?_
      refine lv_aload_n hx hb dX4_mendRecord_23 rfl (lv_at hl 2 rfl) ?_
      refine lv_iload_n hx hb dX4_mendRecord_24 rfl (lv_at hl 3 rfl) ?_
      obtain ⟨σ5, eh, h⟩ := ik_bd h
      refine ik_Vv (As := [.ref (a 1), .int p1]) (rest := []) ⟨hx, hb, hml, hown, hts⟩ (c_X4_mendSize l D cI cZ a A p1 σ _ eh) (cwV 2 hts gX4_mendRecord_X4_mendSize rfl rfl rfl (by decide +kernel) ⟨Nat.le_of_ble_eq_true rfl, Nat.le_of_ble_eq_true rfl⟩) (va_recv hK hP (ci := 2) (q0 := 5) rfl rfl) hP hK hD hN hS rfl hl.1 rfl (Nat.le_of_ble_eq_true rfl) dX4_mendRecord_25 (fun H locs hP hD hS => ?_)
      clear eh
      refine lv_aload_n hx hb dX4_mendRecord_28 rfl (lv_at hl 1 rfl) ?_
      refine lv_aload_n hx hb dX4_mendRecord_29 rfl (lv_at hl 2 rfl) ?_
      refine lv_iload_n hx hb dX4_mendRecord_30 rfl (lv_at hl 3 rfl) ?_
      obtain ⟨σ6, eh, h⟩ := ik_bd h
      refine ik_Vv (As := [.ref (a 1), .int p1]) (rest := []) ⟨hx, hb, hml, hown, hts⟩ (c_X4_mendRuns l D cI cZ a A p1 σ5 _ eh) (cwV 2 hts gX4_mendRecord_X4_mendRuns rfl rfl rfl (by decide +kernel) ⟨Nat.le_of_ble_eq_true rfl, Nat.le_of_ble_eq_true rfl⟩) (va_recv hK hP (ci := 2) (q0 := 5) rfl rfl) hP hK hD hN hS rfl hl.1 rfl (Nat.le_of_ble_eq_true rfl) dX4_mendRecord_31 (fun H locs hP hD hS => ?_)
      clear eh
      refine lv_iload_n hx hb dX4_mendRecord_34 rfl (lv_at hl 0 rfl) ?_
      refine lv_iconst (v := 2) hx hb dX4_mendRecord_35 (by decide) ?_
      refine lv_icmp_eq (tgt := 45) hx hb dX4_mendRecord_36 (by decide) (fun c7 => ?_) (fun c7 => ?_)
      · have h := ik_t c7 h
        exact W.vret hx hb hr (fun t ht hW => ⟨⟨_, rfl, Option.some.inj h, by rw [ht]; exact hP, hD⟩, hS.F ht⟩) hS.2.2 dX4_mendRecord_45
      · have h := ik_f c7 h
        refine lv_aload_n hx hb dX4_mendRecord_39 rfl (lv_at hl 2 rfl) ?_
        refine lv_iload_n hx hb dX4_mendRecord_40 rfl (lv_at hl 3 rfl) ?_
        refine lv_iconst (v := 0) hx hb dX4_mendRecord_41 (by decide) ?_
        obtain ⟨σ8, eh, h⟩ := ik_bd h
        refine ik_Vv (As := [.int p1, .int 0]) (rest := []) ⟨hx, hb, hml, hown, hts⟩ (c_X5_wipeEntriesFrom l D cI cZ a A p1 0 σ6 _ eh) (cwV 2 hts gX4_mendRecord_X5_wipeEntriesFrom rfl rfl rfl (by decide +kernel) ⟨Nat.le_of_ble_eq_true rfl, Nat.le_of_ble_eq_true rfl⟩) (va_recv hK hP (ci := 3) (q0 := 1) rfl rfl) hP hK hD hN hS rfl hl.1 rfl (Nat.le_of_ble_eq_true rfl) dX4_mendRecord_42 (fun H locs hP hD hS => ?_)
        clear eh
        exact W.vret hx hb hr (fun t ht hW => ⟨⟨_, rfl, Option.some.inj h, by rw [ht]; exact hP, hD⟩, hS.F ht⟩) hS.2.2 dX4_mendRecord_45
    · have h := ik_f c4 h
      exact hj16 () h _ _ _ hP hD hS (lv_sub hl [2, 3] rfl)
abbrev rm_X4_mend : Room := { frames := 5, cells := 0, slots := 0, locals := 116 }
theorem in_X4_mend_X4 : ∀ w ∈ wsX40, w ∈ wsX4_mend := by decide +kernel
set_option maxHeartbeats 4000000 in
set_option maxRecDepth 100000 in
theorem c_X4_mend (l : Launch) (D : va_G) (cI cZ : ClassId) (a : Nat → Nat) (A : Nat → Prop) (σ : ck_S) (σz : ck_S) (h : fX4_mend σ = some σz) : Met l yX4_mend wsX4_mend rm_X4_mend (va_Pc [.ref (a 5), .ref (a 1)] (ik_P D [(cI, .int), (cZ, .boolean)] ck_N (ck_W cI cZ a) A σ)) (ik_Qv D (ck_W cI cZ a) A σz) 0 0 A := by
  unfold fX4_mend at h
  refine Met.ofW (cc := cX4_mend) (maxL := 3) (ret := none) (by decide) rfl ?_
  intro p e s m args below meth c s₁ B hml hv
  obtain ⟨hAr, hP, hK, hD, hN⟩ := hv
  have hx := B.exec
  have hb := B.bytes
  have hr := B.returns
  have hts := atoms_spec (ws := wsX4_mend) B.pre
  have hown : s.vm.findClass RX4 = some m.cls := findClass_of_methodNamed B.named
  have hlocks := B.notSynchronized
  have hS : va_S A s.heap s.heap [] := va_S.rf
  have hl := lv_entry ([.ref (a 5), .ref (a 1)]) (n := 3) (Nat.le_of_ble_eq_true rfl)
  rw [show entryFrame m args 3 = entryFrame m ([.ref (a 5), .ref (a 1)] : List Value).toArray 3 from by rw [hAr], lg_entry_eq]
  generalize (lg_sl ([.ref (a 5), .ref (a 1)]) ++ List.replicate (3 - (lg_sl ([.ref (a 5), .ref (a 1)])).length) Slot.unset).toArray = ls at hl ⊢
  have hl : lv_has ls 3 [(0, .ref (a 5)), (1, .ref (a 1))] := hl
  refine lv_aload_n hx hb dX4_mend_0 rfl (lv_at hl 0 rfl) ?_
  refine va_get (D := D) (ci := 2) (v := .ref (a 6)) (C := RX4) (T := TX4) (N := 1) hx hb hts in_X4_mend_X4 hown hK hP 5 rfl rfl 0 (by decide) (hts (.fieldLink RX4 9 "ImageChecker$RecordPass" "inRuns" "[Z") (by decide +kernel)) (fun _ h9 => h9) rfl dX4_mend_1 ?_
  obtain ⟨σ1, eh, h⟩ := ik_bd h
  refine ik_Nv (As := [.ref (a 6)]) (rest := []) ⟨hx, hb, hml, hown, hts⟩ (c_X7_unmark_6 l D cI cZ a A  σ _ eh) ⟨va_cnB (host := "ImageChecker") 1 hts gX4_mend_X7_unmark_n15 rfl rfl rfl (hN (RX4, 15, yX7_unmark) (by decide)) (hts (.initialized RX7) (by decide +kernel)) (by decide +kernel) ⟨Nat.le_of_ble_eq_true rfl, Nat.le_of_ble_eq_true rfl⟩, hts (.static yX7_unmark) (by decide +kernel), trivial⟩ hP hK hD hN hS rfl hl.1 rfl (Nat.le_of_ble_eq_true rfl) dX4_mend_4 (fun H locs hP hD hS => ?_)
  clear eh
  refine lv_aload_n hx hb dX4_mend_7 rfl (lv_at hl 1 rfl) ?_
  refine lv_iconst (v := 1) hx hb dX4_mend_8 (by decide) ?_
  refine lv_iconst (v := 0) hx hb dX4_mend_9 (by decide) ?_
  obtain ⟨v2, eh, h⟩ := ik_bd h
  refine ik_Vi (As := [.int 1, .int 0]) (rest := []) ⟨hx, hb, hml, hown, hts⟩ (c_X5_number l D cI cZ a A 1 0 σ1 _ eh) (cwV 2 hts gX4_mend_X5_number rfl rfl rfl (by decide +kernel) ⟨Nat.le_of_ble_eq_true rfl, Nat.le_of_ble_eq_true rfl⟩) (va_recv hK hP (ci := 3) (q0 := 1) rfl rfl) hP hK hD hN hS rfl hl.1 rfl (Nat.le_of_ble_eq_true rfl) dX4_mend_10 (fun H locs hP hD hS => ?_)
  clear eh
  refine lv_iconst (v := 2) hx hb dX4_mend_13 (by decide) ?_
  refine lv_icmp_eq (tgt := 22) hx hb dX4_mend_14 (by decide) (fun c3 => ?_) (fun c3 => ?_)
  · have h := ik_t c3 h
    refine lv_iconst (v := 1) hx hb dX4_mend_22 (by decide) ?_
    refine lv_istore_n (lv' := [(2, .int 1), (0, .ref (a 5)), (1, .ref (a 1))]) hx hb dX4_mend_23 rfl hl (by decide) rfl (fun ls hl => ?_)
    refine qp2_W (P := fun (x4 : Int32) (σ5 : ck_S) => ∀ (H : Heap) (locs : List Loc) (ls : Array Slot), va_P D vwCl (ck_W cI cZ a σ5) H → va_D A (ck_W cI cZ a σ5) → va_S A s.heap H locs → lv_has ls 3 [(0, .ref (a 5)), (1, .ref (a 1)), (2, .int x4)] → W p l e (headSpec wsX4_mend rm_X4_mend).room s m args below meth c H locs 0 0 (MQ below (ik_Qv D (ck_W cI cZ a) A σz) args s 0 0 A) (F0 m 24 ls [])) ?_ FU _ _ h _ _ _ hP hD hS (lv_sub hl [1, 2, 0] rfl)
    intro rec24 ih24 x4 σ5 h H locs ls hP hD hS hl
    refine lv_iload_n hx hb dX4_mend_24 rfl (lv_at hl 2 rfl) ?_
    refine lv_bipush (v := 24) hx hb dX4_mend_25 (by decide) ?_
    refine lv_icmp_gt (tgt := 42) hx hb dX4_mend_27 (by decide) (fun c6 => ?_) (fun c6 => ?_)
    · have h := ik_t c6 h
      exact W.vret hx hb hr (fun t ht hW => ⟨⟨_, rfl, Option.some.inj h, by rw [ht]; exact hP, hD⟩, hS.F ht⟩) hS.2.2 dX4_mend_42
    · have h := ik_f c6 h
      refine lv_aload_n hx hb dX4_mend_30 rfl (lv_at hl 0 rfl) ?_
      refine lv_aload_n hx hb dX4_mend_31 rfl (lv_at hl 1 rfl) ?_
      refine lv_iload_n hx hb dX4_mend_32 rfl (lv_at hl 2 rfl) ?_
      obtain ⟨σ7, eh, h⟩ := ik_bd h
      refine ik_Vv (As := [.ref (a 1), .int x4]) (rest := []) ⟨hx, hb, hml, hown, hts⟩ (c_X4_mendRecord l D cI cZ a A x4 σ5 _ eh) (cwV 2 hts gX4_mend_X4_mendRecord rfl rfl rfl (by decide +kernel) ⟨Nat.le_of_ble_eq_true rfl, Nat.le_of_ble_eq_true rfl⟩) (va_recv hK hP (ci := 2) (q0 := 5) rfl rfl) hP hK hD hN hS rfl hl.1 rfl (Nat.le_of_ble_eq_true rfl) dX4_mend_33 (fun H locs hP hD hS => ?_)
      clear eh
      refine lv_iinc (v := x4 + 1) (lv' := [(2, .int (x4 + 1)), (0, .ref (a 5)), (1, .ref (a 1))]) hx hb dX4_mend_36 hl (k := 2) rfl rfl (by decide) rfl (fun ls hl => ?_)
      refine lv_goto (tgt := 24) hx hb dX4_mend_39 (by decide) ?_
      exact ih24 _ _ h _ _ _ hP hD hS (lv_sub hl [1, 2, 0] rfl)
  · have h := ik_f c3 h
    refine lv_aload_n hx hb dX4_mend_17 rfl (lv_at hl 0 rfl) ?_
    refine lv_aload_n hx hb dX4_mend_18 rfl (lv_at hl 1 rfl) ?_
    obtain ⟨σ8, eh, h⟩ := ik_bd h
    refine ik_Vv (As := [.ref (a 1)]) (rest := []) ⟨hx, hb, hml, hown, hts⟩ (c_X4_makeRootEmpty l D cI cZ a A  σ1 _ eh) (cwV 1 hts gX4_mend_X4_makeRootEmpty rfl rfl rfl (by decide +kernel) ⟨Nat.le_of_ble_eq_true rfl, Nat.le_of_ble_eq_true rfl⟩) (va_recv hK hP (ci := 2) (q0 := 5) rfl rfl) hP hK hD hN hS rfl hl.1 rfl (Nat.le_of_ble_eq_true rfl) dX4_mend_19 (fun H locs hP hD hS => ?_)
    clear eh
    refine lv_iconst (v := 1) hx hb dX4_mend_22 (by decide) ?_
    refine lv_istore_n (lv' := [(2, .int 1), (0, .ref (a 5)), (1, .ref (a 1))]) hx hb dX4_mend_23 rfl hl (by decide) rfl (fun ls hl => ?_)
    refine qp2_W (P := fun (x9 : Int32) (σ10 : ck_S) => ∀ (H : Heap) (locs : List Loc) (ls : Array Slot), va_P D vwCl (ck_W cI cZ a σ10) H → va_D A (ck_W cI cZ a σ10) → va_S A s.heap H locs → lv_has ls 3 [(0, .ref (a 5)), (1, .ref (a 1)), (2, .int x9)] → W p l e (headSpec wsX4_mend rm_X4_mend).room s m args below meth c H locs 0 0 (MQ below (ik_Qv D (ck_W cI cZ a) A σz) args s 0 0 A) (F0 m 24 ls [])) ?_ FU _ _ h _ _ _ hP hD hS (lv_sub hl [1, 2, 0] rfl)
    intro rec24 ih24 x9 σ10 h H locs ls hP hD hS hl
    refine lv_iload_n hx hb dX4_mend_24 rfl (lv_at hl 2 rfl) ?_
    refine lv_bipush (v := 24) hx hb dX4_mend_25 (by decide) ?_
    refine lv_icmp_gt (tgt := 42) hx hb dX4_mend_27 (by decide) (fun c11 => ?_) (fun c11 => ?_)
    · have h := ik_t c11 h
      exact W.vret hx hb hr (fun t ht hW => ⟨⟨_, rfl, Option.some.inj h, by rw [ht]; exact hP, hD⟩, hS.F ht⟩) hS.2.2 dX4_mend_42
    · have h := ik_f c11 h
      refine lv_aload_n hx hb dX4_mend_30 rfl (lv_at hl 0 rfl) ?_
      refine lv_aload_n hx hb dX4_mend_31 rfl (lv_at hl 1 rfl) ?_
      refine lv_iload_n hx hb dX4_mend_32 rfl (lv_at hl 2 rfl) ?_
      obtain ⟨σ12, eh, h⟩ := ik_bd h
      refine ik_Vv (As := [.ref (a 1), .int x9]) (rest := []) ⟨hx, hb, hml, hown, hts⟩ (c_X4_mendRecord l D cI cZ a A x9 σ10 _ eh) (cwV 2 hts gX4_mend_X4_mendRecord rfl rfl rfl (by decide +kernel) ⟨Nat.le_of_ble_eq_true rfl, Nat.le_of_ble_eq_true rfl⟩) (va_recv hK hP (ci := 2) (q0 := 5) rfl rfl) hP hK hD hN hS rfl hl.1 rfl (Nat.le_of_ble_eq_true rfl) dX4_mend_33 (fun H locs hP hD hS => ?_)
      clear eh
      refine lv_iinc (v := x9 + 1) (lv' := [(2, .int (x9 + 1)), (0, .ref (a 5)), (1, .ref (a 1))]) hx hb dX4_mend_36 hl (k := 2) rfl rfl (by decide) rfl (fun ls hl => ?_)
      refine lv_goto (tgt := 24) hx hb dX4_mend_39 (by decide) ?_
      exact ih24 _ _ h _ _ _ hP hD hS (lv_sub hl [1, 2, 0] rfl)
abbrev rm_X5_makeWhole : Room := { frames := 2, cells := 0, slots := 0, locals := 44 }
set_option maxHeartbeats 4000000 in
set_option maxRecDepth 100000 in
theorem c_X5_makeWhole (l : Launch) (D : va_G) (cI cZ : ClassId) (a : Nat → Nat) (A : Nat → Prop) (σ : ck_S) (σz : ck_S) (h : fX5_makeWhole σ = some σz) : Met l yX5_makeWhole wsX5_makeWhole rm_X5_makeWhole (va_Pc [.ref (a 1)] (ik_P D [(cI, .int), (cZ, .boolean)] ck_N (ck_W cI cZ a) A σ)) (ik_Qv D (ck_W cI cZ a) A σz) 0 0 A := by
  unfold fX5_makeWhole at h
  refine Met.ofW (cc := cX5_makeWhole) (maxL := 2) (ret := none) (by decide) rfl ?_
  intro p e s m args below meth c s₁ B hml hv
  obtain ⟨hAr, hP, hK, hD, hN⟩ := hv
  have hx := B.exec
  have hb := B.bytes
  have hr := B.returns
  have hts := atoms_spec (ws := wsX5_makeWhole) B.pre
  have hown : s.vm.findClass RX5 = some m.cls := findClass_of_methodNamed B.named
  have hlocks := B.notSynchronized
  have hS : va_S A s.heap s.heap [] := va_S.rf
  have hl := lv_entry ([.ref (a 1)]) (n := 2) (Nat.le_of_ble_eq_true rfl)
  rw [show entryFrame m args 2 = entryFrame m ([.ref (a 1)] : List Value).toArray 2 from by rw [hAr], lg_entry_eq]
  generalize (lg_sl ([.ref (a 1)]) ++ List.replicate (2 - (lg_sl ([.ref (a 1)])).length) Slot.unset).toArray = ls at hl ⊢
  have hl : lv_has ls 2 [(0, .ref (a 1))] := hl
  refine lv_aload_n hx hb dX5_makeWhole_0 rfl (lv_at hl 0 rfl) ?_
  refine lv_iconst (v := 0) hx hb dX5_makeWhole_1 (by decide) ?_
  refine lv_sipush (v := 1355) hx hb dX5_makeWhole_2 (by decide) ?_
  obtain ⟨σ1, eh, h⟩ := ik_bd h
  refine ik_Vv (As := [.int 0, .int 1355]) (rest := []) ⟨hx, hb, hml, hown, hts⟩ (c_X5_wipeCells l D cI cZ a A 0 1355 σ _ eh) (cwV 2 hts gX5_makeWhole_X5_wipeCells rfl rfl rfl (by decide +kernel) ⟨Nat.le_of_ble_eq_true rfl, Nat.le_of_ble_eq_true rfl⟩) (va_recv hK hP (ci := 3) (q0 := 1) rfl rfl) hP hK hD hN hS rfl hl.1 rfl (Nat.le_of_ble_eq_true rfl) dX5_makeWhole_5 (fun H locs hP hD hS => ?_)
  clear eh
  refine lv_aload_n hx hb dX5_makeWhole_8 rfl (lv_at hl 0 rfl) ?_
  refine lv_iconst (v := 1) hx hb dX5_makeWhole_9 (by decide) ?_
  refine lv_iconst (v := 0) hx hb dX5_makeWhole_10 (by decide) ?_
  refine lv_iconst (v := 2) hx hb dX5_makeWhole_11 (by decide) ?_
  obtain ⟨σ2, eh, h⟩ := ik_bd h
  refine ik_Vv (As := [.int 1, .int 0, .int 2]) (rest := []) ⟨hx, hb, hml, hown, hts⟩ (c_X5_putNumber l D cI cZ a A 1 0 2 σ1 _ eh) (cwV 3 hts gX5_makeWhole_X5_putNumber rfl rfl rfl (by decide +kernel) ⟨Nat.le_of_ble_eq_true rfl, Nat.le_of_ble_eq_true rfl⟩) (va_recv hK hP (ci := 3) (q0 := 1) rfl rfl) hP hK hD hN hS rfl hl.1 rfl (Nat.le_of_ble_eq_true rfl) dX5_makeWhole_12 (fun H locs hP hD hS => ?_)
  clear eh
  refine lv_aload_n hx hb dX5_makeWhole_15 rfl (lv_at hl 0 rfl) ?_
  refine lv_iconst (v := 1) hx hb dX5_makeWhole_16 (by decide) ?_
  refine lv_iconst (v := 2) hx hb dX5_makeWhole_17 (by decide) ?_
  refine lv_iconst (v := 2) hx hb dX5_makeWhole_18 (by decide) ?_
  obtain ⟨σ3, eh, h⟩ := ik_bd h
  refine ik_Vv (As := [.int 1, .int 2, .int 2]) (rest := []) ⟨hx, hb, hml, hown, hts⟩ (c_X5_putNumber l D cI cZ a A 1 2 2 σ2 _ eh) (cwV 3 hts gX5_makeWhole_X5_putNumber rfl rfl rfl (by decide +kernel) ⟨Nat.le_of_ble_eq_true rfl, Nat.le_of_ble_eq_true rfl⟩) (va_recv hK hP (ci := 3) (q0 := 1) rfl rfl) hP hK hD hN hS rfl hl.1 rfl (Nat.le_of_ble_eq_true rfl) dX5_makeWhole_19 (fun H locs hP hD hS => ?_)
  clear eh
  refine lv_aload_n hx hb dX5_makeWhole_22 rfl (lv_at hl 0 rfl) ?_
  refine lv_iconst (v := 1) hx hb dX5_makeWhole_23 (by decide) ?_
  refine lv_iconst (v := 4) hx hb dX5_makeWhole_24 (by decide) ?_
  refine lv_iconst (v := 1) hx hb dX5_makeWhole_25 (by decide) ?_
  obtain ⟨σ4, eh, h⟩ := ik_bd h
  refine ik_Vv (As := [.int 1, .int 4, .int 1]) (rest := []) ⟨hx, hb, hml, hown, hts⟩ (c_X5_putNumber l D cI cZ a A 1 4 1 σ3 _ eh) (cwV 3 hts gX5_makeWhole_X5_putNumber rfl rfl rfl (by decide +kernel) ⟨Nat.le_of_ble_eq_true rfl, Nat.le_of_ble_eq_true rfl⟩) (va_recv hK hP (ci := 3) (q0 := 1) rfl rfl) hP hK hD hN hS rfl hl.1 rfl (Nat.le_of_ble_eq_true rfl) dX5_makeWhole_26 (fun H locs hP hD hS => ?_)
  clear eh
  refine lv_iconst (v := 1) hx hb dX5_makeWhole_29 (by decide) ?_
  refine lv_istore_n (lv' := [(1, .int 1), (0, .ref (a 1))]) hx hb dX5_makeWhole_30 rfl hl (by decide) rfl (fun ls hl => ?_)
  refine qp2_W (P := fun (x5 : Int32) (σ6 : ck_S) => ∀ (H : Heap) (locs : List Loc) (ls : Array Slot), va_P D vwCl (ck_W cI cZ a σ6) H → va_D A (ck_W cI cZ a σ6) → va_S A s.heap H locs → lv_has ls 2 [(0, .ref (a 1)), (1, .int x5)] → W p l e (headSpec wsX5_makeWhole rm_X5_makeWhole).room s m args below meth c H locs 0 0 (MQ below (ik_Qv D (ck_W cI cZ a) A σz) args s 0 0 A) (F0 m 31 ls [])) ?_ FU _ _ h _ _ _ hP hD hS (lv_sub hl [1, 0] rfl)
  intro rec31 ih31 x5 σ6 h H locs ls hP hD hS hl
  refine lv_iload_n hx hb dX5_makeWhole_31 rfl (lv_at hl 1 rfl) ?_
  refine lv_bipush (v := 8) hx hb dX5_makeWhole_32 (by decide) ?_
  refine lv_icmp_gt (tgt := 50) hx hb dX5_makeWhole_34 (by decide) (fun c7 => ?_) (fun c7 => ?_)
  · have h := ik_t c7 h
    refine lv_aload_n hx hb dX5_makeWhole_50 rfl (lv_at hl 0 rfl) ?_
    refine lv_iconst (v := 1) hx hb dX5_makeWhole_51 (by decide) ?_
    refine lv_iconst (v := 1) hx hb dX5_makeWhole_52 (by decide) ?_
    refine lv_iconst (v := 1) hx hb dX5_makeWhole_53 (by decide) ?_
    obtain ⟨σ8, eh, h⟩ := ik_bd h
    refine ik_Vv (As := [.int 1, .int 1, .int 1]) (rest := []) ⟨hx, hb, hml, hown, hts⟩ (c_X5_putBit l D cI cZ a A 1 1 1 σ6 _ eh) (cwV 3 hts gX5_makeWhole_X5_putBit rfl rfl rfl (by decide +kernel) ⟨Nat.le_of_ble_eq_true rfl, Nat.le_of_ble_eq_true rfl⟩) (va_recv hK hP (ci := 3) (q0 := 1) rfl rfl) hP hK hD hN hS rfl hl.1 rfl (Nat.le_of_ble_eq_true rfl) dX5_makeWhole_54 (fun H locs hP hD hS => ?_)
    clear eh
    refine lv_aload_n hx hb dX5_makeWhole_57 rfl (lv_at hl 0 rfl) ?_
    refine lv_iconst (v := 0) hx hb dX5_makeWhole_58 (by decide) ?_
    refine lv_sipush (v := 192) hx hb dX5_makeWhole_59 (by decide) ?_
    obtain ⟨σ9, eh, h⟩ := ik_bd h
    refine ik_Vv (As := [.int 0, .int 192]) (rest := []) ⟨hx, hb, hml, hown, hts⟩ (c_X5_putTold l D cI cZ a A 0 192 σ8 _ eh) (cwV 2 hts gX5_makeWhole_X5_putTold rfl rfl rfl (by decide +kernel) ⟨Nat.le_of_ble_eq_true rfl, Nat.le_of_ble_eq_true rfl⟩) (va_recv hK hP (ci := 3) (q0 := 1) rfl rfl) hP hK hD hN hS rfl hl.1 rfl (Nat.le_of_ble_eq_true rfl) dX5_makeWhole_62 (fun H locs hP hD hS => ?_)
    clear eh
    refine lv_aload_n hx hb dX5_makeWhole_65 rfl (lv_at hl 0 rfl) ?_
    refine lv_iconst (v := 1) hx hb dX5_makeWhole_66 (by decide) ?_
    refine lv_bipush (v := 23) hx hb dX5_makeWhole_67 (by decide) ?_
    obtain ⟨σ10, eh, h⟩ := ik_bd h
    refine ik_Vv (As := [.int 1, .int 23]) (rest := []) ⟨hx, hb, hml, hown, hts⟩ (c_X5_putTold l D cI cZ a A 1 23 σ9 _ eh) (cwV 2 hts gX5_makeWhole_X5_putTold rfl rfl rfl (by decide +kernel) ⟨Nat.le_of_ble_eq_true rfl, Nat.le_of_ble_eq_true rfl⟩) (va_recv hK hP (ci := 3) (q0 := 1) rfl rfl) hP hK hD hN hS rfl hl.1 rfl (Nat.le_of_ble_eq_true rfl) dX5_makeWhole_69 (fun H locs hP hD hS => ?_)
    clear eh
    exact W.vret hx hb hr (fun t ht hW => ⟨⟨_, rfl, Option.some.inj h, by rw [ht]; exact hP, hD⟩, hS.F ht⟩) hS.2.2 dX5_makeWhole_72
  · have h := ik_f c7 h
    refine lv_aload_n hx hb dX5_makeWhole_37 rfl (lv_at hl 0 rfl) ?_
    refine lv_iconst (v := 0) hx hb dX5_makeWhole_38 (by decide) ?_
    refine lv_iload_n hx hb dX5_makeWhole_39 rfl (lv_at hl 1 rfl) ?_
    refine lv_iconst (v := 1) hx hb dX5_makeWhole_40 (by decide) ?_
    obtain ⟨σ11, eh, h⟩ := ik_bd h
    refine ik_Vv (As := [.int 0, .int x5, .int 1]) (rest := []) ⟨hx, hb, hml, hown, hts⟩ (c_X5_putBit l D cI cZ a A 0 x5 1 σ6 _ eh) (cwV 3 hts gX5_makeWhole_X5_putBit rfl rfl rfl (by decide +kernel) ⟨Nat.le_of_ble_eq_true rfl, Nat.le_of_ble_eq_true rfl⟩) (va_recv hK hP (ci := 3) (q0 := 1) rfl rfl) hP hK hD hN hS rfl hl.1 rfl (Nat.le_of_ble_eq_true rfl) dX5_makeWhole_41 (fun H locs hP hD hS => ?_)
    clear eh
    refine lv_iinc (v := x5 + 1) (lv' := [(1, .int (x5 + 1)), (0, .ref (a 1))]) hx hb dX5_makeWhole_44 hl (k := 1) rfl rfl (by decide) rfl (fun ls hl => ?_)
    refine lv_goto (tgt := 31) hx hb dX5_makeWhole_47 (by decide) ?_
    exact ih31 _ _ h _ _ _ hP hD hS (lv_sub hl [1, 0] rfl)
abbrev rm_X5_remember : Room := { frames := 1, cells := 0, slots := 0, locals := 60 }
theorem in_X5_remember_X5 : ∀ w ∈ wsX50, w ∈ wsX5_remember := by decide +kernel
set_option maxHeartbeats 4000000 in
set_option maxRecDepth 100000 in
theorem c_X5_remember (l : Launch) (D : va_G) (cI cZ : ClassId) (a : Nat → Nat) (A : Nat → Prop) (σ : ck_S) (σz : ck_S) (h : fX5_remember σ = some σz) : Met l yX5_remember wsX5_remember rm_X5_remember (va_Pc [.ref (a 1)] (ik_P D [(cI, .int), (cZ, .boolean)] ck_N (ck_W cI cZ a) A σ)) (ik_Qv D (ck_W cI cZ a) A σz) 0 0 A := by
  unfold fX5_remember at h
  refine Met.ofW (cc := cX5_remember) (maxL := 1) (ret := none) (by decide) rfl ?_
  intro p e s m args below meth c s₁ B hml hv
  obtain ⟨hAr, hP, hK, hD, hN⟩ := hv
  have hx := B.exec
  have hb := B.bytes
  have hr := B.returns
  have hts := atoms_spec (ws := wsX5_remember) B.pre
  have hown : s.vm.findClass RX5 = some m.cls := findClass_of_methodNamed B.named
  have hlocks := B.notSynchronized
  have hS : va_S A s.heap s.heap [] := va_S.rf
  have hl := lv_entry ([.ref (a 1)]) (n := 1) (Nat.le_of_ble_eq_true rfl)
  rw [show entryFrame m args 1 = entryFrame m ([.ref (a 1)] : List Value).toArray 1 from by rw [hAr], lg_entry_eq]
  generalize (lg_sl ([.ref (a 1)]) ++ List.replicate (1 - (lg_sl ([.ref (a 1)])).length) Slot.unset).toArray = ls at hl ⊢
  have hl : lv_has ls 1 [(0, .ref (a 1))] := hl
  refine lv_aload_n hx hb dX5_remember_0 rfl (lv_at hl 0 rfl) ?_
  refine va_get (D := D) (ci := 3) (v := .ref (a 2)) (C := RX5) (T := TX5) (N := 2) hx hb hts in_X5_remember_X5 hown hK hP 1 rfl rfl 0 (by decide) (hts (.fieldLink RX5 11 "ImageChecker$Tables" "cells" "[I") (by decide +kernel)) (fun _ h9 => h9) rfl dX5_remember_1 ?_
  refine lv_iconst (v := 0) hx hb dX5_remember_4 (by decide) ?_
  refine lv_aload_n hx hb dX5_remember_5 rfl (lv_at hl 0 rfl) ?_
  refine va_get (D := D) (ci := 3) (v := .ref (a 3)) (C := RX5) (T := TX5) (N := 2) hx hb hts in_X5_remember_X5 hown hK hP 1 rfl rfl 1 (by decide) (hts (.fieldLink RX5 15 "ImageChecker$Tables" "memory" "[I") (by decide +kernel)) (fun _ h9 => h9) rfl dX5_remember_6 ?_
  refine lv_iconst (v := 0) hx hb dX5_remember_9 (by decide) ?_
  refine lv_sipush (v := 1355) hx hb dX5_remember_10 (by decide) ?_
  obtain ⟨σ1, eh, h⟩ := ik_bd h
  refine va_copyi hx hb (hml.trans hl.1.symm) hown (hts (.methodLink RX5 32 arraycopyName) (by decide +kernel)) (hts (.native arraycopyName) (by decide +kernel)) (hts (.static arraycopyName) (by decide +kernel)) (hts (.initialized "java/lang/System") (by decide +kernel)) hK hP hD hS 2 3 0 0 rfl rfl rfl rfl rfl (by decide) (by decide) (by decide) (by decide) (by decide) (fun i _ => rfl) (by decide) (by decide) dX5_remember_13 (fun H locs hP hD hS => ?_)
  have hP : va_P D vwCl (ck_W cI cZ a σ1) H := by rw [← Option.some.inj eh]; exact hP
  have hD : va_D A (ck_W cI cZ a σ1) := by rw [← Option.some.inj eh]; exact hD
  clear eh
  exact W.vret hx hb hr (fun t ht hW => ⟨⟨_, rfl, Option.some.inj h, by rw [ht]; exact hP, hD⟩, hS.F ht⟩) hS.2.2 dX5_remember_16
