abbrev rm_X2_reach : Room := { frames := 1, cells := 0, slots := 0, locals := 20 }
theorem in_X2_reach_X2 : ∀ w ∈ wsX20, w ∈ wsX2_reach := by decide +kernel
set_option maxHeartbeats 4000000 in
set_option maxRecDepth 100000 in
theorem c_X2_reach (l : Launch) (D : va_G) (cI cZ : ClassId) (a : Nat → Nat) (A : Nat → Prop) (p0 : Int32) (σ : ck_S) (σz : ck_S) (h : fX2_reach p0 σ = some σz) : Met l yX2_reach wsX2_reach rm_X2_reach (va_Pc [.ref (a 9), .int p0] (ik_P D [(cI, .int), (cZ, .boolean)] ck_N (ck_W cI cZ a) A σ)) (ik_Qv D (ck_W cI cZ a) A σz) 0 0 A := by
  unfold fX2_reach at h
  refine Met.ofW (cc := cX2_reach) (maxL := 2) (ret := none) (by decide) rfl ?_
  intro p e s m args below meth c s₁ B hml hv
  obtain ⟨hAr, hP, hK, hD, hN⟩ := hv
  have hx := B.exec
  have hb := B.bytes
  have hr := B.returns
  have hts := atoms_spec (ws := wsX2_reach) B.pre
  have hown : s.vm.findClass RX2 = some m.cls := findClass_of_methodNamed B.named
  have hlocks := B.notSynchronized
  have hS : va_S A s.heap s.heap [] := va_S.rf
  have hl := lv_entry ([.ref (a 9), .int p0]) (n := 2) (Nat.le_of_ble_eq_true rfl)
  rw [show entryFrame m args 2 = entryFrame m ([.ref (a 9), .int p0] : List Value).toArray 2 from by rw [hAr], lg_entry_eq]
  generalize (lg_sl ([.ref (a 9), .int p0]) ++ List.replicate (2 - (lg_sl ([.ref (a 9), .int p0])).length) Slot.unset).toArray = ls at hl ⊢
  have hl : lv_has ls 2 [(0, .ref (a 9)), (1, .int p0)] := hl
  refine lv_iload_n hx hb dX2_reach_0 rfl (lv_at hl 1 rfl) ?_
  obtain ⟨v1, eh, h⟩ := ik_bd h
  refine ik_Ni (As := [.int p0]) (rest := []) ⟨hx, hb, hml, hown, hts⟩ (c_X7_isFile l D cI cZ a A p0 σ _ eh) ⟨va_cnB (host := "ImageChecker") 1 hts gX2_reach_X7_isFile_n71 rfl rfl rfl (hN (RX2, 71, yX7_isFile) (by decide)) (hts (.initialized RX7) (by decide +kernel)) (by decide +kernel) ⟨Nat.le_of_ble_eq_true rfl, Nat.le_of_ble_eq_true rfl⟩, hts (.static yX7_isFile) (by decide +kernel), trivial⟩ hP hK hD hN hS rfl hl.1 rfl (Nat.le_of_ble_eq_true rfl) dX2_reach_1 (fun H locs hP hD hS => ?_)
  clear eh
  refine lv_if_eq (tgt := 52) hx hb dX2_reach_4 (by decide) (fun c2 => ?_) (fun c2 => ?_)
  · have h := ik_t c2 h
    exact W.vret hx hb hr (fun t ht hW => ⟨⟨_, rfl, Option.some.inj h, by rw [ht]; exact hP, hD⟩, hS.F ht⟩) hS.2.2 dX2_reach_52
  · have h := ik_f c2 h
    refine lv_aload_n hx hb dX2_reach_7 rfl (lv_at hl 0 rfl) ?_
    refine va_get (D := D) (ci := 1) (v := .ref (a 10)) (C := RX2) (T := TX2) (N := 3) hx hb hts in_X2_reach_X2 hown hK hP 9 rfl rfl 0 (by decide) (hts (.fieldLink RX2 9 "ImageChecker$HangingPass" "reached" "[Z") (by decide +kernel)) (fun _ h9 => h9) rfl dX2_reach_8 ?_
    refine lv_iload_n hx hb dX2_reach_11 rfl (lv_at hl 1 rfl) ?_
    obtain ⟨v3, eh, h⟩ := ik_bd h
    refine ik_zld hx hb hK hP 10 1 rfl rfl eh dX2_reach_12 ?_
    clear eh
    refine lv_if_ne (tgt := 52) hx hb dX2_reach_13 (by decide) (fun c4 => ?_) (fun c4 => ?_)
    · have h := ik_f c4 h
      exact W.vret hx hb hr (fun t ht hW => ⟨⟨_, rfl, Option.some.inj h, by rw [ht]; exact hP, hD⟩, hS.F ht⟩) hS.2.2 dX2_reach_52
    · have h := ik_t c4 h
      refine lv_aload_n hx hb dX2_reach_16 rfl (lv_at hl 0 rfl) ?_
      refine va_get (D := D) (ci := 1) (v := .int (ck_queued σ)) (C := RX2) (T := TX2) (N := 3) hx hb hts in_X2_reach_X2 hown hK hP 9 rfl rfl 2 (by decide) (hts (.fieldLink RX2 19 "ImageChecker$HangingPass" "queued" "I") (by decide +kernel)) (fun _ h9 => h9) rfl dX2_reach_17 ?_
      refine lv_bipush (v := 24) hx hb dX2_reach_20 (by decide) ?_
      refine lv_icmp_ge (tgt := 52) hx hb dX2_reach_22 (by decide) (fun c5 => ?_) (fun c5 => ?_)
      · have h := ik_t c5 h
        exact W.vret hx hb hr (fun t ht hW => ⟨⟨_, rfl, Option.some.inj h, by rw [ht]; exact hP, hD⟩, hS.F ht⟩) hS.2.2 dX2_reach_52
      · have h := ik_f c5 h
        refine lv_aload_n hx hb dX2_reach_25 rfl (lv_at hl 0 rfl) ?_
        refine va_get (D := D) (ci := 1) (v := .ref (a 10)) (C := RX2) (T := TX2) (N := 3) hx hb hts in_X2_reach_X2 hown hK hP 9 rfl rfl 0 (by decide) (hts (.fieldLink RX2 9 "ImageChecker$HangingPass" "reached" "[Z") (by decide +kernel)) (fun _ h9 => h9) rfl dX2_reach_26 ?_
        refine lv_iload_n hx hb dX2_reach_29 rfl (lv_at hl 1 rfl) ?_
        refine lv_iconst (v := 1) hx hb dX2_reach_30 (by decide) ?_
        obtain ⟨σ6, eh, h⟩ := ik_bd h
        refine ik_zst (Wd := ck_W cI cZ a) (σ1 := σ6) hx hb hK hP hD hS 10 1 rfl rfl (fun _ => rfl) eh dX2_reach_31 (fun H locs hP hD hS => ?_)
        clear eh
        refine lv_aload_n hx hb dX2_reach_32 rfl (lv_at hl 0 rfl) ?_
        refine va_get (D := D) (ci := 1) (v := .ref (a 11)) (C := RX2) (T := TX2) (N := 3) hx hb hts in_X2_reach_X2 hown hK hP 9 rfl rfl 1 (by decide) (hts (.fieldLink RX2 15 "ImageChecker$HangingPass" "queue" "[I") (by decide +kernel)) (fun _ h9 => h9) rfl dX2_reach_33 ?_
        refine lv_aload_n hx hb dX2_reach_36 rfl (lv_at hl 0 rfl) ?_
        refine va_get (D := D) (ci := 1) (v := .int (ck_queued σ6)) (C := RX2) (T := TX2) (N := 3) hx hb hts in_X2_reach_X2 hown hK hP 9 rfl rfl 2 (by decide) (hts (.fieldLink RX2 19 "ImageChecker$HangingPass" "queued" "I") (by decide +kernel)) (fun _ h9 => h9) rfl dX2_reach_37 ?_
        refine lv_iload_n hx hb dX2_reach_40 rfl (lv_at hl 1 rfl) ?_
        obtain ⟨σ7, eh, h⟩ := ik_bd h
        refine ik_st (Wd := ck_W cI cZ a) (σ1 := σ7) hx hb hK hP hD hS 11 0 rfl rfl (fun _ => rfl) eh dX2_reach_41 (fun H locs hP hD hS => ?_)
        clear eh
        refine lv_aload_n hx hb dX2_reach_42 rfl (lv_at hl 0 rfl) ?_
        refine lv_dup hx hb dX2_reach_43 rfl ?_
        refine va_get (D := D) (ci := 1) (v := .int (ck_queued σ7)) (C := RX2) (T := TX2) (N := 3) hx hb hts in_X2_reach_X2 hown hK hP 9 rfl rfl 2 (by decide) (hts (.fieldLink RX2 19 "ImageChecker$HangingPass" "queued" "I") (by decide +kernel)) (fun _ h9 => h9) rfl dX2_reach_44 ?_
        refine lv_iconst (v := 1) hx hb dX2_reach_47 (by decide) ?_
        refine lv_iadd hx hb dX2_reach_48 ?_
        obtain ⟨σ8, eh, h⟩ := ik_bd h
        refine va_put (D := D) (ci := 1) (v := .int ((ck_queued σ7) + 1)) (ty := .int) (C := RX2) (T := TX2) (N := 3) hx hb hts in_X2_reach_X2 tyX2 tyX2_ok nmX2 hown hK hP hD hS 9 rfl rfl 2 (by decide) (hts (.fieldLink RX2 19 "ImageChecker$HangingPass" "queued" "I") (by decide +kernel)) (fun _ h9 => h9) rfl (by decide +kernel) rfl rfl (Nat.le_of_ble_eq_true rfl) dX2_reach_49 (fun H locs hP hD hS => ?_)
        have hP : va_P D vwCl (ck_W cI cZ a σ8) H := by rw [← Option.some.inj eh]; exact hP
        have hD : va_D A (ck_W cI cZ a σ8) := by rw [← Option.some.inj eh]; exact hD
        clear eh
        exact W.vret hx hb hr (fun t ht hW => ⟨⟨_, rfl, Option.some.inj h, by rw [ht]; exact hP, hD⟩, hS.F ht⟩) hS.2.2 dX2_reach_52
abbrev rm_X2_reachFrom : Room := { frames := 2, cells := 0, slots := 0, locals := 44 }
theorem in_X2_reachFrom_X2 : ∀ w ∈ wsX20, w ∈ wsX2_reachFrom := by decide +kernel
set_option maxHeartbeats 4000000 in
set_option maxRecDepth 100000 in
theorem c_X2_reachFrom (l : Launch) (D : va_G) (cI cZ : ClassId) (a : Nat → Nat) (A : Nat → Prop) (p1 : Int32) (σ : ck_S) (σz : ck_S) (h : fX2_reachFrom p1 σ = some σz) : Met l yX2_reachFrom wsX2_reachFrom rm_X2_reachFrom (va_Pc [.ref (a 9), .ref (a 1), .int p1] (ik_P D [(cI, .int), (cZ, .boolean)] ck_N (ck_W cI cZ a) A σ)) (ik_Qv D (ck_W cI cZ a) A σz) 0 0 A := by
  unfold fX2_reachFrom at h
  refine Met.ofW (cc := cX2_reachFrom) (maxL := 5) (ret := none) (by decide) rfl ?_
  intro p e s m args below meth c s₁ B hml hv
  obtain ⟨hAr, hP, hK, hD, hN⟩ := hv
  have hx := B.exec
  have hb := B.bytes
  have hr := B.returns
  have hts := atoms_spec (ws := wsX2_reachFrom) B.pre
  have hown : s.vm.findClass RX2 = some m.cls := findClass_of_methodNamed B.named
  have hlocks := B.notSynchronized
  have hS : va_S A s.heap s.heap [] := va_S.rf
  have hl := lv_entry ([.ref (a 9), .ref (a 1), .int p1]) (n := 5) (Nat.le_of_ble_eq_true rfl)
  rw [show entryFrame m args 5 = entryFrame m ([.ref (a 9), .ref (a 1), .int p1] : List Value).toArray 5 from by rw [hAr], lg_entry_eq]
  generalize (lg_sl ([.ref (a 9), .ref (a 1), .int p1]) ++ List.replicate (5 - (lg_sl ([.ref (a 9), .ref (a 1), .int p1])).length) Slot.unset).toArray = ls at hl ⊢
  have hl : lv_has ls 5 [(0, .ref (a 9)), (1, .ref (a 1)), (2, .int p1)] := hl
  refine lv_aload_n hx hb dX2_reachFrom_0 rfl (lv_at hl 0 rfl) ?_
  refine lv_iconst (v := 0) hx hb dX2_reachFrom_1 (by decide) ?_
  obtain ⟨σ1, eh, h⟩ := ik_bd h
  refine va_put (D := D) (ci := 1) (v := .int 0) (ty := .int) (C := RX2) (T := TX2) (N := 3) hx hb hts in_X2_reachFrom_X2 tyX2 tyX2_ok nmX2 hown hK hP hD hS 9 rfl rfl 2 (by decide) (hts (.fieldLink RX2 19 "ImageChecker$HangingPass" "queued" "I") (by decide +kernel)) (fun _ h9 => h9) rfl (by decide +kernel) rfl rfl (Nat.le_of_ble_eq_true rfl) dX2_reachFrom_2 (fun H locs hP hD hS => ?_)
  have hP : va_P D vwCl (ck_W cI cZ a σ1) H := by rw [← Option.some.inj eh]; exact hP
  have hD : va_D A (ck_W cI cZ a σ1) := by rw [← Option.some.inj eh]; exact hD
  clear eh
  refine lv_aload_n hx hb dX2_reachFrom_5 rfl (lv_at hl 0 rfl) ?_
  refine lv_iload_n hx hb dX2_reachFrom_6 rfl (lv_at hl 2 rfl) ?_
  obtain ⟨σ2, eh, h⟩ := ik_bd h
  refine ik_Vv (As := [.int p1]) (rest := []) ⟨hx, hb, hml, hown, hts⟩ (c_X2_reach l D cI cZ a A p1 σ1 _ eh) (cwV 1 hts gX2_reachFrom_X2_reach rfl rfl rfl (by decide +kernel) ⟨Nat.le_of_ble_eq_true rfl, Nat.le_of_ble_eq_true rfl⟩) (va_recv hK hP (ci := 1) (q0 := 9) rfl rfl) hP hK hD hN hS rfl hl.1 rfl (Nat.le_of_ble_eq_true rfl) dX2_reachFrom_7 (fun H locs hP hD hS => ?_)
  clear eh
  refine lv_iconst (v := 0) hx hb dX2_reachFrom_10 (by decide) ?_
  refine lv_istore_n (lv' := [(3, .int 0), (0, .ref (a 9)), (1, .ref (a 1)), (2, .int p1)]) hx hb dX2_reachFrom_11 rfl hl (by decide) rfl (fun ls hl => ?_)
  refine qp2_W (P := fun (x3 : Int32) (σ4 : ck_S) => ∀ (H : Heap) (locs : List Loc) (ls : Array Slot), va_P D vwCl (ck_W cI cZ a σ4) H → va_D A (ck_W cI cZ a σ4) → va_S A s.heap H locs → lv_has ls 5 [(0, .ref (a 9)), (1, .ref (a 1)), (3, .int x3)] → W p l e (headSpec wsX2_reachFrom rm_X2_reachFrom).room s m args below meth c H locs 0 0 (MQ below (ik_Qv D (ck_W cI cZ a) A σz) args s 0 0 A) (F0 m 12 ls [])) ?_ FU _ _ h _ _ _ hP hD hS (lv_sub hl [1, 2, 0] rfl)
  intro rec12 ih12 x3 σ4 h H locs ls hP hD hS hl
  refine lv_iload_n hx hb dX2_reachFrom_12 rfl (lv_at hl 2 rfl) ?_
  refine lv_aload_n hx hb dX2_reachFrom_13 rfl (lv_at hl 0 rfl) ?_
  refine va_get (D := D) (ci := 1) (v := .int (ck_queued σ4)) (C := RX2) (T := TX2) (N := 3) hx hb hts in_X2_reachFrom_X2 hown hK hP 9 rfl rfl 2 (by decide) (hts (.fieldLink RX2 19 "ImageChecker$HangingPass" "queued" "I") (by decide +kernel)) (fun _ h9 => h9) rfl dX2_reachFrom_14 ?_
  refine lv_icmp_ge (tgt := 65) hx hb dX2_reachFrom_17 (by decide) (fun c5 => ?_) (fun c5 => ?_)
  · have h := ik_t c5 h
    exact W.vret hx hb hr (fun t ht hW => ⟨⟨_, rfl, Option.some.inj h, by rw [ht]; exact hP, hD⟩, hS.F ht⟩) hS.2.2 dX2_reachFrom_65
  · have h := ik_f c5 h
    refine lv_iload_n hx hb dX2_reachFrom_20 rfl (lv_at hl 2 rfl) ?_
    refine lv_bipush (v := 24) hx hb dX2_reachFrom_21 (by decide) ?_
    refine lv_icmp_ge (tgt := 65) hx hb dX2_reachFrom_23 (by decide) (fun c6 => ?_) (fun c6 => ?_)
    · have h := ik_t c6 h
      exact W.vret hx hb hr (fun t ht hW => ⟨⟨_, rfl, Option.some.inj h, by rw [ht]; exact hP, hD⟩, hS.F ht⟩) hS.2.2 dX2_reachFrom_65
    · have h := ik_f c6 h
      refine lv_iconst (v := 0) hx hb dX2_reachFrom_26 (by decide) ?_
      refine lv_istore (lv' := [(4, .int 0), (0, .ref (a 9)), (1, .ref (a 1)), (3, .int x3)]) hx hb dX2_reachFrom_27 hl (by decide) rfl (fun ls hl => ?_)
      refine qp2_W (P := fun (x7 : Int32) (σ8 : ck_S) => ∀ (H : Heap) (locs : List Loc) (ls : Array Slot), va_P D vwCl (ck_W cI cZ a σ8) H → va_D A (ck_W cI cZ a σ8) → va_S A s.heap H locs → lv_has ls 5 [(0, .ref (a 9)), (1, .ref (a 1)), (3, .int x3), (4, .int x7)] → W p l e (headSpec wsX2_reachFrom rm_X2_reachFrom).room s m args below meth c H locs 0 0 (MQ below (ik_Qv D (ck_W cI cZ a) A σz) args s 0 0 A) (F0 m 29 ls [])) ?_ FU _ _ h _ _ _ hP hD hS (lv_sub hl [1, 2, 3, 0] rfl)
      intro rec29 ih29 x7 σ8 h H locs ls hP hD hS hl
      refine lv_iload hx hb dX2_reachFrom_29 (lv_at hl 3 rfl) ?_
      refine lv_bipush (v := 8) hx hb dX2_reachFrom_31 (by decide) ?_
      refine lv_icmp_ge (tgt := 59) hx hb dX2_reachFrom_33 (by decide) (fun c9 => ?_) (fun c9 => ?_)
      · have h := ik_t c9 h
        refine lv_iinc (v := x3 + 1) (lv' := [(3, .int (x3 + 1)), (0, .ref (a 9)), (1, .ref (a 1)), (4, .int x7)]) hx hb dX2_reachFrom_59 hl (k := 2) rfl rfl (by decide) rfl (fun ls hl => ?_)
        refine lv_goto (tgt := 12) hx hb dX2_reachFrom_62 (by decide) ?_
        exact ih12 _ _ h _ _ _ hP hD hS (lv_sub hl [1, 2, 0] rfl)
      · have h := ik_f c9 h
        refine lv_aload_n hx hb dX2_reachFrom_36 rfl (lv_at hl 0 rfl) ?_
        refine lv_aload_n hx hb dX2_reachFrom_37 rfl (lv_at hl 1 rfl) ?_
        refine lv_aload_n hx hb dX2_reachFrom_38 rfl (lv_at hl 0 rfl) ?_
        refine va_get (D := D) (ci := 1) (v := .ref (a 11)) (C := RX2) (T := TX2) (N := 3) hx hb hts in_X2_reachFrom_X2 hown hK hP 9 rfl rfl 1 (by decide) (hts (.fieldLink RX2 15 "ImageChecker$HangingPass" "queue" "[I") (by decide +kernel)) (fun _ h9 => h9) rfl dX2_reachFrom_39 ?_
        refine lv_iload_n hx hb dX2_reachFrom_42 rfl (lv_at hl 2 rfl) ?_
        obtain ⟨v10, eh, h⟩ := ik_bd h
        refine ik_ld hx hb hK hP 11 0 rfl rfl eh dX2_reachFrom_43 ?_
        clear eh
        refine lv_iload hx hb dX2_reachFrom_44 (lv_at hl 3 rfl) ?_
        refine lv_iconst (v := 1) hx hb dX2_reachFrom_46 (by decide) ?_
        obtain ⟨v11, eh, h⟩ := ik_bd h
        refine ik_Vi (As := [.int v10, .int x7, .int 1]) (rest := [.ref (a 9)]) ⟨hx, hb, hml, hown, hts⟩ (c_X5_entryPart l D cI cZ a A v10 x7 1 σ8 _ eh) (cwV 3 hts gX2_reachFrom_X5_entryPart rfl rfl rfl (by decide +kernel) ⟨Nat.le_of_ble_eq_true rfl, Nat.le_of_ble_eq_true rfl⟩) (va_recv hK hP (ci := 3) (q0 := 1) rfl rfl) hP hK hD hN hS rfl hl.1 rfl (Nat.le_of_ble_eq_true rfl) dX2_reachFrom_47 (fun H locs hP hD hS => ?_)
        clear eh
        obtain ⟨σ12, eh, h⟩ := ik_bd h
        refine ik_Vv (As := [.int v11]) (rest := []) ⟨hx, hb, hml, hown, hts⟩ (c_X2_reach l D cI cZ a A v11 σ8 _ eh) (cwV 1 hts gX2_reachFrom_X2_reach rfl rfl rfl (by decide +kernel) ⟨Nat.le_of_ble_eq_true rfl, Nat.le_of_ble_eq_true rfl⟩) (va_recv hK hP (ci := 1) (q0 := 9) rfl rfl) hP hK hD hN hS rfl hl.1 rfl (Nat.le_of_ble_eq_true rfl) dX2_reachFrom_50 (fun H locs hP hD hS => ?_)
        clear eh
        refine lv_iinc (v := x7 + 1) (lv' := [(4, .int (x7 + 1)), (0, .ref (a 9)), (1, .ref (a 1)), (3, .int x3)]) hx hb dX2_reachFrom_53 hl (k := 3) rfl rfl (by decide) rfl (fun ls hl => ?_)
        refine lv_goto (tgt := 29) hx hb dX2_reachFrom_56 (by decide) ?_
        exact ih29 _ _ h _ _ _ hP hD hS (lv_sub hl [1, 2, 3, 0] rfl)
abbrev rm_X6_isRightlyIn : Room := { frames := 0, cells := 0, slots := 0, locals := 0 }
theorem in_X6_isRightlyIn_X6 : ∀ w ∈ wsX60, w ∈ wsX6_isRightlyIn := by decide +kernel
set_option maxHeartbeats 4000000 in
set_option maxRecDepth 100000 in
theorem c_X6_isRightlyIn (l : Launch) (D : va_G) (cI cZ : ClassId) (a : Nat → Nat) (A : Nat → Prop) (p0 : Int32) (σ : ck_S) (rz : Int32) (h : fX6_isRightlyIn p0 σ = some rz) : Met l yX6_isRightlyIn wsX6_isRightlyIn rm_X6_isRightlyIn (va_Pc [.ref (a 12), .int p0] (ik_P D [(cI, .int), (cZ, .boolean)] ck_N (ck_W cI cZ a) A σ)) (ik_Qi D (ck_W cI cZ a) A rz σ) 0 0 A := by
  unfold fX6_isRightlyIn at h
  refine Met.ofW (cc := cX6_isRightlyIn) (maxL := 2) (ret := (some .boolean)) (by decide) rfl ?_
  intro p e s m args below meth c s₁ B hml hv
  obtain ⟨hAr, hP, hK, hD, hN⟩ := hv
  have hx := B.exec
  have hb := B.bytes
  have hr := B.returns
  have hts := atoms_spec (ws := wsX6_isRightlyIn) B.pre
  have hown : s.vm.findClass RX6 = some m.cls := findClass_of_methodNamed B.named
  have hlocks := B.notSynchronized
  have hS : va_S A s.heap s.heap [] := va_S.rf
  have hl := lv_entry ([.ref (a 12), .int p0]) (n := 2) (Nat.le_of_ble_eq_true rfl)
  rw [show entryFrame m args 2 = entryFrame m ([.ref (a 12), .int p0] : List Value).toArray 2 from by rw [hAr], lg_entry_eq]
  generalize (lg_sl ([.ref (a 12), .int p0]) ++ List.replicate (2 - (lg_sl ([.ref (a 12), .int p0])).length) Slot.unset).toArray = ls at hl ⊢
  have hl : lv_has ls 2 [(0, .ref (a 12)), (1, .int p0)] := hl
  refine lv_aload_n hx hb dX6_isRightlyIn_0 rfl (lv_at hl 0 rfl) ?_
  refine va_get (D := D) (ci := 4) (v := .ref (a 14)) (C := RX6) (T := TX6) (N := 4) hx hb hts in_X6_isRightlyIn_X6 hown hK hP 12 rfl rfl 1 (by decide) (hts (.fieldLink RX6 15 "ImageChecker$WaitingList" "waitsRightly" "[Z") (by decide +kernel)) (fun _ h9 => h9) rfl dX6_isRightlyIn_1 ?_
  refine lv_iload_n hx hb dX6_isRightlyIn_4 rfl (lv_at hl 1 rfl) ?_
  obtain ⟨v1, eh, h⟩ := ik_bd h
  refine ik_zld hx hb hK hP 14 1 rfl rfl eh dX6_isRightlyIn_5 ?_
  clear eh
  have eh := h
  exact W.zret hx hb hr (ik_zn (ik_zb_e eh).1) (fun t ht hW => ⟨⟨_, _, rfl, ⟨(ik_zb_e eh).2, rfl⟩, by rw [ht]; exact hP, hD⟩, hS.F ht⟩) hS.2.2 dX6_isRightlyIn_6
abbrev rm_X5_moveEntry : Room := { frames := 2, cells := 0, slots := 0, locals := 47 }
set_option maxHeartbeats 4000000 in
set_option maxRecDepth 100000 in
theorem c_X5_moveEntry (l : Launch) (D : va_G) (cI cZ : ClassId) (a : Nat → Nat) (A : Nat → Prop) (p0 : Int32) (p1 : Int32) (p2 : Int32) (σ : ck_S) (σz : ck_S) (h : fX5_moveEntry p0 p1 p2 σ = some σz) : Met l yX5_moveEntry wsX5_moveEntry rm_X5_moveEntry (va_Pc [.ref (a 1), .int p0, .int p1, .int p2] (ik_P D [(cI, .int), (cZ, .boolean)] ck_N (ck_W cI cZ a) A σ)) (ik_Qv D (ck_W cI cZ a) A σz) 0 0 A := by
  unfold fX5_moveEntry at h
  refine Met.ofW (cc := cX5_moveEntry) (maxL := 4) (ret := none) (by decide) rfl ?_
  intro p e s m args below meth c s₁ B hml hv
  obtain ⟨hAr, hP, hK, hD, hN⟩ := hv
  have hx := B.exec
  have hb := B.bytes
  have hr := B.returns
  have hts := atoms_spec (ws := wsX5_moveEntry) B.pre
  have hown : s.vm.findClass RX5 = some m.cls := findClass_of_methodNamed B.named
  have hlocks := B.notSynchronized
  have hS : va_S A s.heap s.heap [] := va_S.rf
  have hl := lv_entry ([.ref (a 1), .int p0, .int p1, .int p2]) (n := 4) (Nat.le_of_ble_eq_true rfl)
  rw [show entryFrame m args 4 = entryFrame m ([.ref (a 1), .int p0, .int p1, .int p2] : List Value).toArray 4 from by rw [hAr], lg_entry_eq]
  generalize (lg_sl ([.ref (a 1), .int p0, .int p1, .int p2]) ++ List.replicate (4 - (lg_sl ([.ref (a 1), .int p0, .int p1, .int p2])).length) Slot.unset).toArray = ls at hl ⊢
  have hl : lv_has ls 4 [(0, .ref (a 1)), (1, .int p0), (2, .int p1), (3, .int p2)] := hl
  refine lv_aload_n hx hb dX5_moveEntry_0 rfl (lv_at hl 0 rfl) ?_
  refine lv_iload_n hx hb dX5_moveEntry_1 rfl (lv_at hl 1 rfl) ?_
  refine lv_iload_n hx hb dX5_moveEntry_2 rfl (lv_at hl 3 rfl) ?_
  refine lv_aload_n hx hb dX5_moveEntry_3 rfl (lv_at hl 0 rfl) ?_
  refine lv_iload_n hx hb dX5_moveEntry_4 rfl (lv_at hl 1 rfl) ?_
  refine lv_iload_n hx hb dX5_moveEntry_5 rfl (lv_at hl 2 rfl) ?_
  refine lv_iconst (v := 0) hx hb dX5_moveEntry_6 (by decide) ?_
  obtain ⟨v1, eh, h⟩ := ik_bd h
  refine ik_Vi (As := [.int p0, .int p1, .int 0]) (rest := [.int p2, .int p0, .ref (a 1)]) ⟨hx, hb, hml, hown, hts⟩ (c_X5_entryPart l D cI cZ a A p0 p1 0 σ _ eh) (cwV 3 hts gX5_moveEntry_X5_entryPart rfl rfl rfl (by decide +kernel) ⟨Nat.le_of_ble_eq_true rfl, Nat.le_of_ble_eq_true rfl⟩) (va_recv hK hP (ci := 3) (q0 := 1) rfl rfl) hP hK hD hN hS rfl hl.1 rfl (Nat.le_of_ble_eq_true rfl) dX5_moveEntry_7 (fun H locs hP hD hS => ?_)
  clear eh
  refine lv_aload_n hx hb dX5_moveEntry_10 rfl (lv_at hl 0 rfl) ?_
  refine lv_iload_n hx hb dX5_moveEntry_11 rfl (lv_at hl 1 rfl) ?_
  refine lv_iload_n hx hb dX5_moveEntry_12 rfl (lv_at hl 2 rfl) ?_
  refine lv_iconst (v := 1) hx hb dX5_moveEntry_13 (by decide) ?_
  obtain ⟨v2, eh, h⟩ := ik_bd h
  refine ik_Vi (As := [.int p0, .int p1, .int 1]) (rest := [.int v1, .int p2, .int p0, .ref (a 1)]) ⟨hx, hb, hml, hown, hts⟩ (c_X5_entryPart l D cI cZ a A p0 p1 1 σ _ eh) (cwV 3 hts gX5_moveEntry_X5_entryPart rfl rfl rfl (by decide +kernel) ⟨Nat.le_of_ble_eq_true rfl, Nat.le_of_ble_eq_true rfl⟩) (va_recv hK hP (ci := 3) (q0 := 1) rfl rfl) hP hK hD hN hS rfl hl.1 rfl (Nat.le_of_ble_eq_true rfl) dX5_moveEntry_14 (fun H locs hP hD hS => ?_)
  clear eh
  refine lv_aload_n hx hb dX5_moveEntry_17 rfl (lv_at hl 0 rfl) ?_
  refine lv_iload_n hx hb dX5_moveEntry_18 rfl (lv_at hl 1 rfl) ?_
  refine lv_iload_n hx hb dX5_moveEntry_19 rfl (lv_at hl 2 rfl) ?_
  refine lv_iconst (v := 2) hx hb dX5_moveEntry_20 (by decide) ?_
  obtain ⟨v3, eh, h⟩ := ik_bd h
  refine ik_Vi (As := [.int p0, .int p1, .int 2]) (rest := [.int v2, .int v1, .int p2, .int p0, .ref (a 1)]) ⟨hx, hb, hml, hown, hts⟩ (c_X5_entryPart l D cI cZ a A p0 p1 2 σ _ eh) (cwV 3 hts gX5_moveEntry_X5_entryPart rfl rfl rfl (by decide +kernel) ⟨Nat.le_of_ble_eq_true rfl, Nat.le_of_ble_eq_true rfl⟩) (va_recv hK hP (ci := 3) (q0 := 1) rfl rfl) hP hK hD hN hS rfl hl.1 rfl (Nat.le_of_ble_eq_true rfl) dX5_moveEntry_21 (fun H locs hP hD hS => ?_)
  clear eh
  obtain ⟨σ4, eh, h⟩ := ik_bd h
  refine ik_Vv (As := [.int p0, .int p2, .int v1, .int v2, .int v3]) (rest := []) ⟨hx, hb, hml, hown, hts⟩ (c_X5_putEntry l D cI cZ a A p0 p2 v1 v2 v3 σ _ eh) (cwV 5 hts gX5_moveEntry_X5_putEntry rfl rfl rfl (by decide +kernel) ⟨Nat.le_of_ble_eq_true rfl, Nat.le_of_ble_eq_true rfl⟩) (va_recv hK hP (ci := 3) (q0 := 1) rfl rfl) hP hK hD hN hS rfl hl.1 rfl (Nat.le_of_ble_eq_true rfl) dX5_moveEntry_24 (fun H locs hP hD hS => ?_)
  clear eh
  exact W.vret hx hb hr (fun t ht hW => ⟨⟨_, rfl, Option.some.inj h, by rw [ht]; exact hP, hD⟩, hS.F ht⟩) hS.2.2 dX5_moveEntry_27
abbrev rm_X5_dropEntriesFor : Room := { frames := 3, cells := 0, slots := 0, locals := 70 }
set_option maxHeartbeats 4000000 in
set_option maxRecDepth 100000 in
theorem c_X5_dropEntriesFor (l : Launch) (D : va_G) (cI cZ : ClassId) (a : Nat → Nat) (A : Nat → Prop) (p0 : Int32) (σ : ck_S) (σz : ck_S) (h : fX5_dropEntriesFor p0 σ = some σz) : Met l yX5_dropEntriesFor wsX5_dropEntriesFor rm_X5_dropEntriesFor (va_Pc [.ref (a 1), .int p0] (ik_P D [(cI, .int), (cZ, .boolean)] ck_N (ck_W cI cZ a) A σ)) (ik_Qv D (ck_W cI cZ a) A σz) 0 0 A := by
  unfold fX5_dropEntriesFor at h
  refine Met.ofW (cc := cX5_dropEntriesFor) (maxL := 5) (ret := none) (by decide) rfl ?_
  intro p e s m args below meth c s₁ B hml hv
  obtain ⟨hAr, hP, hK, hD, hN⟩ := hv
  have hx := B.exec
  have hb := B.bytes
  have hr := B.returns
  have hts := atoms_spec (ws := wsX5_dropEntriesFor) B.pre
  have hown : s.vm.findClass RX5 = some m.cls := findClass_of_methodNamed B.named
  have hlocks := B.notSynchronized
  have hS : va_S A s.heap s.heap [] := va_S.rf
  have hl := lv_entry ([.ref (a 1), .int p0]) (n := 5) (Nat.le_of_ble_eq_true rfl)
  rw [show entryFrame m args 5 = entryFrame m ([.ref (a 1), .int p0] : List Value).toArray 5 from by rw [hAr], lg_entry_eq]
  generalize (lg_sl ([.ref (a 1), .int p0]) ++ List.replicate (5 - (lg_sl ([.ref (a 1), .int p0])).length) Slot.unset).toArray = ls at hl ⊢
  have hl : lv_has ls 5 [(0, .ref (a 1)), (1, .int p0)] := hl
  refine lv_iconst (v := 1) hx hb dX5_dropEntriesFor_0 (by decide) ?_
  refine lv_istore_n (lv' := [(2, .int 1), (0, .ref (a 1)), (1, .int p0)]) hx hb dX5_dropEntriesFor_1 rfl hl (by decide) rfl (fun ls hl => ?_)
  refine qp2_W (P := fun (x1 : Int32) (σ2 : ck_S) => ∀ (H : Heap) (locs : List Loc) (ls : Array Slot), va_P D vwCl (ck_W cI cZ a σ2) H → va_D A (ck_W cI cZ a σ2) → va_S A s.heap H locs → lv_has ls 5 [(0, .ref (a 1)), (1, .int p0), (2, .int x1)] → W p l e (headSpec wsX5_dropEntriesFor rm_X5_dropEntriesFor).room s m args below meth c H locs 0 0 (MQ below (ik_Qv D (ck_W cI cZ a) A σz) args s 0 0 A) (F0 m 2 ls [])) ?_ FU _ _ h _ _ _ hP hD hS (lv_sub hl [1, 2, 0] rfl)
  intro rec2 ih2 x1 σ2 h H locs ls hP hD hS hl
  refine lv_iload_n hx hb dX5_dropEntriesFor_2 rfl (lv_at hl 2 rfl) ?_
  refine lv_bipush (v := 24) hx hb dX5_dropEntriesFor_3 (by decide) ?_
  refine lv_icmp_gt (tgt := 61) hx hb dX5_dropEntriesFor_5 (by decide) (fun c3 => ?_) (fun c3 => ?_)
  · have h := ik_t c3 h
    exact W.vret hx hb hr (fun t ht hW => ⟨⟨_, rfl, Option.some.inj h, by rw [ht]; exact hP, hD⟩, hS.F ht⟩) hS.2.2 dX5_dropEntriesFor_61
  · have h := ik_f c3 h
    refine lv_iconst (v := 0) hx hb dX5_dropEntriesFor_8 (by decide) ?_
    refine lv_istore_n (lv' := [(3, .int 0), (0, .ref (a 1)), (1, .int p0), (2, .int x1)]) hx hb dX5_dropEntriesFor_9 rfl hl (by decide) rfl (fun ls hl => ?_)
    refine lv_iconst (v := 0) hx hb dX5_dropEntriesFor_10 (by decide) ?_
    refine lv_istore (lv' := [(4, .int 0), (3, .int 0), (0, .ref (a 1)), (1, .int p0), (2, .int x1)]) hx hb dX5_dropEntriesFor_11 hl (by decide) rfl (fun ls hl => ?_)
    refine qp3_W (P := fun (x4 : Int32) (x5 : Int32) (σ6 : ck_S) => ∀ (H : Heap) (locs : List Loc) (ls : Array Slot), va_P D vwCl (ck_W cI cZ a σ6) H → va_D A (ck_W cI cZ a σ6) → va_S A s.heap H locs → lv_has ls 5 [(0, .ref (a 1)), (1, .int p0), (2, .int x1), (3, .int x4), (4, .int x5)] → W p l e (headSpec wsX5_dropEntriesFor rm_X5_dropEntriesFor).room s m args below meth c H locs 0 0 (MQ below (ik_Qv D (ck_W cI cZ a) A σz) args s 0 0 A) (F0 m 13 ls [])) ?_ FU _ _ _ h _ _ _ hP hD hS (lv_sub hl [2, 3, 4, 1, 0] rfl)
    intro rec13 ih13 x4 x5 σ6 h H locs ls hP hD hS hl
    refine lv_iload hx hb dX5_dropEntriesFor_13 (lv_at hl 4 rfl) ?_
    refine lv_bipush (v := 8) hx hb dX5_dropEntriesFor_15 (by decide) ?_
    refine lv_icmp_ge (tgt := 49) hx hb dX5_dropEntriesFor_17 (by decide) (fun c7 => ?_) (fun c7 => ?_)
    · have h := ik_t c7 h
      refine lv_aload_n hx hb dX5_dropEntriesFor_49 rfl (lv_at hl 0 rfl) ?_
      refine lv_iload_n hx hb dX5_dropEntriesFor_50 rfl (lv_at hl 2 rfl) ?_
      refine lv_iload_n hx hb dX5_dropEntriesFor_51 rfl (lv_at hl 3 rfl) ?_
      obtain ⟨σ8, eh, h⟩ := ik_bd h
      refine ik_Vv (As := [.int x1, .int x4]) (rest := []) ⟨hx, hb, hml, hown, hts⟩ (c_X5_wipeEntriesFrom l D cI cZ a A x1 x4 σ6 _ eh) (cwV 2 hts gX5_dropEntriesFor_X5_wipeEntriesFrom rfl rfl rfl (by decide +kernel) ⟨Nat.le_of_ble_eq_true rfl, Nat.le_of_ble_eq_true rfl⟩) (va_recv hK hP (ci := 3) (q0 := 1) rfl rfl) hP hK hD hN hS rfl hl.1 rfl (Nat.le_of_ble_eq_true rfl) dX5_dropEntriesFor_52 (fun H locs hP hD hS => ?_)
      clear eh
      refine lv_iinc (v := x1 + 1) (lv' := [(2, .int (x1 + 1)), (0, .ref (a 1)), (1, .int p0), (3, .int x4), (4, .int x5)]) hx hb dX5_dropEntriesFor_55 hl (k := 2) rfl rfl (by decide) rfl (fun ls hl => ?_)
      refine lv_goto (tgt := 2) hx hb dX5_dropEntriesFor_58 (by decide) ?_
      exact ih2 _ _ h _ _ _ hP hD hS (lv_sub hl [1, 2, 0] rfl)
    · have h := ik_f c7 h
      refine lv_aload_n hx hb dX5_dropEntriesFor_20 rfl (lv_at hl 0 rfl) ?_
      refine lv_iload_n hx hb dX5_dropEntriesFor_21 rfl (lv_at hl 2 rfl) ?_
      refine lv_iload hx hb dX5_dropEntriesFor_22 (lv_at hl 4 rfl) ?_
      refine lv_iconst (v := 1) hx hb dX5_dropEntriesFor_24 (by decide) ?_
      obtain ⟨v9, eh, h⟩ := ik_bd h
      refine ik_Vi (As := [.int x1, .int x5, .int 1]) (rest := []) ⟨hx, hb, hml, hown, hts⟩ (c_X5_entryPart l D cI cZ a A x1 x5 1 σ6 _ eh) (cwV 3 hts gX5_dropEntriesFor_X5_entryPart rfl rfl rfl (by decide +kernel) ⟨Nat.le_of_ble_eq_true rfl, Nat.le_of_ble_eq_true rfl⟩) (va_recv hK hP (ci := 3) (q0 := 1) rfl rfl) hP hK hD hN hS rfl hl.1 rfl (Nat.le_of_ble_eq_true rfl) dX5_dropEntriesFor_25 (fun H locs hP hD hS => ?_)
      clear eh
      refine lv_iload_n hx hb dX5_dropEntriesFor_28 rfl (lv_at hl 1 rfl) ?_
      refine lv_icmp_eq (tgt := 43) hx hb dX5_dropEntriesFor_29 (by decide) (fun c10 => ?_) (fun c10 => ?_)
      · have h := ik_t c10 h
        refine lv_iinc (v := x5 + 1) (lv' := [(4, .int (x5 + 1)), (0, .ref (a 1)), (1, .int p0), (2, .int x1), (3, .int x4)]) hx hb dX5_dropEntriesFor_43 hl (k := 4) rfl rfl (by decide) rfl (fun ls hl => ?_)
        refine lv_goto (tgt := 13) hx hb dX5_dropEntriesFor_46 (by decide) ?_
        exact ih13 _ _ _ h _ _ _ hP hD hS (lv_sub hl [1, 2, 3, 4, 0] rfl)
      · have h := ik_f c10 h
        refine lv_aload_n hx hb dX5_dropEntriesFor_32 rfl (lv_at hl 0 rfl) ?_
        refine lv_iload_n hx hb dX5_dropEntriesFor_33 rfl (lv_at hl 2 rfl) ?_
        refine lv_iload hx hb dX5_dropEntriesFor_34 (lv_at hl 4 rfl) ?_
        refine lv_iload_n hx hb dX5_dropEntriesFor_36 rfl (lv_at hl 3 rfl) ?_
        obtain ⟨σ11, eh, h⟩ := ik_bd h
        refine ik_Vv (As := [.int x1, .int x5, .int x4]) (rest := []) ⟨hx, hb, hml, hown, hts⟩ (c_X5_moveEntry l D cI cZ a A x1 x5 x4 σ6 _ eh) (cwV 3 hts gX5_dropEntriesFor_X5_moveEntry rfl rfl rfl (by decide +kernel) ⟨Nat.le_of_ble_eq_true rfl, Nat.le_of_ble_eq_true rfl⟩) (va_recv hK hP (ci := 3) (q0 := 1) rfl rfl) hP hK hD hN hS rfl hl.1 rfl (Nat.le_of_ble_eq_true rfl) dX5_dropEntriesFor_37 (fun H locs hP hD hS => ?_)
        clear eh
        refine lv_iinc (v := x4 + 1) (lv' := [(3, .int (x4 + 1)), (0, .ref (a 1)), (1, .int p0), (2, .int x1), (4, .int x5)]) hx hb dX5_dropEntriesFor_40 hl (k := 3) rfl rfl (by decide) rfl (fun ls hl => ?_)
        refine lv_iinc (v := x5 + 1) (lv' := [(4, .int (x5 + 1)), (3, .int (x4 + 1)), (0, .ref (a 1)), (1, .int p0), (2, .int x1)]) hx hb dX5_dropEntriesFor_43 hl (k := 4) rfl rfl (by decide) rfl (fun ls hl => ?_)
        refine lv_goto (tgt := 13) hx hb dX5_dropEntriesFor_46 (by decide) ?_
        exact ih13 _ _ _ h _ _ _ hP hD hS (lv_sub hl [2, 3, 4, 1, 0] rfl)
abbrev rm_X5_wipeFile : Room := { frames := 1, cells := 0, slots := 0, locals := 23 }
set_option maxHeartbeats 4000000 in
set_option maxRecDepth 100000 in
theorem c_X5_wipeFile (l : Launch) (D : va_G) (cI cZ : ClassId) (a : Nat → Nat) (A : Nat → Prop) (p0 : Int32) (σ : ck_S) (σz : ck_S) (h : fX5_wipeFile p0 σ = some σz) : Met l yX5_wipeFile wsX5_wipeFile rm_X5_wipeFile (va_Pc [.ref (a 1), .int p0] (ik_P D [(cI, .int), (cZ, .boolean)] ck_N (ck_W cI cZ a) A σ)) (ik_Qv D (ck_W cI cZ a) A σz) 0 0 A := by
  unfold fX5_wipeFile at h
  refine Met.ofW (cc := cX5_wipeFile) (maxL := 2) (ret := none) (by decide) rfl ?_
  intro p e s m args below meth c s₁ B hml hv
  obtain ⟨hAr, hP, hK, hD, hN⟩ := hv
  have hx := B.exec
  have hb := B.bytes
  have hr := B.returns
  have hts := atoms_spec (ws := wsX5_wipeFile) B.pre
  have hown : s.vm.findClass RX5 = some m.cls := findClass_of_methodNamed B.named
  have hlocks := B.notSynchronized
  have hS : va_S A s.heap s.heap [] := va_S.rf
  have hl := lv_entry ([.ref (a 1), .int p0]) (n := 2) (Nat.le_of_ble_eq_true rfl)
  rw [show entryFrame m args 2 = entryFrame m ([.ref (a 1), .int p0] : List Value).toArray 2 from by rw [hAr], lg_entry_eq]
  generalize (lg_sl ([.ref (a 1), .int p0]) ++ List.replicate (2 - (lg_sl ([.ref (a 1), .int p0])).length) Slot.unset).toArray = ls at hl ⊢
  have hl : lv_has ls 2 [(0, .ref (a 1)), (1, .int p0)] := hl
  refine lv_aload_n hx hb dX5_wipeFile_0 rfl (lv_at hl 0 rfl) ?_
  refine lv_iload_n hx hb dX5_wipeFile_1 rfl (lv_at hl 1 rfl) ?_
  obtain ⟨v1, eh, h⟩ := ik_bd h
  refine ik_Si (As := [.int p0]) (rest := [.ref (a 1)]) ⟨hx, hb, hml, hown, hts⟩ (c_X5_fileCell l D cI cZ a A p0 σ _ eh) (va_cwS 1 hts gX5_wipeFile_X5_fileCell rfl rfl rfl (by decide +kernel) ⟨Nat.le_of_ble_eq_true rfl, Nat.le_of_ble_eq_true rfl⟩) hP hK hD hN hS rfl hl.1 rfl (Nat.le_of_ble_eq_true rfl) dX5_wipeFile_2 (fun H locs hP hD hS => ?_)
  clear eh
  refine lv_iload_n hx hb dX5_wipeFile_5 rfl (lv_at hl 1 rfl) ?_
  obtain ⟨v2, eh, h⟩ := ik_bd h
  refine ik_Si (As := [.int p0]) (rest := [.int v1, .ref (a 1)]) ⟨hx, hb, hml, hown, hts⟩ (c_X5_fileCell l D cI cZ a A p0 σ _ eh) (va_cwS 1 hts gX5_wipeFile_X5_fileCell rfl rfl rfl (by decide +kernel) ⟨Nat.le_of_ble_eq_true rfl, Nat.le_of_ble_eq_true rfl⟩) hP hK hD hN hS rfl hl.1 rfl (Nat.le_of_ble_eq_true rfl) dX5_wipeFile_6 (fun H locs hP hD hS => ?_)
  clear eh
  refine lv_bipush (v := 47) hx hb dX5_wipeFile_9 (by decide) ?_
  refine lv_iadd hx hb dX5_wipeFile_11 ?_
  obtain ⟨σ3, eh, h⟩ := ik_bd h
  refine ik_Vv (As := [.int v1, .int (v2 + 47)]) (rest := []) ⟨hx, hb, hml, hown, hts⟩ (c_X5_wipeCells l D cI cZ a A v1 (v2 + 47) σ _ eh) (cwV 2 hts gX5_wipeFile_X5_wipeCells rfl rfl rfl (by decide +kernel) ⟨Nat.le_of_ble_eq_true rfl, Nat.le_of_ble_eq_true rfl⟩) (va_recv hK hP (ci := 3) (q0 := 1) rfl rfl) hP hK hD hN hS rfl hl.1 rfl (Nat.le_of_ble_eq_true rfl) dX5_wipeFile_12 (fun H locs hP hD hS => ?_)
  clear eh
  exact W.vret hx hb hr (fun t ht hW => ⟨⟨_, rfl, Option.some.inj h, by rw [ht]; exact hP, hD⟩, hS.F ht⟩) hS.2.2 dX5_wipeFile_15
abbrev rm_X2_leastNewName : Room := { frames := 3, cells := 0, slots := 0, locals := 68 }
set_option maxHeartbeats 4000000 in
set_option maxRecDepth 100000 in
theorem c_X2_leastNewName (l : Launch) (D : va_G) (cI cZ : ClassId) (a : Nat → Nat) (A : Nat → Prop) (p1 : Int32) (σ : ck_S) (rz : Int32) (h : fX2_leastNewName p1 σ = some rz) : Met l yX2_leastNewName wsX2_leastNewName rm_X2_leastNewName (va_Pc [.ref (a 1), .int p1] (ik_P D [(cI, .int), (cZ, .boolean)] ck_N (ck_W cI cZ a) A σ)) (ik_Qi D (ck_W cI cZ a) A rz σ) 0 0 A := by
  unfold fX2_leastNewName at h
  refine Met.ofW (cc := cX2_leastNewName) (maxL := 3) (ret := (some .int)) (by decide) rfl ?_
  intro p e s m args below meth c s₁ B hml hv
  obtain ⟨hAr, hP, hK, hD, hN⟩ := hv
  have hx := B.exec
  have hb := B.bytes
  have hr := B.returns
  have hts := atoms_spec (ws := wsX2_leastNewName) B.pre
  have hown : s.vm.findClass RX2 = some m.cls := findClass_of_methodNamed B.named
  have hlocks := B.notSynchronized
  have hS : va_S A s.heap s.heap [] := va_S.rf
  have hl := lv_entry ([.ref (a 1), .int p1]) (n := 3) (Nat.le_of_ble_eq_true rfl)
  rw [show entryFrame m args 3 = entryFrame m ([.ref (a 1), .int p1] : List Value).toArray 3 from by rw [hAr], lg_entry_eq]
  generalize (lg_sl ([.ref (a 1), .int p1]) ++ List.replicate (3 - (lg_sl ([.ref (a 1), .int p1])).length) Slot.unset).toArray = ls at hl ⊢
  have hl : lv_has ls 3 [(0, .ref (a 1)), (1, .int p1)] := hl
  refine lv_iconst (v := 1) hx hb dX2_leastNewName_0 (by decide) ?_
  refine lv_istore_n (lv' := [(2, .int 1), (0, .ref (a 1)), (1, .int p1)]) hx hb dX2_leastNewName_1 rfl hl (by decide) rfl (fun ls hl => ?_)
  refine qp1_W (P := fun (x1 : Int32) => ∀ (H : Heap) (locs : List Loc) (ls : Array Slot), va_P D vwCl (ck_W cI cZ a σ) H → va_D A (ck_W cI cZ a σ) → va_S A s.heap H locs → lv_has ls 3 [(0, .ref (a 1)), (1, .int p1), (2, .int x1)] → W p l e (headSpec wsX2_leastNewName rm_X2_leastNewName).room s m args below meth c H locs 0 0 (MQ below (ik_Qi D (ck_W cI cZ a) A rz σ) args s 0 0 A) (F0 m 2 ls [])) ?_ FU _ h _ _ _ hP hD hS (lv_sub hl [1, 2, 0] rfl)
  intro rec2 ih2 x1 h H locs ls hP hD hS hl
  refine lv_iload_n hx hb dX2_leastNewName_2 rfl (lv_at hl 2 rfl) ?_
  refine lv_iload_n hx hb dX2_leastNewName_3 rfl (lv_at hl 1 rfl) ?_
  refine lv_icmp_gt (tgt := 24) hx hb dX2_leastNewName_4 (by decide) (fun c2 => ?_) (fun c2 => ?_)
  · have h := ik_t c2 h
    refine lv_iload_n hx hb dX2_leastNewName_24 rfl (lv_at hl 2 rfl) ?_
    exact W.iret hx hb hr (fun t ht hW => ⟨⟨_, _, rfl, ⟨Option.some.inj h, rfl⟩, by rw [ht]; exact hP, hD⟩, hS.F ht⟩) hS.2.2 dX2_leastNewName_25
  · have h := ik_f c2 h
    refine lv_aload_n hx hb dX2_leastNewName_7 rfl (lv_at hl 0 rfl) ?_
    refine lv_iconst (v := 1) hx hb dX2_leastNewName_8 (by decide) ?_
    refine lv_iload_n hx hb dX2_leastNewName_9 rfl (lv_at hl 1 rfl) ?_
    refine lv_iload_n hx hb dX2_leastNewName_10 rfl (lv_at hl 2 rfl) ?_
    obtain ⟨v3, eh, h⟩ := ik_bd h
    refine ik_Vi (As := [.int 1, .int p1, .int x1]) (rest := []) ⟨hx, hb, hml, hown, hts⟩ (c_X5_placeOfName l D cI cZ a A 1 p1 x1 σ _ eh) (cwV 3 hts gX2_leastNewName_X5_placeOfName rfl rfl rfl (by decide +kernel) ⟨Nat.le_of_ble_eq_true rfl, Nat.le_of_ble_eq_true rfl⟩) (va_recv hK hP (ci := 3) (q0 := 1) rfl rfl) hP hK hD hN hS rfl hl.1 rfl (Nat.le_of_ble_eq_true rfl) dX2_leastNewName_11 (fun H locs hP hD hS => ?_)
    clear eh
    refine lv_iload_n hx hb dX2_leastNewName_14 rfl (lv_at hl 1 rfl) ?_
    refine lv_icmp_ge (tgt := 24) hx hb dX2_leastNewName_15 (by decide) (fun c4 => ?_) (fun c4 => ?_)
    · have h := ik_t c4 h
      refine lv_iload_n hx hb dX2_leastNewName_24 rfl (lv_at hl 2 rfl) ?_
      exact W.iret hx hb hr (fun t ht hW => ⟨⟨_, _, rfl, ⟨Option.some.inj h, rfl⟩, by rw [ht]; exact hP, hD⟩, hS.F ht⟩) hS.2.2 dX2_leastNewName_25
    · have h := ik_f c4 h
      refine lv_iinc (v := x1 + 1) (lv' := [(2, .int (x1 + 1)), (0, .ref (a 1)), (1, .int p1)]) hx hb dX2_leastNewName_18 hl (k := 2) rfl rfl (by decide) rfl (fun ls hl => ?_)
      refine lv_goto (tgt := 2) hx hb dX2_leastNewName_21 (by decide) ?_
      exact ih2 _ h _ _ _ hP hD hS (lv_sub hl [1, 2, 0] rfl)
abbrev rm_X2_hangInRoot : Room := { frames := 4, cells := 0, slots := 0, locals := 94 }
set_option maxHeartbeats 4000000 in
set_option maxRecDepth 100000 in
theorem c_X2_hangInRoot (l : Launch) (D : va_G) (cI cZ : ClassId) (a : Nat → Nat) (A : Nat → Prop) (p1 : Int32) (σ : ck_S) (σz : ck_S) (h : fX2_hangInRoot p1 σ = some σz) : Met l yX2_hangInRoot wsX2_hangInRoot rm_X2_hangInRoot (va_Pc [.ref (a 9), .ref (a 1), .int p1] (ik_P D [(cI, .int), (cZ, .boolean)] ck_N (ck_W cI cZ a) A σ)) (ik_Qv D (ck_W cI cZ a) A σz) 0 0 A := by
  unfold fX2_hangInRoot at h
  refine Met.ofW (cc := cX2_hangInRoot) (maxL := 4) (ret := none) (by decide) rfl ?_
  intro p e s m args below meth c s₁ B hml hv
  obtain ⟨hAr, hP, hK, hD, hN⟩ := hv
  have hx := B.exec
  have hb := B.bytes
  have hr := B.returns
  have hts := atoms_spec (ws := wsX2_hangInRoot) B.pre
  have hown : s.vm.findClass RX2 = some m.cls := findClass_of_methodNamed B.named
  have hlocks := B.notSynchronized
  have hS : va_S A s.heap s.heap [] := va_S.rf
  have hl := lv_entry ([.ref (a 9), .ref (a 1), .int p1]) (n := 4) (Nat.le_of_ble_eq_true rfl)
  rw [show entryFrame m args 4 = entryFrame m ([.ref (a 9), .ref (a 1), .int p1] : List Value).toArray 4 from by rw [hAr], lg_entry_eq]
  generalize (lg_sl ([.ref (a 9), .ref (a 1), .int p1]) ++ List.replicate (4 - (lg_sl ([.ref (a 9), .ref (a 1), .int p1])).length) Slot.unset).toArray = ls at hl ⊢
  have hl : lv_has ls 4 [(0, .ref (a 9)), (1, .ref (a 1)), (2, .int p1)] := hl
  refine lv_aload_n hx hb dX2_hangInRoot_0 rfl (lv_at hl 1 rfl) ?_
  refine lv_iload_n hx hb dX2_hangInRoot_1 rfl (lv_at hl 2 rfl) ?_
  obtain ⟨σ1, eh, h⟩ := ik_bd h
  refine ik_Vv (As := [.int p1]) (rest := []) ⟨hx, hb, hml, hown, hts⟩ (c_X5_dropEntriesFor l D cI cZ a A p1 σ _ eh) (cwV 1 hts gX2_hangInRoot_X5_dropEntriesFor rfl rfl rfl (by decide +kernel) ⟨Nat.le_of_ble_eq_true rfl, Nat.le_of_ble_eq_true rfl⟩) (va_recv hK hP (ci := 3) (q0 := 1) rfl rfl) hP hK hD hN hS rfl hl.1 rfl (Nat.le_of_ble_eq_true rfl) dX2_hangInRoot_2 (fun H locs hP hD hS => ?_)
  clear eh
  refine lv_aload_n hx hb dX2_hangInRoot_5 rfl (lv_at hl 1 rfl) ?_
  refine lv_iconst (v := 1) hx hb dX2_hangInRoot_6 (by decide) ?_
  refine lv_bipush (v := 8) hx hb dX2_hangInRoot_7 (by decide) ?_
  refine lv_iconst (v := 0) hx hb dX2_hangInRoot_9 (by decide) ?_
  obtain ⟨v2, eh, h⟩ := ik_bd h
  refine ik_Vi (As := [.int 1, .int 8, .int 0]) (rest := []) ⟨hx, hb, hml, hown, hts⟩ (c_X5_placeOfName l D cI cZ a A 1 8 0 σ1 _ eh) (cwV 3 hts gX2_hangInRoot_X5_placeOfName rfl rfl rfl (by decide +kernel) ⟨Nat.le_of_ble_eq_true rfl, Nat.le_of_ble_eq_true rfl⟩) (va_recv hK hP (ci := 3) (q0 := 1) rfl rfl) hP hK hD hN hS rfl hl.1 rfl (Nat.le_of_ble_eq_true rfl) dX2_hangInRoot_10 (fun H locs hP hD hS => ?_)
  clear eh
  refine lv_istore_n (lv' := [(3, .int v2), (0, .ref (a 9)), (1, .ref (a 1)), (2, .int p1)]) hx hb dX2_hangInRoot_13 rfl hl (by decide) rfl (fun ls hl => ?_)
  refine lv_iload_n hx hb dX2_hangInRoot_14 rfl (lv_at hl 0 rfl) ?_
  refine lv_bipush (v := 8) hx hb dX2_hangInRoot_15 (by decide) ?_
  refine lv_icmp_lt (tgt := 26) hx hb dX2_hangInRoot_17 (by decide) (fun c3 => ?_) (fun c3 => ?_)
  · have h := ik_t c3 h
    refine lv_aload_n hx hb dX2_hangInRoot_26 rfl (lv_at hl 2 rfl) ?_
    refine lv_iconst (v := 1) hx hb dX2_hangInRoot_27 (by decide) ?_
    refine lv_iload_n hx hb dX2_hangInRoot_28 rfl (lv_at hl 0 rfl) ?_
    refine lv_aload_n hx hb dX2_hangInRoot_29 rfl (lv_at hl 2 rfl) ?_
    refine lv_iload_n hx hb dX2_hangInRoot_30 rfl (lv_at hl 0 rfl) ?_
    obtain ⟨v4, eh, h⟩ := ik_bd h
    refine ik_Si (As := [.ref (a 1), .int v2]) (rest := [.int v2, .int 1, .ref (a 1)]) ⟨hx, hb, hml, hown, hts⟩ (c_X2_leastNewName l D cI cZ a A v2 σ1 _ eh) (va_cwS 2 hts gX2_hangInRoot_X2_leastNewName rfl rfl rfl (by decide +kernel) ⟨Nat.le_of_ble_eq_true rfl, Nat.le_of_ble_eq_true rfl⟩) hP hK hD hN hS rfl hl.1 rfl (Nat.le_of_ble_eq_true rfl) dX2_hangInRoot_31 (fun H locs hP hD hS => ?_)
    clear eh
    refine lv_iload_n hx hb dX2_hangInRoot_34 rfl (lv_at hl 3 rfl) ?_
    refine lv_aload_n hx hb dX2_hangInRoot_35 rfl (lv_at hl 2 rfl) ?_
    refine lv_iload_n hx hb dX2_hangInRoot_36 rfl (lv_at hl 3 rfl) ?_
    refine lv_iconst (v := 0) hx hb dX2_hangInRoot_37 (by decide) ?_
    obtain ⟨v5, eh, h⟩ := ik_bd h
    refine ik_Vi (As := [.int p1, .int 0]) (rest := [.int p1, .int v4, .int v2, .int 1, .ref (a 1)]) ⟨hx, hb, hml, hown, hts⟩ (c_X5_number l D cI cZ a A p1 0 σ1 _ eh) (cwV 2 hts gX2_hangInRoot_X5_number rfl rfl rfl (by decide +kernel) ⟨Nat.le_of_ble_eq_true rfl, Nat.le_of_ble_eq_true rfl⟩) (va_recv hK hP (ci := 3) (q0 := 1) rfl rfl) hP hK hD hN hS rfl hl.1 rfl (Nat.le_of_ble_eq_true rfl) dX2_hangInRoot_38 (fun H locs hP hD hS => ?_)
    clear eh
    obtain ⟨σ6, eh, h⟩ := ik_bd h
    refine ik_Vv (As := [.int 1, .int v2, .int v4, .int p1, .int v5]) (rest := []) ⟨hx, hb, hml, hown, hts⟩ (c_X5_putEntry l D cI cZ a A 1 v2 v4 p1 v5 σ1 _ eh) (cwV 5 hts gX2_hangInRoot_X5_putEntry rfl rfl rfl (by decide +kernel) ⟨Nat.le_of_ble_eq_true rfl, Nat.le_of_ble_eq_true rfl⟩) (va_recv hK hP (ci := 3) (q0 := 1) rfl rfl) hP hK hD hN hS rfl hl.1 rfl (Nat.le_of_ble_eq_true rfl) dX2_hangInRoot_41 (fun H locs hP hD hS => ?_)
    clear eh
    refine lv_aload_n hx hb dX2_hangInRoot_44 rfl (lv_at hl 1 rfl) ?_
    refine lv_aload_n hx hb dX2_hangInRoot_45 rfl (lv_at hl 2 rfl) ?_
    refine lv_iload_n hx hb dX2_hangInRoot_46 rfl (lv_at hl 3 rfl) ?_
    obtain ⟨σ7, eh, h⟩ := ik_bd h
    refine ik_Vv (As := [.ref (a 1), .int p1]) (rest := []) ⟨hx, hb, hml, hown, hts⟩ (c_X2_reachFrom l D cI cZ a A p1 σ6 _ eh) (cwV 2 hts gX2_hangInRoot_X2_reachFrom rfl rfl rfl (by decide +kernel) ⟨Nat.le_of_ble_eq_true rfl, Nat.le_of_ble_eq_true rfl⟩) (va_recv hK hP (ci := 1) (q0 := 9) rfl rfl) hP hK hD hN hS rfl hl.1 rfl (Nat.le_of_ble_eq_true rfl) dX2_hangInRoot_47 (fun H locs hP hD hS => ?_)
    clear eh
    exact W.vret hx hb hr (fun t ht hW => ⟨⟨_, rfl, Option.some.inj h, by rw [ht]; exact hP, hD⟩, hS.F ht⟩) hS.2.2 dX2_hangInRoot_50
  · have h := ik_f c3 h
    refine lv_aload_n hx hb dX2_hangInRoot_20 rfl (lv_at hl 2 rfl) ?_
    refine lv_iload_n hx hb dX2_hangInRoot_21 rfl (lv_at hl 3 rfl) ?_
    obtain ⟨σ8, eh, h⟩ := ik_bd h
    refine ik_Vv (As := [.int p1]) (rest := []) ⟨hx, hb, hml, hown, hts⟩ (c_X5_wipeFile l D cI cZ a A p1 σ1 _ eh) (cwV 1 hts gX2_hangInRoot_X5_wipeFile rfl rfl rfl (by decide +kernel) ⟨Nat.le_of_ble_eq_true rfl, Nat.le_of_ble_eq_true rfl⟩) (va_recv hK hP (ci := 3) (q0 := 1) rfl rfl) hP hK hD hN hS rfl hl.1 rfl (Nat.le_of_ble_eq_true rfl) dX2_hangInRoot_22 (fun H locs hP hD hS => ?_)
    clear eh
    exact W.vret hx hb hr (fun t ht hW => ⟨⟨_, rfl, Option.some.inj h, by rw [ht]; exact hP, hD⟩, hS.F ht⟩) hS.2.2 dX2_hangInRoot_25
