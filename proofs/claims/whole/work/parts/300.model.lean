abbrev rm_X8_thrown : Room := { frames := 0, cells := 0, slots := 0, locals := 0 }
theorem in_X8_thrown_X8 : ∀ w ∈ wsX80, w ∈ wsX8_thrown := by decide +kernel
set_option maxHeartbeats 4000000 in
set_option maxRecDepth 100000 in
theorem c_X8_thrown (l : Launch) (D : va_G) (cI cZ : ClassId) (a : Nat → Nat) (A : Nat → Prop) (σ : mk_S) (rz : Int32) (h : fX8_thrown σ = some rz) : Met l yX8_thrown wsX8_thrown rm_X8_thrown (va_Pc [.ref (a 0)] (ik_P D [(cI, .int), (cZ, .boolean)] [] (mk_W cI cZ a) A σ)) (ik_Qi D (mk_W cI cZ a) A rz σ) 0 0 A := by
  unfold fX8_thrown at h
  refine Met.ofW (cc := cX8_thrown) (maxL := 1) (ret := (some .int)) (by decide) rfl ?_
  intro p e s m args below meth c s₁ B hml hv
  obtain ⟨hAr, hP, hK, hD, hN⟩ := hv
  have hx := B.exec
  have hb := B.bytes
  have hr := B.returns
  have hts := atoms_spec (ws := wsX8_thrown) B.pre
  have hown : s.vm.findClass RX8 = some m.cls := findClass_of_methodNamed B.named
  have hlocks := B.notSynchronized
  have hS : va_S A s.heap s.heap [] := va_S.rf
  have hl := lv_entry ([.ref (a 0)]) (n := 1) (Nat.le_of_ble_eq_true rfl)
  rw [show entryFrame m args 1 = entryFrame m ([.ref (a 0)] : List Value).toArray 1 from by rw [hAr], lg_entry_eq]
  generalize (lg_sl ([.ref (a 0)]) ++ List.replicate (1 - (lg_sl ([.ref (a 0)])).length) Slot.unset).toArray = ls at hl ⊢
  have hl : lv_has ls 1 [(0, .ref (a 0))] := hl
  refine lv_aload_n hx hb dX8_thrown_0 rfl (lv_at hl 0 rfl) ?_
  refine va_get (D := D) (ci := 6) (v := .int (mk_code σ)) (C := RX8) (T := TX8) (N := 10) hx hb hts in_X8_thrown_X8 hown hK hP 0 rfl rfl 0 (by decide) (hts (.fieldLink RX8 38 "ImageCheckerModel" "code" "I") (by decide +kernel)) (fun _ h9 => h9) rfl dX8_thrown_1 ?_
  exact W.iret hx hb hr (fun t ht hW => ⟨⟨_, _, rfl, ⟨Option.some.inj h, rfl⟩, by rw [ht]; exact hP, hD⟩, hS.F ht⟩) hS.2.2 dX8_thrown_4
abbrev rm_X8_makeWhole : Room := { frames := 0, cells := 0, slots := 0, locals := 0 }
theorem in_X8_makeWhole_X8 : ∀ w ∈ wsX80, w ∈ wsX8_makeWhole := by decide +kernel
set_option maxHeartbeats 4000000 in
set_option maxRecDepth 100000 in
theorem c_X8_makeWhole (l : Launch) (D : va_G) (cI cZ : ClassId) (a : Nat → Nat) (A : Nat → Prop) (σ : mk_S) (σz : mk_S) (h : fX8_makeWhole σ = some σz) : Met l yX8_makeWhole wsX8_makeWhole rm_X8_makeWhole (va_Pc [.ref (a 0)] (ik_P D [(cI, .int), (cZ, .boolean)] [] (mk_W cI cZ a) A σ)) (ik_Qv D (mk_W cI cZ a) A σz) 0 0 A := by
  unfold fX8_makeWhole at h
  refine Met.ofW (cc := cX8_makeWhole) (maxL := 2) (ret := none) (by decide) rfl ?_
  intro p e s m args below meth c s₁ B hml hv
  obtain ⟨hAr, hP, hK, hD, hN⟩ := hv
  have hx := B.exec
  have hb := B.bytes
  have hr := B.returns
  have hts := atoms_spec (ws := wsX8_makeWhole) B.pre
  have hown : s.vm.findClass RX8 = some m.cls := findClass_of_methodNamed B.named
  have hlocks := B.notSynchronized
  have hS : va_S A s.heap s.heap [] := va_S.rf
  have hl := lv_entry ([.ref (a 0)]) (n := 2) (Nat.le_of_ble_eq_true rfl)
  rw [show entryFrame m args 2 = entryFrame m ([.ref (a 0)] : List Value).toArray 2 from by rw [hAr], lg_entry_eq]
  generalize (lg_sl ([.ref (a 0)]) ++ List.replicate (2 - (lg_sl ([.ref (a 0)])).length) Slot.unset).toArray = ls at hl ⊢
  have hl : lv_has ls 2 [(0, .ref (a 0))] := hl
  refine lv_iconst (v := 0) hx hb dX8_makeWhole_0 (by decide) ?_
  refine lv_istore_n (lv' := [(1, .int 0), (0, .ref (a 0))]) hx hb dX8_makeWhole_1 rfl hl (by decide) rfl (fun ls hl => ?_)
  refine qp2_W (P := fun (x1 : Int32) (σ2 : mk_S) => ∀ (H : Heap) (locs : List Loc) (ls : Array Slot), va_P D vwCl (mk_W cI cZ a σ2) H → va_D A (mk_W cI cZ a σ2) → va_S A s.heap H locs → lv_has ls 2 [(0, .ref (a 0)), (1, .int x1)] → W p l e (headSpec wsX8_makeWhole rm_X8_makeWhole).room s m args below meth c H locs 0 0 (MQ below (ik_Qv D (mk_W cI cZ a) A σz) args s 0 0 A) (F0 m 2 ls [])) ?_ FU _ _ h _ _ _ hP hD hS (lv_sub hl [1, 0] rfl)
  intro rec2 ih2 x1 σ2 h H locs ls hP hD hS hl
  refine lv_iload_n hx hb dX8_makeWhole_2 rfl (lv_at hl 1 rfl) ?_
  refine lv_sipush (v := 1429) hx hb dX8_makeWhole_3 (by decide) ?_
  refine lv_icmp_ge (tgt := 22) hx hb dX8_makeWhole_6 (by decide) (fun c3 => ?_) (fun c3 => ?_)
  · have h := ik_t c3 h
    refine lv_iconst (v := 0) hx hb dX8_makeWhole_22 (by decide) ?_
    refine lv_istore_n (lv' := [(1, .int 0), (0, .ref (a 0))]) hx hb dX8_makeWhole_23 rfl hl (by decide) rfl (fun ls hl => ?_)
    refine qp2_W (P := fun (x4 : Int32) (σ5 : mk_S) => ∀ (H : Heap) (locs : List Loc) (ls : Array Slot), va_P D vwCl (mk_W cI cZ a σ5) H → va_D A (mk_W cI cZ a σ5) → va_S A s.heap H locs → lv_has ls 2 [(0, .ref (a 0)), (1, .int x4)] → W p l e (headSpec wsX8_makeWhole rm_X8_makeWhole).room s m args below meth c H locs 0 0 (MQ below (ik_Qv D (mk_W cI cZ a) A σz) args s 0 0 A) (F0 m 24 ls [])) ?_ FU _ _ h _ _ _ hP hD hS (lv_sub hl [1, 0] rfl)
    intro rec24 ih24 x4 σ5 h H locs ls hP hD hS hl
    refine lv_iload_n hx hb dX8_makeWhole_24 rfl (lv_at hl 1 rfl) ?_
    refine lv_bipush (v := 24) hx hb dX8_makeWhole_25 (by decide) ?_
    refine lv_icmp_gt (tgt := 43) hx hb dX8_makeWhole_27 (by decide) (fun c6 => ?_) (fun c6 => ?_)
    · have h := ik_t c6 h
      refine lv_aload_n hx hb dX8_makeWhole_43 rfl (lv_at hl 0 rfl) ?_
      refine va_get (D := D) (ci := 6) (v := .ref (a 1)) (C := RX8) (T := TX8) (N := 10) hx hb hts in_X8_makeWhole_X8 hown hK hP 0 rfl rfl 1 (by decide) (hts (.fieldLink RX8 7 "ImageCheckerModel" "all" "[I") (by decide +kernel)) (fun _ h9 => h9) rfl dX8_makeWhole_44 ?_
      refine lv_bipush (v := 47) hx hb dX8_makeWhole_47 (by decide) ?_
      refine lv_iconst (v := 2) hx hb dX8_makeWhole_49 (by decide) ?_
      obtain ⟨σ7, eh, h⟩ := ik_bd h
      refine ik_st (Wd := mk_W cI cZ a) (σ1 := σ7) hx hb hK hP hD hS 1 0 rfl rfl (fun _ => rfl) eh dX8_makeWhole_50 (fun H locs hP hD hS => ?_)
      clear eh
      refine lv_aload_n hx hb dX8_makeWhole_51 rfl (lv_at hl 0 rfl) ?_
      refine va_get (D := D) (ci := 6) (v := .ref (a 1)) (C := RX8) (T := TX8) (N := 10) hx hb hts in_X8_makeWhole_X8 hown hK hP 0 rfl rfl 1 (by decide) (hts (.fieldLink RX8 7 "ImageCheckerModel" "all" "[I") (by decide +kernel)) (fun _ h9 => h9) rfl dX8_makeWhole_52 ?_
      refine lv_bipush (v := 49) hx hb dX8_makeWhole_55 (by decide) ?_
      refine lv_iconst (v := 2) hx hb dX8_makeWhole_57 (by decide) ?_
      obtain ⟨σ8, eh, h⟩ := ik_bd h
      refine ik_st (Wd := mk_W cI cZ a) (σ1 := σ8) hx hb hK hP hD hS 1 0 rfl rfl (fun _ => rfl) eh dX8_makeWhole_58 (fun H locs hP hD hS => ?_)
      clear eh
      refine lv_aload_n hx hb dX8_makeWhole_59 rfl (lv_at hl 0 rfl) ?_
      refine va_get (D := D) (ci := 6) (v := .ref (a 1)) (C := RX8) (T := TX8) (N := 10) hx hb hts in_X8_makeWhole_X8 hown hK hP 0 rfl rfl 1 (by decide) (hts (.fieldLink RX8 7 "ImageCheckerModel" "all" "[I") (by decide +kernel)) (fun _ h9 => h9) rfl dX8_makeWhole_60 ?_
      refine lv_bipush (v := 51) hx hb dX8_makeWhole_63 (by decide) ?_
      refine lv_iconst (v := 1) hx hb dX8_makeWhole_65 (by decide) ?_
      obtain ⟨σ9, eh, h⟩ := ik_bd h
      refine ik_st (Wd := mk_W cI cZ a) (σ1 := σ9) hx hb hK hP hD hS 1 0 rfl rfl (fun _ => rfl) eh dX8_makeWhole_66 (fun H locs hP hD hS => ?_)
      clear eh
      refine lv_iconst (v := 1) hx hb dX8_makeWhole_67 (by decide) ?_
      refine lv_istore_n (lv' := [(1, .int 1), (0, .ref (a 0))]) hx hb dX8_makeWhole_68 rfl hl (by decide) rfl (fun ls hl => ?_)
      refine qp2_W (P := fun (x10 : Int32) (σ11 : mk_S) => ∀ (H : Heap) (locs : List Loc) (ls : Array Slot), va_P D vwCl (mk_W cI cZ a σ11) H → va_D A (mk_W cI cZ a σ11) → va_S A s.heap H locs → lv_has ls 2 [(0, .ref (a 0)), (1, .int x10)] → W p l e (headSpec wsX8_makeWhole rm_X8_makeWhole).room s m args below meth c H locs 0 0 (MQ below (ik_Qv D (mk_W cI cZ a) A σz) args s 0 0 A) (F0 m 69 ls [])) ?_ FU _ _ h _ _ _ hP hD hS (lv_sub hl [1, 0] rfl)
      intro rec69 ih69 x10 σ11 h H locs ls hP hD hS hl
      refine lv_iload_n hx hb dX8_makeWhole_69 rfl (lv_at hl 1 rfl) ?_
      refine lv_bipush (v := 8) hx hb dX8_makeWhole_70 (by decide) ?_
      refine lv_icmp_gt (tgt := 92) hx hb dX8_makeWhole_72 (by decide) (fun c12 => ?_) (fun c12 => ?_)
      · have h := ik_t c12 h
        refine lv_aload_n hx hb dX8_makeWhole_92 rfl (lv_at hl 0 rfl) ?_
        refine va_get (D := D) (ci := 6) (v := .ref (a 1)) (C := RX8) (T := TX8) (N := 10) hx hb hts in_X8_makeWhole_X8 hown hK hP 0 rfl rfl 1 (by decide) (hts (.fieldLink RX8 7 "ImageCheckerModel" "all" "[I") (by decide +kernel)) (fun _ h9 => h9) rfl dX8_makeWhole_93 ?_
        refine lv_sipush (v := 1402) hx hb dX8_makeWhole_96 (by decide) ?_
        refine lv_iconst (v := 1) hx hb dX8_makeWhole_99 (by decide) ?_
        obtain ⟨σ13, eh, h⟩ := ik_bd h
        refine ik_st (Wd := mk_W cI cZ a) (σ1 := σ13) hx hb hK hP hD hS 1 0 rfl rfl (fun _ => rfl) eh dX8_makeWhole_100 (fun H locs hP hD hS => ?_)
        clear eh
        refine lv_aload_n hx hb dX8_makeWhole_101 rfl (lv_at hl 0 rfl) ?_
        refine va_get (D := D) (ci := 6) (v := .ref (a 1)) (C := RX8) (T := TX8) (N := 10) hx hb hts in_X8_makeWhole_X8 hown hK hP 0 rfl rfl 1 (by decide) (hts (.fieldLink RX8 7 "ImageCheckerModel" "all" "[I") (by decide +kernel)) (fun _ h9 => h9) rfl dX8_makeWhole_102 ?_
        refine lv_sipush (v := 1426) hx hb dX8_makeWhole_105 (by decide) ?_
        refine lv_sipush (v := 192) hx hb dX8_makeWhole_108 (by decide) ?_
        obtain ⟨σ14, eh, h⟩ := ik_bd h
        refine ik_st (Wd := mk_W cI cZ a) (σ1 := σ14) hx hb hK hP hD hS 1 0 rfl rfl (fun _ => rfl) eh dX8_makeWhole_111 (fun H locs hP hD hS => ?_)
        clear eh
        refine lv_aload_n hx hb dX8_makeWhole_112 rfl (lv_at hl 0 rfl) ?_
        refine va_get (D := D) (ci := 6) (v := .ref (a 1)) (C := RX8) (T := TX8) (N := 10) hx hb hts in_X8_makeWhole_X8 hown hK hP 0 rfl rfl 1 (by decide) (hts (.fieldLink RX8 7 "ImageCheckerModel" "all" "[I") (by decide +kernel)) (fun _ h9 => h9) rfl dX8_makeWhole_113 ?_
        refine lv_sipush (v := 1427) hx hb dX8_makeWhole_116 (by decide) ?_
        refine lv_bipush (v := 23) hx hb dX8_makeWhole_119 (by decide) ?_
        obtain ⟨σ15, eh, h⟩ := ik_bd h
        refine ik_st (Wd := mk_W cI cZ a) (σ1 := σ15) hx hb hK hP hD hS 1 0 rfl rfl (fun _ => rfl) eh dX8_makeWhole_121 (fun H locs hP hD hS => ?_)
        clear eh
        exact W.vret hx hb hr (fun t ht hW => ⟨⟨_, rfl, Option.some.inj h, by rw [ht]; exact hP, hD⟩, hS.F ht⟩) hS.2.2 dX8_makeWhole_122
      · have h := ik_f c12 h
        refine lv_aload_n hx hb dX8_makeWhole_75 rfl (lv_at hl 0 rfl) ?_
        refine va_get (D := D) (ci := 6) (v := .ref (a 1)) (C := RX8) (T := TX8) (N := 10) hx hb hts in_X8_makeWhole_X8 hown hK hP 0 rfl rfl 1 (by decide) (hts (.fieldLink RX8 7 "ImageCheckerModel" "all" "[I") (by decide +kernel)) (fun _ h9 => h9) rfl dX8_makeWhole_76 ?_
        refine lv_sipush (v := 1200) hx hb dX8_makeWhole_79 (by decide) ?_
        refine lv_iload_n hx hb dX8_makeWhole_82 rfl (lv_at hl 1 rfl) ?_
        refine lv_iadd hx hb dX8_makeWhole_83 ?_
        refine lv_iconst (v := 1) hx hb dX8_makeWhole_84 (by decide) ?_
        obtain ⟨σ16, eh, h⟩ := ik_bd h
        refine ik_st (Wd := mk_W cI cZ a) (σ1 := σ16) hx hb hK hP hD hS 1 0 rfl rfl (fun _ => rfl) eh dX8_makeWhole_85 (fun H locs hP hD hS => ?_)
        clear eh
        refine lv_iinc (v := x10 + 1) (lv' := [(1, .int (x10 + 1)), (0, .ref (a 0))]) hx hb dX8_makeWhole_86 hl (k := 1) rfl rfl (by decide) rfl (fun ls hl => ?_)
        refine lv_goto (tgt := 69) hx hb dX8_makeWhole_89 (by decide) ?_
        exact ih69 _ _ h _ _ _ hP hD hS (lv_sub hl [1, 0] rfl)
    · have h := ik_f c6 h
      refine lv_aload_n hx hb dX8_makeWhole_30 rfl (lv_at hl 0 rfl) ?_
      refine va_get (D := D) (ci := 6) (v := .ref (a 3)) (C := RX8) (T := TX8) (N := 10) hx hb hts in_X8_makeWhole_X8 hown hK hP 0 rfl rfl 3 (by decide) (hts (.fieldLink RX8 16 "ImageCheckerModel" "held" "[Z") (by decide +kernel)) (fun _ h9 => h9) rfl dX8_makeWhole_31 ?_
      refine lv_iload_n hx hb dX8_makeWhole_34 rfl (lv_at hl 1 rfl) ?_
      refine lv_iconst (v := 0) hx hb dX8_makeWhole_35 (by decide) ?_
      obtain ⟨σ17, eh, h⟩ := ik_bd h
      refine ik_zst (Wd := mk_W cI cZ a) (σ1 := σ17) hx hb hK hP hD hS 3 1 rfl rfl (fun _ => rfl) eh dX8_makeWhole_36 (fun H locs hP hD hS => ?_)
      clear eh
      refine lv_iinc (v := x4 + 1) (lv' := [(1, .int (x4 + 1)), (0, .ref (a 0))]) hx hb dX8_makeWhole_37 hl (k := 1) rfl rfl (by decide) rfl (fun ls hl => ?_)
      refine lv_goto (tgt := 24) hx hb dX8_makeWhole_40 (by decide) ?_
      exact ih24 _ _ h _ _ _ hP hD hS (lv_sub hl [1, 0] rfl)
  · have h := ik_f c3 h
    refine lv_aload_n hx hb dX8_makeWhole_9 rfl (lv_at hl 0 rfl) ?_
    refine va_get (D := D) (ci := 6) (v := .ref (a 1)) (C := RX8) (T := TX8) (N := 10) hx hb hts in_X8_makeWhole_X8 hown hK hP 0 rfl rfl 1 (by decide) (hts (.fieldLink RX8 7 "ImageCheckerModel" "all" "[I") (by decide +kernel)) (fun _ h9 => h9) rfl dX8_makeWhole_10 ?_
    refine lv_iload_n hx hb dX8_makeWhole_13 rfl (lv_at hl 1 rfl) ?_
    refine lv_iconst (v := 0) hx hb dX8_makeWhole_14 (by decide) ?_
    obtain ⟨σ18, eh, h⟩ := ik_bd h
    refine ik_st (Wd := mk_W cI cZ a) (σ1 := σ18) hx hb hK hP hD hS 1 0 rfl rfl (fun _ => rfl) eh dX8_makeWhole_15 (fun H locs hP hD hS => ?_)
    clear eh
    refine lv_iinc (v := x1 + 1) (lv' := [(1, .int (x1 + 1)), (0, .ref (a 0))]) hx hb dX8_makeWhole_16 hl (k := 1) rfl rfl (by decide) rfl (fun ls hl => ?_)
    refine lv_goto (tgt := 2) hx hb dX8_makeWhole_19 (by decide) ?_
    exact ih2 _ _ h _ _ _ hP hD hS (lv_sub hl [1, 0] rfl)
abbrev rm_X8_clear : Room := { frames := 1, cells := 0, slots := 0, locals := 21 }
theorem in_X8_clear_X8 : ∀ w ∈ wsX80, w ∈ wsX8_clear := by decide +kernel
set_option maxHeartbeats 4000000 in
set_option maxRecDepth 100000 in
theorem c_X8_clear (l : Launch) (D : va_G) (cI cZ : ClassId) (a : Nat → Nat) (A : Nat → Prop) (σ : mk_S) (σz : mk_S) (h : fX8_clear σ = some σz) : Met l yX8_clear wsX8_clear rm_X8_clear (va_Pc [.ref (a 0)] (ik_P D [(cI, .int), (cZ, .boolean)] [] (mk_W cI cZ a) A σ)) (ik_Qv D (mk_W cI cZ a) A σz) 0 0 A := by
  unfold fX8_clear at h
  refine Met.ofW (cc := cX8_clear) (maxL := 1) (ret := none) (by decide) rfl ?_
  intro p e s m args below meth c s₁ B hml hv
  obtain ⟨hAr, hP, hK, hD, hN⟩ := hv
  have hx := B.exec
  have hb := B.bytes
  have hr := B.returns
  have hts := atoms_spec (ws := wsX8_clear) B.pre
  have hown : s.vm.findClass RX8 = some m.cls := findClass_of_methodNamed B.named
  have hlocks := B.notSynchronized
  have hS : va_S A s.heap s.heap [] := va_S.rf
  have hl := lv_entry ([.ref (a 0)]) (n := 1) (Nat.le_of_ble_eq_true rfl)
  rw [show entryFrame m args 1 = entryFrame m ([.ref (a 0)] : List Value).toArray 1 from by rw [hAr], lg_entry_eq]
  generalize (lg_sl ([.ref (a 0)]) ++ List.replicate (1 - (lg_sl ([.ref (a 0)])).length) Slot.unset).toArray = ls at hl ⊢
  have hl : lv_has ls 1 [(0, .ref (a 0))] := hl
  refine lv_aload_n hx hb dX8_clear_0 rfl (lv_at hl 0 rfl) ?_
  refine lv_iconst (v := 0) hx hb dX8_clear_1 (by decide) ?_
  obtain ⟨σ1, eh, h⟩ := ik_bd h
  refine va_put (D := D) (ci := 6) (v := .int 0) (ty := .int) (C := RX8) (T := TX8) (N := 10) hx hb hts in_X8_clear_X8 tyX8 tyX8_ok nmX8 hown hK hP hD hS 0 rfl rfl 0 (by decide) (hts (.fieldLink RX8 38 "ImageCheckerModel" "code" "I") (by decide +kernel)) (fun _ h9 => h9) rfl (by decide +kernel) rfl rfl (Nat.le_of_ble_eq_true rfl) dX8_clear_2 (fun H locs hP hD hS => ?_)
  have hP : va_P D vwCl (mk_W cI cZ a σ1) H := by rw [← Option.some.inj eh]; exact hP
  have hD : va_D A (mk_W cI cZ a σ1) := by rw [← Option.some.inj eh]; exact hD
  clear eh
  refine lv_aload_n hx hb dX8_clear_5 rfl (lv_at hl 0 rfl) ?_
  obtain ⟨σ2, eh, h⟩ := ik_bd h
  refine ik_Vv (As := []) (rest := []) ⟨hx, hb, hml, hown, hts⟩ (c_X8_makeWhole l D cI cZ a A  σ1 _ eh) (cwV 0 hts gX8_clear_X8_makeWhole rfl rfl rfl (by decide +kernel) ⟨Nat.le_of_ble_eq_true rfl, Nat.le_of_ble_eq_true rfl⟩) (va_recv hK hP (ci := 6) (q0 := 0) rfl rfl) hP hK hD hN hS rfl hl.1 rfl (Nat.le_of_ble_eq_true rfl) dX8_clear_6 (fun H locs hP hD hS => ?_)
  clear eh
  exact W.vret hx hb hr (fun t ht hW => ⟨⟨_, rfl, Option.some.inj h, by rw [ht]; exact hP, hD⟩, hS.F ht⟩) hS.2.2 dX8_clear_9
abbrev rm_X8_isIn : Room := { frames := 0, cells := 0, slots := 0, locals := 0 }
set_option maxHeartbeats 4000000 in
set_option maxRecDepth 100000 in
theorem c_X8_isIn (l : Launch) (D : va_G) (cI cZ : ClassId) (a : Nat → Nat) (A : Nat → Prop) (p0 : Int32) (p1 : Int32) (p2 : Int32) (σ : mk_S) (rz : Int32) (h : fX8_isIn p0 p1 p2 = some rz) : Met l yX8_isIn wsX8_isIn rm_X8_isIn (va_Pc [.int p0, .int p1, .int p2] (ik_P D [(cI, .int), (cZ, .boolean)] [] (mk_W cI cZ a) A σ)) (ik_Qi D (mk_W cI cZ a) A rz σ) 0 0 A := by
  unfold fX8_isIn at h
  refine Met.ofW (cc := cX8_isIn) (maxL := 3) (ret := (some .boolean)) (by decide) rfl ?_
  intro p e s m args below meth c s₁ B hml hv
  obtain ⟨hAr, hP, hK, hD, hN⟩ := hv
  have hx := B.exec
  have hb := B.bytes
  have hr := B.returns
  have hts := atoms_spec (ws := wsX8_isIn) B.pre
  have hown : s.vm.findClass RX8 = some m.cls := findClass_of_methodNamed B.named
  have hlocks := B.notSynchronized
  have hS : va_S A s.heap s.heap [] := va_S.rf
  have hl := lv_entry ([.int p0, .int p1, .int p2]) (n := 3) (Nat.le_of_ble_eq_true rfl)
  rw [show entryFrame m args 3 = entryFrame m ([.int p0, .int p1, .int p2] : List Value).toArray 3 from by rw [hAr], lg_entry_eq]
  generalize (lg_sl ([.int p0, .int p1, .int p2]) ++ List.replicate (3 - (lg_sl ([.int p0, .int p1, .int p2])).length) Slot.unset).toArray = ls at hl ⊢
  have hl : lv_has ls 3 [(0, .int p0), (1, .int p1), (2, .int p2)] := hl
  refine lv_iload_n hx hb dX8_isIn_0 rfl (lv_at hl 0 rfl) ?_
  refine lv_iload_n hx hb dX8_isIn_1 rfl (lv_at hl 1 rfl) ?_
  refine lv_icmp_lt (tgt := 14) hx hb dX8_isIn_2 (by decide) (fun c1 => ?_) (fun c1 => ?_)
  · have h := ik_t c1 h
    refine lv_iconst (v := 0) hx hb dX8_isIn_14 (by decide) ?_
    exact W.zret (v := 0) hx hb hr rfl (fun t ht hW => ⟨⟨_, _, rfl, ⟨Option.some.inj h, rfl⟩, by rw [ht]; exact hP, hD⟩, hS.F ht⟩) hS.2.2 dX8_isIn_15
  · have h := ik_f c1 h
    refine lv_iload_n hx hb dX8_isIn_5 rfl (lv_at hl 0 rfl) ?_
    refine lv_iload_n hx hb dX8_isIn_6 rfl (lv_at hl 2 rfl) ?_
    refine lv_icmp_gt (tgt := 14) hx hb dX8_isIn_7 (by decide) (fun c2 => ?_) (fun c2 => ?_)
    · have h := ik_t c2 h
      refine lv_iconst (v := 0) hx hb dX8_isIn_14 (by decide) ?_
      exact W.zret (v := 0) hx hb hr rfl (fun t ht hW => ⟨⟨_, _, rfl, ⟨Option.some.inj h, rfl⟩, by rw [ht]; exact hP, hD⟩, hS.F ht⟩) hS.2.2 dX8_isIn_15
    · have h := ik_f c2 h
      refine lv_iconst (v := 1) hx hb dX8_isIn_10 (by decide) ?_
      refine lv_goto (tgt := 15) hx hb dX8_isIn_11 (by decide) ?_
      exact W.zret (v := 1) hx hb hr rfl (fun t ht hW => ⟨⟨_, _, rfl, ⟨Option.some.inj h, rfl⟩, by rw [ht]; exact hP, hD⟩, hS.F ht⟩) hS.2.2 dX8_isIn_15
abbrev rm_X8_may : Room := { frames := 0, cells := 0, slots := 0, locals := 0 }
theorem in_X8_may_X8 : ∀ w ∈ wsX80, w ∈ wsX8_may := by decide +kernel
set_option maxHeartbeats 4000000 in
set_option maxRecDepth 100000 in
theorem c_X8_may (l : Launch) (D : va_G) (cI cZ : ClassId) (a : Nat → Nat) (A : Nat → Prop) (p0 : Int32) (σ : mk_S) (rz : Int32) (σz : mk_S) (h : fX8_may p0 σ = some (rz, σz)) : Met l yX8_may wsX8_may rm_X8_may (va_Pc [.ref (a 0), .int p0] (ik_P D [(cI, .int), (cZ, .boolean)] [] (mk_W cI cZ a) A σ)) (ik_Qi D (mk_W cI cZ a) A rz σz) 0 0 A := by
  unfold fX8_may at h
  refine Met.ofW (cc := cX8_may) (maxL := 2) (ret := (some .boolean)) (by decide) rfl ?_
  intro p e s m args below meth c s₁ B hml hv
  obtain ⟨hAr, hP, hK, hD, hN⟩ := hv
  have hx := B.exec
  have hb := B.bytes
  have hr := B.returns
  have hts := atoms_spec (ws := wsX8_may) B.pre
  have hown : s.vm.findClass RX8 = some m.cls := findClass_of_methodNamed B.named
  have hlocks := B.notSynchronized
  have hS : va_S A s.heap s.heap [] := va_S.rf
  have hl := lv_entry ([.ref (a 0), .int p0]) (n := 2) (Nat.le_of_ble_eq_true rfl)
  rw [show entryFrame m args 2 = entryFrame m ([.ref (a 0), .int p0] : List Value).toArray 2 from by rw [hAr], lg_entry_eq]
  generalize (lg_sl ([.ref (a 0), .int p0]) ++ List.replicate (2 - (lg_sl ([.ref (a 0), .int p0])).length) Slot.unset).toArray = ls at hl ⊢
  have hl : lv_has ls 2 [(0, .ref (a 0)), (1, .int p0)] := hl
  refine lv_aload_n hx hb dX8_may_0 rfl (lv_at hl 0 rfl) ?_
  refine lv_iload_n hx hb dX8_may_1 rfl (lv_at hl 1 rfl) ?_
  obtain ⟨j10, ej, h⟩ := jn_ex h
  have hj10 : ∀ (y1 : Int32), j10 y1 = some (rz, σz) → ∀ (H : Heap) (locs : List Loc) (ls : Array Slot), va_P D vwCl (mk_W cI cZ a σ) H → va_D A (mk_W cI cZ a σ) → va_S A s.heap H locs → lv_has ls 2 [(1, .int p0)] → W p l e (headSpec wsX8_may rm_X8_may).room s m args below meth c H locs 0 0 (MQ below (ik_Qi D (mk_W cI cZ a) A rz σz) args s 0 0 A) (F0 m 10 ls [.int y1, .ref (a 0)]) := by
    rw [ej]; clear h
    intro y1 h H locs ls hP hD hS hl
    obtain ⟨σ2, eh, h⟩ := ik_bd h
    refine va_put (D := D) (ci := 6) (v := .int y1) (ty := .int) (C := RX8) (T := TX8) (N := 10) hx hb hts in_X8_may_X8 tyX8 tyX8_ok nmX8 hown hK hP hD hS 0 rfl rfl 0 (by decide) (hts (.fieldLink RX8 38 "ImageCheckerModel" "code" "I") (by decide +kernel)) (fun _ h9 => h9) rfl (by decide +kernel) rfl rfl (Nat.le_of_ble_eq_true rfl) dX8_may_10 (fun H locs hP hD hS => ?_)
    have hP : va_P D vwCl (mk_W cI cZ a σ2) H := by rw [← Option.some.inj eh]; exact hP
    have hD : va_D A (mk_W cI cZ a σ2) := by rw [← Option.some.inj eh]; exact hD
    clear eh
    refine lv_iload_n hx hb dX8_may_13 rfl (lv_at hl 0 rfl) ?_
    obtain ⟨w, eh, h⟩ := ik_bd h
    exact W.zret hx hb hr (ik_zn (ik_zb_e eh).1) (fun t ht hW => ⟨⟨_, _, rfl, ⟨(ik_zb_e eh).2.trans (congrArg Prod.fst (Option.some.inj h)), congrArg Prod.snd (Option.some.inj h)⟩, by rw [ht]; exact hP, hD⟩, hS.F ht⟩) hS.2.2 dX8_may_14
  clear ej
  refine lv_if_eq (tgt := 9) hx hb dX8_may_2 (by decide) (fun c3 => ?_) (fun c3 => ?_)
  · have h := ik_t c3 h
    refine lv_iconst (v := 1) hx hb dX8_may_9 (by decide) ?_
    exact hj10 _ h _ _ _ hP hD hS (lv_sub hl [1] rfl)
  · have h := ik_f c3 h
    refine lv_iconst (v := 0) hx hb dX8_may_5 (by decide) ?_
    refine lv_goto (tgt := 10) hx hb dX8_may_6 (by decide) ?_
    exact hj10 _ h _ _ _ hP hD hS (lv_sub hl [1] rfl)
abbrev rm_X8_runAt : Room := { frames := 0, cells := 0, slots := 0, locals := 0 }
set_option maxHeartbeats 4000000 in
set_option maxRecDepth 100000 in
theorem c_X8_runAt (l : Launch) (D : va_G) (cI cZ : ClassId) (a : Nat → Nat) (A : Nat → Prop) (p0 : Int32) (p1 : Int32) (σ : mk_S) (rz : Int32) (h : fX8_runAt p0 p1 = some rz) : Met l yX8_runAt wsX8_runAt rm_X8_runAt (va_Pc [.int p0, .int p1] (ik_P D [(cI, .int), (cZ, .boolean)] [] (mk_W cI cZ a) A σ)) (ik_Qi D (mk_W cI cZ a) A rz σ) 0 0 A := by
  unfold fX8_runAt at h
  refine Met.ofW (cc := cX8_runAt) (maxL := 2) (ret := (some .int)) (by decide) rfl ?_
  intro p e s m args below meth c s₁ B hml hv
  obtain ⟨hAr, hP, hK, hD, hN⟩ := hv
  have hx := B.exec
  have hb := B.bytes
  have hr := B.returns
  have hts := atoms_spec (ws := wsX8_runAt) B.pre
  have hown : s.vm.findClass RX8 = some m.cls := findClass_of_methodNamed B.named
  have hlocks := B.notSynchronized
  have hS : va_S A s.heap s.heap [] := va_S.rf
  have hl := lv_entry ([.int p0, .int p1]) (n := 2) (Nat.le_of_ble_eq_true rfl)
  rw [show entryFrame m args 2 = entryFrame m ([.int p0, .int p1] : List Value).toArray 2 from by rw [hAr], lg_entry_eq]
  generalize (lg_sl ([.int p0, .int p1]) ++ List.replicate (2 - (lg_sl ([.int p0, .int p1])).length) Slot.unset).toArray = ls at hl ⊢
  have hl : lv_has ls 2 [(0, .int p0), (1, .int p1)] := hl
  refine lv_bipush (v := 47) hx hb dX8_runAt_0 (by decide) ?_
  refine lv_iload_n hx hb dX8_runAt_2 rfl (lv_at hl 0 rfl) ?_
  refine lv_imul hx hb dX8_runAt_3 ?_
  refine lv_iconst (v := 5) hx hb dX8_runAt_4 (by decide) ?_
  refine lv_iadd hx hb dX8_runAt_5 ?_
  refine lv_iconst (v := 3) hx hb dX8_runAt_6 (by decide) ?_
  refine lv_iload_n hx hb dX8_runAt_7 rfl (lv_at hl 1 rfl) ?_
  refine lv_imul hx hb dX8_runAt_8 ?_
  refine lv_iadd hx hb dX8_runAt_9 ?_
  exact W.iret hx hb hr (fun t ht hW => ⟨⟨_, _, rfl, ⟨Option.some.inj h, rfl⟩, by rw [ht]; exact hP, hD⟩, hS.F ht⟩) hS.2.2 dX8_runAt_10
abbrev rm_X8_entryAt : Room := { frames := 0, cells := 0, slots := 0, locals := 0 }
set_option maxHeartbeats 4000000 in
set_option maxRecDepth 100000 in
theorem c_X8_entryAt (l : Launch) (D : va_G) (cI cZ : ClassId) (a : Nat → Nat) (A : Nat → Prop) (p0 : Int32) (p1 : Int32) (σ : mk_S) (rz : Int32) (h : fX8_entryAt p0 p1 = some rz) : Met l yX8_entryAt wsX8_entryAt rm_X8_entryAt (va_Pc [.int p0, .int p1] (ik_P D [(cI, .int), (cZ, .boolean)] [] (mk_W cI cZ a) A σ)) (ik_Qi D (mk_W cI cZ a) A rz σ) 0 0 A := by
  unfold fX8_entryAt at h
  refine Met.ofW (cc := cX8_entryAt) (maxL := 2) (ret := (some .int)) (by decide) rfl ?_
  intro p e s m args below meth c s₁ B hml hv
  obtain ⟨hAr, hP, hK, hD, hN⟩ := hv
  have hx := B.exec
  have hb := B.bytes
  have hr := B.returns
  have hts := atoms_spec (ws := wsX8_entryAt) B.pre
  have hown : s.vm.findClass RX8 = some m.cls := findClass_of_methodNamed B.named
  have hlocks := B.notSynchronized
  have hS : va_S A s.heap s.heap [] := va_S.rf
  have hl := lv_entry ([.int p0, .int p1]) (n := 2) (Nat.le_of_ble_eq_true rfl)
  rw [show entryFrame m args 2 = entryFrame m ([.int p0, .int p1] : List Value).toArray 2 from by rw [hAr], lg_entry_eq]
  generalize (lg_sl ([.int p0, .int p1]) ++ List.replicate (2 - (lg_sl ([.int p0, .int p1])).length) Slot.unset).toArray = ls at hl ⊢
  have hl : lv_has ls 2 [(0, .int p0), (1, .int p1)] := hl
  refine lv_bipush (v := 47) hx hb dX8_entryAt_0 (by decide) ?_
  refine lv_iload_n hx hb dX8_entryAt_2 rfl (lv_at hl 0 rfl) ?_
  refine lv_imul hx hb dX8_entryAt_3 ?_
  refine lv_bipush (v := 23) hx hb dX8_entryAt_4 (by decide) ?_
  refine lv_iadd hx hb dX8_entryAt_6 ?_
  refine lv_iconst (v := 3) hx hb dX8_entryAt_7 (by decide) ?_
  refine lv_iload_n hx hb dX8_entryAt_8 rfl (lv_at hl 1 rfl) ?_
  refine lv_imul hx hb dX8_entryAt_9 ?_
  refine lv_iadd hx hb dX8_entryAt_10 ?_
  exact W.iret hx hb hr (fun t ht hW => ⟨⟨_, _, rfl, ⟨Option.some.inj h, rfl⟩, by rw [ht]; exact hP, hD⟩, hS.F ht⟩) hS.2.2 dX8_entryAt_11
abbrev rm_X8_set : Room := { frames := 1, cells := 0, slots := 0, locals := 22 }
theorem in_X8_set_X8 : ∀ w ∈ wsX80, w ∈ wsX8_set := by decide +kernel
set_option maxHeartbeats 4000000 in
set_option maxRecDepth 100000 in
theorem c_X8_set (l : Launch) (D : va_G) (cI cZ : ClassId) (a : Nat → Nat) (A : Nat → Prop) (p0 : Int32) (p1 : Int32) (p2 : Int32) (σ : mk_S) (σz : mk_S) (h : fX8_set p0 p1 p2 σ = some σz) : Met l yX8_set wsX8_set rm_X8_set (va_Pc [.ref (a 0), .int p0, .int p1, .int p2] (ik_P D [(cI, .int), (cZ, .boolean)] [] (mk_W cI cZ a) A σ)) (ik_Qv D (mk_W cI cZ a) A σz) 0 0 A := by
  unfold fX8_set at h
  refine Met.ofW (cc := cX8_set) (maxL := 4) (ret := none) (by decide) rfl ?_
  intro p e s m args below meth c s₁ B hml hv
  obtain ⟨hAr, hP, hK, hD, hN⟩ := hv
  have hx := B.exec
  have hb := B.bytes
  have hr := B.returns
  have hts := atoms_spec (ws := wsX8_set) B.pre
  have hown : s.vm.findClass RX8 = some m.cls := findClass_of_methodNamed B.named
  have hlocks := B.notSynchronized
  have hS : va_S A s.heap s.heap [] := va_S.rf
  have hl := lv_entry ([.ref (a 0), .int p0, .int p1, .int p2]) (n := 4) (Nat.le_of_ble_eq_true rfl)
  rw [show entryFrame m args 4 = entryFrame m ([.ref (a 0), .int p0, .int p1, .int p2] : List Value).toArray 4 from by rw [hAr], lg_entry_eq]
  generalize (lg_sl ([.ref (a 0), .int p0, .int p1, .int p2]) ++ List.replicate (4 - (lg_sl ([.ref (a 0), .int p0, .int p1, .int p2])).length) Slot.unset).toArray = ls at hl ⊢
  have hl : lv_has ls 4 [(0, .ref (a 0)), (1, .int p0), (2, .int p1), (3, .int p2)] := hl
  refine lv_aload_n hx hb dX8_set_0 rfl (lv_at hl 0 rfl) ?_
  refine lv_iload_n hx hb dX8_set_1 rfl (lv_at hl 1 rfl) ?_
  refine lv_iconst (v := 1) hx hb dX8_set_2 (by decide) ?_
  refine lv_bipush (v := 24) hx hb dX8_set_3 (by decide) ?_
  obtain ⟨v1, eh, h⟩ := ik_bd h
  refine ik_Si (As := [.int p0, .int 1, .int 24]) (rest := [.ref (a 0)]) ⟨hx, hb, hml, hown, hts⟩ (c_X8_isIn l D cI cZ a A p0 1 24 σ _ eh) (va_cwS 3 hts gX8_set_X8_isIn rfl rfl rfl (by decide +kernel) ⟨Nat.le_of_ble_eq_true rfl, Nat.le_of_ble_eq_true rfl⟩) hP hK hD hN hS rfl hl.1 rfl (Nat.le_of_ble_eq_true rfl) dX8_set_5 (fun H locs hP hD hS => ?_)
  clear eh
  obtain ⟨j25, ej, h⟩ := jn_ex h
  have hj25 : ∀ (y2 : Int32), j25 y2 = some σz → ∀ (H : Heap) (locs : List Loc) (ls : Array Slot), va_P D vwCl (mk_W cI cZ a σ) H → va_D A (mk_W cI cZ a σ) → va_S A s.heap H locs → lv_has ls 4 [(0, .ref (a 0)), (1, .int p0), (2, .int p1), (3, .int p2)] → W p l e (headSpec wsX8_set rm_X8_set).room s m args below meth c H locs 0 0 (MQ below (ik_Qv D (mk_W cI cZ a) A σz) args s 0 0 A) (F0 m 25 ls [.int y2, .ref (a 0)]) := by
    rw [ej]; clear h
    intro y2 h H locs ls hP hD hS hl
    obtain ⟨v3, σ4, eh, h⟩ := ik_bd2 h
    refine ik_Vi (As := [.int y2]) (rest := []) ⟨hx, hb, hml, hown, hts⟩ (c_X8_may l D cI cZ a A y2 σ _ _ eh) (cwV 1 hts gX8_set_X8_may rfl rfl rfl (by decide +kernel) ⟨Nat.le_of_ble_eq_true rfl, Nat.le_of_ble_eq_true rfl⟩) (va_recv hK hP (ci := 6) (q0 := 0) rfl rfl) hP hK hD hN hS rfl hl.1 rfl (Nat.le_of_ble_eq_true rfl) dX8_set_25 (fun H locs hP hD hS => ?_)
    clear eh
    refine lv_if_eq (tgt := 43) hx hb dX8_set_28 (by decide) (fun c5 => ?_) (fun c5 => ?_)
    · have h := ik_t c5 h
      exact W.vret hx hb hr (fun t ht hW => ⟨⟨_, rfl, Option.some.inj h, by rw [ht]; exact hP, hD⟩, hS.F ht⟩) hS.2.2 dX8_set_43
    · have h := ik_f c5 h
      refine lv_aload_n hx hb dX8_set_31 rfl (lv_at hl 0 rfl) ?_
      refine va_get (D := D) (ci := 6) (v := .ref (a 1)) (C := RX8) (T := TX8) (N := 10) hx hb hts in_X8_set_X8 hown hK hP 0 rfl rfl 1 (by decide) (hts (.fieldLink RX8 7 "ImageCheckerModel" "all" "[I") (by decide +kernel)) (fun _ h9 => h9) rfl dX8_set_32 ?_
      refine lv_bipush (v := 47) hx hb dX8_set_35 (by decide) ?_
      refine lv_iload_n hx hb dX8_set_37 rfl (lv_at hl 1 rfl) ?_
      refine lv_imul hx hb dX8_set_38 ?_
      refine lv_iload_n hx hb dX8_set_39 rfl (lv_at hl 2 rfl) ?_
      refine lv_iadd hx hb dX8_set_40 ?_
      refine lv_iload_n hx hb dX8_set_41 rfl (lv_at hl 3 rfl) ?_
      obtain ⟨σ6, eh, h⟩ := ik_bd h
      refine ik_st (Wd := mk_W cI cZ a) (σ1 := σ6) hx hb hK hP hD hS 1 0 rfl rfl (fun _ => rfl) eh dX8_set_42 (fun H locs hP hD hS => ?_)
      clear eh
      exact W.vret hx hb hr (fun t ht hW => ⟨⟨_, rfl, Option.some.inj h, by rw [ht]; exact hP, hD⟩, hS.F ht⟩) hS.2.2 dX8_set_43
  clear ej
  obtain ⟨j24, ej, h⟩ := jn_ex h
  have hj24 : ∀ (_u : Unit), j24 _u = some σz → ∀ (H : Heap) (locs : List Loc) (ls : Array Slot), va_P D vwCl (mk_W cI cZ a σ) H → va_D A (mk_W cI cZ a σ) → va_S A s.heap H locs → lv_has ls 4 [(0, .ref (a 0)), (1, .int p0), (2, .int p1), (3, .int p2)] → W p l e (headSpec wsX8_set rm_X8_set).room s m args below meth c H locs 0 0 (MQ below (ik_Qv D (mk_W cI cZ a) A σz) args s 0 0 A) (F0 m 24 ls [.ref (a 0)]) := by
    rw [ej]; clear h
    intro _u h H locs ls hP hD hS hl
    refine lv_iconst (v := 0) hx hb dX8_set_24 (by decide) ?_
    exact hj25 _ h _ _ _ hP hD hS (lv_sub hl [0, 1, 2, 3] rfl)
  clear ej
  refine lv_if_eq (tgt := 24) hx hb dX8_set_8 (by decide) (fun c7 => ?_) (fun c7 => ?_)
  · have h := ik_t c7 h
    exact hj24 () h _ _ _ hP hD hS (lv_sub hl [0, 1, 2, 3] rfl)
  · have h := ik_f c7 h
    refine lv_iload_n hx hb dX8_set_11 rfl (lv_at hl 2 rfl) ?_
    refine lv_iconst (v := 0) hx hb dX8_set_12 (by decide) ?_
    refine lv_iconst (v := 4) hx hb dX8_set_13 (by decide) ?_
    obtain ⟨v8, eh, h⟩ := ik_bd h
    refine ik_Si (As := [.int p1, .int 0, .int 4]) (rest := [.ref (a 0)]) ⟨hx, hb, hml, hown, hts⟩ (c_X8_isIn l D cI cZ a A p1 0 4 σ _ eh) (va_cwS 3 hts gX8_set_X8_isIn rfl rfl rfl (by decide +kernel) ⟨Nat.le_of_ble_eq_true rfl, Nat.le_of_ble_eq_true rfl⟩) hP hK hD hN hS rfl hl.1 rfl (Nat.le_of_ble_eq_true rfl) dX8_set_14 (fun H locs hP hD hS => ?_)
    clear eh
    refine lv_if_eq (tgt := 24) hx hb dX8_set_17 (by decide) (fun c9 => ?_) (fun c9 => ?_)
    · have h := ik_t c9 h
      exact hj24 () h _ _ _ hP hD hS (lv_sub hl [0, 1, 2, 3] rfl)
    · have h := ik_f c9 h
      refine lv_iconst (v := 1) hx hb dX8_set_20 (by decide) ?_
      refine lv_goto (tgt := 25) hx hb dX8_set_21 (by decide) ?_
      exact hj25 _ h _ _ _ hP hD hS (lv_sub hl [0, 1, 2, 3] rfl)
abbrev rm_X8_put : Room := { frames := 0, cells := 0, slots := 0, locals := 0 }
theorem in_X8_put_X8 : ∀ w ∈ wsX80, w ∈ wsX8_put := by decide +kernel
set_option maxHeartbeats 4000000 in
set_option maxRecDepth 100000 in
theorem c_X8_put (l : Launch) (D : va_G) (cI cZ : ClassId) (a : Nat → Nat) (A : Nat → Prop) (p0 : Int32) (p1 : Int32) (p2 : Int32) (p3 : Int32) (σ : mk_S) (σz : mk_S) (h : fX8_put p0 p1 p2 p3 σ = some σz) : Met l yX8_put wsX8_put rm_X8_put (va_Pc [.ref (a 0), .int p0, .int p1, .int p2, .int p3] (ik_P D [(cI, .int), (cZ, .boolean)] [] (mk_W cI cZ a) A σ)) (ik_Qv D (mk_W cI cZ a) A σz) 0 0 A := by
  unfold fX8_put at h
  refine Met.ofW (cc := cX8_put) (maxL := 5) (ret := none) (by decide) rfl ?_
  intro p e s m args below meth c s₁ B hml hv
  obtain ⟨hAr, hP, hK, hD, hN⟩ := hv
  have hx := B.exec
  have hb := B.bytes
  have hr := B.returns
  have hts := atoms_spec (ws := wsX8_put) B.pre
  have hown : s.vm.findClass RX8 = some m.cls := findClass_of_methodNamed B.named
  have hlocks := B.notSynchronized
  have hS : va_S A s.heap s.heap [] := va_S.rf
  have hl := lv_entry ([.ref (a 0), .int p0, .int p1, .int p2, .int p3]) (n := 5) (Nat.le_of_ble_eq_true rfl)
  rw [show entryFrame m args 5 = entryFrame m ([.ref (a 0), .int p0, .int p1, .int p2, .int p3] : List Value).toArray 5 from by rw [hAr], lg_entry_eq]
  generalize (lg_sl ([.ref (a 0), .int p0, .int p1, .int p2, .int p3]) ++ List.replicate (5 - (lg_sl ([.ref (a 0), .int p0, .int p1, .int p2, .int p3])).length) Slot.unset).toArray = ls at hl ⊢
  have hl : lv_has ls 5 [(0, .ref (a 0)), (1, .int p0), (2, .int p1), (3, .int p2), (4, .int p3)] := hl
  refine lv_aload_n hx hb dX8_put_0 rfl (lv_at hl 0 rfl) ?_
  refine va_get (D := D) (ci := 6) (v := .ref (a 1)) (C := RX8) (T := TX8) (N := 10) hx hb hts in_X8_put_X8 hown hK hP 0 rfl rfl 1 (by decide) (hts (.fieldLink RX8 7 "ImageCheckerModel" "all" "[I") (by decide +kernel)) (fun _ h9 => h9) rfl dX8_put_1 ?_
  refine lv_iload_n hx hb dX8_put_4 rfl (lv_at hl 1 rfl) ?_
  refine lv_iload_n hx hb dX8_put_5 rfl (lv_at hl 2 rfl) ?_
  obtain ⟨σ1, eh, h⟩ := ik_bd h
  refine ik_st (Wd := mk_W cI cZ a) (σ1 := σ1) hx hb hK hP hD hS 1 0 rfl rfl (fun _ => rfl) eh dX8_put_6 (fun H locs hP hD hS => ?_)
  clear eh
  refine lv_aload_n hx hb dX8_put_7 rfl (lv_at hl 0 rfl) ?_
  refine va_get (D := D) (ci := 6) (v := .ref (a 1)) (C := RX8) (T := TX8) (N := 10) hx hb hts in_X8_put_X8 hown hK hP 0 rfl rfl 1 (by decide) (hts (.fieldLink RX8 7 "ImageCheckerModel" "all" "[I") (by decide +kernel)) (fun _ h9 => h9) rfl dX8_put_8 ?_
  refine lv_iload_n hx hb dX8_put_11 rfl (lv_at hl 1 rfl) ?_
  refine lv_iconst (v := 1) hx hb dX8_put_12 (by decide) ?_
  refine lv_iadd hx hb dX8_put_13 ?_
  refine lv_iload_n hx hb dX8_put_14 rfl (lv_at hl 3 rfl) ?_
  obtain ⟨σ2, eh, h⟩ := ik_bd h
  refine ik_st (Wd := mk_W cI cZ a) (σ1 := σ2) hx hb hK hP hD hS 1 0 rfl rfl (fun _ => rfl) eh dX8_put_15 (fun H locs hP hD hS => ?_)
  clear eh
  refine lv_aload_n hx hb dX8_put_16 rfl (lv_at hl 0 rfl) ?_
  refine va_get (D := D) (ci := 6) (v := .ref (a 1)) (C := RX8) (T := TX8) (N := 10) hx hb hts in_X8_put_X8 hown hK hP 0 rfl rfl 1 (by decide) (hts (.fieldLink RX8 7 "ImageCheckerModel" "all" "[I") (by decide +kernel)) (fun _ h9 => h9) rfl dX8_put_17 ?_
  refine lv_iload_n hx hb dX8_put_20 rfl (lv_at hl 1 rfl) ?_
  refine lv_iconst (v := 2) hx hb dX8_put_21 (by decide) ?_
  refine lv_iadd hx hb dX8_put_22 ?_
  refine lv_iload hx hb dX8_put_23 (lv_at hl 4 rfl) ?_
  obtain ⟨σ3, eh, h⟩ := ik_bd h
  refine ik_st (Wd := mk_W cI cZ a) (σ1 := σ3) hx hb hK hP hD hS 1 0 rfl rfl (fun _ => rfl) eh dX8_put_25 (fun H locs hP hD hS => ?_)
  clear eh
  exact W.vret hx hb hr (fun t ht hW => ⟨⟨_, rfl, Option.some.inj h, by rw [ht]; exact hP, hD⟩, hS.F ht⟩) hS.2.2 dX8_put_26
