abbrev rm_X8_checkRecord : Room := { frames := 2, cells := 0, slots := 0, locals := 55 }
theorem in_X8_checkRecord_X8 : ∀ w ∈ wsX80, w ∈ wsX8_checkRecord := by decide +kernel
set_option maxHeartbeats 4000000 in
set_option maxRecDepth 100000 in
theorem c_X8_checkRecord (l : Launch) (D : va_G) (cI cZ : ClassId) (a : Nat → Nat) (A : Nat → Prop) (p0 : Int32) (σ : mk_S) (σz : mk_S) (h : fX8_checkRecord p0 σ = some σz) : Met l yX8_checkRecord wsX8_checkRecord rm_X8_checkRecord (va_Pc [.ref (a 0), .int p0] (ik_P D [(cI, .int), (cZ, .boolean)] [] (mk_W cI cZ a) A σ)) (ik_Qv D (mk_W cI cZ a) A σz) 0 0 A := by
  unfold fX8_checkRecord at h
  refine Met.ofW (cc := cX8_checkRecord) (maxL := 3) (ret := none) (by decide) rfl ?_
  intro p e s m args below meth c s₁ B hml hv
  obtain ⟨hAr, hP, hK, hD, hN⟩ := hv
  have hx := B.exec
  have hb := B.bytes
  have hr := B.returns
  have hts := atoms_spec (ws := wsX8_checkRecord) B.pre
  have hown : s.vm.findClass RX8 = some m.cls := findClass_of_methodNamed B.named
  have hlocks := B.notSynchronized
  have hS : va_S A s.heap s.heap [] := va_S.rf
  have hl := lv_entry ([.ref (a 0), .int p0]) (n := 3) (Nat.le_of_ble_eq_true rfl)
  rw [show entryFrame m args 3 = entryFrame m ([.ref (a 0), .int p0] : List Value).toArray 3 from by rw [hAr], lg_entry_eq]
  generalize (lg_sl ([.ref (a 0), .int p0]) ++ List.replicate (3 - (lg_sl ([.ref (a 0), .int p0])).length) Slot.unset).toArray = ls at hl ⊢
  have hl : lv_has ls 3 [(0, .ref (a 0)), (1, .int p0)] := hl
  refine lv_bipush (v := 47) hx hb dX8_checkRecord_0 (by decide) ?_
  refine lv_iload_n hx hb dX8_checkRecord_2 rfl (lv_at hl 1 rfl) ?_
  refine lv_imul hx hb dX8_checkRecord_3 ?_
  refine lv_istore_n (lv' := [(2, .int (47 * p0)), (0, .ref (a 0)), (1, .int p0)]) hx hb dX8_checkRecord_4 rfl hl (by decide) rfl (fun ls hl => ?_)
  refine lv_iload_n hx hb dX8_checkRecord_5 rfl (lv_at hl 2 rfl) ?_
  refine lv_iconst (v := 1) hx hb dX8_checkRecord_6 (by decide) ?_
  obtain ⟨j47, ej, h⟩ := jn_ex h
  have hj47 : ∀ (σ1 : mk_S), j47 σ1 = some σz → ∀ (H : Heap) (locs : List Loc) (ls : Array Slot), va_P D vwCl (mk_W cI cZ a σ1) H → va_D A (mk_W cI cZ a σ1) → va_S A s.heap H locs → lv_has ls 3 [(0, .ref (a 0)), (1, .int p0), (2, .int (47 * p0))] → W p l e (headSpec wsX8_checkRecord rm_X8_checkRecord).room s m args below meth c H locs 0 0 (MQ below (ik_Qv D (mk_W cI cZ a) A σz) args s 0 0 A) (F0 m 47 ls []) := by
    rw [ej]; clear h
    intro σ1 h H locs ls hP hD hS hl
    refine lv_aload_n hx hb dX8_checkRecord_47 rfl (lv_at hl 0 rfl) ?_
    refine va_get (D := D) (ci := 6) (v := .ref (a 1)) (C := RX8) (T := TX8) (N := 10) hx hb hts in_X8_checkRecord_X8 hown hK hP 0 rfl rfl 1 (by decide) (hts (.fieldLink RX8 7 "ImageCheckerModel" "all" "[I") (by decide +kernel)) (fun _ h9 => h9) rfl dX8_checkRecord_48 ?_
    refine lv_iload_n hx hb dX8_checkRecord_51 rfl (lv_at hl 2 rfl) ?_
    obtain ⟨v2, eh, h⟩ := ik_bd h
    refine ik_ld hx hb hK hP 1 0 rfl rfl eh dX8_checkRecord_52 ?_
    clear eh
    refine lv_iconst (v := 1) hx hb dX8_checkRecord_53 (by decide) ?_
    obtain ⟨j67, ej, h⟩ := jn_ex h
    have hj67 : ∀ (_u : Unit), j67 _u = some σz → ∀ (H : Heap) (locs : List Loc) (ls : Array Slot), va_P D vwCl (mk_W cI cZ a σ1) H → va_D A (mk_W cI cZ a σ1) → va_S A s.heap H locs → lv_has ls 3 [(0, .ref (a 0)), (1, .int p0)] → W p l e (headSpec wsX8_checkRecord rm_X8_checkRecord).room s m args below meth c H locs 0 0 (MQ below (ik_Qv D (mk_W cI cZ a) A σz) args s 0 0 A) (F0 m 67 ls []) := by
      rw [ej]; clear h
      intro _u h H locs ls hP hD hS hl
      refine lv_aload_n hx hb dX8_checkRecord_67 rfl (lv_at hl 0 rfl) ?_
      refine lv_iload_n hx hb dX8_checkRecord_68 rfl (lv_at hl 1 rfl) ?_
      obtain ⟨σ3, eh, h⟩ := ik_bd h
      refine ik_Vv (As := [.int p0]) (rest := []) ⟨hx, hb, hml, hown, hts⟩ (c_X8_dropRecord l D cI cZ a A p0 σ1 _ eh) (cwV 1 hts gX8_checkRecord_X8_dropRecord rfl rfl rfl (by decide +kernel) ⟨Nat.le_of_ble_eq_true rfl, Nat.le_of_ble_eq_true rfl⟩) (va_recv hK hP (ci := 6) (q0 := 0) rfl rfl) hP hK hD hN hS rfl hl.1 rfl (Nat.le_of_ble_eq_true rfl) dX8_checkRecord_69 (fun H locs hP hD hS => ?_)
      clear eh
      exact W.vret hx hb hr (fun t ht hW => ⟨⟨_, rfl, Option.some.inj h, by rw [ht]; exact hP, hD⟩, hS.F ht⟩) hS.2.2 dX8_checkRecord_72
    clear ej
    refine lv_icmp_lt (tgt := 67) hx hb dX8_checkRecord_54 (by decide) (fun c4 => ?_) (fun c4 => ?_)
    · have h := ik_t c4 h
      exact hj67 () h _ _ _ hP hD hS (lv_sub hl [0, 1] rfl)
    · have h := ik_f c4 h
      refine lv_aload_n hx hb dX8_checkRecord_57 rfl (lv_at hl 0 rfl) ?_
      refine va_get (D := D) (ci := 6) (v := .ref (a 1)) (C := RX8) (T := TX8) (N := 10) hx hb hts in_X8_checkRecord_X8 hown hK hP 0 rfl rfl 1 (by decide) (hts (.fieldLink RX8 7 "ImageCheckerModel" "all" "[I") (by decide +kernel)) (fun _ h9 => h9) rfl dX8_checkRecord_58 ?_
      refine lv_iload_n hx hb dX8_checkRecord_61 rfl (lv_at hl 2 rfl) ?_
      obtain ⟨v5, eh, h⟩ := ik_bd h
      refine ik_ld hx hb hK hP 1 0 rfl rfl eh dX8_checkRecord_62 ?_
      clear eh
      refine lv_iconst (v := 3) hx hb dX8_checkRecord_63 (by decide) ?_
      refine lv_icmp_le (tgt := 73) hx hb dX8_checkRecord_64 (by decide) (fun c6 => ?_) (fun c6 => ?_)
      · have h := ik_t c6 h
        refine lv_aload_n hx hb dX8_checkRecord_73 rfl (lv_at hl 0 rfl) ?_
        refine va_get (D := D) (ci := 6) (v := .ref (a 1)) (C := RX8) (T := TX8) (N := 10) hx hb hts in_X8_checkRecord_X8 hown hK hP 0 rfl rfl 1 (by decide) (hts (.fieldLink RX8 7 "ImageCheckerModel" "all" "[I") (by decide +kernel)) (fun _ h9 => h9) rfl dX8_checkRecord_74 ?_
        refine lv_iload_n hx hb dX8_checkRecord_77 rfl (lv_at hl 2 rfl) ?_
        refine lv_iconst (v := 1) hx hb dX8_checkRecord_78 (by decide) ?_
        refine lv_iadd hx hb dX8_checkRecord_79 ?_
        obtain ⟨v7, eh, h⟩ := ik_bd h
        refine ik_ld hx hb hK hP 1 0 rfl rfl eh dX8_checkRecord_80 ?_
        clear eh
        obtain ⟨j114, ej, h⟩ := jn_ex h
        have hj114 : ∀ (σ8 : mk_S), j114 σ8 = some σz → ∀ (H : Heap) (locs : List Loc) (ls : Array Slot), va_P D vwCl (mk_W cI cZ a σ8) H → va_D A (mk_W cI cZ a σ8) → va_S A s.heap H locs → lv_has ls 3 [(0, .ref (a 0)), (1, .int p0), (2, .int (47 * p0))] → W p l e (headSpec wsX8_checkRecord rm_X8_checkRecord).room s m args below meth c H locs 0 0 (MQ below (ik_Qv D (mk_W cI cZ a) A σz) args s 0 0 A) (F0 m 114 ls []) := by
          rw [ej]; clear h
          intro σ8 h H locs ls hP hD hS hl
          refine lv_aload_n hx hb dX8_checkRecord_114 rfl (lv_at hl 0 rfl) ?_
          refine lv_iload_n hx hb dX8_checkRecord_115 rfl (lv_at hl 1 rfl) ?_
          obtain ⟨σ9, eh, h⟩ := ik_bd h
          refine ik_Vv (As := [.int p0]) (rest := []) ⟨hx, hb, hml, hown, hts⟩ (c_X8_checkRuns l D cI cZ a A p0 σ8 _ eh) (cwV 1 hts gX8_checkRecord_X8_checkRuns rfl rfl rfl (by decide +kernel) ⟨Nat.le_of_ble_eq_true rfl, Nat.le_of_ble_eq_true rfl⟩) (va_recv hK hP (ci := 6) (q0 := 0) rfl rfl) hP hK hD hN hS rfl hl.1 rfl (Nat.le_of_ble_eq_true rfl) dX8_checkRecord_116 (fun H locs hP hD hS => ?_)
          clear eh
          refine lv_aload_n hx hb dX8_checkRecord_119 rfl (lv_at hl 0 rfl) ?_
          refine va_get (D := D) (ci := 6) (v := .ref (a 1)) (C := RX8) (T := TX8) (N := 10) hx hb hts in_X8_checkRecord_X8 hown hK hP 0 rfl rfl 1 (by decide) (hts (.fieldLink RX8 7 "ImageCheckerModel" "all" "[I") (by decide +kernel)) (fun _ h9 => h9) rfl dX8_checkRecord_120 ?_
          refine lv_iload_n hx hb dX8_checkRecord_123 rfl (lv_at hl 2 rfl) ?_
          obtain ⟨v10, eh, h⟩ := ik_bd h
          refine ik_ld hx hb hK hP 1 0 rfl rfl eh dX8_checkRecord_124 ?_
          clear eh
          refine lv_iconst (v := 2) hx hb dX8_checkRecord_125 (by decide) ?_
          refine lv_icmp_eq (tgt := 141) hx hb dX8_checkRecord_126 (by decide) (fun c11 => ?_) (fun c11 => ?_)
          · have h := ik_t c11 h
            exact W.vret hx hb hr (fun t ht hW => ⟨⟨_, rfl, Option.some.inj h, by rw [ht]; exact hP, hD⟩, hS.F ht⟩) hS.2.2 dX8_checkRecord_141
          · have h := ik_f c11 h
            refine lv_aload_n hx hb dX8_checkRecord_129 rfl (lv_at hl 0 rfl) ?_
            refine lv_iload_n hx hb dX8_checkRecord_130 rfl (lv_at hl 2 rfl) ?_
            refine lv_bipush (v := 23) hx hb dX8_checkRecord_131 (by decide) ?_
            refine lv_iadd hx hb dX8_checkRecord_133 ?_
            refine lv_iload_n hx hb dX8_checkRecord_134 rfl (lv_at hl 2 rfl) ?_
            refine lv_bipush (v := 47) hx hb dX8_checkRecord_135 (by decide) ?_
            refine lv_iadd hx hb dX8_checkRecord_137 ?_
            obtain ⟨σ12, eh, h⟩ := ik_bd h
            refine ik_Vv (As := [.int ((47 * p0) + 23), .int ((47 * p0) + 47)]) (rest := []) ⟨hx, hb, hml, hown, hts⟩ (c_X8_blank l D cI cZ a A ((47 * p0) + 23) ((47 * p0) + 47) σ9 _ eh) (cwV 2 hts gX8_checkRecord_X8_blank rfl rfl rfl (by decide +kernel) ⟨Nat.le_of_ble_eq_true rfl, Nat.le_of_ble_eq_true rfl⟩) (va_recv hK hP (ci := 6) (q0 := 0) rfl rfl) hP hK hD hN hS rfl hl.1 rfl (Nat.le_of_ble_eq_true rfl) dX8_checkRecord_138 (fun H locs hP hD hS => ?_)
            clear eh
            exact W.vret hx hb hr (fun t ht hW => ⟨⟨_, rfl, Option.some.inj h, by rw [ht]; exact hP, hD⟩, hS.F ht⟩) hS.2.2 dX8_checkRecord_141
        clear ej
        obtain ⟨j97, ej, h⟩ := jn_ex h
        have hj97 : ∀ (_u : Unit), j97 _u = some σz → ∀ (H : Heap) (locs : List Loc) (ls : Array Slot), va_P D vwCl (mk_W cI cZ a σ1) H → va_D A (mk_W cI cZ a σ1) → va_S A s.heap H locs → lv_has ls 3 [(0, .ref (a 0)), (1, .int p0), (2, .int (47 * p0))] → W p l e (headSpec wsX8_checkRecord rm_X8_checkRecord).room s m args below meth c H locs 0 0 (MQ below (ik_Qv D (mk_W cI cZ a) A σz) args s 0 0 A) (F0 m 97 ls []) := by
          rw [ej]; clear h
          intro _u h H locs ls hP hD hS hl
          refine lv_aload_n hx hb dX8_checkRecord_97 rfl (lv_at hl 0 rfl) ?_
          refine va_get (D := D) (ci := 6) (v := .ref (a 1)) (C := RX8) (T := TX8) (N := 10) hx hb hts in_X8_checkRecord_X8 hown hK hP 0 rfl rfl 1 (by decide) (hts (.fieldLink RX8 7 "ImageCheckerModel" "all" "[I") (by decide +kernel)) (fun _ h9 => h9) rfl dX8_checkRecord_98 ?_
          refine lv_iload_n hx hb dX8_checkRecord_101 rfl (lv_at hl 2 rfl) ?_
          refine lv_iconst (v := 1) hx hb dX8_checkRecord_102 (by decide) ?_
          refine lv_iadd hx hb dX8_checkRecord_103 ?_
          refine lv_sipush (v := 1024) hx hb dX8_checkRecord_104 (by decide) ?_
          refine lv_aload_n hx hb dX8_checkRecord_107 rfl (lv_at hl 0 rfl) ?_
          refine lv_iload_n hx hb dX8_checkRecord_108 rfl (lv_at hl 1 rfl) ?_
          obtain ⟨v13, eh, h⟩ := ik_bd h
          refine ik_Vi (As := [.int p0]) (rest := [.int 1024, .int ((47 * p0) + 1), .ref (a 1)]) ⟨hx, hb, hml, hown, hts⟩ (c_X8_greatestEnd l D cI cZ a A p0 σ1 _ eh) (cwV 1 hts gX8_checkRecord_X8_greatestEnd rfl rfl rfl (by decide +kernel) ⟨Nat.le_of_ble_eq_true rfl, Nat.le_of_ble_eq_true rfl⟩) (va_recv hK hP (ci := 6) (q0 := 0) rfl rfl) hP hK hD hN hS rfl hl.1 rfl (Nat.le_of_ble_eq_true rfl) dX8_checkRecord_109 (fun H locs hP hD hS => ?_)
          clear eh
          refine lv_imul hx hb dX8_checkRecord_112 ?_
          obtain ⟨σ14, eh, h⟩ := ik_bd h
          refine ik_st (Wd := mk_W cI cZ a) (σ1 := σ14) hx hb hK hP hD hS 1 0 rfl rfl (fun _ => rfl) eh dX8_checkRecord_113 (fun H locs hP hD hS => ?_)
          clear eh
          exact hj114 _ h _ _ _ hP hD hS (lv_sub hl [0, 1, 2] rfl)
        clear ej
        refine lv_if_lt (tgt := 97) hx hb dX8_checkRecord_81 (by decide) (fun c15 => ?_) (fun c15 => ?_)
        · have h := ik_t c15 h
          exact hj97 () h _ _ _ hP hD hS (lv_sub hl [0, 1, 2] rfl)
        · have h := ik_f c15 h
          refine lv_aload_n hx hb dX8_checkRecord_84 rfl (lv_at hl 0 rfl) ?_
          refine va_get (D := D) (ci := 6) (v := .ref (a 1)) (C := RX8) (T := TX8) (N := 10) hx hb hts in_X8_checkRecord_X8 hown hK hP 0 rfl rfl 1 (by decide) (hts (.fieldLink RX8 7 "ImageCheckerModel" "all" "[I") (by decide +kernel)) (fun _ h9 => h9) rfl dX8_checkRecord_85 ?_
          refine lv_iload_n hx hb dX8_checkRecord_88 rfl (lv_at hl 2 rfl) ?_
          refine lv_iconst (v := 1) hx hb dX8_checkRecord_89 (by decide) ?_
          refine lv_iadd hx hb dX8_checkRecord_90 ?_
          obtain ⟨v16, eh, h⟩ := ik_bd h
          refine ik_ld hx hb hK hP 1 0 rfl rfl eh dX8_checkRecord_91 ?_
          clear eh
          refine lv_ldc (v := 65536) hx hb hown (hts (.constant RX8 79 65536) (by decide +kernel)) dX8_checkRecord_92 ?_
          refine lv_icmp_le (tgt := 114) hx hb dX8_checkRecord_94 (by decide) (fun c17 => ?_) (fun c17 => ?_)
          · have h := ik_t c17 h
            exact hj114 _ h _ _ _ hP hD hS (lv_sub hl [0, 1, 2] rfl)
          · have h := ik_f c17 h
            exact hj97 () h _ _ _ hP hD hS (lv_sub hl [0, 1, 2] rfl)
      · have h := ik_f c6 h
        exact hj67 () h _ _ _ hP hD hS (lv_sub hl [0, 1] rfl)
  clear ej
  refine lv_icmp_ne (tgt := 47) hx hb dX8_checkRecord_7 (by decide) (fun c18 => ?_) (fun c18 => ?_)
  · have h := ik_f c18 h
    exact hj47 _ h _ _ _ hP hD hS (lv_sub hl [1, 2, 0] rfl)
  · have h := ik_t c18 h
    refine lv_aload_n hx hb dX8_checkRecord_10 rfl (lv_at hl 1 rfl) ?_
    refine va_get (D := D) (ci := 6) (v := .ref (a 1)) (C := RX8) (T := TX8) (N := 10) hx hb hts in_X8_checkRecord_X8 hown hK hP 0 rfl rfl 1 (by decide) (hts (.fieldLink RX8 7 "ImageCheckerModel" "all" "[I") (by decide +kernel)) (fun _ h9 => h9) rfl dX8_checkRecord_11 ?_
    refine lv_iload_n hx hb dX8_checkRecord_14 rfl (lv_at hl 0 rfl) ?_
    obtain ⟨v19, eh, h⟩ := ik_bd h
    refine ik_ld hx hb hK hP 1 0 rfl rfl eh dX8_checkRecord_15 ?_
    clear eh
    refine lv_iconst (v := 2) hx hb dX8_checkRecord_16 (by decide) ?_
    refine lv_icmp_eq (tgt := 47) hx hb dX8_checkRecord_17 (by decide) (fun c20 => ?_) (fun c20 => ?_)
    · have h := ik_t c20 h
      exact hj47 _ h _ _ _ hP hD hS (lv_sub hl [1, 2, 0] rfl)
    · have h := ik_f c20 h
      refine lv_aload_n hx hb dX8_checkRecord_20 rfl (lv_at hl 1 rfl) ?_
      refine va_get (D := D) (ci := 6) (v := .ref (a 1)) (C := RX8) (T := TX8) (N := 10) hx hb hts in_X8_checkRecord_X8 hown hK hP 0 rfl rfl 1 (by decide) (hts (.fieldLink RX8 7 "ImageCheckerModel" "all" "[I") (by decide +kernel)) (fun _ h9 => h9) rfl dX8_checkRecord_21 ?_
      refine lv_iload_n hx hb dX8_checkRecord_24 rfl (lv_at hl 0 rfl) ?_
      refine lv_iconst (v := 2) hx hb dX8_checkRecord_25 (by decide) ?_
      obtain ⟨σ21, eh, h⟩ := ik_bd h
      refine ik_st (Wd := mk_W cI cZ a) (σ1 := σ21) hx hb hK hP hD hS 1 0 rfl rfl (fun _ => rfl) eh dX8_checkRecord_26 (fun H locs hP hD hS => ?_)
      clear eh
      refine lv_aload_n hx hb dX8_checkRecord_27 rfl (lv_at hl 1 rfl) ?_
      refine va_get (D := D) (ci := 6) (v := .ref (a 1)) (C := RX8) (T := TX8) (N := 10) hx hb hts in_X8_checkRecord_X8 hown hK hP 0 rfl rfl 1 (by decide) (hts (.fieldLink RX8 7 "ImageCheckerModel" "all" "[I") (by decide +kernel)) (fun _ h9 => h9) rfl dX8_checkRecord_28 ?_
      refine lv_iload_n hx hb dX8_checkRecord_31 rfl (lv_at hl 0 rfl) ?_
      refine lv_iconst (v := 1) hx hb dX8_checkRecord_32 (by decide) ?_
      refine lv_iadd hx hb dX8_checkRecord_33 ?_
      refine lv_iconst (v := 0) hx hb dX8_checkRecord_34 (by decide) ?_
      obtain ⟨σ22, eh, h⟩ := ik_bd h
      refine ik_st (Wd := mk_W cI cZ a) (σ1 := σ22) hx hb hK hP hD hS 1 0 rfl rfl (fun _ => rfl) eh dX8_checkRecord_35 (fun H locs hP hD hS => ?_)
      clear eh
      refine lv_aload_n hx hb dX8_checkRecord_36 rfl (lv_at hl 1 rfl) ?_
      refine lv_iload_n hx hb dX8_checkRecord_37 rfl (lv_at hl 0 rfl) ?_
      refine lv_iconst (v := 5) hx hb dX8_checkRecord_38 (by decide) ?_
      refine lv_iadd hx hb dX8_checkRecord_39 ?_
      refine lv_iload_n hx hb dX8_checkRecord_40 rfl (lv_at hl 0 rfl) ?_
      refine lv_bipush (v := 47) hx hb dX8_checkRecord_41 (by decide) ?_
      refine lv_iadd hx hb dX8_checkRecord_43 ?_
      obtain ⟨σ23, eh, h⟩ := ik_bd h
      refine ik_Vv (As := [.int ((47 * p0) + 5), .int ((47 * p0) + 47)]) (rest := []) ⟨hx, hb, hml, hown, hts⟩ (c_X8_blank l D cI cZ a A ((47 * p0) + 5) ((47 * p0) + 47) σ22 _ eh) (cwV 2 hts gX8_checkRecord_X8_blank rfl rfl rfl (by decide +kernel) ⟨Nat.le_of_ble_eq_true rfl, Nat.le_of_ble_eq_true rfl⟩) (va_recv hK hP (ci := 6) (q0 := 0) rfl rfl) hP hK hD hN hS rfl hl.1 rfl (Nat.le_of_ble_eq_true rfl) dX8_checkRecord_44 (fun H locs hP hD hS => ?_)
      clear eh
      exact hj47 _ h _ _ _ hP hD hS (lv_sub hl [1, 2, 0] rfl)
abbrev rm_X8_checkRecords : Room := { frames := 3, cells := 0, slots := 0, locals := 77 }
theorem in_X8_checkRecords_X8 : ∀ w ∈ wsX80, w ∈ wsX8_checkRecords := by decide +kernel
set_option maxHeartbeats 4000000 in
set_option maxRecDepth 100000 in
theorem c_X8_checkRecords (l : Launch) (D : va_G) (cI cZ : ClassId) (a : Nat → Nat) (A : Nat → Prop) (σ : mk_S) (σz : mk_S) (h : fX8_checkRecords σ = some σz) : Met l yX8_checkRecords wsX8_checkRecords rm_X8_checkRecords (va_Pc [.ref (a 0)] (ik_P D [(cI, .int), (cZ, .boolean)] [] (mk_W cI cZ a) A σ)) (ik_Qv D (mk_W cI cZ a) A σz) 0 0 A := by
  unfold fX8_checkRecords at h
  refine Met.ofW (cc := cX8_checkRecords) (maxL := 2) (ret := none) (by decide) rfl ?_
  intro p e s m args below meth c s₁ B hml hv
  obtain ⟨hAr, hP, hK, hD, hN⟩ := hv
  have hx := B.exec
  have hb := B.bytes
  have hr := B.returns
  have hts := atoms_spec (ws := wsX8_checkRecords) B.pre
  have hown : s.vm.findClass RX8 = some m.cls := findClass_of_methodNamed B.named
  have hlocks := B.notSynchronized
  have hS : va_S A s.heap s.heap [] := va_S.rf
  have hl := lv_entry ([.ref (a 0)]) (n := 2) (Nat.le_of_ble_eq_true rfl)
  rw [show entryFrame m args 2 = entryFrame m ([.ref (a 0)] : List Value).toArray 2 from by rw [hAr], lg_entry_eq]
  generalize (lg_sl ([.ref (a 0)]) ++ List.replicate (2 - (lg_sl ([.ref (a 0)])).length) Slot.unset).toArray = ls at hl ⊢
  have hl : lv_has ls 2 [(0, .ref (a 0))] := hl
  refine lv_iconst (v := 0) hx hb dX8_checkRecords_0 (by decide) ?_
  refine lv_istore_n (lv' := [(1, .int 0), (0, .ref (a 0))]) hx hb dX8_checkRecords_1 rfl hl (by decide) rfl (fun ls hl => ?_)
  refine qp2_W (P := fun (x1 : Int32) (σ2 : mk_S) => ∀ (H : Heap) (locs : List Loc) (ls : Array Slot), va_P D vwCl (mk_W cI cZ a σ2) H → va_D A (mk_W cI cZ a σ2) → va_S A s.heap H locs → lv_has ls 2 [(0, .ref (a 0)), (1, .int x1)] → W p l e (headSpec wsX8_checkRecords rm_X8_checkRecords).room s m args below meth c H locs 0 0 (MQ below (ik_Qv D (mk_W cI cZ a) A σz) args s 0 0 A) (F0 m 2 ls [])) ?_ FU _ _ h _ _ _ hP hD hS (lv_sub hl [1, 0] rfl)
  intro rec2 ih2 x1 σ2 h H locs ls hP hD hS hl
  refine lv_iload_n hx hb dX8_checkRecords_2 rfl (lv_at hl 1 rfl) ?_
  refine lv_sipush (v := 200) hx hb dX8_checkRecords_3 (by decide) ?_
  refine lv_icmp_gt (tgt := 22) hx hb dX8_checkRecords_6 (by decide) (fun c3 => ?_) (fun c3 => ?_)
  · have h := ik_t c3 h
    refine lv_iconst (v := 1) hx hb dX8_checkRecords_22 (by decide) ?_
    refine lv_istore_n (lv' := [(1, .int 1), (0, .ref (a 0))]) hx hb dX8_checkRecords_23 rfl hl (by decide) rfl (fun ls hl => ?_)
    refine qp2_W (P := fun (x4 : Int32) (σ5 : mk_S) => ∀ (H : Heap) (locs : List Loc) (ls : Array Slot), va_P D vwCl (mk_W cI cZ a σ5) H → va_D A (mk_W cI cZ a σ5) → va_S A s.heap H locs → lv_has ls 2 [(0, .ref (a 0)), (1, .int x4)] → W p l e (headSpec wsX8_checkRecords rm_X8_checkRecords).room s m args below meth c H locs 0 0 (MQ below (ik_Qv D (mk_W cI cZ a) A σz) args s 0 0 A) (F0 m 24 ls [])) ?_ FU _ _ h _ _ _ hP hD hS (lv_sub hl [1, 0] rfl)
    intro rec24 ih24 x4 σ5 h H locs ls hP hD hS hl
    refine lv_iload_n hx hb dX8_checkRecords_24 rfl (lv_at hl 1 rfl) ?_
    refine lv_bipush (v := 24) hx hb dX8_checkRecords_25 (by decide) ?_
    refine lv_icmp_gt (tgt := 41) hx hb dX8_checkRecords_27 (by decide) (fun c6 => ?_) (fun c6 => ?_)
    · have h := ik_t c6 h
      exact W.vret hx hb hr (fun t ht hW => ⟨⟨_, rfl, Option.some.inj h, by rw [ht]; exact hP, hD⟩, hS.F ht⟩) hS.2.2 dX8_checkRecords_41
    · have h := ik_f c6 h
      refine lv_aload_n hx hb dX8_checkRecords_30 rfl (lv_at hl 0 rfl) ?_
      refine lv_iload_n hx hb dX8_checkRecords_31 rfl (lv_at hl 1 rfl) ?_
      obtain ⟨σ7, eh, h⟩ := ik_bd h
      refine ik_Vv (As := [.int x4]) (rest := []) ⟨hx, hb, hml, hown, hts⟩ (c_X8_checkRecord l D cI cZ a A x4 σ5 _ eh) (cwV 1 hts gX8_checkRecords_X8_checkRecord rfl rfl rfl (by decide +kernel) ⟨Nat.le_of_ble_eq_true rfl, Nat.le_of_ble_eq_true rfl⟩) (va_recv hK hP (ci := 6) (q0 := 0) rfl rfl) hP hK hD hN hS rfl hl.1 rfl (Nat.le_of_ble_eq_true rfl) dX8_checkRecords_32 (fun H locs hP hD hS => ?_)
      clear eh
      refine lv_iinc (v := x4 + 1) (lv' := [(1, .int (x4 + 1)), (0, .ref (a 0))]) hx hb dX8_checkRecords_35 hl (k := 1) rfl rfl (by decide) rfl (fun ls hl => ?_)
      refine lv_goto (tgt := 24) hx hb dX8_checkRecords_38 (by decide) ?_
      exact ih24 _ _ h _ _ _ hP hD hS (lv_sub hl [1, 0] rfl)
  · have h := ik_f c3 h
    refine lv_aload_n hx hb dX8_checkRecords_9 rfl (lv_at hl 0 rfl) ?_
    refine va_get (D := D) (ci := 6) (v := .ref (a 4)) (C := RX8) (T := TX8) (N := 10) hx hb hts in_X8_checkRecords_X8 hown hK hP 0 rfl rfl 4 (by decide) (hts (.fieldLink RX8 20 "ImageCheckerModel" "owner" "[I") (by decide +kernel)) (fun _ h9 => h9) rfl dX8_checkRecords_10 ?_
    refine lv_iload_n hx hb dX8_checkRecords_13 rfl (lv_at hl 1 rfl) ?_
    refine lv_iconst (v := 0) hx hb dX8_checkRecords_14 (by decide) ?_
    obtain ⟨σ8, eh, h⟩ := ik_bd h
    refine ik_st (Wd := mk_W cI cZ a) (σ1 := σ8) hx hb hK hP hD hS 4 0 rfl rfl (fun _ => rfl) eh dX8_checkRecords_15 (fun H locs hP hD hS => ?_)
    clear eh
    refine lv_iinc (v := x1 + 1) (lv' := [(1, .int (x1 + 1)), (0, .ref (a 0))]) hx hb dX8_checkRecords_16 hl (k := 1) rfl rfl (by decide) rfl (fun ls hl => ?_)
    refine lv_goto (tgt := 2) hx hb dX8_checkRecords_19 (by decide) ?_
    exact ih2 _ _ h _ _ _ hP hD hS (lv_sub hl [1, 0] rfl)
abbrev rm_X8_kindOf : Room := { frames := 0, cells := 0, slots := 0, locals := 0 }
theorem in_X8_kindOf_X8 : ∀ w ∈ wsX80, w ∈ wsX8_kindOf := by decide +kernel
set_option maxHeartbeats 4000000 in
set_option maxRecDepth 100000 in
theorem c_X8_kindOf (l : Launch) (D : va_G) (cI cZ : ClassId) (a : Nat → Nat) (A : Nat → Prop) (p0 : Int32) (σ : mk_S) (rz : Int32) (h : fX8_kindOf p0 σ = some rz) : Met l yX8_kindOf wsX8_kindOf rm_X8_kindOf (va_Pc [.ref (a 0), .int p0] (ik_P D [(cI, .int), (cZ, .boolean)] [] (mk_W cI cZ a) A σ)) (ik_Qi D (mk_W cI cZ a) A rz σ) 0 0 A := by
  unfold fX8_kindOf at h
  refine Met.ofW (cc := cX8_kindOf) (maxL := 2) (ret := (some .int)) (by decide) rfl ?_
  intro p e s m args below meth c s₁ B hml hv
  obtain ⟨hAr, hP, hK, hD, hN⟩ := hv
  have hx := B.exec
  have hb := B.bytes
  have hr := B.returns
  have hts := atoms_spec (ws := wsX8_kindOf) B.pre
  have hown : s.vm.findClass RX8 = some m.cls := findClass_of_methodNamed B.named
  have hlocks := B.notSynchronized
  have hS : va_S A s.heap s.heap [] := va_S.rf
  have hl := lv_entry ([.ref (a 0), .int p0]) (n := 2) (Nat.le_of_ble_eq_true rfl)
  rw [show entryFrame m args 2 = entryFrame m ([.ref (a 0), .int p0] : List Value).toArray 2 from by rw [hAr], lg_entry_eq]
  generalize (lg_sl ([.ref (a 0), .int p0]) ++ List.replicate (2 - (lg_sl ([.ref (a 0), .int p0])).length) Slot.unset).toArray = ls at hl ⊢
  have hl : lv_has ls 2 [(0, .ref (a 0)), (1, .int p0)] := hl
  refine lv_aload_n hx hb dX8_kindOf_0 rfl (lv_at hl 0 rfl) ?_
  refine va_get (D := D) (ci := 6) (v := .ref (a 1)) (C := RX8) (T := TX8) (N := 10) hx hb hts in_X8_kindOf_X8 hown hK hP 0 rfl rfl 1 (by decide) (hts (.fieldLink RX8 7 "ImageCheckerModel" "all" "[I") (by decide +kernel)) (fun _ h9 => h9) rfl dX8_kindOf_1 ?_
  refine lv_bipush (v := 47) hx hb dX8_kindOf_4 (by decide) ?_
  refine lv_iload_n hx hb dX8_kindOf_6 rfl (lv_at hl 1 rfl) ?_
  refine lv_imul hx hb dX8_kindOf_7 ?_
  obtain ⟨v1, eh, h⟩ := ik_bd h
  refine ik_ld hx hb hK hP 1 0 rfl rfl eh dX8_kindOf_8 ?_
  clear eh
  exact W.iret hx hb hr (fun t ht hW => ⟨⟨_, _, rfl, ⟨Option.some.inj h, rfl⟩, by rw [ht]; exact hP, hD⟩, hS.F ht⟩) hS.2.2 dX8_kindOf_9
abbrev rm_X8_hasName : Room := { frames := 1, cells := 0, slots := 0, locals := 21 }
theorem in_X8_hasName_X8 : ∀ w ∈ wsX80, w ∈ wsX8_hasName := by decide +kernel
set_option maxHeartbeats 4000000 in
set_option maxRecDepth 100000 in
theorem c_X8_hasName (l : Launch) (D : va_G) (cI cZ : ClassId) (a : Nat → Nat) (A : Nat → Prop) (p0 : Int32) (p1 : Int32) (p2 : Int32) (σ : mk_S) (rz : Int32) (h : fX8_hasName p0 p1 p2 σ = some rz) : Met l yX8_hasName wsX8_hasName rm_X8_hasName (va_Pc [.ref (a 0), .int p0, .int p1, .int p2] (ik_P D [(cI, .int), (cZ, .boolean)] [] (mk_W cI cZ a) A σ)) (ik_Qi D (mk_W cI cZ a) A rz σ) 0 0 A := by
  unfold fX8_hasName at h
  refine Met.ofW (cc := cX8_hasName) (maxL := 6) (ret := (some .boolean)) (by decide) rfl ?_
  intro p e s m args below meth c s₁ B hml hv
  obtain ⟨hAr, hP, hK, hD, hN⟩ := hv
  have hx := B.exec
  have hb := B.bytes
  have hr := B.returns
  have hts := atoms_spec (ws := wsX8_hasName) B.pre
  have hown : s.vm.findClass RX8 = some m.cls := findClass_of_methodNamed B.named
  have hlocks := B.notSynchronized
  have hS : va_S A s.heap s.heap [] := va_S.rf
  have hl := lv_entry ([.ref (a 0), .int p0, .int p1, .int p2]) (n := 6) (Nat.le_of_ble_eq_true rfl)
  rw [show entryFrame m args 6 = entryFrame m ([.ref (a 0), .int p0, .int p1, .int p2] : List Value).toArray 6 from by rw [hAr], lg_entry_eq]
  generalize (lg_sl ([.ref (a 0), .int p0, .int p1, .int p2]) ++ List.replicate (6 - (lg_sl ([.ref (a 0), .int p0, .int p1, .int p2])).length) Slot.unset).toArray = ls at hl ⊢
  have hl : lv_has ls 6 [(0, .ref (a 0)), (1, .int p0), (2, .int p1), (3, .int p2)] := hl
  refine lv_iconst (v := 0) hx hb dX8_hasName_0 (by decide) ?_
  refine lv_istore (lv' := [(4, .int 0), (0, .ref (a 0)), (1, .int p0), (2, .int p1), (3, .int p2)]) hx hb dX8_hasName_1 hl (by decide) rfl (fun ls hl => ?_)
  refine lv_iconst (v := 0) hx hb dX8_hasName_3 (by decide) ?_
  refine lv_istore (lv' := [(5, .int 0), (4, .int 0), (0, .ref (a 0)), (1, .int p0), (2, .int p1), (3, .int p2)]) hx hb dX8_hasName_4 hl (by decide) rfl (fun ls hl => ?_)
  refine qp2_W (P := fun (x1 : Int32) (x2 : Int32) => ∀ (H : Heap) (locs : List Loc) (ls : Array Slot), va_P D vwCl (mk_W cI cZ a σ) H → va_D A (mk_W cI cZ a σ) → va_S A s.heap H locs → lv_has ls 6 [(0, .ref (a 0)), (1, .int p0), (2, .int p1), (3, .int p2), (4, .int x1), (5, .int x2)] → W p l e (headSpec wsX8_hasName rm_X8_hasName).room s m args below meth c H locs 0 0 (MQ below (ik_Qi D (mk_W cI cZ a) A rz σ) args s 0 0 A) (F0 m 6 ls [])) ?_ FU _ _ h _ _ _ hP hD hS (lv_sub hl [2, 3, 4, 5, 1, 0] rfl)
  intro rec6 ih6 x1 x2 h H locs ls hP hD hS hl
  refine lv_iload hx hb dX8_hasName_6 (lv_at hl 5 rfl) ?_
  refine lv_iload_n hx hb dX8_hasName_8 rfl (lv_at hl 2 rfl) ?_
  refine lv_icmp_ge (tgt := 45) hx hb dX8_hasName_9 (by decide) (fun c3 => ?_) (fun c3 => ?_)
  · have h := ik_t c3 h
    refine lv_iload hx hb dX8_hasName_45 (lv_at hl 4 rfl) ?_
    have eh := h
    exact W.zret hx hb hr (ik_zn (ik_zb_e eh).1) (fun t ht hW => ⟨⟨_, _, rfl, ⟨(ik_zb_e eh).2, rfl⟩, by rw [ht]; exact hP, hD⟩, hS.F ht⟩) hS.2.2 dX8_hasName_47
  · have h := ik_f c3 h
    refine lv_iload hx hb dX8_hasName_12 (lv_at hl 4 rfl) ?_
    obtain ⟨j32, ej, h⟩ := jn_ex h
    have hj32 : ∀ (_u : Unit), j32 _u = some rz → ∀ (H : Heap) (locs : List Loc) (ls : Array Slot), va_P D vwCl (mk_W cI cZ a σ) H → va_D A (mk_W cI cZ a σ) → va_S A s.heap H locs → lv_has ls 6 [(0, .ref (a 0)), (1, .int p0), (2, .int p1), (3, .int p2), (5, .int x2)] → W p l e (headSpec wsX8_hasName rm_X8_hasName).room s m args below meth c H locs 0 0 (MQ below (ik_Qi D (mk_W cI cZ a) A rz σ) args s 0 0 A) (F0 m 32 ls []) := by
      rw [ej]; clear h
      intro _u h H locs ls hP hD hS hl
      refine lv_iconst (v := 1) hx hb dX8_hasName_32 (by decide) ?_
      refine lv_goto (tgt := 37) hx hb dX8_hasName_33 (by decide) ?_
      refine lv_istore (lv' := [(4, .int 1), (0, .ref (a 0)), (1, .int p0), (2, .int p1), (3, .int p2), (5, .int x2)]) hx hb dX8_hasName_37 hl (by decide) rfl (fun ls hl => ?_)
      refine lv_iinc (v := x2 + 1) (lv' := [(5, .int (x2 + 1)), (4, .int 1), (0, .ref (a 0)), (1, .int p0), (2, .int p1), (3, .int p2)]) hx hb dX8_hasName_39 hl (k := 5) rfl rfl (by decide) rfl (fun ls hl => ?_)
      refine lv_goto (tgt := 6) hx hb dX8_hasName_42 (by decide) ?_
      exact ih6 _ _ h _ _ _ hP hD hS (lv_sub hl [2, 3, 4, 5, 1, 0] rfl)
    clear ej
    refine lv_if_ne (tgt := 32) hx hb dX8_hasName_14 (by decide) (fun c4 => ?_) (fun c4 => ?_)
    · have h := ik_f c4 h
      exact hj32 () h _ _ _ hP hD hS (lv_sub hl [0, 1, 2, 3, 5] rfl)
    · have h := ik_t c4 h
      refine lv_aload_n hx hb dX8_hasName_17 rfl (lv_at hl 0 rfl) ?_
      refine va_get (D := D) (ci := 6) (v := .ref (a 1)) (C := RX8) (T := TX8) (N := 10) hx hb hts in_X8_hasName_X8 hown hK hP 0 rfl rfl 1 (by decide) (hts (.fieldLink RX8 7 "ImageCheckerModel" "all" "[I") (by decide +kernel)) (fun _ h9 => h9) rfl dX8_hasName_18 ?_
      refine lv_iload_n hx hb dX8_hasName_21 rfl (lv_at hl 1 rfl) ?_
      refine lv_iload hx hb dX8_hasName_22 (lv_at hl 5 rfl) ?_
      obtain ⟨v5, eh, h⟩ := ik_bd h
      refine ik_Si (As := [.int p0, .int x2]) (rest := [.ref (a 1)]) ⟨hx, hb, hml, hown, hts⟩ (c_X8_entryAt l D cI cZ a A p0 x2 σ _ eh) (va_cwS 2 hts gX8_hasName_X8_entryAt rfl rfl rfl (by decide +kernel) ⟨Nat.le_of_ble_eq_true rfl, Nat.le_of_ble_eq_true rfl⟩) hP hK hD hN hS rfl hl.1 rfl (Nat.le_of_ble_eq_true rfl) dX8_hasName_24 (fun H locs hP hD hS => ?_)
      clear eh
      obtain ⟨v6, eh, h⟩ := ik_bd h
      refine ik_ld hx hb hK hP 1 0 rfl rfl eh dX8_hasName_27 ?_
      clear eh
      refine lv_iload_n hx hb dX8_hasName_28 rfl (lv_at hl 3 rfl) ?_
      refine lv_icmp_ne (tgt := 36) hx hb dX8_hasName_29 (by decide) (fun c7 => ?_) (fun c7 => ?_)
      · have h := ik_f c7 h
        refine lv_iconst (v := 0) hx hb dX8_hasName_36 (by decide) ?_
        refine lv_istore (lv' := [(4, .int 0), (0, .ref (a 0)), (1, .int p0), (2, .int p1), (3, .int p2), (5, .int x2)]) hx hb dX8_hasName_37 hl (by decide) rfl (fun ls hl => ?_)
        refine lv_iinc (v := x2 + 1) (lv' := [(5, .int (x2 + 1)), (4, .int 0), (0, .ref (a 0)), (1, .int p0), (2, .int p1), (3, .int p2)]) hx hb dX8_hasName_39 hl (k := 5) rfl rfl (by decide) rfl (fun ls hl => ?_)
        refine lv_goto (tgt := 6) hx hb dX8_hasName_42 (by decide) ?_
        exact ih6 _ _ h _ _ _ hP hD hS (lv_sub hl [2, 3, 4, 5, 1, 0] rfl)
      · have h := ik_t c7 h
        exact hj32 () h _ _ _ hP hD hS (lv_sub hl [0, 1, 2, 3, 5] rfl)
