abbrev rm_X0_mend : Room := { frames := 3, cells := 0, slots := 0, locals := 68 }
set_option maxHeartbeats 4000000 in
set_option maxRecDepth 100000 in
theorem c_X0_mend (l : Launch) (D : va_G) (cI cZ : ClassId) (a : Nat → Nat) (A : Nat → Prop) (σ : ck_S) (σz : ck_S) (h : fX0_mend σ = some σz) : Met l yX0_mend wsX0_mend rm_X0_mend (va_Pc [.ref (a 1)] (ik_P D [(cI, .int), (cZ, .boolean)] ck_N (ck_W cI cZ a) A σ)) (ik_Qv D (ck_W cI cZ a) A σz) 0 0 A := by
  unfold fX0_mend at h
  refine Met.ofW (cc := cX0_mend) (maxL := 3) (ret := none) (by decide) rfl ?_
  intro p e s m args below meth c s₁ B hml hv
  obtain ⟨hAr, hP, hK, hD, hN⟩ := hv
  have hx := B.exec
  have hb := B.bytes
  have hr := B.returns
  have hts := atoms_spec (ws := wsX0_mend) B.pre
  have hown : s.vm.findClass RX0 = some m.cls := findClass_of_methodNamed B.named
  have hlocks := B.notSynchronized
  have hS : va_S A s.heap s.heap [] := va_S.rf
  have hl := lv_entry ([.ref (a 1)]) (n := 3) (Nat.le_of_ble_eq_true rfl)
  rw [show entryFrame m args 3 = entryFrame m ([.ref (a 1)] : List Value).toArray 3 from by rw [hAr], lg_entry_eq]
  generalize (lg_sl ([.ref (a 1)]) ++ List.replicate (3 - (lg_sl ([.ref (a 1)])).length) Slot.unset).toArray = ls at hl ⊢
  have hl : lv_has ls 3 [(0, .ref (a 1))] := hl
  refine lv_iconst (v := 1) hx hb dX0_mend_0 (by decide) ?_
  refine lv_istore_n (lv' := [(1, .int 1), (0, .ref (a 1))]) hx hb dX0_mend_1 rfl hl (by decide) rfl (fun ls hl => ?_)
  refine qp2_W (P := fun (x1 : Int32) (σ2 : ck_S) => ∀ (H : Heap) (locs : List Loc) (ls : Array Slot), va_P D vwCl (ck_W cI cZ a σ2) H → va_D A (ck_W cI cZ a σ2) → va_S A s.heap H locs → lv_has ls 3 [(0, .ref (a 1)), (1, .int x1)] → W p l e (headSpec wsX0_mend rm_X0_mend).room s m args below meth c H locs 0 0 (MQ below (ik_Qv D (ck_W cI cZ a) A σz) args s 0 0 A) (F0 m 2 ls [])) ?_ FU _ _ h _ _ _ hP hD hS (lv_sub hl [1, 0] rfl)
  intro rec2 ih2 x1 σ2 h H locs ls hP hD hS hl
  refine lv_iload_n hx hb dX0_mend_2 rfl (lv_at hl 1 rfl) ?_
  refine lv_sipush (v := 200) hx hb dX0_mend_3 (by decide) ?_
  refine lv_icmp_gt (tgt := 32) hx hb dX0_mend_6 (by decide) (fun c3 => ?_) (fun c3 => ?_)
  · have h := ik_t c3 h
    refine lv_iconst (v := 1) hx hb dX0_mend_32 (by decide) ?_
    refine lv_istore_n (lv' := [(1, .int 1), (0, .ref (a 1))]) hx hb dX0_mend_33 rfl hl (by decide) rfl (fun ls hl => ?_)
    refine qp2_W (P := fun (x4 : Int32) (σ5 : ck_S) => ∀ (H : Heap) (locs : List Loc) (ls : Array Slot), va_P D vwCl (ck_W cI cZ a σ5) H → va_D A (ck_W cI cZ a σ5) → va_S A s.heap H locs → lv_has ls 3 [(0, .ref (a 1)), (1, .int x4)] → W p l e (headSpec wsX0_mend rm_X0_mend).room s m args below meth c H locs 0 0 (MQ below (ik_Qv D (ck_W cI cZ a) A σz) args s 0 0 A) (F0 m 34 ls [])) ?_ FU _ _ h _ _ _ hP hD hS (lv_sub hl [1, 0] rfl)
    intro rec34 ih34 x4 σ5 h H locs ls hP hD hS hl
    refine lv_iload_n hx hb dX0_mend_34 rfl (lv_at hl 1 rfl) ?_
    refine lv_bipush (v := 24) hx hb dX0_mend_35 (by decide) ?_
    refine lv_icmp_gt (tgt := 98) hx hb dX0_mend_37 (by decide) (fun c6 => ?_) (fun c6 => ?_)
    · have h := ik_t c6 h
      refine lv_aload_n hx hb dX0_mend_98 rfl (lv_at hl 0 rfl) ?_
      refine lv_iconst (v := 0) hx hb dX0_mend_99 (by decide) ?_
      refine lv_aload_n hx hb dX0_mend_100 rfl (lv_at hl 0 rfl) ?_
      refine lv_iconst (v := 0) hx hb dX0_mend_101 (by decide) ?_
      refine lv_sipush (v := 200) hx hb dX0_mend_102 (by decide) ?_
      obtain ⟨v7, eh, h⟩ := ik_bd h
      refine ik_Si (As := [.ref (a 1), .int 0, .int 200]) (rest := [.int 0, .ref (a 1)]) ⟨hx, hb, hml, hown, hts⟩ (c_X0_countFree l D cI cZ a A 0 200 σ5 _ eh) (va_cwS 3 hts gX0_mend_X0_countFree rfl rfl rfl (by decide +kernel) ⟨Nat.le_of_ble_eq_true rfl, Nat.le_of_ble_eq_true rfl⟩) hP hK hD hN hS rfl hl.1 rfl (Nat.le_of_ble_eq_true rfl) dX0_mend_105 (fun H locs hP hD hS => ?_)
      clear eh
      obtain ⟨σ8, eh, h⟩ := ik_bd h
      refine ik_Vv (As := [.int 0, .int v7]) (rest := []) ⟨hx, hb, hml, hown, hts⟩ (c_X5_putTold l D cI cZ a A 0 v7 σ5 _ eh) (cwV 2 hts gX0_mend_X5_putTold rfl rfl rfl (by decide +kernel) ⟨Nat.le_of_ble_eq_true rfl, Nat.le_of_ble_eq_true rfl⟩) (va_recv hK hP (ci := 3) (q0 := 1) rfl rfl) hP hK hD hN hS rfl hl.1 rfl (Nat.le_of_ble_eq_true rfl) dX0_mend_108 (fun H locs hP hD hS => ?_)
      clear eh
      refine lv_aload_n hx hb dX0_mend_111 rfl (lv_at hl 0 rfl) ?_
      refine lv_iconst (v := 1) hx hb dX0_mend_112 (by decide) ?_
      refine lv_aload_n hx hb dX0_mend_113 rfl (lv_at hl 0 rfl) ?_
      refine lv_iconst (v := 1) hx hb dX0_mend_114 (by decide) ?_
      refine lv_bipush (v := 24) hx hb dX0_mend_115 (by decide) ?_
      obtain ⟨v9, eh, h⟩ := ik_bd h
      refine ik_Si (As := [.ref (a 1), .int 1, .int 24]) (rest := [.int 1, .ref (a 1)]) ⟨hx, hb, hml, hown, hts⟩ (c_X0_countFree l D cI cZ a A 1 24 σ8 _ eh) (va_cwS 3 hts gX0_mend_X0_countFree rfl rfl rfl (by decide +kernel) ⟨Nat.le_of_ble_eq_true rfl, Nat.le_of_ble_eq_true rfl⟩) hP hK hD hN hS rfl hl.1 rfl (Nat.le_of_ble_eq_true rfl) dX0_mend_117 (fun H locs hP hD hS => ?_)
      clear eh
      obtain ⟨σ10, eh, h⟩ := ik_bd h
      refine ik_Vv (As := [.int 1, .int v9]) (rest := []) ⟨hx, hb, hml, hown, hts⟩ (c_X5_putTold l D cI cZ a A 1 v9 σ8 _ eh) (cwV 2 hts gX0_mend_X5_putTold rfl rfl rfl (by decide +kernel) ⟨Nat.le_of_ble_eq_true rfl, Nat.le_of_ble_eq_true rfl⟩) (va_recv hK hP (ci := 3) (q0 := 1) rfl rfl) hP hK hD hN hS rfl hl.1 rfl (Nat.le_of_ble_eq_true rfl) dX0_mend_120 (fun H locs hP hD hS => ?_)
      clear eh
      exact W.vret hx hb hr (fun t ht hW => ⟨⟨_, rfl, Option.some.inj h, by rw [ht]; exact hP, hD⟩, hS.F ht⟩) hS.2.2 dX0_mend_123
    · have h := ik_f c6 h
      refine lv_aload_n hx hb dX0_mend_40 rfl (lv_at hl 0 rfl) ?_
      refine lv_iconst (v := 1) hx hb dX0_mend_41 (by decide) ?_
      refine lv_iload_n hx hb dX0_mend_42 rfl (lv_at hl 1 rfl) ?_
      refine lv_aload_n hx hb dX0_mend_43 rfl (lv_at hl 0 rfl) ?_
      refine lv_iload_n hx hb dX0_mend_44 rfl (lv_at hl 1 rfl) ?_
      refine lv_iconst (v := 0) hx hb dX0_mend_45 (by decide) ?_
      obtain ⟨v11, eh, h⟩ := ik_bd h
      refine ik_Vi (As := [.int x4, .int 0]) (rest := [.int x4, .int 1, .ref (a 1)]) ⟨hx, hb, hml, hown, hts⟩ (c_X5_number l D cI cZ a A x4 0 σ5 _ eh) (cwV 2 hts gX0_mend_X5_number rfl rfl rfl (by decide +kernel) ⟨Nat.le_of_ble_eq_true rfl, Nat.le_of_ble_eq_true rfl⟩) (va_recv hK hP (ci := 3) (q0 := 1) rfl rfl) hP hK hD hN hS rfl hl.1 rfl (Nat.le_of_ble_eq_true rfl) dX0_mend_46 (fun H locs hP hD hS => ?_)
      clear eh
      obtain ⟨j57, ej, h⟩ := jn_ex h
      have hj57 : ∀ (y12 : Int32), j57 y12 = some σz → ∀ (H : Heap) (locs : List Loc) (ls : Array Slot), va_P D vwCl (ck_W cI cZ a σ5) H → va_D A (ck_W cI cZ a σ5) → va_S A s.heap H locs → lv_has ls 3 [(0, .ref (a 1)), (1, .int x4)] → W p l e (headSpec wsX0_mend rm_X0_mend).room s m args below meth c H locs 0 0 (MQ below (ik_Qv D (ck_W cI cZ a) A σz) args s 0 0 A) (F0 m 57 ls [.int y12, .int x4, .int 1, .ref (a 1)]) := by
        rw [ej]; clear h
        intro y12 h H locs ls hP hD hS hl
        obtain ⟨σ13, eh, h⟩ := ik_bd h
        refine ik_Vv (As := [.int 1, .int x4, .int y12]) (rest := []) ⟨hx, hb, hml, hown, hts⟩ (c_X5_putBit l D cI cZ a A 1 x4 y12 σ5 _ eh) (cwV 3 hts gX0_mend_X5_putBit rfl rfl rfl (by decide +kernel) ⟨Nat.le_of_ble_eq_true rfl, Nat.le_of_ble_eq_true rfl⟩) (va_recv hK hP (ci := 3) (q0 := 1) rfl rfl) hP hK hD hN hS rfl hl.1 rfl (Nat.le_of_ble_eq_true rfl) dX0_mend_57 (fun H locs hP hD hS => ?_)
        clear eh
        refine lv_iconst (v := 0) hx hb dX0_mend_60 (by decide) ?_
        refine lv_istore_n (lv' := [(2, .int 0), (0, .ref (a 1)), (1, .int x4)]) hx hb dX0_mend_61 rfl hl (by decide) rfl (fun ls hl => ?_)
        refine qp2_W (P := fun (x14 : Int32) (σ15 : ck_S) => ∀ (H : Heap) (locs : List Loc) (ls : Array Slot), va_P D vwCl (ck_W cI cZ a σ15) H → va_D A (ck_W cI cZ a σ15) → va_S A s.heap H locs → lv_has ls 3 [(0, .ref (a 1)), (1, .int x4), (2, .int x14)] → W p l e (headSpec wsX0_mend rm_X0_mend).room s m args below meth c H locs 0 0 (MQ below (ik_Qv D (ck_W cI cZ a) A σz) args s 0 0 A) (F0 m 62 ls [])) ?_ FU _ _ h _ _ _ hP hD hS (lv_sub hl [1, 2, 0] rfl)
        intro rec62 ih62 x14 σ15 h H locs ls hP hD hS hl
        refine lv_iload_n hx hb dX0_mend_62 rfl (lv_at hl 2 rfl) ?_
        refine lv_bipush (v := 6) hx hb dX0_mend_63 (by decide) ?_
        refine lv_icmp_ge (tgt := 92) hx hb dX0_mend_65 (by decide) (fun c16 => ?_) (fun c16 => ?_)
        · have h := ik_t c16 h
          refine lv_iinc (v := x4 + 1) (lv' := [(1, .int (x4 + 1)), (0, .ref (a 1)), (2, .int x14)]) hx hb dX0_mend_92 hl (k := 1) rfl rfl (by decide) rfl (fun ls hl => ?_)
          refine lv_goto (tgt := 34) hx hb dX0_mend_95 (by decide) ?_
          exact ih34 _ _ h _ _ _ hP hD hS (lv_sub hl [1, 0] rfl)
        · have h := ik_f c16 h
          refine lv_aload_n hx hb dX0_mend_68 rfl (lv_at hl 0 rfl) ?_
          refine lv_aload_n hx hb dX0_mend_69 rfl (lv_at hl 0 rfl) ?_
          refine lv_iload_n hx hb dX0_mend_70 rfl (lv_at hl 1 rfl) ?_
          refine lv_iload_n hx hb dX0_mend_71 rfl (lv_at hl 2 rfl) ?_
          refine lv_iconst (v := 2) hx hb dX0_mend_72 (by decide) ?_
          obtain ⟨v17, eh, h⟩ := ik_bd h
          refine ik_Vi (As := [.int x4, .int x14, .int 2]) (rest := [.ref (a 1)]) ⟨hx, hb, hml, hown, hts⟩ (c_X5_runPart l D cI cZ a A x4 x14 2 σ15 _ eh) (cwV 3 hts gX0_mend_X5_runPart rfl rfl rfl (by decide +kernel) ⟨Nat.le_of_ble_eq_true rfl, Nat.le_of_ble_eq_true rfl⟩) (va_recv hK hP (ci := 3) (q0 := 1) rfl rfl) hP hK hD hN hS rfl hl.1 rfl (Nat.le_of_ble_eq_true rfl) dX0_mend_73 (fun H locs hP hD hS => ?_)
          clear eh
          refine lv_aload_n hx hb dX0_mend_76 rfl (lv_at hl 0 rfl) ?_
          refine lv_iload_n hx hb dX0_mend_77 rfl (lv_at hl 1 rfl) ?_
          refine lv_iload_n hx hb dX0_mend_78 rfl (lv_at hl 2 rfl) ?_
          refine lv_iconst (v := 1) hx hb dX0_mend_79 (by decide) ?_
          obtain ⟨v18, eh, h⟩ := ik_bd h
          refine ik_Vi (As := [.int x4, .int x14, .int 1]) (rest := [.int v17, .ref (a 1)]) ⟨hx, hb, hml, hown, hts⟩ (c_X5_runPart l D cI cZ a A x4 x14 1 σ15 _ eh) (cwV 3 hts gX0_mend_X5_runPart rfl rfl rfl (by decide +kernel) ⟨Nat.le_of_ble_eq_true rfl, Nat.le_of_ble_eq_true rfl⟩) (va_recv hK hP (ci := 3) (q0 := 1) rfl rfl) hP hK hD hN hS rfl hl.1 rfl (Nat.le_of_ble_eq_true rfl) dX0_mend_80 (fun H locs hP hD hS => ?_)
          clear eh
          obtain ⟨σ19, eh, h⟩ := ik_bd h
          refine ik_Sv (As := [.ref (a 1), .int v17, .int v18]) (rest := []) ⟨hx, hb, hml, hown, hts⟩ (c_X0_takeBlocks l D cI cZ a A v17 v18 σ15 _ eh) (va_cwS 3 hts gX0_mend_X0_takeBlocks rfl rfl rfl (by decide +kernel) ⟨Nat.le_of_ble_eq_true rfl, Nat.le_of_ble_eq_true rfl⟩) hP hK hD hN hS rfl hl.1 rfl (Nat.le_of_ble_eq_true rfl) dX0_mend_83 (fun H locs hP hD hS => ?_)
          clear eh
          refine lv_iinc (v := x14 + 1) (lv' := [(2, .int (x14 + 1)), (0, .ref (a 1)), (1, .int x4)]) hx hb dX0_mend_86 hl (k := 2) rfl rfl (by decide) rfl (fun ls hl => ?_)
          refine lv_goto (tgt := 62) hx hb dX0_mend_89 (by decide) ?_
          exact ih62 _ _ h _ _ _ hP hD hS (lv_sub hl [1, 2, 0] rfl)
      clear ej
      refine lv_if_eq (tgt := 56) hx hb dX0_mend_49 (by decide) (fun c20 => ?_) (fun c20 => ?_)
      · have h := ik_t c20 h
        refine lv_iconst (v := 0) hx hb dX0_mend_56 (by decide) ?_
        exact hj57 _ h _ _ _ hP hD hS (lv_sub hl [0, 1] rfl)
      · have h := ik_f c20 h
        refine lv_iconst (v := 1) hx hb dX0_mend_52 (by decide) ?_
        refine lv_goto (tgt := 57) hx hb dX0_mend_53 (by decide) ?_
        exact hj57 _ h _ _ _ hP hD hS (lv_sub hl [0, 1] rfl)
  · have h := ik_f c3 h
    refine lv_aload_n hx hb dX0_mend_9 rfl (lv_at hl 0 rfl) ?_
    refine lv_iconst (v := 0) hx hb dX0_mend_10 (by decide) ?_
    refine lv_iload_n hx hb dX0_mend_11 rfl (lv_at hl 1 rfl) ?_
    refine lv_iload_n hx hb dX0_mend_12 rfl (lv_at hl 1 rfl) ?_
    refine lv_bipush (v := 8) hx hb dX0_mend_13 (by decide) ?_
    obtain ⟨j23, ej, h⟩ := jn_ex h
    have hj23 : ∀ (y21 : Int32), j23 y21 = some σz → ∀ (H : Heap) (locs : List Loc) (ls : Array Slot), va_P D vwCl (ck_W cI cZ a σ2) H → va_D A (ck_W cI cZ a σ2) → va_S A s.heap H locs → lv_has ls 3 [(0, .ref (a 1)), (1, .int x1)] → W p l e (headSpec wsX0_mend rm_X0_mend).room s m args below meth c H locs 0 0 (MQ below (ik_Qv D (ck_W cI cZ a) A σz) args s 0 0 A) (F0 m 23 ls [.int y21, .int x1, .int 0, .ref (a 1)]) := by
      rw [ej]; clear h
      intro y21 h H locs ls hP hD hS hl
      obtain ⟨σ22, eh, h⟩ := ik_bd h
      refine ik_Vv (As := [.int 0, .int x1, .int y21]) (rest := []) ⟨hx, hb, hml, hown, hts⟩ (c_X5_putBit l D cI cZ a A 0 x1 y21 σ2 _ eh) (cwV 3 hts gX0_mend_X5_putBit rfl rfl rfl (by decide +kernel) ⟨Nat.le_of_ble_eq_true rfl, Nat.le_of_ble_eq_true rfl⟩) (va_recv hK hP (ci := 3) (q0 := 1) rfl rfl) hP hK hD hN hS rfl hl.1 rfl (Nat.le_of_ble_eq_true rfl) dX0_mend_23 (fun H locs hP hD hS => ?_)
      clear eh
      refine lv_iinc (v := x1 + 1) (lv' := [(1, .int (x1 + 1)), (0, .ref (a 1))]) hx hb dX0_mend_26 hl (k := 1) rfl rfl (by decide) rfl (fun ls hl => ?_)
      refine lv_goto (tgt := 2) hx hb dX0_mend_29 (by decide) ?_
      exact ih2 _ _ h _ _ _ hP hD hS (lv_sub hl [1, 0] rfl)
    clear ej
    refine lv_icmp_gt (tgt := 22) hx hb dX0_mend_15 (by decide) (fun c23 => ?_) (fun c23 => ?_)
    · have h := ik_t c23 h
      refine lv_iconst (v := 0) hx hb dX0_mend_22 (by decide) ?_
      exact hj23 _ h _ _ _ hP hD hS (lv_sub hl [0, 1] rfl)
    · have h := ik_f c23 h
      refine lv_iconst (v := 1) hx hb dX0_mend_18 (by decide) ?_
      refine lv_goto (tgt := 23) hx hb dX0_mend_19 (by decide) ?_
      exact hj23 _ h _ _ _ hP hD hS (lv_sub hl [0, 1] rfl)
abbrev rm_X7_unmark : Room := { frames := 0, cells := 0, slots := 0, locals := 0 }
set_option maxHeartbeats 4000000 in
set_option maxRecDepth 100000 in
theorem c_X7_unmark_4 (l : Launch) (D : va_G) (cI cZ : ClassId) (a : Nat → Nat) (A : Nat → Prop) (σ : ck_S) (σz : ck_S) (h : fX7_unmark_4 σ = some σz) : Met l yX7_unmark wsX7_unmark rm_X7_unmark (va_Pc [.ref (a 4)] (ik_P D [(cI, .int), (cZ, .boolean)] ck_N (ck_W cI cZ a) A σ)) (ik_Qv D (ck_W cI cZ a) A σz) 0 0 A := by
  unfold fX7_unmark_4 at h
  refine Met.ofW (cc := cX7_unmark) (maxL := 2) (ret := none) (by decide) rfl ?_
  intro p e s m args below meth c s₁ B hml hv
  obtain ⟨hAr, hP, hK, hD, hN⟩ := hv
  have hx := B.exec
  have hb := B.bytes
  have hr := B.returns
  have hts := atoms_spec (ws := wsX7_unmark) B.pre
  have hown : s.vm.findClass RX7 = some m.cls := findClass_of_methodNamed B.named
  have hlocks := B.notSynchronized
  have hS : va_S A s.heap s.heap [] := va_S.rf
  have hl := lv_entry ([.ref (a 4)]) (n := 2) (Nat.le_of_ble_eq_true rfl)
  rw [show entryFrame m args 2 = entryFrame m ([.ref (a 4)] : List Value).toArray 2 from by rw [hAr], lg_entry_eq]
  generalize (lg_sl ([.ref (a 4)]) ++ List.replicate (2 - (lg_sl ([.ref (a 4)])).length) Slot.unset).toArray = ls at hl ⊢
  have hl : lv_has ls 2 [(0, .ref (a 4))] := hl
  refine lv_iconst (v := 0) hx hb dX7_unmark_0 (by decide) ?_
  refine lv_istore_n (lv' := [(1, .int 0), (0, .ref (a 4))]) hx hb dX7_unmark_1 rfl hl (by decide) rfl (fun ls hl => ?_)
  refine qp2_W (P := fun (x1 : Int32) (σ2 : ck_S) => ∀ (H : Heap) (locs : List Loc) (ls : Array Slot), va_P D vwCl (ck_W cI cZ a σ2) H → va_D A (ck_W cI cZ a σ2) → va_S A s.heap H locs → lv_has ls 2 [(0, .ref (a 4)), (1, .int x1)] → W p l e (headSpec wsX7_unmark rm_X7_unmark).room s m args below meth c H locs 0 0 (MQ below (ik_Qv D (ck_W cI cZ a) A σz) args s 0 0 A) (F0 m 2 ls [])) ?_ FU _ _ h _ _ _ hP hD hS (lv_sub hl [1, 0] rfl)
  intro rec2 ih2 x1 σ2 h H locs ls hP hD hS hl
  refine lv_iload_n hx hb dX7_unmark_2 rfl (lv_at hl 1 rfl) ?_
  refine lv_aload_n hx hb dX7_unmark_3 rfl (lv_at hl 0 rfl) ?_
  refine va_alen (v := 25) hx hb hK hP 4 1 rfl rfl rfl dX7_unmark_4 ?_
  refine lv_icmp_ge (tgt := 18) hx hb dX7_unmark_5 (by decide) (fun c3 => ?_) (fun c3 => ?_)
  · have h := ik_t c3 h
    exact W.vret hx hb hr (fun t ht hW => ⟨⟨_, rfl, Option.some.inj h, by rw [ht]; exact hP, hD⟩, hS.F ht⟩) hS.2.2 dX7_unmark_18
  · have h := ik_f c3 h
    refine lv_aload_n hx hb dX7_unmark_8 rfl (lv_at hl 0 rfl) ?_
    refine lv_iload_n hx hb dX7_unmark_9 rfl (lv_at hl 1 rfl) ?_
    refine lv_iconst (v := 0) hx hb dX7_unmark_10 (by decide) ?_
    obtain ⟨σ4, eh, h⟩ := ik_bd h
    refine ik_zst (Wd := ck_W cI cZ a) (σ1 := σ4) hx hb hK hP hD hS 4 1 rfl rfl (fun _ => rfl) eh dX7_unmark_11 (fun H locs hP hD hS => ?_)
    clear eh
    refine lv_iinc (v := x1 + 1) (lv' := [(1, .int (x1 + 1)), (0, .ref (a 4))]) hx hb dX7_unmark_12 hl (k := 1) rfl rfl (by decide) rfl (fun ls hl => ?_)
    refine lv_goto (tgt := 2) hx hb dX7_unmark_15 (by decide) ?_
    exact ih2 _ _ h _ _ _ hP hD hS (lv_sub hl [1, 0] rfl)
set_option maxHeartbeats 4000000 in
set_option maxRecDepth 100000 in
theorem c_X7_unmark_6 (l : Launch) (D : va_G) (cI cZ : ClassId) (a : Nat → Nat) (A : Nat → Prop) (σ : ck_S) (σz : ck_S) (h : fX7_unmark_6 σ = some σz) : Met l yX7_unmark wsX7_unmark rm_X7_unmark (va_Pc [.ref (a 6)] (ik_P D [(cI, .int), (cZ, .boolean)] ck_N (ck_W cI cZ a) A σ)) (ik_Qv D (ck_W cI cZ a) A σz) 0 0 A := by
  unfold fX7_unmark_6 at h
  refine Met.ofW (cc := cX7_unmark) (maxL := 2) (ret := none) (by decide) rfl ?_
  intro p e s m args below meth c s₁ B hml hv
  obtain ⟨hAr, hP, hK, hD, hN⟩ := hv
  have hx := B.exec
  have hb := B.bytes
  have hr := B.returns
  have hts := atoms_spec (ws := wsX7_unmark) B.pre
  have hown : s.vm.findClass RX7 = some m.cls := findClass_of_methodNamed B.named
  have hlocks := B.notSynchronized
  have hS : va_S A s.heap s.heap [] := va_S.rf
  have hl := lv_entry ([.ref (a 6)]) (n := 2) (Nat.le_of_ble_eq_true rfl)
  rw [show entryFrame m args 2 = entryFrame m ([.ref (a 6)] : List Value).toArray 2 from by rw [hAr], lg_entry_eq]
  generalize (lg_sl ([.ref (a 6)]) ++ List.replicate (2 - (lg_sl ([.ref (a 6)])).length) Slot.unset).toArray = ls at hl ⊢
  have hl : lv_has ls 2 [(0, .ref (a 6))] := hl
  refine lv_iconst (v := 0) hx hb dX7_unmark_0 (by decide) ?_
  refine lv_istore_n (lv' := [(1, .int 0), (0, .ref (a 6))]) hx hb dX7_unmark_1 rfl hl (by decide) rfl (fun ls hl => ?_)
  refine qp2_W (P := fun (x1 : Int32) (σ2 : ck_S) => ∀ (H : Heap) (locs : List Loc) (ls : Array Slot), va_P D vwCl (ck_W cI cZ a σ2) H → va_D A (ck_W cI cZ a σ2) → va_S A s.heap H locs → lv_has ls 2 [(0, .ref (a 6)), (1, .int x1)] → W p l e (headSpec wsX7_unmark rm_X7_unmark).room s m args below meth c H locs 0 0 (MQ below (ik_Qv D (ck_W cI cZ a) A σz) args s 0 0 A) (F0 m 2 ls [])) ?_ FU _ _ h _ _ _ hP hD hS (lv_sub hl [1, 0] rfl)
  intro rec2 ih2 x1 σ2 h H locs ls hP hD hS hl
  refine lv_iload_n hx hb dX7_unmark_2 rfl (lv_at hl 1 rfl) ?_
  refine lv_aload_n hx hb dX7_unmark_3 rfl (lv_at hl 0 rfl) ?_
  refine va_alen (v := 201) hx hb hK hP 6 1 rfl rfl rfl dX7_unmark_4 ?_
  refine lv_icmp_ge (tgt := 18) hx hb dX7_unmark_5 (by decide) (fun c3 => ?_) (fun c3 => ?_)
  · have h := ik_t c3 h
    exact W.vret hx hb hr (fun t ht hW => ⟨⟨_, rfl, Option.some.inj h, by rw [ht]; exact hP, hD⟩, hS.F ht⟩) hS.2.2 dX7_unmark_18
  · have h := ik_f c3 h
    refine lv_aload_n hx hb dX7_unmark_8 rfl (lv_at hl 0 rfl) ?_
    refine lv_iload_n hx hb dX7_unmark_9 rfl (lv_at hl 1 rfl) ?_
    refine lv_iconst (v := 0) hx hb dX7_unmark_10 (by decide) ?_
    obtain ⟨σ4, eh, h⟩ := ik_bd h
    refine ik_zst (Wd := ck_W cI cZ a) (σ1 := σ4) hx hb hK hP hD hS 6 1 rfl rfl (fun _ => rfl) eh dX7_unmark_11 (fun H locs hP hD hS => ?_)
    clear eh
    refine lv_iinc (v := x1 + 1) (lv' := [(1, .int (x1 + 1)), (0, .ref (a 6))]) hx hb dX7_unmark_12 hl (k := 1) rfl rfl (by decide) rfl (fun ls hl => ?_)
    refine lv_goto (tgt := 2) hx hb dX7_unmark_15 (by decide) ?_
    exact ih2 _ _ h _ _ _ hP hD hS (lv_sub hl [1, 0] rfl)
set_option maxHeartbeats 4000000 in
set_option maxRecDepth 100000 in
theorem c_X7_unmark_8 (l : Launch) (D : va_G) (cI cZ : ClassId) (a : Nat → Nat) (A : Nat → Prop) (σ : ck_S) (σz : ck_S) (h : fX7_unmark_8 σ = some σz) : Met l yX7_unmark wsX7_unmark rm_X7_unmark (va_Pc [.ref (a 8)] (ik_P D [(cI, .int), (cZ, .boolean)] ck_N (ck_W cI cZ a) A σ)) (ik_Qv D (ck_W cI cZ a) A σz) 0 0 A := by
  unfold fX7_unmark_8 at h
  refine Met.ofW (cc := cX7_unmark) (maxL := 2) (ret := none) (by decide) rfl ?_
  intro p e s m args below meth c s₁ B hml hv
  obtain ⟨hAr, hP, hK, hD, hN⟩ := hv
  have hx := B.exec
  have hb := B.bytes
  have hr := B.returns
  have hts := atoms_spec (ws := wsX7_unmark) B.pre
  have hown : s.vm.findClass RX7 = some m.cls := findClass_of_methodNamed B.named
  have hlocks := B.notSynchronized
  have hS : va_S A s.heap s.heap [] := va_S.rf
  have hl := lv_entry ([.ref (a 8)]) (n := 2) (Nat.le_of_ble_eq_true rfl)
  rw [show entryFrame m args 2 = entryFrame m ([.ref (a 8)] : List Value).toArray 2 from by rw [hAr], lg_entry_eq]
  generalize (lg_sl ([.ref (a 8)]) ++ List.replicate (2 - (lg_sl ([.ref (a 8)])).length) Slot.unset).toArray = ls at hl ⊢
  have hl : lv_has ls 2 [(0, .ref (a 8))] := hl
  refine lv_iconst (v := 0) hx hb dX7_unmark_0 (by decide) ?_
  refine lv_istore_n (lv' := [(1, .int 0), (0, .ref (a 8))]) hx hb dX7_unmark_1 rfl hl (by decide) rfl (fun ls hl => ?_)
  refine qp2_W (P := fun (x1 : Int32) (σ2 : ck_S) => ∀ (H : Heap) (locs : List Loc) (ls : Array Slot), va_P D vwCl (ck_W cI cZ a σ2) H → va_D A (ck_W cI cZ a σ2) → va_S A s.heap H locs → lv_has ls 2 [(0, .ref (a 8)), (1, .int x1)] → W p l e (headSpec wsX7_unmark rm_X7_unmark).room s m args below meth c H locs 0 0 (MQ below (ik_Qv D (ck_W cI cZ a) A σz) args s 0 0 A) (F0 m 2 ls [])) ?_ FU _ _ h _ _ _ hP hD hS (lv_sub hl [1, 0] rfl)
  intro rec2 ih2 x1 σ2 h H locs ls hP hD hS hl
  refine lv_iload_n hx hb dX7_unmark_2 rfl (lv_at hl 1 rfl) ?_
  refine lv_aload_n hx hb dX7_unmark_3 rfl (lv_at hl 0 rfl) ?_
  refine va_alen (v := 25) hx hb hK hP 8 1 rfl rfl rfl dX7_unmark_4 ?_
  refine lv_icmp_ge (tgt := 18) hx hb dX7_unmark_5 (by decide) (fun c3 => ?_) (fun c3 => ?_)
  · have h := ik_t c3 h
    exact W.vret hx hb hr (fun t ht hW => ⟨⟨_, rfl, Option.some.inj h, by rw [ht]; exact hP, hD⟩, hS.F ht⟩) hS.2.2 dX7_unmark_18
  · have h := ik_f c3 h
    refine lv_aload_n hx hb dX7_unmark_8 rfl (lv_at hl 0 rfl) ?_
    refine lv_iload_n hx hb dX7_unmark_9 rfl (lv_at hl 1 rfl) ?_
    refine lv_iconst (v := 0) hx hb dX7_unmark_10 (by decide) ?_
    obtain ⟨σ4, eh, h⟩ := ik_bd h
    refine ik_zst (Wd := ck_W cI cZ a) (σ1 := σ4) hx hb hK hP hD hS 8 1 rfl rfl (fun _ => rfl) eh dX7_unmark_11 (fun H locs hP hD hS => ?_)
    clear eh
    refine lv_iinc (v := x1 + 1) (lv' := [(1, .int (x1 + 1)), (0, .ref (a 8))]) hx hb dX7_unmark_12 hl (k := 1) rfl rfl (by decide) rfl (fun ls hl => ?_)
    refine lv_goto (tgt := 2) hx hb dX7_unmark_15 (by decide) ?_
    exact ih2 _ _ h _ _ _ hP hD hS (lv_sub hl [1, 0] rfl)
set_option maxHeartbeats 4000000 in
set_option maxRecDepth 100000 in
theorem c_X7_unmark_10 (l : Launch) (D : va_G) (cI cZ : ClassId) (a : Nat → Nat) (A : Nat → Prop) (σ : ck_S) (σz : ck_S) (h : fX7_unmark_10 σ = some σz) : Met l yX7_unmark wsX7_unmark rm_X7_unmark (va_Pc [.ref (a 10)] (ik_P D [(cI, .int), (cZ, .boolean)] ck_N (ck_W cI cZ a) A σ)) (ik_Qv D (ck_W cI cZ a) A σz) 0 0 A := by
  unfold fX7_unmark_10 at h
  refine Met.ofW (cc := cX7_unmark) (maxL := 2) (ret := none) (by decide) rfl ?_
  intro p e s m args below meth c s₁ B hml hv
  obtain ⟨hAr, hP, hK, hD, hN⟩ := hv
  have hx := B.exec
  have hb := B.bytes
  have hr := B.returns
  have hts := atoms_spec (ws := wsX7_unmark) B.pre
  have hown : s.vm.findClass RX7 = some m.cls := findClass_of_methodNamed B.named
  have hlocks := B.notSynchronized
  have hS : va_S A s.heap s.heap [] := va_S.rf
  have hl := lv_entry ([.ref (a 10)]) (n := 2) (Nat.le_of_ble_eq_true rfl)
  rw [show entryFrame m args 2 = entryFrame m ([.ref (a 10)] : List Value).toArray 2 from by rw [hAr], lg_entry_eq]
  generalize (lg_sl ([.ref (a 10)]) ++ List.replicate (2 - (lg_sl ([.ref (a 10)])).length) Slot.unset).toArray = ls at hl ⊢
  have hl : lv_has ls 2 [(0, .ref (a 10))] := hl
  refine lv_iconst (v := 0) hx hb dX7_unmark_0 (by decide) ?_
  refine lv_istore_n (lv' := [(1, .int 0), (0, .ref (a 10))]) hx hb dX7_unmark_1 rfl hl (by decide) rfl (fun ls hl => ?_)
  refine qp2_W (P := fun (x1 : Int32) (σ2 : ck_S) => ∀ (H : Heap) (locs : List Loc) (ls : Array Slot), va_P D vwCl (ck_W cI cZ a σ2) H → va_D A (ck_W cI cZ a σ2) → va_S A s.heap H locs → lv_has ls 2 [(0, .ref (a 10)), (1, .int x1)] → W p l e (headSpec wsX7_unmark rm_X7_unmark).room s m args below meth c H locs 0 0 (MQ below (ik_Qv D (ck_W cI cZ a) A σz) args s 0 0 A) (F0 m 2 ls [])) ?_ FU _ _ h _ _ _ hP hD hS (lv_sub hl [1, 0] rfl)
  intro rec2 ih2 x1 σ2 h H locs ls hP hD hS hl
  refine lv_iload_n hx hb dX7_unmark_2 rfl (lv_at hl 1 rfl) ?_
  refine lv_aload_n hx hb dX7_unmark_3 rfl (lv_at hl 0 rfl) ?_
  refine va_alen (v := 25) hx hb hK hP 10 1 rfl rfl rfl dX7_unmark_4 ?_
  refine lv_icmp_ge (tgt := 18) hx hb dX7_unmark_5 (by decide) (fun c3 => ?_) (fun c3 => ?_)
  · have h := ik_t c3 h
    exact W.vret hx hb hr (fun t ht hW => ⟨⟨_, rfl, Option.some.inj h, by rw [ht]; exact hP, hD⟩, hS.F ht⟩) hS.2.2 dX7_unmark_18
  · have h := ik_f c3 h
    refine lv_aload_n hx hb dX7_unmark_8 rfl (lv_at hl 0 rfl) ?_
    refine lv_iload_n hx hb dX7_unmark_9 rfl (lv_at hl 1 rfl) ?_
    refine lv_iconst (v := 0) hx hb dX7_unmark_10 (by decide) ?_
    obtain ⟨σ4, eh, h⟩ := ik_bd h
    refine ik_zst (Wd := ck_W cI cZ a) (σ1 := σ4) hx hb hK hP hD hS 10 1 rfl rfl (fun _ => rfl) eh dX7_unmark_11 (fun H locs hP hD hS => ?_)
    clear eh
    refine lv_iinc (v := x1 + 1) (lv' := [(1, .int (x1 + 1)), (0, .ref (a 10))]) hx hb dX7_unmark_12 hl (k := 1) rfl rfl (by decide) rfl (fun ls hl => ?_)
    refine lv_goto (tgt := 2) hx hb dX7_unmark_15 (by decide) ?_
    exact ih2 _ _ h _ _ _ hP hD hS (lv_sub hl [1, 0] rfl)
set_option maxHeartbeats 4000000 in
set_option maxRecDepth 100000 in
theorem c_X7_unmark_13 (l : Launch) (D : va_G) (cI cZ : ClassId) (a : Nat → Nat) (A : Nat → Prop) (σ : ck_S) (σz : ck_S) (h : fX7_unmark_13 σ = some σz) : Met l yX7_unmark wsX7_unmark rm_X7_unmark (va_Pc [.ref (a 13)] (ik_P D [(cI, .int), (cZ, .boolean)] ck_N (ck_W cI cZ a) A σ)) (ik_Qv D (ck_W cI cZ a) A σz) 0 0 A := by
  unfold fX7_unmark_13 at h
  refine Met.ofW (cc := cX7_unmark) (maxL := 2) (ret := none) (by decide) rfl ?_
  intro p e s m args below meth c s₁ B hml hv
  obtain ⟨hAr, hP, hK, hD, hN⟩ := hv
  have hx := B.exec
  have hb := B.bytes
  have hr := B.returns
  have hts := atoms_spec (ws := wsX7_unmark) B.pre
  have hown : s.vm.findClass RX7 = some m.cls := findClass_of_methodNamed B.named
  have hlocks := B.notSynchronized
  have hS : va_S A s.heap s.heap [] := va_S.rf
  have hl := lv_entry ([.ref (a 13)]) (n := 2) (Nat.le_of_ble_eq_true rfl)
  rw [show entryFrame m args 2 = entryFrame m ([.ref (a 13)] : List Value).toArray 2 from by rw [hAr], lg_entry_eq]
  generalize (lg_sl ([.ref (a 13)]) ++ List.replicate (2 - (lg_sl ([.ref (a 13)])).length) Slot.unset).toArray = ls at hl ⊢
  have hl : lv_has ls 2 [(0, .ref (a 13))] := hl
  refine lv_iconst (v := 0) hx hb dX7_unmark_0 (by decide) ?_
  refine lv_istore_n (lv' := [(1, .int 0), (0, .ref (a 13))]) hx hb dX7_unmark_1 rfl hl (by decide) rfl (fun ls hl => ?_)
  refine qp2_W (P := fun (x1 : Int32) (σ2 : ck_S) => ∀ (H : Heap) (locs : List Loc) (ls : Array Slot), va_P D vwCl (ck_W cI cZ a σ2) H → va_D A (ck_W cI cZ a σ2) → va_S A s.heap H locs → lv_has ls 2 [(0, .ref (a 13)), (1, .int x1)] → W p l e (headSpec wsX7_unmark rm_X7_unmark).room s m args below meth c H locs 0 0 (MQ below (ik_Qv D (ck_W cI cZ a) A σz) args s 0 0 A) (F0 m 2 ls [])) ?_ FU _ _ h _ _ _ hP hD hS (lv_sub hl [1, 0] rfl)
  intro rec2 ih2 x1 σ2 h H locs ls hP hD hS hl
  refine lv_iload_n hx hb dX7_unmark_2 rfl (lv_at hl 1 rfl) ?_
  refine lv_aload_n hx hb dX7_unmark_3 rfl (lv_at hl 0 rfl) ?_
  refine va_alen (v := 25) hx hb hK hP 13 1 rfl rfl rfl dX7_unmark_4 ?_
  refine lv_icmp_ge (tgt := 18) hx hb dX7_unmark_5 (by decide) (fun c3 => ?_) (fun c3 => ?_)
  · have h := ik_t c3 h
    exact W.vret hx hb hr (fun t ht hW => ⟨⟨_, rfl, Option.some.inj h, by rw [ht]; exact hP, hD⟩, hS.F ht⟩) hS.2.2 dX7_unmark_18
  · have h := ik_f c3 h
    refine lv_aload_n hx hb dX7_unmark_8 rfl (lv_at hl 0 rfl) ?_
    refine lv_iload_n hx hb dX7_unmark_9 rfl (lv_at hl 1 rfl) ?_
    refine lv_iconst (v := 0) hx hb dX7_unmark_10 (by decide) ?_
    obtain ⟨σ4, eh, h⟩ := ik_bd h
    refine ik_zst (Wd := ck_W cI cZ a) (σ1 := σ4) hx hb hK hP hD hS 13 1 rfl rfl (fun _ => rfl) eh dX7_unmark_11 (fun H locs hP hD hS => ?_)
    clear eh
    refine lv_iinc (v := x1 + 1) (lv' := [(1, .int (x1 + 1)), (0, .ref (a 13))]) hx hb dX7_unmark_12 hl (k := 1) rfl rfl (by decide) rfl (fun ls hl => ?_)
    refine lv_goto (tgt := 2) hx hb dX7_unmark_15 (by decide) ?_
    exact ih2 _ _ h _ _ _ hP hD hS (lv_sub hl [1, 0] rfl)
set_option maxHeartbeats 4000000 in
set_option maxRecDepth 100000 in
theorem c_X7_unmark_14 (l : Launch) (D : va_G) (cI cZ : ClassId) (a : Nat → Nat) (A : Nat → Prop) (σ : ck_S) (σz : ck_S) (h : fX7_unmark_14 σ = some σz) : Met l yX7_unmark wsX7_unmark rm_X7_unmark (va_Pc [.ref (a 14)] (ik_P D [(cI, .int), (cZ, .boolean)] ck_N (ck_W cI cZ a) A σ)) (ik_Qv D (ck_W cI cZ a) A σz) 0 0 A := by
  unfold fX7_unmark_14 at h
  refine Met.ofW (cc := cX7_unmark) (maxL := 2) (ret := none) (by decide) rfl ?_
  intro p e s m args below meth c s₁ B hml hv
  obtain ⟨hAr, hP, hK, hD, hN⟩ := hv
  have hx := B.exec
  have hb := B.bytes
  have hr := B.returns
  have hts := atoms_spec (ws := wsX7_unmark) B.pre
  have hown : s.vm.findClass RX7 = some m.cls := findClass_of_methodNamed B.named
  have hlocks := B.notSynchronized
  have hS : va_S A s.heap s.heap [] := va_S.rf
  have hl := lv_entry ([.ref (a 14)]) (n := 2) (Nat.le_of_ble_eq_true rfl)
  rw [show entryFrame m args 2 = entryFrame m ([.ref (a 14)] : List Value).toArray 2 from by rw [hAr], lg_entry_eq]
  generalize (lg_sl ([.ref (a 14)]) ++ List.replicate (2 - (lg_sl ([.ref (a 14)])).length) Slot.unset).toArray = ls at hl ⊢
  have hl : lv_has ls 2 [(0, .ref (a 14))] := hl
  refine lv_iconst (v := 0) hx hb dX7_unmark_0 (by decide) ?_
  refine lv_istore_n (lv' := [(1, .int 0), (0, .ref (a 14))]) hx hb dX7_unmark_1 rfl hl (by decide) rfl (fun ls hl => ?_)
  refine qp2_W (P := fun (x1 : Int32) (σ2 : ck_S) => ∀ (H : Heap) (locs : List Loc) (ls : Array Slot), va_P D vwCl (ck_W cI cZ a σ2) H → va_D A (ck_W cI cZ a σ2) → va_S A s.heap H locs → lv_has ls 2 [(0, .ref (a 14)), (1, .int x1)] → W p l e (headSpec wsX7_unmark rm_X7_unmark).room s m args below meth c H locs 0 0 (MQ below (ik_Qv D (ck_W cI cZ a) A σz) args s 0 0 A) (F0 m 2 ls [])) ?_ FU _ _ h _ _ _ hP hD hS (lv_sub hl [1, 0] rfl)
  intro rec2 ih2 x1 σ2 h H locs ls hP hD hS hl
  refine lv_iload_n hx hb dX7_unmark_2 rfl (lv_at hl 1 rfl) ?_
  refine lv_aload_n hx hb dX7_unmark_3 rfl (lv_at hl 0 rfl) ?_
  refine va_alen (v := 25) hx hb hK hP 14 1 rfl rfl rfl dX7_unmark_4 ?_
  refine lv_icmp_ge (tgt := 18) hx hb dX7_unmark_5 (by decide) (fun c3 => ?_) (fun c3 => ?_)
  · have h := ik_t c3 h
    exact W.vret hx hb hr (fun t ht hW => ⟨⟨_, rfl, Option.some.inj h, by rw [ht]; exact hP, hD⟩, hS.F ht⟩) hS.2.2 dX7_unmark_18
  · have h := ik_f c3 h
    refine lv_aload_n hx hb dX7_unmark_8 rfl (lv_at hl 0 rfl) ?_
    refine lv_iload_n hx hb dX7_unmark_9 rfl (lv_at hl 1 rfl) ?_
    refine lv_iconst (v := 0) hx hb dX7_unmark_10 (by decide) ?_
    obtain ⟨σ4, eh, h⟩ := ik_bd h
    refine ik_zst (Wd := ck_W cI cZ a) (σ1 := σ4) hx hb hK hP hD hS 14 1 rfl rfl (fun _ => rfl) eh dX7_unmark_11 (fun H locs hP hD hS => ?_)
    clear eh
    refine lv_iinc (v := x1 + 1) (lv' := [(1, .int (x1 + 1)), (0, .ref (a 14))]) hx hb dX7_unmark_12 hl (k := 1) rfl rfl (by decide) rfl (fun ls hl => ?_)
    refine lv_goto (tgt := 2) hx hb dX7_unmark_15 (by decide) ?_
    exact ih2 _ _ h _ _ _ hP hD hS (lv_sub hl [1, 0] rfl)
abbrev rm_X5_entryCell : Room := { frames := 0, cells := 0, slots := 0, locals := 0 }
set_option maxHeartbeats 4000000 in
set_option maxRecDepth 100000 in
theorem c_X5_entryCell (l : Launch) (D : va_G) (cI cZ : ClassId) (a : Nat → Nat) (A : Nat → Prop) (p0 : Int32) (p1 : Int32) (σ : ck_S) (rz : Int32) (h : fX5_entryCell p0 p1 = some rz) : Met l yX5_entryCell wsX5_entryCell rm_X5_entryCell (va_Pc [.int p0, .int p1] (ik_P D [(cI, .int), (cZ, .boolean)] ck_N (ck_W cI cZ a) A σ)) (ik_Qi D (ck_W cI cZ a) A rz σ) 0 0 A := by
  unfold fX5_entryCell at h
  refine Met.ofW (cc := cX5_entryCell) (maxL := 2) (ret := (some .int)) (by decide) rfl ?_
  intro p e s m args below meth c s₁ B hml hv
  obtain ⟨hAr, hP, hK, hD, hN⟩ := hv
  have hx := B.exec
  have hb := B.bytes
  have hr := B.returns
  have hts := atoms_spec (ws := wsX5_entryCell) B.pre
  have hown : s.vm.findClass RX5 = some m.cls := findClass_of_methodNamed B.named
  have hlocks := B.notSynchronized
  have hS : va_S A s.heap s.heap [] := va_S.rf
  have hl := lv_entry ([.int p0, .int p1]) (n := 2) (Nat.le_of_ble_eq_true rfl)
  rw [show entryFrame m args 2 = entryFrame m ([.int p0, .int p1] : List Value).toArray 2 from by rw [hAr], lg_entry_eq]
  generalize (lg_sl ([.int p0, .int p1]) ++ List.replicate (2 - (lg_sl ([.int p0, .int p1])).length) Slot.unset).toArray = ls at hl ⊢
  have hl : lv_has ls 2 [(0, .int p0), (1, .int p1)] := hl
  refine lv_iload_n hx hb dX5_entryCell_0 rfl (lv_at hl 0 rfl) ?_
  refine lv_iconst (v := 1) hx hb dX5_entryCell_1 (by decide) ?_
  refine lv_isub hx hb dX5_entryCell_2 ?_
  refine lv_bipush (v := 47) hx hb dX5_entryCell_3 (by decide) ?_
  refine lv_imul hx hb dX5_entryCell_5 ?_
  refine lv_bipush (v := 23) hx hb dX5_entryCell_6 (by decide) ?_
  refine lv_iadd hx hb dX5_entryCell_8 ?_
  refine lv_iload_n hx hb dX5_entryCell_9 rfl (lv_at hl 1 rfl) ?_
  refine lv_iconst (v := 3) hx hb dX5_entryCell_10 (by decide) ?_
  refine lv_imul hx hb dX5_entryCell_11 ?_
  refine lv_iadd hx hb dX5_entryCell_12 ?_
  exact W.iret hx hb hr (fun t ht hW => ⟨⟨_, _, rfl, ⟨Option.some.inj h, rfl⟩, by rw [ht]; exact hP, hD⟩, hS.F ht⟩) hS.2.2 dX5_entryCell_13
abbrev rm_X5_entryPart : Room := { frames := 1, cells := 0, slots := 0, locals := 21 }
theorem in_X5_entryPart_X5 : ∀ w ∈ wsX50, w ∈ wsX5_entryPart := by decide +kernel
set_option maxHeartbeats 4000000 in
set_option maxRecDepth 100000 in
theorem c_X5_entryPart (l : Launch) (D : va_G) (cI cZ : ClassId) (a : Nat → Nat) (A : Nat → Prop) (p0 : Int32) (p1 : Int32) (p2 : Int32) (σ : ck_S) (rz : Int32) (h : fX5_entryPart p0 p1 p2 σ = some rz) : Met l yX5_entryPart wsX5_entryPart rm_X5_entryPart (va_Pc [.ref (a 1), .int p0, .int p1, .int p2] (ik_P D [(cI, .int), (cZ, .boolean)] ck_N (ck_W cI cZ a) A σ)) (ik_Qi D (ck_W cI cZ a) A rz σ) 0 0 A := by
  unfold fX5_entryPart at h
  refine Met.ofW (cc := cX5_entryPart) (maxL := 4) (ret := (some .int)) (by decide) rfl ?_
  intro p e s m args below meth c s₁ B hml hv
  obtain ⟨hAr, hP, hK, hD, hN⟩ := hv
  have hx := B.exec
  have hb := B.bytes
  have hr := B.returns
  have hts := atoms_spec (ws := wsX5_entryPart) B.pre
  have hown : s.vm.findClass RX5 = some m.cls := findClass_of_methodNamed B.named
  have hlocks := B.notSynchronized
  have hS : va_S A s.heap s.heap [] := va_S.rf
  have hl := lv_entry ([.ref (a 1), .int p0, .int p1, .int p2]) (n := 4) (Nat.le_of_ble_eq_true rfl)
  rw [show entryFrame m args 4 = entryFrame m ([.ref (a 1), .int p0, .int p1, .int p2] : List Value).toArray 4 from by rw [hAr], lg_entry_eq]
  generalize (lg_sl ([.ref (a 1), .int p0, .int p1, .int p2]) ++ List.replicate (4 - (lg_sl ([.ref (a 1), .int p0, .int p1, .int p2])).length) Slot.unset).toArray = ls at hl ⊢
  have hl : lv_has ls 4 [(0, .ref (a 1)), (1, .int p0), (2, .int p1), (3, .int p2)] := hl
  refine lv_aload_n hx hb dX5_entryPart_0 rfl (lv_at hl 0 rfl) ?_
  refine va_get (D := D) (ci := 3) (v := .ref (a 2)) (C := RX5) (T := TX5) (N := 2) hx hb hts in_X5_entryPart_X5 hown hK hP 1 rfl rfl 0 (by decide) (hts (.fieldLink RX5 11 "ImageChecker$Tables" "cells" "[I") (by decide +kernel)) (fun _ h9 => h9) rfl dX5_entryPart_1 ?_
  refine lv_iload_n hx hb dX5_entryPart_4 rfl (lv_at hl 1 rfl) ?_
  refine lv_iload_n hx hb dX5_entryPart_5 rfl (lv_at hl 2 rfl) ?_
  obtain ⟨v1, eh, h⟩ := ik_bd h
  refine ik_Si (As := [.int p0, .int p1]) (rest := [.ref (a 2)]) ⟨hx, hb, hml, hown, hts⟩ (c_X5_entryCell l D cI cZ a A p0 p1 σ _ eh) (va_cwS 2 hts gX5_entryPart_X5_entryCell rfl rfl rfl (by decide +kernel) ⟨Nat.le_of_ble_eq_true rfl, Nat.le_of_ble_eq_true rfl⟩) hP hK hD hN hS rfl hl.1 rfl (Nat.le_of_ble_eq_true rfl) dX5_entryPart_6 (fun H locs hP hD hS => ?_)
  clear eh
  refine lv_iload_n hx hb dX5_entryPart_9 rfl (lv_at hl 3 rfl) ?_
  refine lv_iadd hx hb dX5_entryPart_10 ?_
  obtain ⟨v2, eh, h⟩ := ik_bd h
  refine ik_ld hx hb hK hP 2 0 rfl rfl eh dX5_entryPart_11 ?_
  clear eh
  exact W.iret hx hb hr (fun t ht hW => ⟨⟨_, _, rfl, ⟨Option.some.inj h, rfl⟩, by rw [ht]; exact hP, hD⟩, hS.F ht⟩) hS.2.2 dX5_entryPart_12
abbrev rm_X5_placeOfName : Room := { frames := 2, cells := 0, slots := 0, locals := 44 }
set_option maxHeartbeats 4000000 in
set_option maxRecDepth 100000 in
theorem c_X5_placeOfName (l : Launch) (D : va_G) (cI cZ : ClassId) (a : Nat → Nat) (A : Nat → Prop) (p0 : Int32) (p1 : Int32) (p2 : Int32) (σ : ck_S) (rz : Int32) (h : fX5_placeOfName p0 p1 p2 σ = some rz) : Met l yX5_placeOfName wsX5_placeOfName rm_X5_placeOfName (va_Pc [.ref (a 1), .int p0, .int p1, .int p2] (ik_P D [(cI, .int), (cZ, .boolean)] ck_N (ck_W cI cZ a) A σ)) (ik_Qi D (ck_W cI cZ a) A rz σ) 0 0 A := by
  unfold fX5_placeOfName at h
  refine Met.ofW (cc := cX5_placeOfName) (maxL := 5) (ret := (some .int)) (by decide) rfl ?_
  intro p e s m args below meth c s₁ B hml hv
  obtain ⟨hAr, hP, hK, hD, hN⟩ := hv
  have hx := B.exec
  have hb := B.bytes
  have hr := B.returns
  have hts := atoms_spec (ws := wsX5_placeOfName) B.pre
  have hown : s.vm.findClass RX5 = some m.cls := findClass_of_methodNamed B.named
  have hlocks := B.notSynchronized
  have hS : va_S A s.heap s.heap [] := va_S.rf
  have hl := lv_entry ([.ref (a 1), .int p0, .int p1, .int p2]) (n := 5) (Nat.le_of_ble_eq_true rfl)
  rw [show entryFrame m args 5 = entryFrame m ([.ref (a 1), .int p0, .int p1, .int p2] : List Value).toArray 5 from by rw [hAr], lg_entry_eq]
  generalize (lg_sl ([.ref (a 1), .int p0, .int p1, .int p2]) ++ List.replicate (5 - (lg_sl ([.ref (a 1), .int p0, .int p1, .int p2])).length) Slot.unset).toArray = ls at hl ⊢
  have hl : lv_has ls 5 [(0, .ref (a 1)), (1, .int p0), (2, .int p1), (3, .int p2)] := hl
  refine lv_iconst (v := 0) hx hb dX5_placeOfName_0 (by decide) ?_
  refine lv_istore (lv' := [(4, .int 0), (0, .ref (a 1)), (1, .int p0), (2, .int p1), (3, .int p2)]) hx hb dX5_placeOfName_1 hl (by decide) rfl (fun ls hl => ?_)
  refine qp1_W (P := fun (x1 : Int32) => ∀ (H : Heap) (locs : List Loc) (ls : Array Slot), va_P D vwCl (ck_W cI cZ a σ) H → va_D A (ck_W cI cZ a σ) → va_S A s.heap H locs → lv_has ls 5 [(0, .ref (a 1)), (1, .int p0), (2, .int p1), (3, .int p2), (4, .int x1)] → W p l e (headSpec wsX5_placeOfName rm_X5_placeOfName).room s m args below meth c H locs 0 0 (MQ below (ik_Qi D (ck_W cI cZ a) A rz σ) args s 0 0 A) (F0 m 3 ls [])) ?_ FU _ h _ _ _ hP hD hS (lv_sub hl [1, 2, 3, 4, 0] rfl)
  intro rec3 ih3 x1 h H locs ls hP hD hS hl
  refine lv_iload hx hb dX5_placeOfName_3 (lv_at hl 4 rfl) ?_
  refine lv_iload_n hx hb dX5_placeOfName_5 rfl (lv_at hl 2 rfl) ?_
  refine lv_icmp_ge (tgt := 30) hx hb dX5_placeOfName_6 (by decide) (fun c2 => ?_) (fun c2 => ?_)
  · have h := ik_t c2 h
    refine lv_iload_n hx hb dX5_placeOfName_30 rfl (lv_at hl 2 rfl) ?_
    exact W.iret hx hb hr (fun t ht hW => ⟨⟨_, _, rfl, ⟨Option.some.inj h, rfl⟩, by rw [ht]; exact hP, hD⟩, hS.F ht⟩) hS.2.2 dX5_placeOfName_31
  · have h := ik_f c2 h
    refine lv_aload_n hx hb dX5_placeOfName_9 rfl (lv_at hl 0 rfl) ?_
    refine lv_iload_n hx hb dX5_placeOfName_10 rfl (lv_at hl 1 rfl) ?_
    refine lv_iload hx hb dX5_placeOfName_11 (lv_at hl 4 rfl) ?_
    refine lv_iconst (v := 0) hx hb dX5_placeOfName_13 (by decide) ?_
    obtain ⟨v3, eh, h⟩ := ik_bd h
    refine ik_Vi (As := [.int p0, .int x1, .int 0]) (rest := []) ⟨hx, hb, hml, hown, hts⟩ (c_X5_entryPart l D cI cZ a A p0 x1 0 σ _ eh) (cwV 3 hts gX5_placeOfName_X5_entryPart rfl rfl rfl (by decide +kernel) ⟨Nat.le_of_ble_eq_true rfl, Nat.le_of_ble_eq_true rfl⟩) (va_recv hK hP (ci := 3) (q0 := 1) rfl rfl) hP hK hD hN hS rfl hl.1 rfl (Nat.le_of_ble_eq_true rfl) dX5_placeOfName_14 (fun H locs hP hD hS => ?_)
    clear eh
    refine lv_iload_n hx hb dX5_placeOfName_17 rfl (lv_at hl 3 rfl) ?_
    refine lv_icmp_ne (tgt := 24) hx hb dX5_placeOfName_18 (by decide) (fun c4 => ?_) (fun c4 => ?_)
    · have h := ik_f c4 h
      refine lv_iinc (v := x1 + 1) (lv' := [(4, .int (x1 + 1)), (0, .ref (a 1)), (1, .int p0), (2, .int p1), (3, .int p2)]) hx hb dX5_placeOfName_24 hl (k := 4) rfl rfl (by decide) rfl (fun ls hl => ?_)
      refine lv_goto (tgt := 3) hx hb dX5_placeOfName_27 (by decide) ?_
      exact ih3 _ h _ _ _ hP hD hS (lv_sub hl [1, 2, 3, 4, 0] rfl)
    · have h := ik_t c4 h
      refine lv_iload hx hb dX5_placeOfName_21 (lv_at hl 4 rfl) ?_
      exact W.iret hx hb hr (fun t ht hW => ⟨⟨_, _, rfl, ⟨Option.some.inj h, rfl⟩, by rw [ht]; exact hP, hD⟩, hS.F ht⟩) hS.2.2 dX5_placeOfName_23
