abbrev rm_X2_mend : Room := { frames := 5, cells := 0, slots := 0, locals := 117 }
theorem in_X2_mend_X2 : ∀ w ∈ wsX20, w ∈ wsX2_mend := by decide +kernel
set_option maxHeartbeats 4000000 in
set_option maxRecDepth 100000 in
theorem c_X2_mend (l : Launch) (D : va_G) (cI cZ : ClassId) (a : Nat → Nat) (A : Nat → Prop) (σ : ck_S) (σz : ck_S) (h : fX2_mend σ = some σz) : Met l yX2_mend wsX2_mend rm_X2_mend (va_Pc [.ref (a 9), .ref (a 1), .ref (a 12), .ref (a 4)] (ik_P D [(cI, .int), (cZ, .boolean)] ck_N (ck_W cI cZ a) A σ)) (ik_Qv D (ck_W cI cZ a) A σz) 0 0 A := by
  unfold fX2_mend at h
  refine Met.ofW (cc := cX2_mend) (maxL := 5) (ret := none) (by decide) rfl ?_
  intro p e s m args below meth c s₁ B hml hv
  obtain ⟨hAr, hP, hK, hD, hN⟩ := hv
  have hx := B.exec
  have hb := B.bytes
  have hr := B.returns
  have hts := atoms_spec (ws := wsX2_mend) B.pre
  have hown : s.vm.findClass RX2 = some m.cls := findClass_of_methodNamed B.named
  have hlocks := B.notSynchronized
  have hS : va_S A s.heap s.heap [] := va_S.rf
  have hl := lv_entry ([.ref (a 9), .ref (a 1), .ref (a 12), .ref (a 4)]) (n := 5) (Nat.le_of_ble_eq_true rfl)
  rw [show entryFrame m args 5 = entryFrame m ([.ref (a 9), .ref (a 1), .ref (a 12), .ref (a 4)] : List Value).toArray 5 from by rw [hAr], lg_entry_eq]
  generalize (lg_sl ([.ref (a 9), .ref (a 1), .ref (a 12), .ref (a 4)]) ++ List.replicate (5 - (lg_sl ([.ref (a 9), .ref (a 1), .ref (a 12), .ref (a 4)])).length) Slot.unset).toArray = ls at hl ⊢
  have hl : lv_has ls 5 [(0, .ref (a 9)), (1, .ref (a 1)), (2, .ref (a 12)), (3, .ref (a 4))] := hl
  refine lv_aload_n hx hb dX2_mend_0 rfl (lv_at hl 0 rfl) ?_
  refine va_get (D := D) (ci := 1) (v := .ref (a 10)) (C := RX2) (T := TX2) (N := 3) hx hb hts in_X2_mend_X2 hown hK hP 9 rfl rfl 0 (by decide) (hts (.fieldLink RX2 9 "ImageChecker$HangingPass" "reached" "[Z") (by decide +kernel)) (fun _ h9 => h9) rfl dX2_mend_1 ?_
  obtain ⟨σ1, eh, h⟩ := ik_bd h
  refine ik_Nv (As := [.ref (a 10)]) (rest := []) ⟨hx, hb, hml, hown, hts⟩ (c_X7_unmark_10 l D cI cZ a A  σ _ eh) ⟨va_cnB (host := "ImageChecker") 1 hts gX2_mend_X7_unmark_n23 rfl rfl rfl (hN (RX2, 23, yX7_unmark) (by decide)) (hts (.initialized RX7) (by decide +kernel)) (by decide +kernel) ⟨Nat.le_of_ble_eq_true rfl, Nat.le_of_ble_eq_true rfl⟩, hts (.static yX7_unmark) (by decide +kernel), trivial⟩ hP hK hD hN hS rfl hl.1 rfl (Nat.le_of_ble_eq_true rfl) dX2_mend_4 (fun H locs hP hD hS => ?_)
  clear eh
  refine lv_aload_n hx hb dX2_mend_7 rfl (lv_at hl 0 rfl) ?_
  refine lv_aload_n hx hb dX2_mend_8 rfl (lv_at hl 1 rfl) ?_
  refine lv_iconst (v := 1) hx hb dX2_mend_9 (by decide) ?_
  obtain ⟨σ2, eh, h⟩ := ik_bd h
  refine ik_Vv (As := [.ref (a 1), .int 1]) (rest := []) ⟨hx, hb, hml, hown, hts⟩ (c_X2_reachFrom l D cI cZ a A 1 σ1 _ eh) (cwV 2 hts gX2_mend_X2_reachFrom rfl rfl rfl (by decide +kernel) ⟨Nat.le_of_ble_eq_true rfl, Nat.le_of_ble_eq_true rfl⟩) (va_recv hK hP (ci := 1) (q0 := 9) rfl rfl) hP hK hD hN hS rfl hl.1 rfl (Nat.le_of_ble_eq_true rfl) dX2_mend_10 (fun H locs hP hD hS => ?_)
  clear eh
  refine lv_iconst (v := 1) hx hb dX2_mend_13 (by decide) ?_
  refine lv_istore (lv' := [(4, .int 1), (0, .ref (a 9)), (1, .ref (a 1)), (2, .ref (a 12)), (3, .ref (a 4))]) hx hb dX2_mend_14 hl (by decide) rfl (fun ls hl => ?_)
  refine qp2_W (P := fun (x3 : Int32) (σ4 : ck_S) => ∀ (H : Heap) (locs : List Loc) (ls : Array Slot), va_P D vwCl (ck_W cI cZ a σ4) H → va_D A (ck_W cI cZ a σ4) → va_S A s.heap H locs → lv_has ls 5 [(0, .ref (a 9)), (1, .ref (a 1)), (2, .ref (a 12)), (3, .ref (a 4)), (4, .int x3)] → W p l e (headSpec wsX2_mend rm_X2_mend).room s m args below meth c H locs 0 0 (MQ below (ik_Qv D (ck_W cI cZ a) A σz) args s 0 0 A) (F0 m 16 ls [])) ?_ FU _ _ h _ _ _ hP hD hS (lv_sub hl [1, 2, 3, 4, 0] rfl)
  intro rec16 ih16 x3 σ4 h H locs ls hP hD hS hl
  refine lv_iload hx hb dX2_mend_16 (lv_at hl 4 rfl) ?_
  refine lv_bipush (v := 24) hx hb dX2_mend_18 (by decide) ?_
  refine lv_icmp_gt (tgt := 84) hx hb dX2_mend_20 (by decide) (fun c5 => ?_) (fun c5 => ?_)
  · have h := ik_t c5 h
    exact W.vret hx hb hr (fun t ht hW => ⟨⟨_, rfl, Option.some.inj h, by rw [ht]; exact hP, hD⟩, hS.F ht⟩) hS.2.2 dX2_mend_84
  · have h := ik_f c5 h
    refine lv_aload_n hx hb dX2_mend_23 rfl (lv_at hl 1 rfl) ?_
    refine lv_iload hx hb dX2_mend_24 (lv_at hl 4 rfl) ?_
    refine lv_iconst (v := 0) hx hb dX2_mend_26 (by decide) ?_
    obtain ⟨v6, eh, h⟩ := ik_bd h
    refine ik_Vi (As := [.int x3, .int 0]) (rest := []) ⟨hx, hb, hml, hown, hts⟩ (c_X5_number l D cI cZ a A x3 0 σ4 _ eh) (cwV 2 hts gX2_mend_X5_number rfl rfl rfl (by decide +kernel) ⟨Nat.le_of_ble_eq_true rfl, Nat.le_of_ble_eq_true rfl⟩) (va_recv hK hP (ci := 3) (q0 := 1) rfl rfl) hP hK hD hN hS rfl hl.1 rfl (Nat.le_of_ble_eq_true rfl) dX2_mend_27 (fun H locs hP hD hS => ?_)
    clear eh
    refine lv_if_eq (tgt := 78) hx hb dX2_mend_30 (by decide) (fun c7 => ?_) (fun c7 => ?_)
    · have h := ik_t c7 h
      refine lv_iinc (v := x3 + 1) (lv' := [(4, .int (x3 + 1)), (0, .ref (a 9)), (1, .ref (a 1)), (2, .ref (a 12)), (3, .ref (a 4))]) hx hb dX2_mend_78 hl (k := 4) rfl rfl (by decide) rfl (fun ls hl => ?_)
      refine lv_goto (tgt := 16) hx hb dX2_mend_81 (by decide) ?_
      exact ih16 _ _ h _ _ _ hP hD hS (lv_sub hl [1, 2, 3, 4, 0] rfl)
    · have h := ik_f c7 h
      refine lv_aload_n hx hb dX2_mend_33 rfl (lv_at hl 0 rfl) ?_
      refine va_get (D := D) (ci := 1) (v := .ref (a 10)) (C := RX2) (T := TX2) (N := 3) hx hb hts in_X2_mend_X2 hown hK hP 9 rfl rfl 0 (by decide) (hts (.fieldLink RX2 9 "ImageChecker$HangingPass" "reached" "[Z") (by decide +kernel)) (fun _ h9 => h9) rfl dX2_mend_34 ?_
      refine lv_iload hx hb dX2_mend_37 (lv_at hl 4 rfl) ?_
      obtain ⟨v8, eh, h⟩ := ik_bd h
      refine ik_zld hx hb hK hP 10 1 rfl rfl eh dX2_mend_39 ?_
      clear eh
      refine lv_if_eq (tgt := 46) hx hb dX2_mend_40 (by decide) (fun c9 => ?_) (fun c9 => ?_)
      · have h := ik_t c9 h
        refine lv_aload_n hx hb dX2_mend_46 rfl (lv_at hl 2 rfl) ?_
        refine lv_iload hx hb dX2_mend_47 (lv_at hl 4 rfl) ?_
        obtain ⟨v10, eh, h⟩ := ik_bd h
        refine ik_Vi (As := [.int x3]) (rest := []) ⟨hx, hb, hml, hown, hts⟩ (c_X6_isRightlyIn l D cI cZ a A x3 σ4 _ eh) (cwV 1 hts gX2_mend_X6_isRightlyIn rfl rfl rfl (by decide +kernel) ⟨Nat.le_of_ble_eq_true rfl, Nat.le_of_ble_eq_true rfl⟩) (va_recv hK hP (ci := 4) (q0 := 12) rfl rfl) hP hK hD hN hS rfl hl.1 rfl (Nat.le_of_ble_eq_true rfl) dX2_mend_49 (fun H locs hP hD hS => ?_)
        clear eh
        refine lv_if_ne (tgt := 65) hx hb dX2_mend_52 (by decide) (fun c11 => ?_) (fun c11 => ?_)
        · have h := ik_f c11 h
          refine lv_aload_n hx hb dX2_mend_65 rfl (lv_at hl 3 rfl) ?_
          refine lv_iload hx hb dX2_mend_66 (lv_at hl 4 rfl) ?_
          obtain ⟨v12, eh, h⟩ := ik_bd h
          refine ik_zld hx hb hK hP 4 1 rfl rfl eh dX2_mend_68 ?_
          clear eh
          refine lv_if_ne (tgt := 78) hx hb dX2_mend_69 (by decide) (fun c13 => ?_) (fun c13 => ?_)
          · have h := ik_f c13 h
            refine lv_iinc (v := x3 + 1) (lv' := [(4, .int (x3 + 1)), (0, .ref (a 9)), (1, .ref (a 1)), (2, .ref (a 12)), (3, .ref (a 4))]) hx hb dX2_mend_78 hl (k := 4) rfl rfl (by decide) rfl (fun ls hl => ?_)
            refine lv_goto (tgt := 16) hx hb dX2_mend_81 (by decide) ?_
            exact ih16 _ _ h _ _ _ hP hD hS (lv_sub hl [1, 2, 3, 4, 0] rfl)
          · have h := ik_t c13 h
            refine lv_aload_n hx hb dX2_mend_72 rfl (lv_at hl 1 rfl) ?_
            refine lv_iload hx hb dX2_mend_73 (lv_at hl 4 rfl) ?_
            obtain ⟨σ14, eh, h⟩ := ik_bd h
            refine ik_Vv (As := [.int x3]) (rest := []) ⟨hx, hb, hml, hown, hts⟩ (c_X5_wipeFile l D cI cZ a A x3 σ4 _ eh) (cwV 1 hts gX2_mend_X5_wipeFile rfl rfl rfl (by decide +kernel) ⟨Nat.le_of_ble_eq_true rfl, Nat.le_of_ble_eq_true rfl⟩) (va_recv hK hP (ci := 3) (q0 := 1) rfl rfl) hP hK hD hN hS rfl hl.1 rfl (Nat.le_of_ble_eq_true rfl) dX2_mend_75 (fun H locs hP hD hS => ?_)
            clear eh
            refine lv_iinc (v := x3 + 1) (lv' := [(4, .int (x3 + 1)), (0, .ref (a 9)), (1, .ref (a 1)), (2, .ref (a 12)), (3, .ref (a 4))]) hx hb dX2_mend_78 hl (k := 4) rfl rfl (by decide) rfl (fun ls hl => ?_)
            refine lv_goto (tgt := 16) hx hb dX2_mend_81 (by decide) ?_
            exact ih16 _ _ h _ _ _ hP hD hS (lv_sub hl [1, 2, 3, 4, 0] rfl)
        · have h := ik_t c11 h
          refine lv_aload_n hx hb dX2_mend_55 rfl (lv_at hl 0 rfl) ?_
          refine lv_aload_n hx hb dX2_mend_56 rfl (lv_at hl 1 rfl) ?_
          refine lv_iload hx hb dX2_mend_57 (lv_at hl 4 rfl) ?_
          obtain ⟨σ15, eh, h⟩ := ik_bd h
          refine ik_Vv (As := [.ref (a 1), .int x3]) (rest := []) ⟨hx, hb, hml, hown, hts⟩ (c_X2_hangInRoot l D cI cZ a A x3 σ4 _ eh) (cwV 2 hts gX2_mend_X2_hangInRoot rfl rfl rfl (by decide +kernel) ⟨Nat.le_of_ble_eq_true rfl, Nat.le_of_ble_eq_true rfl⟩) (va_recv hK hP (ci := 1) (q0 := 9) rfl rfl) hP hK hD hN hS rfl hl.1 rfl (Nat.le_of_ble_eq_true rfl) dX2_mend_59 (fun H locs hP hD hS => ?_)
          clear eh
          refine lv_goto (tgt := 78) hx hb dX2_mend_62 (by decide) ?_
          refine lv_iinc (v := x3 + 1) (lv' := [(4, .int (x3 + 1)), (0, .ref (a 9)), (1, .ref (a 1)), (2, .ref (a 12)), (3, .ref (a 4))]) hx hb dX2_mend_78 hl (k := 4) rfl rfl (by decide) rfl (fun ls hl => ?_)
          refine lv_goto (tgt := 16) hx hb dX2_mend_81 (by decide) ?_
          exact ih16 _ _ h _ _ _ hP hD hS (lv_sub hl [1, 2, 3, 4, 0] rfl)
      · have h := ik_f c9 h
        refine lv_goto (tgt := 78) hx hb dX2_mend_43 (by decide) ?_
        refine lv_iinc (v := x3 + 1) (lv' := [(4, .int (x3 + 1)), (0, .ref (a 9)), (1, .ref (a 1)), (2, .ref (a 12)), (3, .ref (a 4))]) hx hb dX2_mend_78 hl (k := 4) rfl rfl (by decide) rfl (fun ls hl => ?_)
        refine lv_goto (tgt := 16) hx hb dX2_mend_81 (by decide) ?_
        exact ih16 _ _ h _ _ _ hP hD hS (lv_sub hl [1, 2, 3, 4, 0] rfl)
abbrev rm_X5_countEntriesFor : Room := { frames := 2, cells := 0, slots := 0, locals := 44 }
set_option maxHeartbeats 4000000 in
set_option maxRecDepth 100000 in
theorem c_X5_countEntriesFor (l : Launch) (D : va_G) (cI cZ : ClassId) (a : Nat → Nat) (A : Nat → Prop) (p0 : Int32) (σ : ck_S) (rz : Int32) (h : fX5_countEntriesFor p0 σ = some rz) : Met l yX5_countEntriesFor wsX5_countEntriesFor rm_X5_countEntriesFor (va_Pc [.ref (a 1), .int p0] (ik_P D [(cI, .int), (cZ, .boolean)] ck_N (ck_W cI cZ a) A σ)) (ik_Qi D (ck_W cI cZ a) A rz σ) 0 0 A := by
  unfold fX5_countEntriesFor at h
  refine Met.ofW (cc := cX5_countEntriesFor) (maxL := 5) (ret := (some .int)) (by decide) rfl ?_
  intro p e s m args below meth c s₁ B hml hv
  obtain ⟨hAr, hP, hK, hD, hN⟩ := hv
  have hx := B.exec
  have hb := B.bytes
  have hr := B.returns
  have hts := atoms_spec (ws := wsX5_countEntriesFor) B.pre
  have hown : s.vm.findClass RX5 = some m.cls := findClass_of_methodNamed B.named
  have hlocks := B.notSynchronized
  have hS : va_S A s.heap s.heap [] := va_S.rf
  have hl := lv_entry ([.ref (a 1), .int p0]) (n := 5) (Nat.le_of_ble_eq_true rfl)
  rw [show entryFrame m args 5 = entryFrame m ([.ref (a 1), .int p0] : List Value).toArray 5 from by rw [hAr], lg_entry_eq]
  generalize (lg_sl ([.ref (a 1), .int p0]) ++ List.replicate (5 - (lg_sl ([.ref (a 1), .int p0])).length) Slot.unset).toArray = ls at hl ⊢
  have hl : lv_has ls 5 [(0, .ref (a 1)), (1, .int p0)] := hl
  refine lv_iconst (v := 0) hx hb dX5_countEntriesFor_0 (by decide) ?_
  refine lv_istore_n (lv' := [(2, .int 0), (0, .ref (a 1)), (1, .int p0)]) hx hb dX5_countEntriesFor_1 rfl hl (by decide) rfl (fun ls hl => ?_)
  refine lv_iconst (v := 1) hx hb dX5_countEntriesFor_2 (by decide) ?_
  refine lv_istore_n (lv' := [(3, .int 1), (2, .int 0), (0, .ref (a 1)), (1, .int p0)]) hx hb dX5_countEntriesFor_3 rfl hl (by decide) rfl (fun ls hl => ?_)
  refine qp2_W (P := fun (x1 : Int32) (x2 : Int32) => ∀ (H : Heap) (locs : List Loc) (ls : Array Slot), va_P D vwCl (ck_W cI cZ a σ) H → va_D A (ck_W cI cZ a σ) → va_S A s.heap H locs → lv_has ls 5 [(0, .ref (a 1)), (1, .int p0), (2, .int x1), (3, .int x2)] → W p l e (headSpec wsX5_countEntriesFor rm_X5_countEntriesFor).room s m args below meth c H locs 0 0 (MQ below (ik_Qi D (ck_W cI cZ a) A rz σ) args s 0 0 A) (F0 m 4 ls [])) ?_ FU _ _ h _ _ _ hP hD hS (lv_sub hl [2, 3, 1, 0] rfl)
  intro rec4 ih4 x1 x2 h H locs ls hP hD hS hl
  refine lv_iload_n hx hb dX5_countEntriesFor_4 rfl (lv_at hl 3 rfl) ?_
  refine lv_bipush (v := 24) hx hb dX5_countEntriesFor_5 (by decide) ?_
  refine lv_icmp_gt (tgt := 47) hx hb dX5_countEntriesFor_7 (by decide) (fun c3 => ?_) (fun c3 => ?_)
  · have h := ik_t c3 h
    refine lv_iload_n hx hb dX5_countEntriesFor_47 rfl (lv_at hl 2 rfl) ?_
    exact W.iret hx hb hr (fun t ht hW => ⟨⟨_, _, rfl, ⟨Option.some.inj h, rfl⟩, by rw [ht]; exact hP, hD⟩, hS.F ht⟩) hS.2.2 dX5_countEntriesFor_48
  · have h := ik_f c3 h
    refine lv_iconst (v := 0) hx hb dX5_countEntriesFor_10 (by decide) ?_
    refine lv_istore (lv' := [(4, .int 0), (0, .ref (a 1)), (1, .int p0), (2, .int x1), (3, .int x2)]) hx hb dX5_countEntriesFor_11 hl (by decide) rfl (fun ls hl => ?_)
    refine qp2_W (P := fun (x4 : Int32) (x5 : Int32) => ∀ (H : Heap) (locs : List Loc) (ls : Array Slot), va_P D vwCl (ck_W cI cZ a σ) H → va_D A (ck_W cI cZ a σ) → va_S A s.heap H locs → lv_has ls 5 [(0, .ref (a 1)), (1, .int p0), (2, .int x4), (3, .int x2), (4, .int x5)] → W p l e (headSpec wsX5_countEntriesFor rm_X5_countEntriesFor).room s m args below meth c H locs 0 0 (MQ below (ik_Qi D (ck_W cI cZ a) A rz σ) args s 0 0 A) (F0 m 13 ls [])) ?_ FU _ _ h _ _ _ hP hD hS (lv_sub hl [1, 2, 3, 4, 0] rfl)
    intro rec13 ih13 x4 x5 h H locs ls hP hD hS hl
    refine lv_iload hx hb dX5_countEntriesFor_13 (lv_at hl 4 rfl) ?_
    refine lv_bipush (v := 8) hx hb dX5_countEntriesFor_15 (by decide) ?_
    refine lv_icmp_ge (tgt := 41) hx hb dX5_countEntriesFor_17 (by decide) (fun c6 => ?_) (fun c6 => ?_)
    · have h := ik_t c6 h
      refine lv_iinc (v := x2 + 1) (lv' := [(3, .int (x2 + 1)), (0, .ref (a 1)), (1, .int p0), (2, .int x4), (4, .int x5)]) hx hb dX5_countEntriesFor_41 hl (k := 3) rfl rfl (by decide) rfl (fun ls hl => ?_)
      refine lv_goto (tgt := 4) hx hb dX5_countEntriesFor_44 (by decide) ?_
      exact ih4 _ _ h _ _ _ hP hD hS (lv_sub hl [1, 2, 3, 0] rfl)
    · have h := ik_f c6 h
      refine lv_aload_n hx hb dX5_countEntriesFor_20 rfl (lv_at hl 0 rfl) ?_
      refine lv_iload_n hx hb dX5_countEntriesFor_21 rfl (lv_at hl 3 rfl) ?_
      refine lv_iload hx hb dX5_countEntriesFor_22 (lv_at hl 4 rfl) ?_
      refine lv_iconst (v := 1) hx hb dX5_countEntriesFor_24 (by decide) ?_
      obtain ⟨v7, eh, h⟩ := ik_bd h
      refine ik_Vi (As := [.int x2, .int x5, .int 1]) (rest := []) ⟨hx, hb, hml, hown, hts⟩ (c_X5_entryPart l D cI cZ a A x2 x5 1 σ _ eh) (cwV 3 hts gX5_countEntriesFor_X5_entryPart rfl rfl rfl (by decide +kernel) ⟨Nat.le_of_ble_eq_true rfl, Nat.le_of_ble_eq_true rfl⟩) (va_recv hK hP (ci := 3) (q0 := 1) rfl rfl) hP hK hD hN hS rfl hl.1 rfl (Nat.le_of_ble_eq_true rfl) dX5_countEntriesFor_25 (fun H locs hP hD hS => ?_)
      clear eh
      refine lv_iload_n hx hb dX5_countEntriesFor_28 rfl (lv_at hl 1 rfl) ?_
      refine lv_icmp_ne (tgt := 35) hx hb dX5_countEntriesFor_29 (by decide) (fun c8 => ?_) (fun c8 => ?_)
      · have h := ik_f c8 h
        refine lv_iinc (v := x5 + 1) (lv' := [(4, .int (x5 + 1)), (0, .ref (a 1)), (1, .int p0), (2, .int x4), (3, .int x2)]) hx hb dX5_countEntriesFor_35 hl (k := 4) rfl rfl (by decide) rfl (fun ls hl => ?_)
        refine lv_goto (tgt := 13) hx hb dX5_countEntriesFor_38 (by decide) ?_
        exact ih13 _ _ h _ _ _ hP hD hS (lv_sub hl [1, 2, 3, 4, 0] rfl)
      · have h := ik_t c8 h
        refine lv_iinc (v := x4 + 1) (lv' := [(2, .int (x4 + 1)), (0, .ref (a 1)), (1, .int p0), (3, .int x2), (4, .int x5)]) hx hb dX5_countEntriesFor_32 hl (k := 2) rfl rfl (by decide) rfl (fun ls hl => ?_)
        refine lv_iinc (v := x5 + 1) (lv' := [(4, .int (x5 + 1)), (2, .int (x4 + 1)), (0, .ref (a 1)), (1, .int p0), (3, .int x2)]) hx hb dX5_countEntriesFor_35 hl (k := 4) rfl rfl (by decide) rfl (fun ls hl => ?_)
        refine lv_goto (tgt := 13) hx hb dX5_countEntriesFor_38 (by decide) ?_
        exact ih13 _ _ h _ _ _ hP hD hS (lv_sub hl [2, 3, 1, 4, 0] rfl)
abbrev rm_X3_isFolder : Room := { frames := 2, cells := 0, slots := 0, locals := 42 }
set_option maxHeartbeats 4000000 in
set_option maxRecDepth 100000 in
theorem c_X3_isFolder (l : Launch) (D : va_G) (cI cZ : ClassId) (a : Nat → Nat) (A : Nat → Prop) (p1 : Int32) (σ : ck_S) (rz : Int32) (h : fX3_isFolder p1 σ = some rz) : Met l yX3_isFolder wsX3_isFolder rm_X3_isFolder (va_Pc [.ref (a 1), .int p1] (ik_P D [(cI, .int), (cZ, .boolean)] ck_N (ck_W cI cZ a) A σ)) (ik_Qi D (ck_W cI cZ a) A rz σ) 0 0 A := by
  unfold fX3_isFolder at h
  refine Met.ofW (cc := cX3_isFolder) (maxL := 2) (ret := (some .boolean)) (by decide) rfl ?_
  intro p e s m args below meth c s₁ B hml hv
  obtain ⟨hAr, hP, hK, hD, hN⟩ := hv
  have hx := B.exec
  have hb := B.bytes
  have hr := B.returns
  have hts := atoms_spec (ws := wsX3_isFolder) B.pre
  have hown : s.vm.findClass RX3 = some m.cls := findClass_of_methodNamed B.named
  have hlocks := B.notSynchronized
  have hS : va_S A s.heap s.heap [] := va_S.rf
  have hl := lv_entry ([.ref (a 1), .int p1]) (n := 2) (Nat.le_of_ble_eq_true rfl)
  rw [show entryFrame m args 2 = entryFrame m ([.ref (a 1), .int p1] : List Value).toArray 2 from by rw [hAr], lg_entry_eq]
  generalize (lg_sl ([.ref (a 1), .int p1]) ++ List.replicate (2 - (lg_sl ([.ref (a 1), .int p1])).length) Slot.unset).toArray = ls at hl ⊢
  have hl : lv_has ls 2 [(0, .ref (a 1)), (1, .int p1)] := hl
  refine lv_iload_n hx hb dX3_isFolder_0 rfl (lv_at hl 1 rfl) ?_
  obtain ⟨v1, eh, h⟩ := ik_bd h
  refine ik_Ni (As := [.int p1]) (rest := []) ⟨hx, hb, hml, hown, hts⟩ (c_X7_isFile l D cI cZ a A p1 σ _ eh) ⟨va_cnB (host := "ImageChecker") 1 hts gX3_isFolder_X7_isFile_n45 rfl rfl rfl (hN (RX3, 45, yX7_isFile) (by decide)) (hts (.initialized RX7) (by decide +kernel)) (by decide +kernel) ⟨Nat.le_of_ble_eq_true rfl, Nat.le_of_ble_eq_true rfl⟩, hts (.static yX7_isFile) (by decide +kernel), trivial⟩ hP hK hD hN hS rfl hl.1 rfl (Nat.le_of_ble_eq_true rfl) dX3_isFolder_1 (fun H locs hP hD hS => ?_)
  clear eh
  refine lv_if_eq (tgt := 21) hx hb dX3_isFolder_4 (by decide) (fun c2 => ?_) (fun c2 => ?_)
  · have h := ik_t c2 h
    refine lv_iconst (v := 0) hx hb dX3_isFolder_21 (by decide) ?_
    exact W.zret (v := 0) hx hb hr rfl (fun t ht hW => ⟨⟨_, _, rfl, ⟨Option.some.inj h, rfl⟩, by rw [ht]; exact hP, hD⟩, hS.F ht⟩) hS.2.2 dX3_isFolder_22
  · have h := ik_f c2 h
    refine lv_aload_n hx hb dX3_isFolder_7 rfl (lv_at hl 0 rfl) ?_
    refine lv_iload_n hx hb dX3_isFolder_8 rfl (lv_at hl 1 rfl) ?_
    refine lv_iconst (v := 0) hx hb dX3_isFolder_9 (by decide) ?_
    obtain ⟨v3, eh, h⟩ := ik_bd h
    refine ik_Vi (As := [.int p1, .int 0]) (rest := []) ⟨hx, hb, hml, hown, hts⟩ (c_X5_number l D cI cZ a A p1 0 σ _ eh) (cwV 2 hts gX3_isFolder_X5_number rfl rfl rfl (by decide +kernel) ⟨Nat.le_of_ble_eq_true rfl, Nat.le_of_ble_eq_true rfl⟩) (va_recv hK hP (ci := 3) (q0 := 1) rfl rfl) hP hK hD hN hS rfl hl.1 rfl (Nat.le_of_ble_eq_true rfl) dX3_isFolder_10 (fun H locs hP hD hS => ?_)
    clear eh
    refine lv_iconst (v := 2) hx hb dX3_isFolder_13 (by decide) ?_
    refine lv_icmp_ne (tgt := 21) hx hb dX3_isFolder_14 (by decide) (fun c4 => ?_) (fun c4 => ?_)
    · have h := ik_f c4 h
      refine lv_iconst (v := 0) hx hb dX3_isFolder_21 (by decide) ?_
      exact W.zret (v := 0) hx hb hr rfl (fun t ht hW => ⟨⟨_, _, rfl, ⟨Option.some.inj h, rfl⟩, by rw [ht]; exact hP, hD⟩, hS.F ht⟩) hS.2.2 dX3_isFolder_22
    · have h := ik_t c4 h
      refine lv_iconst (v := 1) hx hb dX3_isFolder_17 (by decide) ?_
      refine lv_goto (tgt := 22) hx hb dX3_isFolder_18 (by decide) ?_
      exact W.zret (v := 1) hx hb hr rfl (fun t ht hW => ⟨⟨_, _, rfl, ⟨Option.some.inj h, rfl⟩, by rw [ht]; exact hP, hD⟩, hS.F ht⟩) hS.2.2 dX3_isFolder_22
abbrev rm_X3_linksOf : Room := { frames := 3, cells := 0, slots := 0, locals := 68 }
set_option maxHeartbeats 4000000 in
set_option maxRecDepth 100000 in
theorem c_X3_linksOf (l : Launch) (D : va_G) (cI cZ : ClassId) (a : Nat → Nat) (A : Nat → Prop) (p1 : Int32) (σ : ck_S) (rz : Int32) (h : fX3_linksOf p1 σ = some rz) : Met l yX3_linksOf wsX3_linksOf rm_X3_linksOf (va_Pc [.ref (a 1), .int p1] (ik_P D [(cI, .int), (cZ, .boolean)] ck_N (ck_W cI cZ a) A σ)) (ik_Qi D (ck_W cI cZ a) A rz σ) 0 0 A := by
  unfold fX3_linksOf at h
  refine Met.ofW (cc := cX3_linksOf) (maxL := 4) (ret := (some .int)) (by decide) rfl ?_
  intro p e s m args below meth c s₁ B hml hv
  obtain ⟨hAr, hP, hK, hD, hN⟩ := hv
  have hx := B.exec
  have hb := B.bytes
  have hr := B.returns
  have hts := atoms_spec (ws := wsX3_linksOf) B.pre
  have hown : s.vm.findClass RX3 = some m.cls := findClass_of_methodNamed B.named
  have hlocks := B.notSynchronized
  have hS : va_S A s.heap s.heap [] := va_S.rf
  have hl := lv_entry ([.ref (a 1), .int p1]) (n := 4) (Nat.le_of_ble_eq_true rfl)
  rw [show entryFrame m args 4 = entryFrame m ([.ref (a 1), .int p1] : List Value).toArray 4 from by rw [hAr], lg_entry_eq]
  generalize (lg_sl ([.ref (a 1), .int p1]) ++ List.replicate (4 - (lg_sl ([.ref (a 1), .int p1])).length) Slot.unset).toArray = ls at hl ⊢
  have hl : lv_has ls 4 [(0, .ref (a 1)), (1, .int p1)] := hl
  refine lv_aload_n hx hb dX3_linksOf_0 rfl (lv_at hl 0 rfl) ?_
  refine lv_iload_n hx hb dX3_linksOf_1 rfl (lv_at hl 1 rfl) ?_
  refine lv_iconst (v := 0) hx hb dX3_linksOf_2 (by decide) ?_
  obtain ⟨v1, eh, h⟩ := ik_bd h
  refine ik_Vi (As := [.int p1, .int 0]) (rest := []) ⟨hx, hb, hml, hown, hts⟩ (c_X5_number l D cI cZ a A p1 0 σ _ eh) (cwV 2 hts gX3_linksOf_X5_number rfl rfl rfl (by decide +kernel) ⟨Nat.le_of_ble_eq_true rfl, Nat.le_of_ble_eq_true rfl⟩) (va_recv hK hP (ci := 3) (q0 := 1) rfl rfl) hP hK hD hN hS rfl hl.1 rfl (Nat.le_of_ble_eq_true rfl) dX3_linksOf_3 (fun H locs hP hD hS => ?_)
  clear eh
  refine lv_iconst (v := 2) hx hb dX3_linksOf_6 (by decide) ?_
  refine lv_icmp_eq (tgt := 16) hx hb dX3_linksOf_7 (by decide) (fun c2 => ?_) (fun c2 => ?_)
  · have h := ik_t c2 h
    refine lv_iconst (v := 2) hx hb dX3_linksOf_16 (by decide) ?_
    refine lv_istore_n (lv' := [(2, .int 2), (0, .ref (a 1)), (1, .int p1)]) hx hb dX3_linksOf_17 rfl hl (by decide) rfl (fun ls hl => ?_)
    refine lv_iconst (v := 0) hx hb dX3_linksOf_18 (by decide) ?_
    refine lv_istore_n (lv' := [(3, .int 0), (2, .int 2), (0, .ref (a 1)), (1, .int p1)]) hx hb dX3_linksOf_19 rfl hl (by decide) rfl (fun ls hl => ?_)
    refine qp2_W (P := fun (x3 : Int32) (x4 : Int32) => ∀ (H : Heap) (locs : List Loc) (ls : Array Slot), va_P D vwCl (ck_W cI cZ a σ) H → va_D A (ck_W cI cZ a σ) → va_S A s.heap H locs → lv_has ls 4 [(0, .ref (a 1)), (1, .int p1), (2, .int x3), (3, .int x4)] → W p l e (headSpec wsX3_linksOf rm_X3_linksOf).room s m args below meth c H locs 0 0 (MQ below (ik_Qi D (ck_W cI cZ a) A rz σ) args s 0 0 A) (F0 m 20 ls [])) ?_ FU _ _ h _ _ _ hP hD hS (lv_sub hl [2, 3, 1, 0] rfl)
    intro rec20 ih20 x3 x4 h H locs ls hP hD hS hl
    refine lv_iload_n hx hb dX3_linksOf_20 rfl (lv_at hl 3 rfl) ?_
    refine lv_bipush (v := 8) hx hb dX3_linksOf_21 (by decide) ?_
    refine lv_icmp_ge (tgt := 49) hx hb dX3_linksOf_23 (by decide) (fun c5 => ?_) (fun c5 => ?_)
    · have h := ik_t c5 h
      refine lv_iload_n hx hb dX3_linksOf_49 rfl (lv_at hl 2 rfl) ?_
      exact W.iret hx hb hr (fun t ht hW => ⟨⟨_, _, rfl, ⟨Option.some.inj h, rfl⟩, by rw [ht]; exact hP, hD⟩, hS.F ht⟩) hS.2.2 dX3_linksOf_50
    · have h := ik_f c5 h
      refine lv_aload_n hx hb dX3_linksOf_26 rfl (lv_at hl 0 rfl) ?_
      refine lv_aload_n hx hb dX3_linksOf_27 rfl (lv_at hl 0 rfl) ?_
      refine lv_iload_n hx hb dX3_linksOf_28 rfl (lv_at hl 1 rfl) ?_
      refine lv_iload_n hx hb dX3_linksOf_29 rfl (lv_at hl 3 rfl) ?_
      refine lv_iconst (v := 1) hx hb dX3_linksOf_30 (by decide) ?_
      obtain ⟨v6, eh, h⟩ := ik_bd h
      refine ik_Vi (As := [.int p1, .int x4, .int 1]) (rest := [.ref (a 1)]) ⟨hx, hb, hml, hown, hts⟩ (c_X5_entryPart l D cI cZ a A p1 x4 1 σ _ eh) (cwV 3 hts gX3_linksOf_X5_entryPart rfl rfl rfl (by decide +kernel) ⟨Nat.le_of_ble_eq_true rfl, Nat.le_of_ble_eq_true rfl⟩) (va_recv hK hP (ci := 3) (q0 := 1) rfl rfl) hP hK hD hN hS rfl hl.1 rfl (Nat.le_of_ble_eq_true rfl) dX3_linksOf_31 (fun H locs hP hD hS => ?_)
      clear eh
      obtain ⟨v7, eh, h⟩ := ik_bd h
      refine ik_Si (As := [.ref (a 1), .int v6]) (rest := []) ⟨hx, hb, hml, hown, hts⟩ (c_X3_isFolder l D cI cZ a A v6 σ _ eh) (va_cwS 2 hts gX3_linksOf_X3_isFolder rfl rfl rfl (by decide +kernel) ⟨Nat.le_of_ble_eq_true rfl, Nat.le_of_ble_eq_true rfl⟩) hP hK hD hN hS rfl hl.1 rfl (Nat.le_of_ble_eq_true rfl) dX3_linksOf_34 (fun H locs hP hD hS => ?_)
      clear eh
      refine lv_if_eq (tgt := 43) hx hb dX3_linksOf_37 (by decide) (fun c8 => ?_) (fun c8 => ?_)
      · have h := ik_t c8 h
        refine lv_iinc (v := x4 + 1) (lv' := [(3, .int (x4 + 1)), (0, .ref (a 1)), (1, .int p1), (2, .int x3)]) hx hb dX3_linksOf_43 hl (k := 3) rfl rfl (by decide) rfl (fun ls hl => ?_)
        refine lv_goto (tgt := 20) hx hb dX3_linksOf_46 (by decide) ?_
        exact ih20 _ _ h _ _ _ hP hD hS (lv_sub hl [1, 2, 3, 0] rfl)
      · have h := ik_f c8 h
        refine lv_iinc (v := x3 + 1) (lv' := [(2, .int (x3 + 1)), (0, .ref (a 1)), (1, .int p1), (3, .int x4)]) hx hb dX3_linksOf_40 hl (k := 2) rfl rfl (by decide) rfl (fun ls hl => ?_)
        refine lv_iinc (v := x4 + 1) (lv' := [(3, .int (x4 + 1)), (2, .int (x3 + 1)), (0, .ref (a 1)), (1, .int p1)]) hx hb dX3_linksOf_43 hl (k := 3) rfl rfl (by decide) rfl (fun ls hl => ?_)
        refine lv_goto (tgt := 20) hx hb dX3_linksOf_46 (by decide) ?_
        exact ih20 _ _ h _ _ _ hP hD hS (lv_sub hl [2, 3, 1, 0] rfl)
  · have h := ik_f c2 h
    refine lv_aload_n hx hb dX3_linksOf_10 rfl (lv_at hl 0 rfl) ?_
    refine lv_iload_n hx hb dX3_linksOf_11 rfl (lv_at hl 1 rfl) ?_
    obtain ⟨v9, eh, h⟩ := ik_bd h
    refine ik_Vi (As := [.int p1]) (rest := []) ⟨hx, hb, hml, hown, hts⟩ (c_X5_countEntriesFor l D cI cZ a A p1 σ _ eh) (cwV 1 hts gX3_linksOf_X5_countEntriesFor rfl rfl rfl (by decide +kernel) ⟨Nat.le_of_ble_eq_true rfl, Nat.le_of_ble_eq_true rfl⟩) (va_recv hK hP (ci := 3) (q0 := 1) rfl rfl) hP hK hD hN hS rfl hl.1 rfl (Nat.le_of_ble_eq_true rfl) dX3_linksOf_12 (fun H locs hP hD hS => ?_)
    clear eh
    exact W.iret hx hb hr (fun t ht hW => ⟨⟨_, _, rfl, ⟨Option.some.inj h, rfl⟩, by rw [ht]; exact hP, hD⟩, hS.F ht⟩) hS.2.2 dX3_linksOf_15
abbrev rm_X5_putNumber : Room := { frames := 1, cells := 0, slots := 0, locals := 20 }
theorem in_X5_putNumber_X5 : ∀ w ∈ wsX50, w ∈ wsX5_putNumber := by decide +kernel
set_option maxHeartbeats 4000000 in
set_option maxRecDepth 100000 in
theorem c_X5_putNumber (l : Launch) (D : va_G) (cI cZ : ClassId) (a : Nat → Nat) (A : Nat → Prop) (p0 : Int32) (p1 : Int32) (p2 : Int32) (σ : ck_S) (σz : ck_S) (h : fX5_putNumber p0 p1 p2 σ = some σz) : Met l yX5_putNumber wsX5_putNumber rm_X5_putNumber (va_Pc [.ref (a 1), .int p0, .int p1, .int p2] (ik_P D [(cI, .int), (cZ, .boolean)] ck_N (ck_W cI cZ a) A σ)) (ik_Qv D (ck_W cI cZ a) A σz) 0 0 A := by
  unfold fX5_putNumber at h
  refine Met.ofW (cc := cX5_putNumber) (maxL := 4) (ret := none) (by decide) rfl ?_
  intro p e s m args below meth c s₁ B hml hv
  obtain ⟨hAr, hP, hK, hD, hN⟩ := hv
  have hx := B.exec
  have hb := B.bytes
  have hr := B.returns
  have hts := atoms_spec (ws := wsX5_putNumber) B.pre
  have hown : s.vm.findClass RX5 = some m.cls := findClass_of_methodNamed B.named
  have hlocks := B.notSynchronized
  have hS : va_S A s.heap s.heap [] := va_S.rf
  have hl := lv_entry ([.ref (a 1), .int p0, .int p1, .int p2]) (n := 4) (Nat.le_of_ble_eq_true rfl)
  rw [show entryFrame m args 4 = entryFrame m ([.ref (a 1), .int p0, .int p1, .int p2] : List Value).toArray 4 from by rw [hAr], lg_entry_eq]
  generalize (lg_sl ([.ref (a 1), .int p0, .int p1, .int p2]) ++ List.replicate (4 - (lg_sl ([.ref (a 1), .int p0, .int p1, .int p2])).length) Slot.unset).toArray = ls at hl ⊢
  have hl : lv_has ls 4 [(0, .ref (a 1)), (1, .int p0), (2, .int p1), (3, .int p2)] := hl
  refine lv_aload_n hx hb dX5_putNumber_0 rfl (lv_at hl 0 rfl) ?_
  refine va_get (D := D) (ci := 3) (v := .ref (a 2)) (C := RX5) (T := TX5) (N := 2) hx hb hts in_X5_putNumber_X5 hown hK hP 1 rfl rfl 0 (by decide) (hts (.fieldLink RX5 11 "ImageChecker$Tables" "cells" "[I") (by decide +kernel)) (fun _ h9 => h9) rfl dX5_putNumber_1 ?_
  refine lv_iload_n hx hb dX5_putNumber_4 rfl (lv_at hl 1 rfl) ?_
  obtain ⟨v1, eh, h⟩ := ik_bd h
  refine ik_Si (As := [.int p0]) (rest := [.ref (a 2)]) ⟨hx, hb, hml, hown, hts⟩ (c_X5_fileCell l D cI cZ a A p0 σ _ eh) (va_cwS 1 hts gX5_putNumber_X5_fileCell rfl rfl rfl (by decide +kernel) ⟨Nat.le_of_ble_eq_true rfl, Nat.le_of_ble_eq_true rfl⟩) hP hK hD hN hS rfl hl.1 rfl (Nat.le_of_ble_eq_true rfl) dX5_putNumber_5 (fun H locs hP hD hS => ?_)
  clear eh
  refine lv_iload_n hx hb dX5_putNumber_8 rfl (lv_at hl 2 rfl) ?_
  refine lv_iadd hx hb dX5_putNumber_9 ?_
  refine lv_iload_n hx hb dX5_putNumber_10 rfl (lv_at hl 3 rfl) ?_
  obtain ⟨σ2, eh, h⟩ := ik_bd h
  refine ik_st (Wd := ck_W cI cZ a) (σ1 := σ2) hx hb hK hP hD hS 2 0 rfl rfl (fun _ => rfl) eh dX5_putNumber_11 (fun H locs hP hD hS => ?_)
  clear eh
  exact W.vret hx hb hr (fun t ht hW => ⟨⟨_, rfl, Option.some.inj h, by rw [ht]; exact hP, hD⟩, hS.F ht⟩) hS.2.2 dX5_putNumber_12
abbrev rm_X3_becomeParent : Room := { frames := 3, cells := 0, slots := 0, locals := 63 }
set_option maxHeartbeats 4000000 in
set_option maxRecDepth 100000 in
theorem c_X3_becomeParent (l : Launch) (D : va_G) (cI cZ : ClassId) (a : Nat → Nat) (A : Nat → Prop) (p1 : Int32) (σ : ck_S) (σz : ck_S) (h : fX3_becomeParent p1 σ = some σz) : Met l yX3_becomeParent wsX3_becomeParent rm_X3_becomeParent (va_Pc [.ref (a 1), .int p1] (ik_P D [(cI, .int), (cZ, .boolean)] ck_N (ck_W cI cZ a) A σ)) (ik_Qv D (ck_W cI cZ a) A σz) 0 0 A := by
  unfold fX3_becomeParent at h
  refine Met.ofW (cc := cX3_becomeParent) (maxL := 4) (ret := none) (by decide) rfl ?_
  intro p e s m args below meth c s₁ B hml hv
  obtain ⟨hAr, hP, hK, hD, hN⟩ := hv
  have hx := B.exec
  have hb := B.bytes
  have hr := B.returns
  have hts := atoms_spec (ws := wsX3_becomeParent) B.pre
  have hown : s.vm.findClass RX3 = some m.cls := findClass_of_methodNamed B.named
  have hlocks := B.notSynchronized
  have hS : va_S A s.heap s.heap [] := va_S.rf
  have hl := lv_entry ([.ref (a 1), .int p1]) (n := 4) (Nat.le_of_ble_eq_true rfl)
  rw [show entryFrame m args 4 = entryFrame m ([.ref (a 1), .int p1] : List Value).toArray 4 from by rw [hAr], lg_entry_eq]
  generalize (lg_sl ([.ref (a 1), .int p1]) ++ List.replicate (4 - (lg_sl ([.ref (a 1), .int p1])).length) Slot.unset).toArray = ls at hl ⊢
  have hl : lv_has ls 4 [(0, .ref (a 1)), (1, .int p1)] := hl
  refine lv_iconst (v := 0) hx hb dX3_becomeParent_0 (by decide) ?_
  refine lv_istore_n (lv' := [(2, .int 0), (0, .ref (a 1)), (1, .int p1)]) hx hb dX3_becomeParent_1 rfl hl (by decide) rfl (fun ls hl => ?_)
  refine qp2_W (P := fun (x1 : Int32) (σ2 : ck_S) => ∀ (H : Heap) (locs : List Loc) (ls : Array Slot), va_P D vwCl (ck_W cI cZ a σ2) H → va_D A (ck_W cI cZ a σ2) → va_S A s.heap H locs → lv_has ls 4 [(0, .ref (a 1)), (1, .int p1), (2, .int x1)] → W p l e (headSpec wsX3_becomeParent rm_X3_becomeParent).room s m args below meth c H locs 0 0 (MQ below (ik_Qv D (ck_W cI cZ a) A σz) args s 0 0 A) (F0 m 2 ls [])) ?_ FU _ _ h _ _ _ hP hD hS (lv_sub hl [1, 2, 0] rfl)
  intro rec2 ih2 x1 σ2 h H locs ls hP hD hS hl
  refine lv_iload_n hx hb dX3_becomeParent_2 rfl (lv_at hl 2 rfl) ?_
  refine lv_bipush (v := 8) hx hb dX3_becomeParent_3 (by decide) ?_
  refine lv_icmp_ge (tgt := 37) hx hb dX3_becomeParent_5 (by decide) (fun c3 => ?_) (fun c3 => ?_)
  · have h := ik_t c3 h
    exact W.vret hx hb hr (fun t ht hW => ⟨⟨_, rfl, Option.some.inj h, by rw [ht]; exact hP, hD⟩, hS.F ht⟩) hS.2.2 dX3_becomeParent_37
  · have h := ik_f c3 h
    refine lv_aload_n hx hb dX3_becomeParent_8 rfl (lv_at hl 0 rfl) ?_
    refine lv_iload_n hx hb dX3_becomeParent_9 rfl (lv_at hl 1 rfl) ?_
    refine lv_iload_n hx hb dX3_becomeParent_10 rfl (lv_at hl 2 rfl) ?_
    refine lv_iconst (v := 1) hx hb dX3_becomeParent_11 (by decide) ?_
    obtain ⟨v4, eh, h⟩ := ik_bd h
    refine ik_Vi (As := [.int p1, .int x1, .int 1]) (rest := []) ⟨hx, hb, hml, hown, hts⟩ (c_X5_entryPart l D cI cZ a A p1 x1 1 σ2 _ eh) (cwV 3 hts gX3_becomeParent_X5_entryPart rfl rfl rfl (by decide +kernel) ⟨Nat.le_of_ble_eq_true rfl, Nat.le_of_ble_eq_true rfl⟩) (va_recv hK hP (ci := 3) (q0 := 1) rfl rfl) hP hK hD hN hS rfl hl.1 rfl (Nat.le_of_ble_eq_true rfl) dX3_becomeParent_12 (fun H locs hP hD hS => ?_)
    clear eh
    refine lv_istore_n (lv' := [(3, .int v4), (0, .ref (a 1)), (1, .int p1), (2, .int x1)]) hx hb dX3_becomeParent_15 rfl hl (by decide) rfl (fun ls hl => ?_)
    refine lv_aload_n hx hb dX3_becomeParent_16 rfl (lv_at hl 1 rfl) ?_
    refine lv_iload_n hx hb dX3_becomeParent_17 rfl (lv_at hl 0 rfl) ?_
    obtain ⟨v5, eh, h⟩ := ik_bd h
    refine ik_Si (As := [.ref (a 1), .int v4]) (rest := []) ⟨hx, hb, hml, hown, hts⟩ (c_X3_isFolder l D cI cZ a A v4 σ2 _ eh) (va_cwS 2 hts gX3_becomeParent_X3_isFolder rfl rfl rfl (by decide +kernel) ⟨Nat.le_of_ble_eq_true rfl, Nat.le_of_ble_eq_true rfl⟩) hP hK hD hN hS rfl hl.1 rfl (Nat.le_of_ble_eq_true rfl) dX3_becomeParent_18 (fun H locs hP hD hS => ?_)
    clear eh
    refine lv_if_eq (tgt := 31) hx hb dX3_becomeParent_21 (by decide) (fun c6 => ?_) (fun c6 => ?_)
    · have h := ik_t c6 h
      refine lv_iinc (v := x1 + 1) (lv' := [(2, .int (x1 + 1)), (3, .int v4), (0, .ref (a 1)), (1, .int p1)]) hx hb dX3_becomeParent_31 hl (k := 3) rfl rfl (by decide) rfl (fun ls hl => ?_)
      refine lv_goto (tgt := 2) hx hb dX3_becomeParent_34 (by decide) ?_
      exact ih2 _ _ h _ _ _ hP hD hS (lv_sub hl [2, 3, 0] rfl)
    · have h := ik_f c6 h
      refine lv_aload_n hx hb dX3_becomeParent_24 rfl (lv_at hl 1 rfl) ?_
      refine lv_iload_n hx hb dX3_becomeParent_25 rfl (lv_at hl 0 rfl) ?_
      refine lv_iconst (v := 4) hx hb dX3_becomeParent_26 (by decide) ?_
      refine lv_iload_n hx hb dX3_becomeParent_27 rfl (lv_at hl 2 rfl) ?_
      obtain ⟨σ7, eh, h⟩ := ik_bd h
      refine ik_Vv (As := [.int v4, .int 4, .int p1]) (rest := []) ⟨hx, hb, hml, hown, hts⟩ (c_X5_putNumber l D cI cZ a A v4 4 p1 σ2 _ eh) (cwV 3 hts gX3_becomeParent_X5_putNumber rfl rfl rfl (by decide +kernel) ⟨Nat.le_of_ble_eq_true rfl, Nat.le_of_ble_eq_true rfl⟩) (va_recv hK hP (ci := 3) (q0 := 1) rfl rfl) hP hK hD hN hS rfl hl.1 rfl (Nat.le_of_ble_eq_true rfl) dX3_becomeParent_28 (fun H locs hP hD hS => ?_)
      clear eh
      refine lv_iinc (v := x1 + 1) (lv' := [(2, .int (x1 + 1)), (3, .int v4), (0, .ref (a 1)), (1, .int p1)]) hx hb dX3_becomeParent_31 hl (k := 3) rfl rfl (by decide) rfl (fun ls hl => ?_)
      refine lv_goto (tgt := 2) hx hb dX3_becomeParent_34 (by decide) ?_
      exact ih2 _ _ h _ _ _ hP hD hS (lv_sub hl [2, 3, 0] rfl)
abbrev rm_X6_fileAt : Room := { frames := 0, cells := 0, slots := 0, locals := 0 }
theorem in_X6_fileAt_X6 : ∀ w ∈ wsX60, w ∈ wsX6_fileAt := by decide +kernel
set_option maxHeartbeats 4000000 in
set_option maxRecDepth 100000 in
theorem c_X6_fileAt (l : Launch) (D : va_G) (cI cZ : ClassId) (a : Nat → Nat) (A : Nat → Prop) (p0 : Int32) (σ : ck_S) (rz : Int32) (h : fX6_fileAt p0 σ = some rz) : Met l yX6_fileAt wsX6_fileAt rm_X6_fileAt (va_Pc [.ref (a 12), .int p0] (ik_P D [(cI, .int), (cZ, .boolean)] ck_N (ck_W cI cZ a) A σ)) (ik_Qi D (ck_W cI cZ a) A rz σ) 0 0 A := by
  unfold fX6_fileAt at h
  refine Met.ofW (cc := cX6_fileAt) (maxL := 2) (ret := (some .int)) (by decide) rfl ?_
  intro p e s m args below meth c s₁ B hml hv
  obtain ⟨hAr, hP, hK, hD, hN⟩ := hv
  have hx := B.exec
  have hb := B.bytes
  have hr := B.returns
  have hts := atoms_spec (ws := wsX6_fileAt) B.pre
  have hown : s.vm.findClass RX6 = some m.cls := findClass_of_methodNamed B.named
  have hlocks := B.notSynchronized
  have hS : va_S A s.heap s.heap [] := va_S.rf
  have hl := lv_entry ([.ref (a 12), .int p0]) (n := 2) (Nat.le_of_ble_eq_true rfl)
  rw [show entryFrame m args 2 = entryFrame m ([.ref (a 12), .int p0] : List Value).toArray 2 from by rw [hAr], lg_entry_eq]
  generalize (lg_sl ([.ref (a 12), .int p0]) ++ List.replicate (2 - (lg_sl ([.ref (a 12), .int p0])).length) Slot.unset).toArray = ls at hl ⊢
  have hl : lv_has ls 2 [(0, .ref (a 12)), (1, .int p0)] := hl
  refine lv_iload_n hx hb dX6_fileAt_0 rfl (lv_at hl 1 rfl) ?_
  refine lv_if_lt (tgt := 21) hx hb dX6_fileAt_1 (by decide) (fun c1 => ?_) (fun c1 => ?_)
  · have h := ik_t c1 h
    refine lv_iconst (v := 0) hx hb dX6_fileAt_21 (by decide) ?_
    exact W.iret hx hb hr (fun t ht hW => ⟨⟨_, _, rfl, ⟨Option.some.inj h, rfl⟩, by rw [ht]; exact hP, hD⟩, hS.F ht⟩) hS.2.2 dX6_fileAt_22
  · have h := ik_f c1 h
    refine lv_iload_n hx hb dX6_fileAt_4 rfl (lv_at hl 1 rfl) ?_
    refine lv_aload_n hx hb dX6_fileAt_5 rfl (lv_at hl 0 rfl) ?_
    refine va_get (D := D) (ci := 4) (v := .int (ck_count σ)) (C := RX6) (T := TX6) (N := 4) hx hb hts in_X6_fileAt_X6 hown hK hP 12 rfl rfl 3 (by decide) (hts (.fieldLink RX6 22 "ImageChecker$WaitingList" "count" "I") (by decide +kernel)) (fun _ h9 => h9) rfl dX6_fileAt_6 ?_
    refine lv_icmp_ge (tgt := 21) hx hb dX6_fileAt_9 (by decide) (fun c2 => ?_) (fun c2 => ?_)
    · have h := ik_t c2 h
      refine lv_iconst (v := 0) hx hb dX6_fileAt_21 (by decide) ?_
      exact W.iret hx hb hr (fun t ht hW => ⟨⟨_, _, rfl, ⟨Option.some.inj h, rfl⟩, by rw [ht]; exact hP, hD⟩, hS.F ht⟩) hS.2.2 dX6_fileAt_22
    · have h := ik_f c2 h
      refine lv_aload_n hx hb dX6_fileAt_12 rfl (lv_at hl 0 rfl) ?_
      refine va_get (D := D) (ci := 4) (v := .ref (a 15)) (C := RX6) (T := TX6) (N := 4) hx hb hts in_X6_fileAt_X6 hown hK hP 12 rfl rfl 2 (by decide) (hts (.fieldLink RX6 18 "ImageChecker$WaitingList" "waitOn" "[I") (by decide +kernel)) (fun _ h9 => h9) rfl dX6_fileAt_13 ?_
      refine lv_iload_n hx hb dX6_fileAt_16 rfl (lv_at hl 1 rfl) ?_
      obtain ⟨v3, eh, h⟩ := ik_bd h
      refine ik_ld hx hb hK hP 15 0 rfl rfl eh dX6_fileAt_17 ?_
      clear eh
      refine lv_goto (tgt := 22) hx hb dX6_fileAt_18 (by decide) ?_
      exact W.iret hx hb hr (fun t ht hW => ⟨⟨_, _, rfl, ⟨Option.some.inj h, rfl⟩, by rw [ht]; exact hP, hD⟩, hS.F ht⟩) hS.2.2 dX6_fileAt_22
abbrev rm_X6_size : Room := { frames := 0, cells := 0, slots := 0, locals := 0 }
theorem in_X6_size_X6 : ∀ w ∈ wsX60, w ∈ wsX6_size := by decide +kernel
set_option maxHeartbeats 4000000 in
set_option maxRecDepth 100000 in
theorem c_X6_size (l : Launch) (D : va_G) (cI cZ : ClassId) (a : Nat → Nat) (A : Nat → Prop) (σ : ck_S) (rz : Int32) (h : fX6_size σ = some rz) : Met l yX6_size wsX6_size rm_X6_size (va_Pc [.ref (a 12)] (ik_P D [(cI, .int), (cZ, .boolean)] ck_N (ck_W cI cZ a) A σ)) (ik_Qi D (ck_W cI cZ a) A rz σ) 0 0 A := by
  unfold fX6_size at h
  refine Met.ofW (cc := cX6_size) (maxL := 1) (ret := (some .int)) (by decide) rfl ?_
  intro p e s m args below meth c s₁ B hml hv
  obtain ⟨hAr, hP, hK, hD, hN⟩ := hv
  have hx := B.exec
  have hb := B.bytes
  have hr := B.returns
  have hts := atoms_spec (ws := wsX6_size) B.pre
  have hown : s.vm.findClass RX6 = some m.cls := findClass_of_methodNamed B.named
  have hlocks := B.notSynchronized
  have hS : va_S A s.heap s.heap [] := va_S.rf
  have hl := lv_entry ([.ref (a 12)]) (n := 1) (Nat.le_of_ble_eq_true rfl)
  rw [show entryFrame m args 1 = entryFrame m ([.ref (a 12)] : List Value).toArray 1 from by rw [hAr], lg_entry_eq]
  generalize (lg_sl ([.ref (a 12)]) ++ List.replicate (1 - (lg_sl ([.ref (a 12)])).length) Slot.unset).toArray = ls at hl ⊢
  have hl : lv_has ls 1 [(0, .ref (a 12))] := hl
  refine lv_aload_n hx hb dX6_size_0 rfl (lv_at hl 0 rfl) ?_
  refine va_get (D := D) (ci := 4) (v := .int (ck_count σ)) (C := RX6) (T := TX6) (N := 4) hx hb hts in_X6_size_X6 hown hK hP 12 rfl rfl 3 (by decide) (hts (.fieldLink RX6 22 "ImageChecker$WaitingList" "count" "I") (by decide +kernel)) (fun _ h9 => h9) rfl dX6_size_1 ?_
  exact W.iret hx hb hr (fun t ht hW => ⟨⟨_, _, rfl, ⟨Option.some.inj h, rfl⟩, by rw [ht]; exact hP, hD⟩, hS.F ht⟩) hS.2.2 dX6_size_4
abbrev rm_X3_mendWaiting : Room := { frames := 2, cells := 0, slots := 0, locals := 43 }
set_option maxHeartbeats 4000000 in
set_option maxRecDepth 100000 in
theorem c_X3_mendWaiting (l : Launch) (D : va_G) (cI cZ : ClassId) (a : Nat → Nat) (A : Nat → Prop) (σ : ck_S) (σz : ck_S) (h : fX3_mendWaiting σ = some σz) : Met l yX3_mendWaiting wsX3_mendWaiting rm_X3_mendWaiting (va_Pc [.ref (a 1), .ref (a 12)] (ik_P D [(cI, .int), (cZ, .boolean)] ck_N (ck_W cI cZ a) A σ)) (ik_Qv D (ck_W cI cZ a) A σz) 0 0 A := by
  unfold fX3_mendWaiting at h
  refine Met.ofW (cc := cX3_mendWaiting) (maxL := 3) (ret := none) (by decide) rfl ?_
  intro p e s m args below meth c s₁ B hml hv
  obtain ⟨hAr, hP, hK, hD, hN⟩ := hv
  have hx := B.exec
  have hb := B.bytes
  have hr := B.returns
  have hts := atoms_spec (ws := wsX3_mendWaiting) B.pre
  have hown : s.vm.findClass RX3 = some m.cls := findClass_of_methodNamed B.named
  have hlocks := B.notSynchronized
  have hS : va_S A s.heap s.heap [] := va_S.rf
  have hl := lv_entry ([.ref (a 1), .ref (a 12)]) (n := 3) (Nat.le_of_ble_eq_true rfl)
  rw [show entryFrame m args 3 = entryFrame m ([.ref (a 1), .ref (a 12)] : List Value).toArray 3 from by rw [hAr], lg_entry_eq]
  generalize (lg_sl ([.ref (a 1), .ref (a 12)]) ++ List.replicate (3 - (lg_sl ([.ref (a 1), .ref (a 12)])).length) Slot.unset).toArray = ls at hl ⊢
  have hl : lv_has ls 3 [(0, .ref (a 1)), (1, .ref (a 12))] := hl
  refine lv_aload_n hx hb dX3_mendWaiting_0 rfl (lv_at hl 0 rfl) ?_
  refine lv_iconst (v := 2) hx hb dX3_mendWaiting_1 (by decide) ?_
  refine lv_aload_n hx hb dX3_mendWaiting_2 rfl (lv_at hl 1 rfl) ?_
  refine lv_iconst (v := 0) hx hb dX3_mendWaiting_3 (by decide) ?_
  obtain ⟨v1, eh, h⟩ := ik_bd h
  refine ik_Vi (As := [.int 0]) (rest := [.int 2, .ref (a 1)]) ⟨hx, hb, hml, hown, hts⟩ (c_X6_fileAt l D cI cZ a A 0 σ _ eh) (cwV 1 hts gX3_mendWaiting_X6_fileAt rfl rfl rfl (by decide +kernel) ⟨Nat.le_of_ble_eq_true rfl, Nat.le_of_ble_eq_true rfl⟩) (va_recv hK hP (ci := 4) (q0 := 12) rfl rfl) hP hK hD hN hS rfl hl.1 rfl (Nat.le_of_ble_eq_true rfl) dX3_mendWaiting_4 (fun H locs hP hD hS => ?_)
  clear eh
  obtain ⟨σ2, eh, h⟩ := ik_bd h
  refine ik_Vv (As := [.int 2, .int v1]) (rest := []) ⟨hx, hb, hml, hown, hts⟩ (c_X5_putTold l D cI cZ a A 2 v1 σ _ eh) (cwV 2 hts gX3_mendWaiting_X5_putTold rfl rfl rfl (by decide +kernel) ⟨Nat.le_of_ble_eq_true rfl, Nat.le_of_ble_eq_true rfl⟩) (va_recv hK hP (ci := 3) (q0 := 1) rfl rfl) hP hK hD hN hS rfl hl.1 rfl (Nat.le_of_ble_eq_true rfl) dX3_mendWaiting_7 (fun H locs hP hD hS => ?_)
  clear eh
  refine lv_iconst (v := 0) hx hb dX3_mendWaiting_10 (by decide) ?_
  refine lv_istore_n (lv' := [(2, .int 0), (0, .ref (a 1)), (1, .ref (a 12))]) hx hb dX3_mendWaiting_11 rfl hl (by decide) rfl (fun ls hl => ?_)
  refine qp2_W (P := fun (x3 : Int32) (σ4 : ck_S) => ∀ (H : Heap) (locs : List Loc) (ls : Array Slot), va_P D vwCl (ck_W cI cZ a σ4) H → va_D A (ck_W cI cZ a σ4) → va_S A s.heap H locs → lv_has ls 3 [(0, .ref (a 1)), (1, .ref (a 12)), (2, .int x3)] → W p l e (headSpec wsX3_mendWaiting rm_X3_mendWaiting).room s m args below meth c H locs 0 0 (MQ below (ik_Qv D (ck_W cI cZ a) A σz) args s 0 0 A) (F0 m 12 ls [])) ?_ FU _ _ h _ _ _ hP hD hS (lv_sub hl [1, 2, 0] rfl)
  intro rec12 ih12 x3 σ4 h H locs ls hP hD hS hl
  refine lv_iload_n hx hb dX3_mendWaiting_12 rfl (lv_at hl 2 rfl) ?_
  refine lv_aload_n hx hb dX3_mendWaiting_13 rfl (lv_at hl 1 rfl) ?_
  obtain ⟨v5, eh, h⟩ := ik_bd h
  refine ik_Vi (As := []) (rest := [.int x3]) ⟨hx, hb, hml, hown, hts⟩ (c_X6_size l D cI cZ a A  σ4 _ eh) (cwV 0 hts gX3_mendWaiting_X6_size rfl rfl rfl (by decide +kernel) ⟨Nat.le_of_ble_eq_true rfl, Nat.le_of_ble_eq_true rfl⟩) (va_recv hK hP (ci := 4) (q0 := 12) rfl rfl) hP hK hD hN hS rfl hl.1 rfl (Nat.le_of_ble_eq_true rfl) dX3_mendWaiting_14 (fun H locs hP hD hS => ?_)
  clear eh
  refine lv_icmp_ge (tgt := 43) hx hb dX3_mendWaiting_17 (by decide) (fun c6 => ?_) (fun c6 => ?_)
  · have h := ik_t c6 h
    exact W.vret hx hb hr (fun t ht hW => ⟨⟨_, rfl, Option.some.inj h, by rw [ht]; exact hP, hD⟩, hS.F ht⟩) hS.2.2 dX3_mendWaiting_43
  · have h := ik_f c6 h
    refine lv_aload_n hx hb dX3_mendWaiting_20 rfl (lv_at hl 0 rfl) ?_
    refine lv_aload_n hx hb dX3_mendWaiting_21 rfl (lv_at hl 1 rfl) ?_
    refine lv_iload_n hx hb dX3_mendWaiting_22 rfl (lv_at hl 2 rfl) ?_
    obtain ⟨v7, eh, h⟩ := ik_bd h
    refine ik_Vi (As := [.int x3]) (rest := [.ref (a 1)]) ⟨hx, hb, hml, hown, hts⟩ (c_X6_fileAt l D cI cZ a A x3 σ4 _ eh) (cwV 1 hts gX3_mendWaiting_X6_fileAt rfl rfl rfl (by decide +kernel) ⟨Nat.le_of_ble_eq_true rfl, Nat.le_of_ble_eq_true rfl⟩) (va_recv hK hP (ci := 4) (q0 := 12) rfl rfl) hP hK hD hN hS rfl hl.1 rfl (Nat.le_of_ble_eq_true rfl) dX3_mendWaiting_23 (fun H locs hP hD hS => ?_)
    clear eh
    refine lv_iconst (v := 3) hx hb dX3_mendWaiting_26 (by decide) ?_
    refine lv_aload_n hx hb dX3_mendWaiting_27 rfl (lv_at hl 1 rfl) ?_
    refine lv_iload_n hx hb dX3_mendWaiting_28 rfl (lv_at hl 2 rfl) ?_
    refine lv_iconst (v := 1) hx hb dX3_mendWaiting_29 (by decide) ?_
    refine lv_iadd hx hb dX3_mendWaiting_30 ?_
    obtain ⟨v8, eh, h⟩ := ik_bd h
    refine ik_Vi (As := [.int (x3 + 1)]) (rest := [.int 3, .int v7, .ref (a 1)]) ⟨hx, hb, hml, hown, hts⟩ (c_X6_fileAt l D cI cZ a A (x3 + 1) σ4 _ eh) (cwV 1 hts gX3_mendWaiting_X6_fileAt rfl rfl rfl (by decide +kernel) ⟨Nat.le_of_ble_eq_true rfl, Nat.le_of_ble_eq_true rfl⟩) (va_recv hK hP (ci := 4) (q0 := 12) rfl rfl) hP hK hD hN hS rfl hl.1 rfl (Nat.le_of_ble_eq_true rfl) dX3_mendWaiting_31 (fun H locs hP hD hS => ?_)
    clear eh
    obtain ⟨σ9, eh, h⟩ := ik_bd h
    refine ik_Vv (As := [.int v7, .int 3, .int v8]) (rest := []) ⟨hx, hb, hml, hown, hts⟩ (c_X5_putNumber l D cI cZ a A v7 3 v8 σ4 _ eh) (cwV 3 hts gX3_mendWaiting_X5_putNumber rfl rfl rfl (by decide +kernel) ⟨Nat.le_of_ble_eq_true rfl, Nat.le_of_ble_eq_true rfl⟩) (va_recv hK hP (ci := 3) (q0 := 1) rfl rfl) hP hK hD hN hS rfl hl.1 rfl (Nat.le_of_ble_eq_true rfl) dX3_mendWaiting_34 (fun H locs hP hD hS => ?_)
    clear eh
    refine lv_iinc (v := x3 + 1) (lv' := [(2, .int (x3 + 1)), (0, .ref (a 1)), (1, .ref (a 12))]) hx hb dX3_mendWaiting_37 hl (k := 2) rfl rfl (by decide) rfl (fun ls hl => ?_)
    refine lv_goto (tgt := 12) hx hb dX3_mendWaiting_40 (by decide) ?_
    exact ih12 _ _ h _ _ _ hP hD hS (lv_sub hl [1, 2, 0] rfl)
