abbrev rm_X8_parentOf : Room := { frames := 1, cells := 0, slots := 0, locals := 21 }
theorem in_X8_parentOf_X8 : ∀ w ∈ wsX80, w ∈ wsX8_parentOf := by decide +kernel
set_option maxHeartbeats 4000000 in
set_option maxRecDepth 100000 in
theorem c_X8_parentOf (l : Launch) (D : va_G) (cI cZ : ClassId) (a : Nat → Nat) (A : Nat → Prop) (p0 : Int32) (σ : mk_S) (rz : Int32) (h : fX8_parentOf p0 σ = some rz) : Met l yX8_parentOf wsX8_parentOf rm_X8_parentOf (va_Pc [.ref (a 0), .int p0] (ik_P D [(cI, .int), (cZ, .boolean)] [] (mk_W cI cZ a) A σ)) (ik_Qi D (mk_W cI cZ a) A rz σ) 0 0 A := by
  unfold fX8_parentOf at h
  refine Met.ofW (cc := cX8_parentOf) (maxL := 6) (ret := (some .int)) (by decide) rfl ?_
  intro p e s m args below meth c s₁ B hml hv
  obtain ⟨hAr, hP, hK, hD, hN⟩ := hv
  have hx := B.exec
  have hb := B.bytes
  have hr := B.returns
  have hts := atoms_spec (ws := wsX8_parentOf) B.pre
  have hown : s.vm.findClass RX8 = some m.cls := findClass_of_methodNamed B.named
  have hlocks := B.notSynchronized
  have hS : va_S A s.heap s.heap [] := va_S.rf
  have hl := lv_entry ([.ref (a 0), .int p0]) (n := 6) (Nat.le_of_ble_eq_true rfl)
  rw [show entryFrame m args 6 = entryFrame m ([.ref (a 0), .int p0] : List Value).toArray 6 from by rw [hAr], lg_entry_eq]
  generalize (lg_sl ([.ref (a 0), .int p0]) ++ List.replicate (6 - (lg_sl ([.ref (a 0), .int p0])).length) Slot.unset).toArray = ls at hl ⊢
  have hl : lv_has ls 6 [(0, .ref (a 0)), (1, .int p0)] := hl
  refine lv_iload_n hx hb dX8_parentOf_0 rfl (lv_at hl 1 rfl) ?_
  refine lv_iconst (v := 1) hx hb dX8_parentOf_1 (by decide) ?_
  refine lv_icmp_ne (tgt := 9) hx hb dX8_parentOf_2 (by decide) (fun c1 => ?_) (fun c1 => ?_)
  · have h := ik_f c1 h
    refine lv_iconst (v := 0) hx hb dX8_parentOf_9 (by decide) ?_
    refine lv_istore_n (lv' := [(2, .int 0), (0, .ref (a 0)), (1, .int p0)]) hx hb dX8_parentOf_10 rfl hl (by decide) rfl (fun ls hl => ?_)
    refine lv_iconst (v := 1) hx hb dX8_parentOf_11 (by decide) ?_
    refine lv_istore_n (lv' := [(3, .int 1), (2, .int 0), (0, .ref (a 0)), (1, .int p0)]) hx hb dX8_parentOf_12 rfl hl (by decide) rfl (fun ls hl => ?_)
    refine qp2_W (P := fun (x2 : Int32) (x3 : Int32) => ∀ (H : Heap) (locs : List Loc) (ls : Array Slot), va_P D vwCl (mk_W cI cZ a σ) H → va_D A (mk_W cI cZ a σ) → va_S A s.heap H locs → lv_has ls 6 [(0, .ref (a 0)), (1, .int p0), (2, .int x2), (3, .int x3)] → W p l e (headSpec wsX8_parentOf rm_X8_parentOf).room s m args below meth c H locs 0 0 (MQ below (ik_Qi D (mk_W cI cZ a) A rz σ) args s 0 0 A) (F0 m 13 ls [])) ?_ FU _ _ h _ _ _ hP hD hS (lv_sub hl [2, 3, 1, 0] rfl)
    intro rec13 ih13 x2 x3 h H locs ls hP hD hS hl
    refine lv_iload_n hx hb dX8_parentOf_13 rfl (lv_at hl 3 rfl) ?_
    refine lv_bipush (v := 24) hx hb dX8_parentOf_14 (by decide) ?_
    refine lv_icmp_gt (tgt := 99) hx hb dX8_parentOf_16 (by decide) (fun c4 => ?_) (fun c4 => ?_)
    · have h := ik_t c4 h
      refine lv_iload_n hx hb dX8_parentOf_99 rfl (lv_at hl 2 rfl) ?_
      exact W.iret hx hb hr (fun t ht hW => ⟨⟨_, _, rfl, ⟨Option.some.inj h, rfl⟩, by rw [ht]; exact hP, hD⟩, hS.F ht⟩) hS.2.2 dX8_parentOf_100
    · have h := ik_f c4 h
      refine lv_aload_n hx hb dX8_parentOf_19 rfl (lv_at hl 0 rfl) ?_
      refine lv_iload_n hx hb dX8_parentOf_20 rfl (lv_at hl 1 rfl) ?_
      obtain ⟨v5, eh, h⟩ := ik_bd h
      refine ik_Vi (As := [.int p0]) (rest := []) ⟨hx, hb, hml, hown, hts⟩ (c_X8_kindOf l D cI cZ a A p0 σ _ eh) (cwV 1 hts gX8_parentOf_X8_kindOf rfl rfl rfl (by decide +kernel) ⟨Nat.le_of_ble_eq_true rfl, Nat.le_of_ble_eq_true rfl⟩) (va_recv hK hP (ci := 6) (q0 := 0) rfl rfl) hP hK hD hN hS rfl hl.1 rfl (Nat.le_of_ble_eq_true rfl) dX8_parentOf_21 (fun H locs hP hD hS => ?_)
      clear eh
      refine lv_iconst (v := 2) hx hb dX8_parentOf_24 (by decide) ?_
      refine lv_icmp_ne (tgt := 99) hx hb dX8_parentOf_25 (by decide) (fun c6 => ?_) (fun c6 => ?_)
      · have h := ik_f c6 h
        refine lv_iload_n hx hb dX8_parentOf_99 rfl (lv_at hl 2 rfl) ?_
        exact W.iret hx hb hr (fun t ht hW => ⟨⟨_, _, rfl, ⟨Option.some.inj h, rfl⟩, by rw [ht]; exact hP, hD⟩, hS.F ht⟩) hS.2.2 dX8_parentOf_100
      · have h := ik_t c6 h
        refine lv_iconst (v := 0) hx hb dX8_parentOf_28 (by decide) ?_
        refine lv_istore (lv' := [(4, .int 0), (0, .ref (a 0)), (1, .int p0), (2, .int x2), (3, .int x3)]) hx hb dX8_parentOf_29 hl (by decide) rfl (fun ls hl => ?_)
        refine qp2_W (P := fun (x7 : Int32) (x8 : Int32) => ∀ (H : Heap) (locs : List Loc) (ls : Array Slot), va_P D vwCl (mk_W cI cZ a σ) H → va_D A (mk_W cI cZ a σ) → va_S A s.heap H locs → lv_has ls 6 [(0, .ref (a 0)), (1, .int p0), (2, .int x7), (3, .int x3), (4, .int x8)] → W p l e (headSpec wsX8_parentOf rm_X8_parentOf).room s m args below meth c H locs 0 0 (MQ below (ik_Qi D (mk_W cI cZ a) A rz σ) args s 0 0 A) (F0 m 31 ls [])) ?_ FU _ _ h _ _ _ hP hD hS (lv_sub hl [1, 2, 3, 4, 0] rfl)
        intro rec31 ih31 x7 x8 h H locs ls hP hD hS hl
        refine lv_iload hx hb dX8_parentOf_31 (lv_at hl 4 rfl) ?_
        refine lv_bipush (v := 8) hx hb dX8_parentOf_33 (by decide) ?_
        refine lv_icmp_ge (tgt := 93) hx hb dX8_parentOf_35 (by decide) (fun c9 => ?_) (fun c9 => ?_)
        · have h := ik_t c9 h
          refine lv_iinc (v := x3 + 1) (lv' := [(3, .int (x3 + 1)), (0, .ref (a 0)), (1, .int p0), (2, .int x7), (4, .int x8)]) hx hb dX8_parentOf_93 hl (k := 3) rfl rfl (by decide) rfl (fun ls hl => ?_)
          refine lv_goto (tgt := 13) hx hb dX8_parentOf_96 (by decide) ?_
          exact ih13 _ _ h _ _ _ hP hD hS (lv_sub hl [1, 2, 3, 0] rfl)
        · have h := ik_f c9 h
          refine lv_aload_n hx hb dX8_parentOf_38 rfl (lv_at hl 0 rfl) ?_
          refine va_get (D := D) (ci := 6) (v := .ref (a 1)) (C := RX8) (T := TX8) (N := 10) hx hb hts in_X8_parentOf_X8 hown hK hP 0 rfl rfl 1 (by decide) (hts (.fieldLink RX8 7 "ImageCheckerModel" "all" "[I") (by decide +kernel)) (fun _ h9 => h9) rfl dX8_parentOf_39 ?_
          refine lv_iload_n hx hb dX8_parentOf_42 rfl (lv_at hl 3 rfl) ?_
          refine lv_iload hx hb dX8_parentOf_43 (lv_at hl 4 rfl) ?_
          obtain ⟨v10, eh, h⟩ := ik_bd h
          refine ik_Si (As := [.int x3, .int x8]) (rest := [.ref (a 1)]) ⟨hx, hb, hml, hown, hts⟩ (c_X8_entryAt l D cI cZ a A x3 x8 σ _ eh) (va_cwS 2 hts gX8_parentOf_X8_entryAt rfl rfl rfl (by decide +kernel) ⟨Nat.le_of_ble_eq_true rfl, Nat.le_of_ble_eq_true rfl⟩) hP hK hD hN hS rfl hl.1 rfl (Nat.le_of_ble_eq_true rfl) dX8_parentOf_45 (fun H locs hP hD hS => ?_)
          clear eh
          obtain ⟨v11, eh, h⟩ := ik_bd h
          refine ik_ld hx hb hK hP 1 0 rfl rfl eh dX8_parentOf_48 ?_
          clear eh
          obtain ⟨j74, ej, h⟩ := jn_ex h
          have hj74 : ∀ (y12 : Int32), j74 y12 = some rz → ∀ (H : Heap) (locs : List Loc) (ls : Array Slot), va_P D vwCl (mk_W cI cZ a σ) H → va_D A (mk_W cI cZ a σ) → va_S A s.heap H locs → lv_has ls 6 [(0, .ref (a 0)), (1, .int p0), (2, .int x7), (3, .int x3), (4, .int x8)] → W p l e (headSpec wsX8_parentOf rm_X8_parentOf).room s m args below meth c H locs 0 0 (MQ below (ik_Qi D (mk_W cI cZ a) A rz σ) args s 0 0 A) (F0 m 74 ls [.int y12]) := by
            rw [ej]; clear h
            intro y12 h H locs ls hP hD hS hl
            refine lv_istore (lv' := [(5, .int y12), (0, .ref (a 0)), (1, .int p0), (2, .int x7), (3, .int x3), (4, .int x8)]) hx hb dX8_parentOf_74 hl (by decide) rfl (fun ls hl => ?_)
            refine lv_iload hx hb dX8_parentOf_76 (lv_at hl 0 rfl) ?_
            refine lv_if_eq (tgt := 85) hx hb dX8_parentOf_78 (by decide) (fun c13 => ?_) (fun c13 => ?_)
            · have h := ik_t c13 h
              refine lv_iload_n hx hb dX8_parentOf_85 rfl (lv_at hl 3 rfl) ?_
              refine lv_istore_n (lv' := [(2, .int x7), (5, .int y12), (0, .ref (a 0)), (1, .int p0), (3, .int x3), (4, .int x8)]) hx hb dX8_parentOf_86 rfl hl (by decide) rfl (fun ls hl => ?_)
              refine lv_iinc (v := x8 + 1) (lv' := [(4, .int (x8 + 1)), (2, .int x7), (5, .int y12), (0, .ref (a 0)), (1, .int p0), (3, .int x3)]) hx hb dX8_parentOf_87 hl (k := 5) rfl rfl (by decide) rfl (fun ls hl => ?_)
              refine lv_goto (tgt := 31) hx hb dX8_parentOf_90 (by decide) ?_
              exact ih31 _ _ h _ _ _ hP hD hS (lv_sub hl [3, 4, 1, 5, 0] rfl)
            · have h := ik_f c13 h
              refine lv_iload_n hx hb dX8_parentOf_81 rfl (lv_at hl 4 rfl) ?_
              refine lv_goto (tgt := 86) hx hb dX8_parentOf_82 (by decide) ?_
              refine lv_istore_n (lv' := [(2, .int x3), (5, .int y12), (0, .ref (a 0)), (1, .int p0), (3, .int x3), (4, .int x8)]) hx hb dX8_parentOf_86 rfl hl (by decide) rfl (fun ls hl => ?_)
              refine lv_iinc (v := x8 + 1) (lv' := [(4, .int (x8 + 1)), (2, .int x3), (5, .int y12), (0, .ref (a 0)), (1, .int p0), (3, .int x3)]) hx hb dX8_parentOf_87 hl (k := 5) rfl rfl (by decide) rfl (fun ls hl => ?_)
              refine lv_goto (tgt := 31) hx hb dX8_parentOf_90 (by decide) ?_
              exact ih31 _ _ h _ _ _ hP hD hS (lv_sub hl [3, 4, 1, 5, 0] rfl)
          clear ej
          obtain ⟨j73, ej, h⟩ := jn_ex h
          have hj73 : ∀ (_u : Unit), j73 _u = some rz → ∀ (H : Heap) (locs : List Loc) (ls : Array Slot), va_P D vwCl (mk_W cI cZ a σ) H → va_D A (mk_W cI cZ a σ) → va_S A s.heap H locs → lv_has ls 6 [(0, .ref (a 0)), (1, .int p0), (2, .int x7), (3, .int x3), (4, .int x8)] → W p l e (headSpec wsX8_parentOf rm_X8_parentOf).room s m args below meth c H locs 0 0 (MQ below (ik_Qi D (mk_W cI cZ a) A rz σ) args s 0 0 A) (F0 m 73 ls []) := by
            rw [ej]; clear h
            intro _u h H locs ls hP hD hS hl
            refine lv_iconst (v := 0) hx hb dX8_parentOf_73 (by decide) ?_
            exact hj74 _ h _ _ _ hP hD hS (lv_sub hl [0, 1, 2, 3, 4] rfl)
          clear ej
          refine lv_if_eq (tgt := 73) hx hb dX8_parentOf_49 (by decide) (fun c14 => ?_) (fun c14 => ?_)
          · have h := ik_t c14 h
            exact hj73 () h _ _ _ hP hD hS (lv_sub hl [0, 1, 2, 3, 4] rfl)
          · have h := ik_f c14 h
            refine lv_aload_n hx hb dX8_parentOf_52 rfl (lv_at hl 0 rfl) ?_
            refine va_get (D := D) (ci := 6) (v := .ref (a 1)) (C := RX8) (T := TX8) (N := 10) hx hb hts in_X8_parentOf_X8 hown hK hP 0 rfl rfl 1 (by decide) (hts (.fieldLink RX8 7 "ImageCheckerModel" "all" "[I") (by decide +kernel)) (fun _ h9 => h9) rfl dX8_parentOf_53 ?_
            refine lv_iload_n hx hb dX8_parentOf_56 rfl (lv_at hl 3 rfl) ?_
            refine lv_iload hx hb dX8_parentOf_57 (lv_at hl 4 rfl) ?_
            obtain ⟨v15, eh, h⟩ := ik_bd h
            refine ik_Si (As := [.int x3, .int x8]) (rest := [.ref (a 1)]) ⟨hx, hb, hml, hown, hts⟩ (c_X8_entryAt l D cI cZ a A x3 x8 σ _ eh) (va_cwS 2 hts gX8_parentOf_X8_entryAt rfl rfl rfl (by decide +kernel) ⟨Nat.le_of_ble_eq_true rfl, Nat.le_of_ble_eq_true rfl⟩) hP hK hD hN hS rfl hl.1 rfl (Nat.le_of_ble_eq_true rfl) dX8_parentOf_59 (fun H locs hP hD hS => ?_)
            clear eh
            refine lv_iconst (v := 1) hx hb dX8_parentOf_62 (by decide) ?_
            refine lv_iadd hx hb dX8_parentOf_63 ?_
            obtain ⟨v16, eh, h⟩ := ik_bd h
            refine ik_ld hx hb hK hP 1 0 rfl rfl eh dX8_parentOf_64 ?_
            clear eh
            refine lv_iload_n hx hb dX8_parentOf_65 rfl (lv_at hl 1 rfl) ?_
            refine lv_icmp_ne (tgt := 73) hx hb dX8_parentOf_66 (by decide) (fun c17 => ?_) (fun c17 => ?_)
            · have h := ik_f c17 h
              exact hj73 () h _ _ _ hP hD hS (lv_sub hl [0, 1, 2, 3, 4] rfl)
            · have h := ik_t c17 h
              refine lv_iconst (v := 1) hx hb dX8_parentOf_69 (by decide) ?_
              refine lv_goto (tgt := 74) hx hb dX8_parentOf_70 (by decide) ?_
              exact hj74 _ h _ _ _ hP hD hS (lv_sub hl [0, 1, 2, 3, 4] rfl)
  · have h := ik_t c1 h
    refine lv_iconst (v := 1) hx hb dX8_parentOf_5 (by decide) ?_
    refine lv_goto (tgt := 10) hx hb dX8_parentOf_6 (by decide) ?_
    refine lv_istore_n (lv' := [(2, .int 1), (0, .ref (a 0)), (1, .int p0)]) hx hb dX8_parentOf_10 rfl hl (by decide) rfl (fun ls hl => ?_)
    refine lv_iconst (v := 1) hx hb dX8_parentOf_11 (by decide) ?_
    refine lv_istore_n (lv' := [(3, .int 1), (2, .int 1), (0, .ref (a 0)), (1, .int p0)]) hx hb dX8_parentOf_12 rfl hl (by decide) rfl (fun ls hl => ?_)
    refine qp2_W (P := fun (x18 : Int32) (x19 : Int32) => ∀ (H : Heap) (locs : List Loc) (ls : Array Slot), va_P D vwCl (mk_W cI cZ a σ) H → va_D A (mk_W cI cZ a σ) → va_S A s.heap H locs → lv_has ls 6 [(0, .ref (a 0)), (1, .int p0), (2, .int x18), (3, .int x19)] → W p l e (headSpec wsX8_parentOf rm_X8_parentOf).room s m args below meth c H locs 0 0 (MQ below (ik_Qi D (mk_W cI cZ a) A rz σ) args s 0 0 A) (F0 m 13 ls [])) ?_ FU _ _ h _ _ _ hP hD hS (lv_sub hl [2, 3, 1, 0] rfl)
    intro rec13 ih13 x18 x19 h H locs ls hP hD hS hl
    refine lv_iload_n hx hb dX8_parentOf_13 rfl (lv_at hl 3 rfl) ?_
    refine lv_bipush (v := 24) hx hb dX8_parentOf_14 (by decide) ?_
    refine lv_icmp_gt (tgt := 99) hx hb dX8_parentOf_16 (by decide) (fun c20 => ?_) (fun c20 => ?_)
    · have h := ik_t c20 h
      refine lv_iload_n hx hb dX8_parentOf_99 rfl (lv_at hl 2 rfl) ?_
      exact W.iret hx hb hr (fun t ht hW => ⟨⟨_, _, rfl, ⟨Option.some.inj h, rfl⟩, by rw [ht]; exact hP, hD⟩, hS.F ht⟩) hS.2.2 dX8_parentOf_100
    · have h := ik_f c20 h
      refine lv_aload_n hx hb dX8_parentOf_19 rfl (lv_at hl 0 rfl) ?_
      refine lv_iload_n hx hb dX8_parentOf_20 rfl (lv_at hl 1 rfl) ?_
      obtain ⟨v21, eh, h⟩ := ik_bd h
      refine ik_Vi (As := [.int p0]) (rest := []) ⟨hx, hb, hml, hown, hts⟩ (c_X8_kindOf l D cI cZ a A p0 σ _ eh) (cwV 1 hts gX8_parentOf_X8_kindOf rfl rfl rfl (by decide +kernel) ⟨Nat.le_of_ble_eq_true rfl, Nat.le_of_ble_eq_true rfl⟩) (va_recv hK hP (ci := 6) (q0 := 0) rfl rfl) hP hK hD hN hS rfl hl.1 rfl (Nat.le_of_ble_eq_true rfl) dX8_parentOf_21 (fun H locs hP hD hS => ?_)
      clear eh
      refine lv_iconst (v := 2) hx hb dX8_parentOf_24 (by decide) ?_
      refine lv_icmp_ne (tgt := 99) hx hb dX8_parentOf_25 (by decide) (fun c22 => ?_) (fun c22 => ?_)
      · have h := ik_f c22 h
        refine lv_iload_n hx hb dX8_parentOf_99 rfl (lv_at hl 2 rfl) ?_
        exact W.iret hx hb hr (fun t ht hW => ⟨⟨_, _, rfl, ⟨Option.some.inj h, rfl⟩, by rw [ht]; exact hP, hD⟩, hS.F ht⟩) hS.2.2 dX8_parentOf_100
      · have h := ik_t c22 h
        refine lv_iconst (v := 0) hx hb dX8_parentOf_28 (by decide) ?_
        refine lv_istore (lv' := [(4, .int 0), (0, .ref (a 0)), (1, .int p0), (2, .int x18), (3, .int x19)]) hx hb dX8_parentOf_29 hl (by decide) rfl (fun ls hl => ?_)
        refine qp2_W (P := fun (x23 : Int32) (x24 : Int32) => ∀ (H : Heap) (locs : List Loc) (ls : Array Slot), va_P D vwCl (mk_W cI cZ a σ) H → va_D A (mk_W cI cZ a σ) → va_S A s.heap H locs → lv_has ls 6 [(0, .ref (a 0)), (1, .int p0), (2, .int x23), (3, .int x19), (4, .int x24)] → W p l e (headSpec wsX8_parentOf rm_X8_parentOf).room s m args below meth c H locs 0 0 (MQ below (ik_Qi D (mk_W cI cZ a) A rz σ) args s 0 0 A) (F0 m 31 ls [])) ?_ FU _ _ h _ _ _ hP hD hS (lv_sub hl [1, 2, 3, 4, 0] rfl)
        intro rec31 ih31 x23 x24 h H locs ls hP hD hS hl
        refine lv_iload hx hb dX8_parentOf_31 (lv_at hl 4 rfl) ?_
        refine lv_bipush (v := 8) hx hb dX8_parentOf_33 (by decide) ?_
        refine lv_icmp_ge (tgt := 93) hx hb dX8_parentOf_35 (by decide) (fun c25 => ?_) (fun c25 => ?_)
        · have h := ik_t c25 h
          refine lv_iinc (v := x19 + 1) (lv' := [(3, .int (x19 + 1)), (0, .ref (a 0)), (1, .int p0), (2, .int x23), (4, .int x24)]) hx hb dX8_parentOf_93 hl (k := 3) rfl rfl (by decide) rfl (fun ls hl => ?_)
          refine lv_goto (tgt := 13) hx hb dX8_parentOf_96 (by decide) ?_
          exact ih13 _ _ h _ _ _ hP hD hS (lv_sub hl [1, 2, 3, 0] rfl)
        · have h := ik_f c25 h
          refine lv_aload_n hx hb dX8_parentOf_38 rfl (lv_at hl 0 rfl) ?_
          refine va_get (D := D) (ci := 6) (v := .ref (a 1)) (C := RX8) (T := TX8) (N := 10) hx hb hts in_X8_parentOf_X8 hown hK hP 0 rfl rfl 1 (by decide) (hts (.fieldLink RX8 7 "ImageCheckerModel" "all" "[I") (by decide +kernel)) (fun _ h9 => h9) rfl dX8_parentOf_39 ?_
          refine lv_iload_n hx hb dX8_parentOf_42 rfl (lv_at hl 3 rfl) ?_
          refine lv_iload hx hb dX8_parentOf_43 (lv_at hl 4 rfl) ?_
          obtain ⟨v26, eh, h⟩ := ik_bd h
          refine ik_Si (As := [.int x19, .int x24]) (rest := [.ref (a 1)]) ⟨hx, hb, hml, hown, hts⟩ (c_X8_entryAt l D cI cZ a A x19 x24 σ _ eh) (va_cwS 2 hts gX8_parentOf_X8_entryAt rfl rfl rfl (by decide +kernel) ⟨Nat.le_of_ble_eq_true rfl, Nat.le_of_ble_eq_true rfl⟩) hP hK hD hN hS rfl hl.1 rfl (Nat.le_of_ble_eq_true rfl) dX8_parentOf_45 (fun H locs hP hD hS => ?_)
          clear eh
          obtain ⟨v27, eh, h⟩ := ik_bd h
          refine ik_ld hx hb hK hP 1 0 rfl rfl eh dX8_parentOf_48 ?_
          clear eh
          obtain ⟨j74, ej, h⟩ := jn_ex h
          have hj74 : ∀ (y28 : Int32), j74 y28 = some rz → ∀ (H : Heap) (locs : List Loc) (ls : Array Slot), va_P D vwCl (mk_W cI cZ a σ) H → va_D A (mk_W cI cZ a σ) → va_S A s.heap H locs → lv_has ls 6 [(0, .ref (a 0)), (1, .int p0), (2, .int x23), (3, .int x19), (4, .int x24)] → W p l e (headSpec wsX8_parentOf rm_X8_parentOf).room s m args below meth c H locs 0 0 (MQ below (ik_Qi D (mk_W cI cZ a) A rz σ) args s 0 0 A) (F0 m 74 ls [.int y28]) := by
            rw [ej]; clear h
            intro y28 h H locs ls hP hD hS hl
            refine lv_istore (lv' := [(5, .int y28), (0, .ref (a 0)), (1, .int p0), (2, .int x23), (3, .int x19), (4, .int x24)]) hx hb dX8_parentOf_74 hl (by decide) rfl (fun ls hl => ?_)
            refine lv_iload hx hb dX8_parentOf_76 (lv_at hl 0 rfl) ?_
            refine lv_if_eq (tgt := 85) hx hb dX8_parentOf_78 (by decide) (fun c29 => ?_) (fun c29 => ?_)
            · have h := ik_t c29 h
              refine lv_iload_n hx hb dX8_parentOf_85 rfl (lv_at hl 3 rfl) ?_
              refine lv_istore_n (lv' := [(2, .int x23), (5, .int y28), (0, .ref (a 0)), (1, .int p0), (3, .int x19), (4, .int x24)]) hx hb dX8_parentOf_86 rfl hl (by decide) rfl (fun ls hl => ?_)
              refine lv_iinc (v := x24 + 1) (lv' := [(4, .int (x24 + 1)), (2, .int x23), (5, .int y28), (0, .ref (a 0)), (1, .int p0), (3, .int x19)]) hx hb dX8_parentOf_87 hl (k := 5) rfl rfl (by decide) rfl (fun ls hl => ?_)
              refine lv_goto (tgt := 31) hx hb dX8_parentOf_90 (by decide) ?_
              exact ih31 _ _ h _ _ _ hP hD hS (lv_sub hl [3, 4, 1, 5, 0] rfl)
            · have h := ik_f c29 h
              refine lv_iload_n hx hb dX8_parentOf_81 rfl (lv_at hl 4 rfl) ?_
              refine lv_goto (tgt := 86) hx hb dX8_parentOf_82 (by decide) ?_
              refine lv_istore_n (lv' := [(2, .int x19), (5, .int y28), (0, .ref (a 0)), (1, .int p0), (3, .int x19), (4, .int x24)]) hx hb dX8_parentOf_86 rfl hl (by decide) rfl (fun ls hl => ?_)
              refine lv_iinc (v := x24 + 1) (lv' := [(4, .int (x24 + 1)), (2, .int x19), (5, .int y28), (0, .ref (a 0)), (1, .int p0), (3, .int x19)]) hx hb dX8_parentOf_87 hl (k := 5) rfl rfl (by decide) rfl (fun ls hl => ?_)
              refine lv_goto (tgt := 31) hx hb dX8_parentOf_90 (by decide) ?_
              exact ih31 _ _ h _ _ _ hP hD hS (lv_sub hl [3, 4, 1, 5, 0] rfl)
          clear ej
          obtain ⟨j73, ej, h⟩ := jn_ex h
          have hj73 : ∀ (_u : Unit), j73 _u = some rz → ∀ (H : Heap) (locs : List Loc) (ls : Array Slot), va_P D vwCl (mk_W cI cZ a σ) H → va_D A (mk_W cI cZ a σ) → va_S A s.heap H locs → lv_has ls 6 [(0, .ref (a 0)), (1, .int p0), (2, .int x23), (3, .int x19), (4, .int x24)] → W p l e (headSpec wsX8_parentOf rm_X8_parentOf).room s m args below meth c H locs 0 0 (MQ below (ik_Qi D (mk_W cI cZ a) A rz σ) args s 0 0 A) (F0 m 73 ls []) := by
            rw [ej]; clear h
            intro _u h H locs ls hP hD hS hl
            refine lv_iconst (v := 0) hx hb dX8_parentOf_73 (by decide) ?_
            exact hj74 _ h _ _ _ hP hD hS (lv_sub hl [0, 1, 2, 3, 4] rfl)
          clear ej
          refine lv_if_eq (tgt := 73) hx hb dX8_parentOf_49 (by decide) (fun c30 => ?_) (fun c30 => ?_)
          · have h := ik_t c30 h
            exact hj73 () h _ _ _ hP hD hS (lv_sub hl [0, 1, 2, 3, 4] rfl)
          · have h := ik_f c30 h
            refine lv_aload_n hx hb dX8_parentOf_52 rfl (lv_at hl 0 rfl) ?_
            refine va_get (D := D) (ci := 6) (v := .ref (a 1)) (C := RX8) (T := TX8) (N := 10) hx hb hts in_X8_parentOf_X8 hown hK hP 0 rfl rfl 1 (by decide) (hts (.fieldLink RX8 7 "ImageCheckerModel" "all" "[I") (by decide +kernel)) (fun _ h9 => h9) rfl dX8_parentOf_53 ?_
            refine lv_iload_n hx hb dX8_parentOf_56 rfl (lv_at hl 3 rfl) ?_
            refine lv_iload hx hb dX8_parentOf_57 (lv_at hl 4 rfl) ?_
            obtain ⟨v31, eh, h⟩ := ik_bd h
            refine ik_Si (As := [.int x19, .int x24]) (rest := [.ref (a 1)]) ⟨hx, hb, hml, hown, hts⟩ (c_X8_entryAt l D cI cZ a A x19 x24 σ _ eh) (va_cwS 2 hts gX8_parentOf_X8_entryAt rfl rfl rfl (by decide +kernel) ⟨Nat.le_of_ble_eq_true rfl, Nat.le_of_ble_eq_true rfl⟩) hP hK hD hN hS rfl hl.1 rfl (Nat.le_of_ble_eq_true rfl) dX8_parentOf_59 (fun H locs hP hD hS => ?_)
            clear eh
            refine lv_iconst (v := 1) hx hb dX8_parentOf_62 (by decide) ?_
            refine lv_iadd hx hb dX8_parentOf_63 ?_
            obtain ⟨v32, eh, h⟩ := ik_bd h
            refine ik_ld hx hb hK hP 1 0 rfl rfl eh dX8_parentOf_64 ?_
            clear eh
            refine lv_iload_n hx hb dX8_parentOf_65 rfl (lv_at hl 1 rfl) ?_
            refine lv_icmp_ne (tgt := 73) hx hb dX8_parentOf_66 (by decide) (fun c33 => ?_) (fun c33 => ?_)
            · have h := ik_f c33 h
              exact hj73 () h _ _ _ hP hD hS (lv_sub hl [0, 1, 2, 3, 4] rfl)
            · have h := ik_t c33 h
              refine lv_iconst (v := 1) hx hb dX8_parentOf_69 (by decide) ?_
              refine lv_goto (tgt := 74) hx hb dX8_parentOf_70 (by decide) ?_
              exact hj74 _ h _ _ _ hP hD hS (lv_sub hl [0, 1, 2, 3, 4] rfl)
abbrev rm_X8_checkLinks : Room := { frames := 2, cells := 0, slots := 0, locals := 46 }
theorem in_X8_checkLinks_X8 : ∀ w ∈ wsX80, w ∈ wsX8_checkLinks := by decide +kernel
set_option maxHeartbeats 4000000 in
set_option maxRecDepth 100000 in
theorem c_X8_checkLinks (l : Launch) (D : va_G) (cI cZ : ClassId) (a : Nat → Nat) (A : Nat → Prop) (σ : mk_S) (σz : mk_S) (h : fX8_checkLinks σ = some σz) : Met l yX8_checkLinks wsX8_checkLinks rm_X8_checkLinks (va_Pc [.ref (a 0)] (ik_P D [(cI, .int), (cZ, .boolean)] [] (mk_W cI cZ a) A σ)) (ik_Qv D (mk_W cI cZ a) A σz) 0 0 A := by
  unfold fX8_checkLinks at h
  refine Met.ofW (cc := cX8_checkLinks) (maxL := 3) (ret := none) (by decide) rfl ?_
  intro p e s m args below meth c s₁ B hml hv
  obtain ⟨hAr, hP, hK, hD, hN⟩ := hv
  have hx := B.exec
  have hb := B.bytes
  have hr := B.returns
  have hts := atoms_spec (ws := wsX8_checkLinks) B.pre
  have hown : s.vm.findClass RX8 = some m.cls := findClass_of_methodNamed B.named
  have hlocks := B.notSynchronized
  have hS : va_S A s.heap s.heap [] := va_S.rf
  have hl := lv_entry ([.ref (a 0)]) (n := 3) (Nat.le_of_ble_eq_true rfl)
  rw [show entryFrame m args 3 = entryFrame m ([.ref (a 0)] : List Value).toArray 3 from by rw [hAr], lg_entry_eq]
  generalize (lg_sl ([.ref (a 0)]) ++ List.replicate (3 - (lg_sl ([.ref (a 0)])).length) Slot.unset).toArray = ls at hl ⊢
  have hl : lv_has ls 3 [(0, .ref (a 0))] := hl
  refine lv_iconst (v := 1) hx hb dX8_checkLinks_0 (by decide) ?_
  refine lv_istore_n (lv' := [(1, .int 1), (0, .ref (a 0))]) hx hb dX8_checkLinks_1 rfl hl (by decide) rfl (fun ls hl => ?_)
  refine qp2_W (P := fun (x1 : Int32) (σ2 : mk_S) => ∀ (H : Heap) (locs : List Loc) (ls : Array Slot), va_P D vwCl (mk_W cI cZ a σ2) H → va_D A (mk_W cI cZ a σ2) → va_S A s.heap H locs → lv_has ls 3 [(0, .ref (a 0)), (1, .int x1)] → W p l e (headSpec wsX8_checkLinks rm_X8_checkLinks).room s m args below meth c H locs 0 0 (MQ below (ik_Qv D (mk_W cI cZ a) A σz) args s 0 0 A) (F0 m 2 ls [])) ?_ FU _ _ h _ _ _ hP hD hS (lv_sub hl [1, 0] rfl)
  intro rec2 ih2 x1 σ2 h H locs ls hP hD hS hl
  refine lv_iload_n hx hb dX8_checkLinks_2 rfl (lv_at hl 1 rfl) ?_
  refine lv_bipush (v := 24) hx hb dX8_checkLinks_3 (by decide) ?_
  refine lv_icmp_gt (tgt := 73) hx hb dX8_checkLinks_5 (by decide) (fun c3 => ?_) (fun c3 => ?_)
  · have h := ik_t c3 h
    refine lv_iconst (v := 0) hx hb dX8_checkLinks_73 (by decide) ?_
    refine lv_istore_n (lv' := [(1, .int 0), (0, .ref (a 0))]) hx hb dX8_checkLinks_74 rfl hl (by decide) rfl (fun ls hl => ?_)
    refine lv_aload_n hx hb dX8_checkLinks_75 rfl (lv_at hl 1 rfl) ?_
    refine va_get (D := D) (ci := 6) (v := .int (mk_listSize σ2)) (C := RX8) (T := TX8) (N := 10) hx hb hts in_X8_checkLinks_X8 hown hK hP 0 rfl rfl 8 (by decide) (hts (.fieldLink RX8 96 "ImageCheckerModel" "listSize" "I") (by decide +kernel)) (fun _ h9 => h9) rfl dX8_checkLinks_76 ?_
    refine lv_iconst (v := 1) hx hb dX8_checkLinks_79 (by decide) ?_
    refine lv_isub hx hb dX8_checkLinks_80 ?_
    refine lv_istore_n (lv' := [(2, .int ((mk_listSize σ2) - 1)), (1, .int 0), (0, .ref (a 0))]) hx hb dX8_checkLinks_81 rfl hl (by decide) rfl (fun ls hl => ?_)
    refine qp3_W (P := fun (x4 : Int32) (x5 : Int32) (σ6 : mk_S) => ∀ (H : Heap) (locs : List Loc) (ls : Array Slot), va_P D vwCl (mk_W cI cZ a σ6) H → va_D A (mk_W cI cZ a σ6) → va_S A s.heap H locs → lv_has ls 3 [(0, .ref (a 0)), (1, .int x4), (2, .int x5)] → W p l e (headSpec wsX8_checkLinks rm_X8_checkLinks).room s m args below meth c H locs 0 0 (MQ below (ik_Qv D (mk_W cI cZ a) A σz) args s 0 0 A) (F0 m 82 ls [])) ?_ FU _ _ _ h _ _ _ hP hD hS (lv_sub hl [2, 1, 0] rfl)
    intro rec82 ih82 x4 x5 σ6 h H locs ls hP hD hS hl
    refine lv_iload_n hx hb dX8_checkLinks_82 rfl (lv_at hl 2 rfl) ?_
    refine lv_if_lt (tgt := 130) hx hb dX8_checkLinks_83 (by decide) (fun c7 => ?_) (fun c7 => ?_)
    · have h := ik_t c7 h
      refine lv_aload_n hx hb dX8_checkLinks_130 rfl (lv_at hl 0 rfl) ?_
      refine va_get (D := D) (ci := 6) (v := .ref (a 1)) (C := RX8) (T := TX8) (N := 10) hx hb hts in_X8_checkLinks_X8 hown hK hP 0 rfl rfl 1 (by decide) (hts (.fieldLink RX8 7 "ImageCheckerModel" "all" "[I") (by decide +kernel)) (fun _ h9 => h9) rfl dX8_checkLinks_131 ?_
      refine lv_sipush (v := 1428) hx hb dX8_checkLinks_134 (by decide) ?_
      refine lv_iload_n hx hb dX8_checkLinks_137 rfl (lv_at hl 1 rfl) ?_
      obtain ⟨σ8, eh, h⟩ := ik_bd h
      refine ik_st (Wd := mk_W cI cZ a) (σ1 := σ8) hx hb hK hP hD hS 1 0 rfl rfl (fun _ => rfl) eh dX8_checkLinks_138 (fun H locs hP hD hS => ?_)
      clear eh
      exact W.vret hx hb hr (fun t ht hW => ⟨⟨_, rfl, Option.some.inj h, by rw [ht]; exact hP, hD⟩, hS.F ht⟩) hS.2.2 dX8_checkLinks_139
    · have h := ik_f c7 h
      refine lv_aload_n hx hb dX8_checkLinks_86 rfl (lv_at hl 0 rfl) ?_
      refine va_get (D := D) (ci := 6) (v := .ref (a 8)) (C := RX8) (T := TX8) (N := 10) hx hb hts in_X8_checkLinks_X8 hown hK hP 0 rfl rfl 9 (by decide) (hts (.fieldLink RX8 32 "ImageCheckerModel" "goesOn" "[Z") (by decide +kernel)) (fun _ h9 => h9) rfl dX8_checkLinks_87 ?_
      refine lv_aload_n hx hb dX8_checkLinks_90 rfl (lv_at hl 0 rfl) ?_
      refine va_get (D := D) (ci := 6) (v := .ref (a 7)) (C := RX8) (T := TX8) (N := 10) hx hb hts in_X8_checkLinks_X8 hown hK hP 0 rfl rfl 7 (by decide) (hts (.fieldLink RX8 29 "ImageCheckerModel" "list" "[I") (by decide +kernel)) (fun _ h9 => h9) rfl dX8_checkLinks_91 ?_
      refine lv_iload_n hx hb dX8_checkLinks_94 rfl (lv_at hl 2 rfl) ?_
      obtain ⟨v9, eh, h⟩ := ik_bd h
      refine ik_ld hx hb hK hP 7 0 rfl rfl eh dX8_checkLinks_95 ?_
      clear eh
      obtain ⟨v10, eh, h⟩ := ik_bd h
      refine ik_zld hx hb hK hP 8 1 rfl rfl eh dX8_checkLinks_96 ?_
      clear eh
      refine lv_if_eq (tgt := 124) hx hb dX8_checkLinks_97 (by decide) (fun c11 => ?_) (fun c11 => ?_)
      · have h := ik_t c11 h
        refine lv_iinc (v := x5 + (-1)) (lv' := [(2, .int (x5 + (-1))), (0, .ref (a 0)), (1, .int x4)]) hx hb dX8_checkLinks_124 hl (k := 2) rfl rfl (by decide) rfl (fun ls hl => ?_)
        refine lv_goto (tgt := 82) hx hb dX8_checkLinks_127 (by decide) ?_
        exact ih82 _ _ _ h _ _ _ hP hD hS (lv_sub hl [1, 2, 0] rfl)
      · have h := ik_f c11 h
        refine lv_aload_n hx hb dX8_checkLinks_100 rfl (lv_at hl 0 rfl) ?_
        refine va_get (D := D) (ci := 6) (v := .ref (a 1)) (C := RX8) (T := TX8) (N := 10) hx hb hts in_X8_checkLinks_X8 hown hK hP 0 rfl rfl 1 (by decide) (hts (.fieldLink RX8 7 "ImageCheckerModel" "all" "[I") (by decide +kernel)) (fun _ h9 => h9) rfl dX8_checkLinks_101 ?_
        refine lv_bipush (v := 47) hx hb dX8_checkLinks_104 (by decide) ?_
        refine lv_aload_n hx hb dX8_checkLinks_106 rfl (lv_at hl 0 rfl) ?_
        refine va_get (D := D) (ci := 6) (v := .ref (a 7)) (C := RX8) (T := TX8) (N := 10) hx hb hts in_X8_checkLinks_X8 hown hK hP 0 rfl rfl 7 (by decide) (hts (.fieldLink RX8 29 "ImageCheckerModel" "list" "[I") (by decide +kernel)) (fun _ h9 => h9) rfl dX8_checkLinks_107 ?_
        refine lv_iload_n hx hb dX8_checkLinks_110 rfl (lv_at hl 2 rfl) ?_
        obtain ⟨v12, eh, h⟩ := ik_bd h
        refine ik_ld hx hb hK hP 7 0 rfl rfl eh dX8_checkLinks_111 ?_
        clear eh
        refine lv_imul hx hb dX8_checkLinks_112 ?_
        refine lv_iconst (v := 3) hx hb dX8_checkLinks_113 (by decide) ?_
        refine lv_iadd hx hb dX8_checkLinks_114 ?_
        refine lv_iload_n hx hb dX8_checkLinks_115 rfl (lv_at hl 1 rfl) ?_
        obtain ⟨σ13, eh, h⟩ := ik_bd h
        refine ik_st (Wd := mk_W cI cZ a) (σ1 := σ13) hx hb hK hP hD hS 1 0 rfl rfl (fun _ => rfl) eh dX8_checkLinks_116 (fun H locs hP hD hS => ?_)
        clear eh
        refine lv_aload_n hx hb dX8_checkLinks_117 rfl (lv_at hl 0 rfl) ?_
        refine va_get (D := D) (ci := 6) (v := .ref (a 7)) (C := RX8) (T := TX8) (N := 10) hx hb hts in_X8_checkLinks_X8 hown hK hP 0 rfl rfl 7 (by decide) (hts (.fieldLink RX8 29 "ImageCheckerModel" "list" "[I") (by decide +kernel)) (fun _ h9 => h9) rfl dX8_checkLinks_118 ?_
        refine lv_iload_n hx hb dX8_checkLinks_121 rfl (lv_at hl 2 rfl) ?_
        obtain ⟨v14, eh, h⟩ := ik_bd h
        refine ik_ld hx hb hK hP 7 0 rfl rfl eh dX8_checkLinks_122 ?_
        clear eh
        refine lv_istore_n (lv' := [(1, .int v14), (0, .ref (a 0)), (2, .int x5)]) hx hb dX8_checkLinks_123 rfl hl (by decide) rfl (fun ls hl => ?_)
        refine lv_iinc (v := x5 + (-1)) (lv' := [(2, .int (x5 + (-1))), (1, .int v14), (0, .ref (a 0))]) hx hb dX8_checkLinks_124 hl (k := 2) rfl rfl (by decide) rfl (fun ls hl => ?_)
        refine lv_goto (tgt := 82) hx hb dX8_checkLinks_127 (by decide) ?_
        exact ih82 _ _ _ h _ _ _ hP hD hS (lv_sub hl [2, 1, 0] rfl)
  · have h := ik_f c3 h
    refine lv_bipush (v := 47) hx hb dX8_checkLinks_8 (by decide) ?_
    refine lv_iload_n hx hb dX8_checkLinks_10 rfl (lv_at hl 1 rfl) ?_
    refine lv_imul hx hb dX8_checkLinks_11 ?_
    refine lv_istore_n (lv' := [(2, .int (47 * x1)), (0, .ref (a 0)), (1, .int x1)]) hx hb dX8_checkLinks_12 rfl hl (by decide) rfl (fun ls hl => ?_)
    refine lv_aload_n hx hb dX8_checkLinks_13 rfl (lv_at hl 1 rfl) ?_
    refine va_get (D := D) (ci := 6) (v := .ref (a 1)) (C := RX8) (T := TX8) (N := 10) hx hb hts in_X8_checkLinks_X8 hown hK hP 0 rfl rfl 1 (by decide) (hts (.fieldLink RX8 7 "ImageCheckerModel" "all" "[I") (by decide +kernel)) (fun _ h9 => h9) rfl dX8_checkLinks_14 ?_
    refine lv_iload_n hx hb dX8_checkLinks_17 rfl (lv_at hl 0 rfl) ?_
    refine lv_iconst (v := 2) hx hb dX8_checkLinks_18 (by decide) ?_
    refine lv_iadd hx hb dX8_checkLinks_19 ?_
    refine lv_aload_n hx hb dX8_checkLinks_20 rfl (lv_at hl 1 rfl) ?_
    refine lv_iload_n hx hb dX8_checkLinks_21 rfl (lv_at hl 2 rfl) ?_
    obtain ⟨v15, eh, h⟩ := ik_bd h
    refine ik_Vi (As := [.int x1]) (rest := [.int ((47 * x1) + 2), .ref (a 1)]) ⟨hx, hb, hml, hown, hts⟩ (c_X8_kindOf l D cI cZ a A x1 σ2 _ eh) (cwV 1 hts gX8_checkLinks_X8_kindOf rfl rfl rfl (by decide +kernel) ⟨Nat.le_of_ble_eq_true rfl, Nat.le_of_ble_eq_true rfl⟩) (va_recv hK hP (ci := 6) (q0 := 0) rfl rfl) hP hK hD hN hS rfl hl.1 rfl (Nat.le_of_ble_eq_true rfl) dX8_checkLinks_22 (fun H locs hP hD hS => ?_)
    clear eh
    refine lv_iconst (v := 2) hx hb dX8_checkLinks_25 (by decide) ?_
    obtain ⟨j44, ej, h⟩ := jn_ex h
    have hj44 : ∀ (y16 : Int32), j44 y16 = some σz → ∀ (H : Heap) (locs : List Loc) (ls : Array Slot), va_P D vwCl (mk_W cI cZ a σ2) H → va_D A (mk_W cI cZ a σ2) → va_S A s.heap H locs → lv_has ls 3 [(0, .ref (a 0)), (1, .int x1), (2, .int (47 * x1))] → W p l e (headSpec wsX8_checkLinks rm_X8_checkLinks).room s m args below meth c H locs 0 0 (MQ below (ik_Qv D (mk_W cI cZ a) A σz) args s 0 0 A) (F0 m 44 ls [.int y16, .int ((47 * x1) + 2), .ref (a 1)]) := by
      rw [ej]; clear h
      intro y16 h H locs ls hP hD hS hl
      obtain ⟨σ17, eh, h⟩ := ik_bd h
      refine ik_st (Wd := mk_W cI cZ a) (σ1 := σ17) hx hb hK hP hD hS 1 0 rfl rfl (fun _ => rfl) eh dX8_checkLinks_44 (fun H locs hP hD hS => ?_)
      clear eh
      refine lv_aload_n hx hb dX8_checkLinks_45 rfl (lv_at hl 0 rfl) ?_
      refine va_get (D := D) (ci := 6) (v := .ref (a 1)) (C := RX8) (T := TX8) (N := 10) hx hb hts in_X8_checkLinks_X8 hown hK hP 0 rfl rfl 1 (by decide) (hts (.fieldLink RX8 7 "ImageCheckerModel" "all" "[I") (by decide +kernel)) (fun _ h9 => h9) rfl dX8_checkLinks_46 ?_
      refine lv_iload_n hx hb dX8_checkLinks_49 rfl (lv_at hl 2 rfl) ?_
      refine lv_iconst (v := 3) hx hb dX8_checkLinks_50 (by decide) ?_
      refine lv_iadd hx hb dX8_checkLinks_51 ?_
      refine lv_iconst (v := 0) hx hb dX8_checkLinks_52 (by decide) ?_
      obtain ⟨σ18, eh, h⟩ := ik_bd h
      refine ik_st (Wd := mk_W cI cZ a) (σ1 := σ18) hx hb hK hP hD hS 1 0 rfl rfl (fun _ => rfl) eh dX8_checkLinks_53 (fun H locs hP hD hS => ?_)
      clear eh
      refine lv_aload_n hx hb dX8_checkLinks_54 rfl (lv_at hl 0 rfl) ?_
      refine va_get (D := D) (ci := 6) (v := .ref (a 1)) (C := RX8) (T := TX8) (N := 10) hx hb hts in_X8_checkLinks_X8 hown hK hP 0 rfl rfl 1 (by decide) (hts (.fieldLink RX8 7 "ImageCheckerModel" "all" "[I") (by decide +kernel)) (fun _ h9 => h9) rfl dX8_checkLinks_55 ?_
      refine lv_iload_n hx hb dX8_checkLinks_58 rfl (lv_at hl 2 rfl) ?_
      refine lv_iconst (v := 4) hx hb dX8_checkLinks_59 (by decide) ?_
      refine lv_iadd hx hb dX8_checkLinks_60 ?_
      refine lv_aload_n hx hb dX8_checkLinks_61 rfl (lv_at hl 0 rfl) ?_
      refine lv_iload_n hx hb dX8_checkLinks_62 rfl (lv_at hl 1 rfl) ?_
      obtain ⟨v19, eh, h⟩ := ik_bd h
      refine ik_Vi (As := [.int x1]) (rest := [.int ((47 * x1) + 4), .ref (a 1)]) ⟨hx, hb, hml, hown, hts⟩ (c_X8_parentOf l D cI cZ a A x1 σ18 _ eh) (cwV 1 hts gX8_checkLinks_X8_parentOf rfl rfl rfl (by decide +kernel) ⟨Nat.le_of_ble_eq_true rfl, Nat.le_of_ble_eq_true rfl⟩) (va_recv hK hP (ci := 6) (q0 := 0) rfl rfl) hP hK hD hN hS rfl hl.1 rfl (Nat.le_of_ble_eq_true rfl) dX8_checkLinks_63 (fun H locs hP hD hS => ?_)
      clear eh
      obtain ⟨σ20, eh, h⟩ := ik_bd h
      refine ik_st (Wd := mk_W cI cZ a) (σ1 := σ20) hx hb hK hP hD hS 1 0 rfl rfl (fun _ => rfl) eh dX8_checkLinks_66 (fun H locs hP hD hS => ?_)
      clear eh
      refine lv_iinc (v := x1 + 1) (lv' := [(1, .int (x1 + 1)), (0, .ref (a 0)), (2, .int (47 * x1))]) hx hb dX8_checkLinks_67 hl (k := 1) rfl rfl (by decide) rfl (fun ls hl => ?_)
      refine lv_goto (tgt := 2) hx hb dX8_checkLinks_70 (by decide) ?_
      exact ih2 _ _ h _ _ _ hP hD hS (lv_sub hl [1, 0] rfl)
    clear ej
    refine lv_icmp_ne (tgt := 39) hx hb dX8_checkLinks_26 (by decide) (fun c21 => ?_) (fun c21 => ?_)
    · have h := ik_f c21 h
      refine lv_aload_n hx hb dX8_checkLinks_39 rfl (lv_at hl 1 rfl) ?_
      refine lv_iload_n hx hb dX8_checkLinks_40 rfl (lv_at hl 2 rfl) ?_
      obtain ⟨v22, eh, h⟩ := ik_bd h
      refine ik_Vi (As := [.int x1]) (rest := [.int ((47 * x1) + 2), .ref (a 1)]) ⟨hx, hb, hml, hown, hts⟩ (c_X8_leading l D cI cZ a A x1 σ2 _ eh) (cwV 1 hts gX8_checkLinks_X8_leading rfl rfl rfl (by decide +kernel) ⟨Nat.le_of_ble_eq_true rfl, Nat.le_of_ble_eq_true rfl⟩) (va_recv hK hP (ci := 6) (q0 := 0) rfl rfl) hP hK hD hN hS rfl hl.1 rfl (Nat.le_of_ble_eq_true rfl) dX8_checkLinks_41 (fun H locs hP hD hS => ?_)
      clear eh
      exact hj44 _ h _ _ _ hP hD hS (lv_sub hl [1, 2, 0] rfl)
    · have h := ik_t c21 h
      refine lv_iconst (v := 2) hx hb dX8_checkLinks_29 (by decide) ?_
      refine lv_aload_n hx hb dX8_checkLinks_30 rfl (lv_at hl 1 rfl) ?_
      refine lv_iload_n hx hb dX8_checkLinks_31 rfl (lv_at hl 2 rfl) ?_
      obtain ⟨v23, eh, h⟩ := ik_bd h
      refine ik_Vi (As := [.int x1]) (rest := [.int 2, .int ((47 * x1) + 2), .ref (a 1)]) ⟨hx, hb, hml, hown, hts⟩ (c_X8_foldersIn l D cI cZ a A x1 σ2 _ eh) (cwV 1 hts gX8_checkLinks_X8_foldersIn rfl rfl rfl (by decide +kernel) ⟨Nat.le_of_ble_eq_true rfl, Nat.le_of_ble_eq_true rfl⟩) (va_recv hK hP (ci := 6) (q0 := 0) rfl rfl) hP hK hD hN hS rfl hl.1 rfl (Nat.le_of_ble_eq_true rfl) dX8_checkLinks_32 (fun H locs hP hD hS => ?_)
      clear eh
      refine lv_iadd hx hb dX8_checkLinks_35 ?_
      refine lv_goto (tgt := 44) hx hb dX8_checkLinks_36 (by decide) ?_
      exact hj44 _ h _ _ _ hP hD hS (lv_sub hl [1, 2, 0] rfl)
