abbrev rm_X8_find : Room := { frames := 2, cells := 0, slots := 0, locals := 44 }
theorem in_X8_find_X8 : ∀ w ∈ wsX80, w ∈ wsX8_find := by decide +kernel
set_option maxHeartbeats 4000000 in
set_option maxRecDepth 100000 in
theorem c_X8_find (l : Launch) (D : va_G) (cI cZ : ClassId) (a : Nat → Nat) (A : Nat → Prop) (p0 : Int64) (σ : mk_S) (rz : Int32) (σz : mk_S) (h : fX8_find p0 σ = some (rz, σz)) : Met l yX8_find wsX8_find rm_X8_find (va_Pc [.ref (a 0), .long p0] (ik_P D [(cI, .int), (cZ, .boolean)] [] (mk_W cI cZ a) A σ)) (ik_Qi D (mk_W cI cZ a) A rz σz) 0 0 A := by
  unfold fX8_find at h
  refine Met.ofW (cc := cX8_find) (maxL := 6) (ret := (some .int)) (by decide) rfl ?_
  intro p e s m args below meth c s₁ B hml hv
  obtain ⟨hAr, hP, hK, hD, hN⟩ := hv
  have hx := B.exec
  have hb := B.bytes
  have hr := B.returns
  have hts := atoms_spec (ws := wsX8_find) B.pre
  have hown : s.vm.findClass RX8 = some m.cls := findClass_of_methodNamed B.named
  have hlocks := B.notSynchronized
  have hS : va_S A s.heap s.heap [] := va_S.rf
  have hl := lv_entry ([.ref (a 0), .long p0]) (n := 6) (Nat.le_of_ble_eq_true rfl)
  rw [show entryFrame m args 6 = entryFrame m ([.ref (a 0), .long p0] : List Value).toArray 6 from by rw [hAr], lg_entry_eq]
  generalize (lg_sl ([.ref (a 0), .long p0]) ++ List.replicate (6 - (lg_sl ([.ref (a 0), .long p0])).length) Slot.unset).toArray = ls at hl ⊢
  have hl : lv_has ls 6 [(0, .ref (a 0)), (1, .long p0)] := hl
  refine lv_aload_n hx hb dX8_find_0 rfl (lv_at hl 0 rfl) ?_
  refine lv_iconst (v := 0) hx hb dX8_find_1 (by decide) ?_
  obtain ⟨σ1, eh, h⟩ := ik_bd h
  refine va_put (D := D) (ci := 6) (v := .int 0) (ty := .int) (C := RX8) (T := TX8) (N := 10) hx hb hts in_X8_find_X8 tyX8 tyX8_ok nmX8 hown hK hP hD hS 0 rfl rfl 0 (by decide) (hts (.fieldLink RX8 38 "ImageCheckerModel" "code" "I") (by decide +kernel)) (fun _ h9 => h9) rfl (by decide +kernel) rfl rfl (Nat.le_of_ble_eq_true rfl) dX8_find_2 (fun H locs hP hD hS => ?_)
  have hP : va_P D vwCl (mk_W cI cZ a σ1) H := by rw [← Option.some.inj eh]; exact hP
  have hD : va_D A (mk_W cI cZ a σ1) := by rw [← Option.some.inj eh]; exact hD
  clear eh
  refine lv_iconst (v := 1) hx hb dX8_find_5 (by decide) ?_
  refine lv_istore_n (lv' := [(3, .int 1), (0, .ref (a 0)), (1, .long p0)]) hx hb dX8_find_6 rfl hl (by decide) rfl (fun ls hl => ?_)
  refine lv_iconst (v := 0) hx hb dX8_find_7 (by decide) ?_
  refine lv_istore (lv' := [(4, .int 0), (3, .int 1), (0, .ref (a 0)), (1, .long p0)]) hx hb dX8_find_8 hl (by decide) rfl (fun ls hl => ?_)
  refine qp2_W (P := fun (x2 : Int32) (x3 : Int32) => ∀ (H : Heap) (locs : List Loc) (ls : Array Slot), va_P D vwCl (mk_W cI cZ a σ1) H → va_D A (mk_W cI cZ a σ1) → va_S A s.heap H locs → lv_has ls 6 [(0, .ref (a 0)), (1, .long p0), (3, .int x2), (4, .int x3)] → W p l e (headSpec wsX8_find rm_X8_find).room s m args below meth c H locs 0 0 (MQ below (ik_Qi D (mk_W cI cZ a) A rz σz) args s 0 0 A) (F0 m 10 ls [])) ?_ FU _ _ h _ _ _ hP hD hS (lv_sub hl [2, 3, 1, 0] rfl)
  intro rec10 ih10 x2 x3 h H locs ls hP hD hS hl
  refine lv_iload hx hb dX8_find_10 (lv_at hl 3 rfl) ?_
  refine lv_bipush (v := 8) hx hb dX8_find_12 (by decide) ?_
  refine lv_icmp_ge (tgt := 77) hx hb dX8_find_14 (by decide) (fun c4 => ?_) (fun c4 => ?_)
  · have h := ik_t c4 h
    refine lv_iload_n hx hb dX8_find_77 rfl (lv_at hl 2 rfl) ?_
    exact W.iret hx hb hr (fun t ht hW => ⟨⟨_, _, rfl, ⟨congrArg Prod.fst (Option.some.inj h), congrArg Prod.snd (Option.some.inj h)⟩, by rw [ht]; exact hP, hD⟩, hS.F ht⟩) hS.2.2 dX8_find_78
  · have h := ik_f c4 h
    refine lv_lload_n hx hb dX8_find_17 rfl (lv_at hl 1 rfl) ?_
    refine lv_bipush (v := 8) hx hb dX8_find_18 (by decide) ?_
    refine lv_iload hx hb dX8_find_20 (lv_at hl 3 rfl) ?_
    refine lv_imul hx hb dX8_find_22 ?_
    refine lv_lshr (v := p0 >>> ((8 * x3).toInt64 &&& 63)) hx hb dX8_find_23 rfl ?_
    refine lv_ldc2 (v := (255 : Int64)) hx hb hown (hts (.constantLong RX8 138 255) (by decide +kernel)) dX8_find_24 ?_
    refine lv_land hx hb dX8_find_27 ?_
    refine lv_l2i (v := ((p0 >>> ((8 * x3).toInt64 &&& 63)) &&& ((255 : Int64))).toInt32) hx hb dX8_find_28 rfl ?_
    refine lv_istore (lv' := [(5, .int (((p0 >>> ((8 * x3).toInt64 &&& 63)) &&& ((255 : Int64))).toInt32)), (0, .ref (a 0)), (1, .long p0), (3, .int x2), (4, .int x3)]) hx hb dX8_find_29 hl (by decide) rfl (fun ls hl => ?_)
    refine lv_iload hx hb dX8_find_31 (lv_at hl 0 rfl) ?_
    refine lv_if_ne (tgt := 38) hx hb dX8_find_33 (by decide) (fun c5 => ?_) (fun c5 => ?_)
    · have h := ik_f c5 h
      refine lv_aload_n hx hb dX8_find_38 rfl (lv_at hl 1 rfl) ?_
      refine lv_iload_n hx hb dX8_find_39 rfl (lv_at hl 3 rfl) ?_
      obtain ⟨v6, eh, h⟩ := ik_bd h
      refine ik_Vi (As := [.int x2]) (rest := []) ⟨hx, hb, hml, hown, hts⟩ (c_X8_kindOf l D cI cZ a A x2 σ1 _ eh) (cwV 1 hts gX8_find_X8_kindOf rfl rfl rfl (by decide +kernel) ⟨Nat.le_of_ble_eq_true rfl, Nat.le_of_ble_eq_true rfl⟩) (va_recv hK hP (ci := 6) (q0 := 0) rfl rfl) hP hK hD hN hS rfl hl.1 rfl (Nat.le_of_ble_eq_true rfl) dX8_find_40 (fun H locs hP hD hS => ?_)
      clear eh
      refine lv_iconst (v := 2) hx hb dX8_find_43 (by decide) ?_
      obtain ⟨j58, ej, h⟩ := jn_ex h
      have hj58 : ∀ (y7 : Int32), j58 y7 = some (rz, σz) → ∀ (H : Heap) (locs : List Loc) (ls : Array Slot), va_P D vwCl (mk_W cI cZ a σ1) H → va_D A (mk_W cI cZ a σ1) → va_S A s.heap H locs → lv_has ls 6 [(0, .ref (a 0)), (1, .long p0), (4, .int x3)] → W p l e (headSpec wsX8_find rm_X8_find).room s m args below meth c H locs 0 0 (MQ below (ik_Qi D (mk_W cI cZ a) A rz σz) args s 0 0 A) (F0 m 58 ls [.int y7]) := by
        rw [ej]; clear h
        intro y7 h H locs ls hP hD hS hl
        refine lv_istore_n (lv' := [(3, .int y7), (0, .ref (a 0)), (1, .long p0), (4, .int x3)]) hx hb dX8_find_58 rfl hl (by decide) rfl (fun ls hl => ?_)
        refine lv_iload_n hx hb dX8_find_59 rfl (lv_at hl 0 rfl) ?_
        refine lv_iconst (v := 1) hx hb dX8_find_60 (by decide) ?_
        refine lv_bipush (v := 24) hx hb dX8_find_61 (by decide) ?_
        obtain ⟨v8, eh, h⟩ := ik_bd h
        refine ik_Si (As := [.int y7, .int 1, .int 24]) (rest := []) ⟨hx, hb, hml, hown, hts⟩ (c_X8_isIn l D cI cZ a A y7 1 24 σ1 _ eh) (va_cwS 3 hts gX8_find_X8_isIn rfl rfl rfl (by decide +kernel) ⟨Nat.le_of_ble_eq_true rfl, Nat.le_of_ble_eq_true rfl⟩) hP hK hD hN hS rfl hl.1 rfl (Nat.le_of_ble_eq_true rfl) dX8_find_63 (fun H locs hP hD hS => ?_)
        clear eh
        refine lv_if_ne (tgt := 71) hx hb dX8_find_66 (by decide) (fun c9 => ?_) (fun c9 => ?_)
        · have h := ik_f c9 h
          refine lv_iinc (v := x3 + 1) (lv' := [(4, .int (x3 + 1)), (3, .int y7), (0, .ref (a 0)), (1, .long p0)]) hx hb dX8_find_71 hl (k := 3) rfl rfl (by decide) rfl (fun ls hl => ?_)
          refine lv_goto (tgt := 10) hx hb dX8_find_74 (by decide) ?_
          exact ih10 _ _ h _ _ _ hP hD hS (lv_sub hl [2, 3, 1, 0] rfl)
        · have h := ik_t c9 h
          refine lv_iconst (v := 0) hx hb dX8_find_69 (by decide) ?_
          exact W.iret hx hb hr (fun t ht hW => ⟨⟨_, _, rfl, ⟨congrArg Prod.fst (Option.some.inj h), congrArg Prod.snd (Option.some.inj h)⟩, by rw [ht]; exact hP, hD⟩, hS.F ht⟩) hS.2.2 dX8_find_70
      clear ej
      refine lv_icmp_ne (tgt := 57) hx hb dX8_find_44 (by decide) (fun c10 => ?_) (fun c10 => ?_)
      · have h := ik_f c10 h
        refine lv_iconst (v := 0) hx hb dX8_find_57 (by decide) ?_
        exact hj58 _ h _ _ _ hP hD hS (lv_sub hl [1, 2, 4] rfl)
      · have h := ik_t c10 h
        refine lv_aload_n hx hb dX8_find_47 rfl (lv_at hl 1 rfl) ?_
        refine lv_iload_n hx hb dX8_find_48 rfl (lv_at hl 3 rfl) ?_
        refine lv_iload hx hb dX8_find_49 (lv_at hl 0 rfl) ?_
        obtain ⟨v11, eh, h⟩ := ik_bd h
        refine ik_Vi (As := [.int x2, .int (((p0 >>> ((8 * x3).toInt64 &&& 63)) &&& ((255 : Int64))).toInt32)]) (rest := []) ⟨hx, hb, hml, hown, hts⟩ (c_X8_entryNamed l D cI cZ a A x2 (((p0 >>> ((8 * x3).toInt64 &&& 63)) &&& ((255 : Int64))).toInt32) σ1 _ eh) (cwV 2 hts gX8_find_X8_entryNamed rfl rfl rfl (by decide +kernel) ⟨Nat.le_of_ble_eq_true rfl, Nat.le_of_ble_eq_true rfl⟩) (va_recv hK hP (ci := 6) (q0 := 0) rfl rfl) hP hK hD hN hS rfl hl.1 rfl (Nat.le_of_ble_eq_true rfl) dX8_find_51 (fun H locs hP hD hS => ?_)
        clear eh
        refine lv_goto (tgt := 58) hx hb dX8_find_54 (by decide) ?_
        exact hj58 _ h _ _ _ hP hD hS (lv_sub hl [1, 2, 4] rfl)
    · have h := ik_t c5 h
      refine lv_iload_n hx hb dX8_find_36 rfl (lv_at hl 3 rfl) ?_
      exact W.iret hx hb hr (fun t ht hW => ⟨⟨_, _, rfl, ⟨congrArg Prod.fst (Option.some.inj h), congrArg Prod.snd (Option.some.inj h)⟩, by rw [ht]; exact hP, hD⟩, hS.F ht⟩) hS.2.2 dX8_find_37
