abbrev rm_X8_isRight : Room := { frames := 0, cells := 0, slots := 0, locals := 0 }
set_option maxHeartbeats 4000000 in
set_option maxRecDepth 100000 in
theorem c_X8_isRight (l : Launch) (D : va_G) (cI cZ : ClassId) (a : Nat → Nat) (A : Nat → Prop) (p0 : Int32) (p1 : Int32) (p2 : Int32) (σ : mk_S) (rz : Int32) (h : fX8_isRight p0 p1 p2 = some rz) : Met l yX8_isRight wsX8_isRight rm_X8_isRight (va_Pc [.int p0, .int p1, .int p2] (ik_P D [(cI, .int), (cZ, .boolean)] [] (mk_W cI cZ a) A σ)) (ik_Qi D (mk_W cI cZ a) A rz σ) 0 0 A := by
  unfold fX8_isRight at h
  refine Met.ofW (cc := cX8_isRight) (maxL := 3) (ret := (some .boolean)) (by decide) rfl ?_
  intro p e s m args below meth c s₁ B hml hv
  obtain ⟨hAr, hP, hK, hD, hN⟩ := hv
  have hx := B.exec
  have hb := B.bytes
  have hr := B.returns
  have hts := atoms_spec (ws := wsX8_isRight) B.pre
  have hown : s.vm.findClass RX8 = some m.cls := findClass_of_methodNamed B.named
  have hlocks := B.notSynchronized
  have hS : va_S A s.heap s.heap [] := va_S.rf
  have hl := lv_entry ([.int p0, .int p1, .int p2]) (n := 3) (Nat.le_of_ble_eq_true rfl)
  rw [show entryFrame m args 3 = entryFrame m ([.int p0, .int p1, .int p2] : List Value).toArray 3 from by rw [hAr], lg_entry_eq]
  generalize (lg_sl ([.int p0, .int p1, .int p2]) ++ List.replicate (3 - (lg_sl ([.int p0, .int p1, .int p2])).length) Slot.unset).toArray = ls at hl ⊢
  have hl : lv_has ls 3 [(0, .int p0), (1, .int p1), (2, .int p2)] := hl
  refine lv_iload_n hx hb dX8_isRight_0 rfl (lv_at hl 1 rfl) ?_
  refine lv_iconst (v := 1) hx hb dX8_isRight_1 (by decide) ?_
  refine lv_icmp_lt (tgt := 42) hx hb dX8_isRight_2 (by decide) (fun c1 => ?_) (fun c1 => ?_)
  · have h := ik_t c1 h
    refine lv_iconst (v := 0) hx hb dX8_isRight_42 (by decide) ?_
    exact W.zret (v := 0) hx hb hr rfl (fun t ht hW => ⟨⟨_, _, rfl, ⟨Option.some.inj h, rfl⟩, by rw [ht]; exact hP, hD⟩, hS.F ht⟩) hS.2.2 dX8_isRight_43
  · have h := ik_f c1 h
    refine lv_iload_n hx hb dX8_isRight_5 rfl (lv_at hl 1 rfl) ?_
    refine lv_bipush (v := 64) hx hb dX8_isRight_6 (by decide) ?_
    refine lv_icmp_gt (tgt := 42) hx hb dX8_isRight_8 (by decide) (fun c2 => ?_) (fun c2 => ?_)
    · have h := ik_t c2 h
      refine lv_iconst (v := 0) hx hb dX8_isRight_42 (by decide) ?_
      exact W.zret (v := 0) hx hb hr rfl (fun t ht hW => ⟨⟨_, _, rfl, ⟨Option.some.inj h, rfl⟩, by rw [ht]; exact hP, hD⟩, hS.F ht⟩) hS.2.2 dX8_isRight_43
    · have h := ik_f c2 h
      refine lv_iload_n hx hb dX8_isRight_11 rfl (lv_at hl 0 rfl) ?_
      refine lv_if_lt (tgt := 42) hx hb dX8_isRight_12 (by decide) (fun c3 => ?_) (fun c3 => ?_)
      · have h := ik_t c3 h
        refine lv_iconst (v := 0) hx hb dX8_isRight_42 (by decide) ?_
        exact W.zret (v := 0) hx hb hr rfl (fun t ht hW => ⟨⟨_, _, rfl, ⟨Option.some.inj h, rfl⟩, by rw [ht]; exact hP, hD⟩, hS.F ht⟩) hS.2.2 dX8_isRight_43
      · have h := ik_f c3 h
        refine lv_iload_n hx hb dX8_isRight_15 rfl (lv_at hl 0 rfl) ?_
        refine lv_bipush (v := 64) hx hb dX8_isRight_16 (by decide) ?_
        refine lv_iload_n hx hb dX8_isRight_18 rfl (lv_at hl 1 rfl) ?_
        refine lv_isub hx hb dX8_isRight_19 ?_
        refine lv_icmp_gt (tgt := 42) hx hb dX8_isRight_20 (by decide) (fun c4 => ?_) (fun c4 => ?_)
        · have h := ik_t c4 h
          refine lv_iconst (v := 0) hx hb dX8_isRight_42 (by decide) ?_
          exact W.zret (v := 0) hx hb hr rfl (fun t ht hW => ⟨⟨_, _, rfl, ⟨Option.some.inj h, rfl⟩, by rw [ht]; exact hP, hD⟩, hS.F ht⟩) hS.2.2 dX8_isRight_43
        · have h := ik_f c4 h
          refine lv_iload_n hx hb dX8_isRight_23 rfl (lv_at hl 2 rfl) ?_
          refine lv_bipush (v := 9) hx hb dX8_isRight_24 (by decide) ?_
          refine lv_icmp_lt (tgt := 42) hx hb dX8_isRight_26 (by decide) (fun c5 => ?_) (fun c5 => ?_)
          · have h := ik_t c5 h
            refine lv_iconst (v := 0) hx hb dX8_isRight_42 (by decide) ?_
            exact W.zret (v := 0) hx hb hr rfl (fun t ht hW => ⟨⟨_, _, rfl, ⟨Option.some.inj h, rfl⟩, by rw [ht]; exact hP, hD⟩, hS.F ht⟩) hS.2.2 dX8_isRight_43
          · have h := ik_f c5 h
            refine lv_iload_n hx hb dX8_isRight_29 rfl (lv_at hl 2 rfl) ?_
            refine lv_sipush (v := 201) hx hb dX8_isRight_30 (by decide) ?_
            refine lv_iload_n hx hb dX8_isRight_33 rfl (lv_at hl 1 rfl) ?_
            refine lv_isub hx hb dX8_isRight_34 ?_
            refine lv_icmp_gt (tgt := 42) hx hb dX8_isRight_35 (by decide) (fun c6 => ?_) (fun c6 => ?_)
            · have h := ik_t c6 h
              refine lv_iconst (v := 0) hx hb dX8_isRight_42 (by decide) ?_
              exact W.zret (v := 0) hx hb hr rfl (fun t ht hW => ⟨⟨_, _, rfl, ⟨Option.some.inj h, rfl⟩, by rw [ht]; exact hP, hD⟩, hS.F ht⟩) hS.2.2 dX8_isRight_43
            · have h := ik_f c6 h
              refine lv_iconst (v := 1) hx hb dX8_isRight_38 (by decide) ?_
              refine lv_goto (tgt := 43) hx hb dX8_isRight_39 (by decide) ?_
              exact W.zret (v := 1) hx hb hr rfl (fun t ht hW => ⟨⟨_, _, rfl, ⟨Option.some.inj h, rfl⟩, by rw [ht]; exact hP, hD⟩, hS.F ht⟩) hS.2.2 dX8_isRight_43
abbrev rm_X8_greatestEnd : Room := { frames := 1, cells := 0, slots := 0, locals := 22 }
theorem in_X8_greatestEnd_X8 : ∀ w ∈ wsX80, w ∈ wsX8_greatestEnd := by decide +kernel
set_option maxHeartbeats 4000000 in
set_option maxRecDepth 100000 in
theorem c_X8_greatestEnd (l : Launch) (D : va_G) (cI cZ : ClassId) (a : Nat → Nat) (A : Nat → Prop) (p0 : Int32) (σ : mk_S) (rz : Int32) (h : fX8_greatestEnd p0 σ = some rz) : Met l yX8_greatestEnd wsX8_greatestEnd rm_X8_greatestEnd (va_Pc [.ref (a 0), .int p0] (ik_P D [(cI, .int), (cZ, .boolean)] [] (mk_W cI cZ a) A σ)) (ik_Qi D (mk_W cI cZ a) A rz σ) 0 0 A := by
  unfold fX8_greatestEnd at h
  refine Met.ofW (cc := cX8_greatestEnd) (maxL := 6) (ret := (some .int)) (by decide) rfl ?_
  intro p e s m args below meth c s₁ B hml hv
  obtain ⟨hAr, hP, hK, hD, hN⟩ := hv
  have hx := B.exec
  have hb := B.bytes
  have hr := B.returns
  have hts := atoms_spec (ws := wsX8_greatestEnd) B.pre
  have hown : s.vm.findClass RX8 = some m.cls := findClass_of_methodNamed B.named
  have hlocks := B.notSynchronized
  have hS : va_S A s.heap s.heap [] := va_S.rf
  have hl := lv_entry ([.ref (a 0), .int p0]) (n := 6) (Nat.le_of_ble_eq_true rfl)
  rw [show entryFrame m args 6 = entryFrame m ([.ref (a 0), .int p0] : List Value).toArray 6 from by rw [hAr], lg_entry_eq]
  generalize (lg_sl ([.ref (a 0), .int p0]) ++ List.replicate (6 - (lg_sl ([.ref (a 0), .int p0])).length) Slot.unset).toArray = ls at hl ⊢
  have hl : lv_has ls 6 [(0, .ref (a 0)), (1, .int p0)] := hl
  refine lv_iconst (v := 0) hx hb dX8_greatestEnd_0 (by decide) ?_
  refine lv_istore_n (lv' := [(2, .int 0), (0, .ref (a 0)), (1, .int p0)]) hx hb dX8_greatestEnd_1 rfl hl (by decide) rfl (fun ls hl => ?_)
  refine lv_iconst (v := 0) hx hb dX8_greatestEnd_2 (by decide) ?_
  refine lv_istore_n (lv' := [(3, .int 0), (2, .int 0), (0, .ref (a 0)), (1, .int p0)]) hx hb dX8_greatestEnd_3 rfl hl (by decide) rfl (fun ls hl => ?_)
  refine qp2_W (P := fun (x1 : Int32) (x2 : Int32) => ∀ (H : Heap) (locs : List Loc) (ls : Array Slot), va_P D vwCl (mk_W cI cZ a σ) H → va_D A (mk_W cI cZ a σ) → va_S A s.heap H locs → lv_has ls 6 [(0, .ref (a 0)), (1, .int p0), (2, .int x1), (3, .int x2)] → W p l e (headSpec wsX8_greatestEnd rm_X8_greatestEnd).room s m args below meth c H locs 0 0 (MQ below (ik_Qi D (mk_W cI cZ a) A rz σ) args s 0 0 A) (F0 m 4 ls [])) ?_ FU _ _ h _ _ _ hP hD hS (lv_sub hl [2, 3, 1, 0] rfl)
  intro rec4 ih4 x1 x2 h H locs ls hP hD hS hl
  refine lv_iload_n hx hb dX8_greatestEnd_4 rfl (lv_at hl 3 rfl) ?_
  refine lv_bipush (v := 6) hx hb dX8_greatestEnd_5 (by decide) ?_
  refine lv_icmp_ge (tgt := 109) hx hb dX8_greatestEnd_7 (by decide) (fun c3 => ?_) (fun c3 => ?_)
  · have h := ik_t c3 h
    refine lv_iload_n hx hb dX8_greatestEnd_109 rfl (lv_at hl 2 rfl) ?_
    exact W.iret hx hb hr (fun t ht hW => ⟨⟨_, _, rfl, ⟨Option.some.inj h, rfl⟩, by rw [ht]; exact hP, hD⟩, hS.F ht⟩) hS.2.2 dX8_greatestEnd_110
  · have h := ik_f c3 h
    refine lv_iload_n hx hb dX8_greatestEnd_10 rfl (lv_at hl 1 rfl) ?_
    refine lv_iload_n hx hb dX8_greatestEnd_11 rfl (lv_at hl 3 rfl) ?_
    obtain ⟨v4, eh, h⟩ := ik_bd h
    refine ik_Si (As := [.int p0, .int x2]) (rest := []) ⟨hx, hb, hml, hown, hts⟩ (c_X8_runAt l D cI cZ a A p0 x2 σ _ eh) (va_cwS 2 hts gX8_greatestEnd_X8_runAt rfl rfl rfl (by decide +kernel) ⟨Nat.le_of_ble_eq_true rfl, Nat.le_of_ble_eq_true rfl⟩) hP hK hD hN hS rfl hl.1 rfl (Nat.le_of_ble_eq_true rfl) dX8_greatestEnd_12 (fun H locs hP hD hS => ?_)
    clear eh
    refine lv_istore (lv' := [(4, .int v4), (0, .ref (a 0)), (1, .int p0), (2, .int x1), (3, .int x2)]) hx hb dX8_greatestEnd_15 hl (by decide) rfl (fun ls hl => ?_)
    refine lv_aload_n hx hb dX8_greatestEnd_17 rfl (lv_at hl 1 rfl) ?_
    refine va_get (D := D) (ci := 6) (v := .ref (a 1)) (C := RX8) (T := TX8) (N := 10) hx hb hts in_X8_greatestEnd_X8 hown hK hP 0 rfl rfl 1 (by decide) (hts (.fieldLink RX8 7 "ImageCheckerModel" "all" "[I") (by decide +kernel)) (fun _ h9 => h9) rfl dX8_greatestEnd_18 ?_
    refine lv_iload hx hb dX8_greatestEnd_21 (lv_at hl 0 rfl) ?_
    obtain ⟨v5, eh, h⟩ := ik_bd h
    refine ik_ld hx hb hK hP 1 0 rfl rfl eh dX8_greatestEnd_23 ?_
    clear eh
    refine lv_aload_n hx hb dX8_greatestEnd_24 rfl (lv_at hl 1 rfl) ?_
    refine va_get (D := D) (ci := 6) (v := .ref (a 1)) (C := RX8) (T := TX8) (N := 10) hx hb hts in_X8_greatestEnd_X8 hown hK hP 0 rfl rfl 1 (by decide) (hts (.fieldLink RX8 7 "ImageCheckerModel" "all" "[I") (by decide +kernel)) (fun _ h9 => h9) rfl dX8_greatestEnd_25 ?_
    refine lv_iload hx hb dX8_greatestEnd_28 (lv_at hl 0 rfl) ?_
    refine lv_iconst (v := 1) hx hb dX8_greatestEnd_30 (by decide) ?_
    refine lv_iadd hx hb dX8_greatestEnd_31 ?_
    obtain ⟨v6, eh, h⟩ := ik_bd h
    refine ik_ld hx hb hK hP 1 0 rfl rfl eh dX8_greatestEnd_32 ?_
    clear eh
    refine lv_aload_n hx hb dX8_greatestEnd_33 rfl (lv_at hl 1 rfl) ?_
    refine va_get (D := D) (ci := 6) (v := .ref (a 1)) (C := RX8) (T := TX8) (N := 10) hx hb hts in_X8_greatestEnd_X8 hown hK hP 0 rfl rfl 1 (by decide) (hts (.fieldLink RX8 7 "ImageCheckerModel" "all" "[I") (by decide +kernel)) (fun _ h9 => h9) rfl dX8_greatestEnd_34 ?_
    refine lv_iload hx hb dX8_greatestEnd_37 (lv_at hl 0 rfl) ?_
    refine lv_iconst (v := 2) hx hb dX8_greatestEnd_39 (by decide) ?_
    refine lv_iadd hx hb dX8_greatestEnd_40 ?_
    obtain ⟨v7, eh, h⟩ := ik_bd h
    refine ik_ld hx hb hK hP 1 0 rfl rfl eh dX8_greatestEnd_41 ?_
    clear eh
    obtain ⟨v8, eh, h⟩ := ik_bd h
    refine ik_Si (As := [.int v5, .int v6, .int v7]) (rest := []) ⟨hx, hb, hml, hown, hts⟩ (c_X8_isRight l D cI cZ a A v5 v6 v7 σ _ eh) (va_cwS 3 hts gX8_greatestEnd_X8_isRight rfl rfl rfl (by decide +kernel) ⟨Nat.le_of_ble_eq_true rfl, Nat.le_of_ble_eq_true rfl⟩) hP hK hD hN hS rfl hl.1 rfl (Nat.le_of_ble_eq_true rfl) dX8_greatestEnd_42 (fun H locs hP hD hS => ?_)
    clear eh
    obtain ⟨j74, ej, h⟩ := jn_ex h
    have hj74 : ∀ (y9 : Int32), j74 y9 = some rz → ∀ (H : Heap) (locs : List Loc) (ls : Array Slot), va_P D vwCl (mk_W cI cZ a σ) H → va_D A (mk_W cI cZ a σ) → va_S A s.heap H locs → lv_has ls 6 [(0, .ref (a 0)), (1, .int p0), (2, .int x1), (3, .int x2), (4, .int v4)] → W p l e (headSpec wsX8_greatestEnd rm_X8_greatestEnd).room s m args below meth c H locs 0 0 (MQ below (ik_Qi D (mk_W cI cZ a) A rz σ) args s 0 0 A) (F0 m 74 ls [.int y9]) := by
      rw [ej]; clear h
      intro y9 h H locs ls hP hD hS hl
      refine lv_istore (lv' := [(5, .int y9), (0, .ref (a 0)), (1, .int p0), (2, .int x1), (3, .int x2), (4, .int v4)]) hx hb dX8_greatestEnd_74 hl (by decide) rfl (fun ls hl => ?_)
      refine lv_iload hx hb dX8_greatestEnd_76 (lv_at hl 0 rfl) ?_
      refine lv_if_eq (tgt := 101) hx hb dX8_greatestEnd_78 (by decide) (fun c10 => ?_) (fun c10 => ?_)
      · have h := ik_t c10 h
        refine lv_iload_n hx hb dX8_greatestEnd_101 rfl (lv_at hl 3 rfl) ?_
        refine lv_istore_n (lv' := [(2, .int x1), (5, .int y9), (0, .ref (a 0)), (1, .int p0), (3, .int x2), (4, .int v4)]) hx hb dX8_greatestEnd_102 rfl hl (by decide) rfl (fun ls hl => ?_)
        refine lv_iinc (v := x2 + 1) (lv' := [(3, .int (x2 + 1)), (2, .int x1), (5, .int y9), (0, .ref (a 0)), (1, .int p0), (4, .int v4)]) hx hb dX8_greatestEnd_103 hl (k := 4) rfl rfl (by decide) rfl (fun ls hl => ?_)
        refine lv_goto (tgt := 4) hx hb dX8_greatestEnd_106 (by decide) ?_
        exact ih4 _ _ h _ _ _ hP hD hS (lv_sub hl [3, 4, 1, 0] rfl)
      · have h := ik_f c10 h
        refine lv_aload_n hx hb dX8_greatestEnd_81 rfl (lv_at hl 1 rfl) ?_
        refine va_get (D := D) (ci := 6) (v := .ref (a 1)) (C := RX8) (T := TX8) (N := 10) hx hb hts in_X8_greatestEnd_X8 hown hK hP 0 rfl rfl 1 (by decide) (hts (.fieldLink RX8 7 "ImageCheckerModel" "all" "[I") (by decide +kernel)) (fun _ h9 => h9) rfl dX8_greatestEnd_82 ?_
        refine lv_iload hx hb dX8_greatestEnd_85 (lv_at hl 5 rfl) ?_
        obtain ⟨v11, eh, h⟩ := ik_bd h
        refine ik_ld hx hb hK hP 1 0 rfl rfl eh dX8_greatestEnd_87 ?_
        clear eh
        refine lv_aload_n hx hb dX8_greatestEnd_88 rfl (lv_at hl 1 rfl) ?_
        refine va_get (D := D) (ci := 6) (v := .ref (a 1)) (C := RX8) (T := TX8) (N := 10) hx hb hts in_X8_greatestEnd_X8 hown hK hP 0 rfl rfl 1 (by decide) (hts (.fieldLink RX8 7 "ImageCheckerModel" "all" "[I") (by decide +kernel)) (fun _ h9 => h9) rfl dX8_greatestEnd_89 ?_
        refine lv_iload hx hb dX8_greatestEnd_92 (lv_at hl 5 rfl) ?_
        refine lv_iconst (v := 1) hx hb dX8_greatestEnd_94 (by decide) ?_
        refine lv_iadd hx hb dX8_greatestEnd_95 ?_
        obtain ⟨v12, eh, h⟩ := ik_bd h
        refine ik_ld hx hb hK hP 1 0 rfl rfl eh dX8_greatestEnd_96 ?_
        clear eh
        refine lv_iadd hx hb dX8_greatestEnd_97 ?_
        refine lv_goto (tgt := 102) hx hb dX8_greatestEnd_98 (by decide) ?_
        refine lv_istore_n (lv' := [(2, .int (v11 + v12)), (5, .int y9), (0, .ref (a 0)), (1, .int p0), (3, .int x2), (4, .int v4)]) hx hb dX8_greatestEnd_102 rfl hl (by decide) rfl (fun ls hl => ?_)
        refine lv_iinc (v := x2 + 1) (lv' := [(3, .int (x2 + 1)), (2, .int (v11 + v12)), (5, .int y9), (0, .ref (a 0)), (1, .int p0), (4, .int v4)]) hx hb dX8_greatestEnd_103 hl (k := 4) rfl rfl (by decide) rfl (fun ls hl => ?_)
        refine lv_goto (tgt := 4) hx hb dX8_greatestEnd_106 (by decide) ?_
        exact ih4 _ _ h _ _ _ hP hD hS (lv_sub hl [3, 4, 1, 0] rfl)
    clear ej
    obtain ⟨j73, ej, h⟩ := jn_ex h
    have hj73 : ∀ (_u : Unit), j73 _u = some rz → ∀ (H : Heap) (locs : List Loc) (ls : Array Slot), va_P D vwCl (mk_W cI cZ a σ) H → va_D A (mk_W cI cZ a σ) → va_S A s.heap H locs → lv_has ls 6 [(0, .ref (a 0)), (1, .int p0), (2, .int x1), (3, .int x2), (4, .int v4)] → W p l e (headSpec wsX8_greatestEnd rm_X8_greatestEnd).room s m args below meth c H locs 0 0 (MQ below (ik_Qi D (mk_W cI cZ a) A rz σ) args s 0 0 A) (F0 m 73 ls []) := by
      rw [ej]; clear h
      intro _u h H locs ls hP hD hS hl
      refine lv_iconst (v := 0) hx hb dX8_greatestEnd_73 (by decide) ?_
      exact hj74 _ h _ _ _ hP hD hS (lv_sub hl [0, 1, 2, 3, 4] rfl)
    clear ej
    refine lv_if_eq (tgt := 73) hx hb dX8_greatestEnd_45 (by decide) (fun c13 => ?_) (fun c13 => ?_)
    · have h := ik_t c13 h
      exact hj73 () h _ _ _ hP hD hS (lv_sub hl [1, 2, 3, 4, 0] rfl)
    · have h := ik_f c13 h
      refine lv_aload_n hx hb dX8_greatestEnd_48 rfl (lv_at hl 1 rfl) ?_
      refine va_get (D := D) (ci := 6) (v := .ref (a 1)) (C := RX8) (T := TX8) (N := 10) hx hb hts in_X8_greatestEnd_X8 hown hK hP 0 rfl rfl 1 (by decide) (hts (.fieldLink RX8 7 "ImageCheckerModel" "all" "[I") (by decide +kernel)) (fun _ h9 => h9) rfl dX8_greatestEnd_49 ?_
      refine lv_iload hx hb dX8_greatestEnd_52 (lv_at hl 0 rfl) ?_
      obtain ⟨v14, eh, h⟩ := ik_bd h
      refine ik_ld hx hb hK hP 1 0 rfl rfl eh dX8_greatestEnd_54 ?_
      clear eh
      refine lv_aload_n hx hb dX8_greatestEnd_55 rfl (lv_at hl 1 rfl) ?_
      refine va_get (D := D) (ci := 6) (v := .ref (a 1)) (C := RX8) (T := TX8) (N := 10) hx hb hts in_X8_greatestEnd_X8 hown hK hP 0 rfl rfl 1 (by decide) (hts (.fieldLink RX8 7 "ImageCheckerModel" "all" "[I") (by decide +kernel)) (fun _ h9 => h9) rfl dX8_greatestEnd_56 ?_
      refine lv_iload hx hb dX8_greatestEnd_59 (lv_at hl 0 rfl) ?_
      refine lv_iconst (v := 1) hx hb dX8_greatestEnd_61 (by decide) ?_
      refine lv_iadd hx hb dX8_greatestEnd_62 ?_
      obtain ⟨v15, eh, h⟩ := ik_bd h
      refine ik_ld hx hb hK hP 1 0 rfl rfl eh dX8_greatestEnd_63 ?_
      clear eh
      refine lv_iadd hx hb dX8_greatestEnd_64 ?_
      refine lv_iload_n hx hb dX8_greatestEnd_65 rfl (lv_at hl 3 rfl) ?_
      refine lv_icmp_le (tgt := 73) hx hb dX8_greatestEnd_66 (by decide) (fun c16 => ?_) (fun c16 => ?_)
      · have h := ik_t c16 h
        exact hj73 () h _ _ _ hP hD hS (lv_sub hl [1, 2, 3, 4, 0] rfl)
      · have h := ik_f c16 h
        refine lv_iconst (v := 1) hx hb dX8_greatestEnd_69 (by decide) ?_
        refine lv_goto (tgt := 74) hx hb dX8_greatestEnd_70 (by decide) ?_
        exact hj74 _ h _ _ _ hP hD hS (lv_sub hl [1, 2, 3, 4, 0] rfl)
abbrev rm_X8_isFree : Room := { frames := 0, cells := 0, slots := 0, locals := 0 }
theorem in_X8_isFree_X8 : ∀ w ∈ wsX80, w ∈ wsX8_isFree := by decide +kernel
set_option maxHeartbeats 4000000 in
set_option maxRecDepth 100000 in
theorem c_X8_isFree (l : Launch) (D : va_G) (cI cZ : ClassId) (a : Nat → Nat) (A : Nat → Prop) (p0 : Int32) (p1 : Int32) (σ : mk_S) (rz : Int32) (h : fX8_isFree p0 p1 σ = some rz) : Met l yX8_isFree wsX8_isFree rm_X8_isFree (va_Pc [.ref (a 0), .int p0, .int p1] (ik_P D [(cI, .int), (cZ, .boolean)] [] (mk_W cI cZ a) A σ)) (ik_Qi D (mk_W cI cZ a) A rz σ) 0 0 A := by
  unfold fX8_isFree at h
  refine Met.ofW (cc := cX8_isFree) (maxL := 5) (ret := (some .boolean)) (by decide) rfl ?_
  intro p e s m args below meth c s₁ B hml hv
  obtain ⟨hAr, hP, hK, hD, hN⟩ := hv
  have hx := B.exec
  have hb := B.bytes
  have hr := B.returns
  have hts := atoms_spec (ws := wsX8_isFree) B.pre
  have hown : s.vm.findClass RX8 = some m.cls := findClass_of_methodNamed B.named
  have hlocks := B.notSynchronized
  have hS : va_S A s.heap s.heap [] := va_S.rf
  have hl := lv_entry ([.ref (a 0), .int p0, .int p1]) (n := 5) (Nat.le_of_ble_eq_true rfl)
  rw [show entryFrame m args 5 = entryFrame m ([.ref (a 0), .int p0, .int p1] : List Value).toArray 5 from by rw [hAr], lg_entry_eq]
  generalize (lg_sl ([.ref (a 0), .int p0, .int p1]) ++ List.replicate (5 - (lg_sl ([.ref (a 0), .int p0, .int p1])).length) Slot.unset).toArray = ls at hl ⊢
  have hl : lv_has ls 5 [(0, .ref (a 0)), (1, .int p0), (2, .int p1)] := hl
  refine lv_iconst (v := 1) hx hb dX8_isFree_0 (by decide) ?_
  refine lv_istore_n (lv' := [(3, .int 1), (0, .ref (a 0)), (1, .int p0), (2, .int p1)]) hx hb dX8_isFree_1 rfl hl (by decide) rfl (fun ls hl => ?_)
  refine lv_iload_n hx hb dX8_isFree_2 rfl (lv_at hl 2 rfl) ?_
  refine lv_istore (lv' := [(4, .int p0), (3, .int 1), (0, .ref (a 0)), (1, .int p0), (2, .int p1)]) hx hb dX8_isFree_3 hl (by decide) rfl (fun ls hl => ?_)
  refine qp2_W (P := fun (x1 : Int32) (x2 : Int32) => ∀ (H : Heap) (locs : List Loc) (ls : Array Slot), va_P D vwCl (mk_W cI cZ a σ) H → va_D A (mk_W cI cZ a σ) → va_S A s.heap H locs → lv_has ls 5 [(0, .ref (a 0)), (1, .int p0), (2, .int p1), (3, .int x1), (4, .int x2)] → W p l e (headSpec wsX8_isFree rm_X8_isFree).room s m args below meth c H locs 0 0 (MQ below (ik_Qi D (mk_W cI cZ a) A rz σ) args s 0 0 A) (F0 m 5 ls [])) ?_ FU _ _ h _ _ _ hP hD hS (lv_sub hl [2, 3, 4, 1, 0] rfl)
  intro rec5 ih5 x1 x2 h H locs ls hP hD hS hl
  refine lv_iload hx hb dX8_isFree_5 (lv_at hl 4 rfl) ?_
  refine lv_iload_n hx hb dX8_isFree_7 rfl (lv_at hl 1 rfl) ?_
  refine lv_iload_n hx hb dX8_isFree_8 rfl (lv_at hl 2 rfl) ?_
  refine lv_iadd hx hb dX8_isFree_9 ?_
  refine lv_icmp_ge (tgt := 39) hx hb dX8_isFree_10 (by decide) (fun c3 => ?_) (fun c3 => ?_)
  · have h := ik_t c3 h
    refine lv_iload_n hx hb dX8_isFree_39 rfl (lv_at hl 3 rfl) ?_
    have eh := h
    exact W.zret hx hb hr (ik_zn (ik_zb_e eh).1) (fun t ht hW => ⟨⟨_, _, rfl, ⟨(ik_zb_e eh).2, rfl⟩, by rw [ht]; exact hP, hD⟩, hS.F ht⟩) hS.2.2 dX8_isFree_40
  · have h := ik_f c3 h
    refine lv_iload_n hx hb dX8_isFree_13 rfl (lv_at hl 3 rfl) ?_
    obtain ⟨j31, ej, h⟩ := jn_ex h
    have hj31 : ∀ (_u : Unit), j31 _u = some rz → ∀ (H : Heap) (locs : List Loc) (ls : Array Slot), va_P D vwCl (mk_W cI cZ a σ) H → va_D A (mk_W cI cZ a σ) → va_S A s.heap H locs → lv_has ls 5 [(0, .ref (a 0)), (1, .int p0), (2, .int p1), (4, .int x2)] → W p l e (headSpec wsX8_isFree rm_X8_isFree).room s m args below meth c H locs 0 0 (MQ below (ik_Qi D (mk_W cI cZ a) A rz σ) args s 0 0 A) (F0 m 31 ls []) := by
      rw [ej]; clear h
      intro _u h H locs ls hP hD hS hl
      refine lv_iconst (v := 0) hx hb dX8_isFree_31 (by decide) ?_
      refine lv_istore_n (lv' := [(3, .int 0), (0, .ref (a 0)), (1, .int p0), (2, .int p1), (4, .int x2)]) hx hb dX8_isFree_32 rfl hl (by decide) rfl (fun ls hl => ?_)
      refine lv_iinc (v := x2 + 1) (lv' := [(4, .int (x2 + 1)), (3, .int 0), (0, .ref (a 0)), (1, .int p0), (2, .int p1)]) hx hb dX8_isFree_33 hl (k := 4) rfl rfl (by decide) rfl (fun ls hl => ?_)
      refine lv_goto (tgt := 5) hx hb dX8_isFree_36 (by decide) ?_
      exact ih5 _ _ h _ _ _ hP hD hS (lv_sub hl [2, 3, 4, 1, 0] rfl)
    clear ej
    refine lv_if_eq (tgt := 31) hx hb dX8_isFree_14 (by decide) (fun c4 => ?_) (fun c4 => ?_)
    · have h := ik_t c4 h
      exact hj31 () h _ _ _ hP hD hS (lv_sub hl [0, 1, 2, 4] rfl)
    · have h := ik_f c4 h
      refine lv_aload_n hx hb dX8_isFree_17 rfl (lv_at hl 0 rfl) ?_
      refine va_get (D := D) (ci := 6) (v := .ref (a 4)) (C := RX8) (T := TX8) (N := 10) hx hb hts in_X8_isFree_X8 hown hK hP 0 rfl rfl 4 (by decide) (hts (.fieldLink RX8 20 "ImageCheckerModel" "owner" "[I") (by decide +kernel)) (fun _ h9 => h9) rfl dX8_isFree_18 ?_
      refine lv_iload hx hb dX8_isFree_21 (lv_at hl 4 rfl) ?_
      obtain ⟨v5, eh, h⟩ := ik_bd h
      refine ik_ld hx hb hK hP 4 0 rfl rfl eh dX8_isFree_23 ?_
      clear eh
      refine lv_if_ne (tgt := 31) hx hb dX8_isFree_24 (by decide) (fun c6 => ?_) (fun c6 => ?_)
      · have h := ik_f c6 h
        exact hj31 () h _ _ _ hP hD hS (lv_sub hl [0, 1, 2, 4] rfl)
      · have h := ik_t c6 h
        refine lv_iconst (v := 1) hx hb dX8_isFree_27 (by decide) ?_
        refine lv_goto (tgt := 32) hx hb dX8_isFree_28 (by decide) ?_
        refine lv_istore_n (lv' := [(3, .int 1), (0, .ref (a 0)), (1, .int p0), (2, .int p1), (4, .int x2)]) hx hb dX8_isFree_32 rfl hl (by decide) rfl (fun ls hl => ?_)
        refine lv_iinc (v := x2 + 1) (lv' := [(4, .int (x2 + 1)), (3, .int 1), (0, .ref (a 0)), (1, .int p0), (2, .int p1)]) hx hb dX8_isFree_33 hl (k := 4) rfl rfl (by decide) rfl (fun ls hl => ?_)
        refine lv_goto (tgt := 5) hx hb dX8_isFree_36 (by decide) ?_
        exact ih5 _ _ h _ _ _ hP hD hS (lv_sub hl [2, 3, 4, 1, 0] rfl)
abbrev rm_X8_checkRuns : Room := { frames := 1, cells := 0, slots := 0, locals := 24 }
theorem in_X8_checkRuns_X8 : ∀ w ∈ wsX80, w ∈ wsX8_checkRuns := by decide +kernel
set_option maxHeartbeats 4000000 in
set_option maxRecDepth 100000 in
theorem c_X8_checkRuns (l : Launch) (D : va_G) (cI cZ : ClassId) (a : Nat → Nat) (A : Nat → Prop) (p0 : Int32) (σ : mk_S) (σz : mk_S) (h : fX8_checkRuns p0 σ = some σz) : Met l yX8_checkRuns wsX8_checkRuns rm_X8_checkRuns (va_Pc [.ref (a 0), .int p0] (ik_P D [(cI, .int), (cZ, .boolean)] [] (mk_W cI cZ a) A σ)) (ik_Qv D (mk_W cI cZ a) A σz) 0 0 A := by
  unfold fX8_checkRuns at h
  refine Met.ofW (cc := cX8_checkRuns) (maxL := 12) (ret := none) (by decide) rfl ?_
  intro p e s m args below meth c s₁ B hml hv
  obtain ⟨hAr, hP, hK, hD, hN⟩ := hv
  have hx := B.exec
  have hb := B.bytes
  have hr := B.returns
  have hts := atoms_spec (ws := wsX8_checkRuns) B.pre
  have hown : s.vm.findClass RX8 = some m.cls := findClass_of_methodNamed B.named
  have hlocks := B.notSynchronized
  have hS : va_S A s.heap s.heap [] := va_S.rf
  have hl := lv_entry ([.ref (a 0), .int p0]) (n := 12) (Nat.le_of_ble_eq_true rfl)
  rw [show entryFrame m args 12 = entryFrame m ([.ref (a 0), .int p0] : List Value).toArray 12 from by rw [hAr], lg_entry_eq]
  generalize (lg_sl ([.ref (a 0), .int p0]) ++ List.replicate (12 - (lg_sl ([.ref (a 0), .int p0])).length) Slot.unset).toArray = ls at hl ⊢
  have hl : lv_has ls 12 [(0, .ref (a 0)), (1, .int p0)] := hl
  refine lv_aload_n hx hb dX8_checkRuns_0 rfl (lv_at hl 0 rfl) ?_
  refine va_get (D := D) (ci := 6) (v := .ref (a 1)) (C := RX8) (T := TX8) (N := 10) hx hb hts in_X8_checkRuns_X8 hown hK hP 0 rfl rfl 1 (by decide) (hts (.fieldLink RX8 7 "ImageCheckerModel" "all" "[I") (by decide +kernel)) (fun _ h9 => h9) rfl dX8_checkRuns_1 ?_
  refine lv_bipush (v := 47) hx hb dX8_checkRuns_4 (by decide) ?_
  refine lv_iload_n hx hb dX8_checkRuns_6 rfl (lv_at hl 1 rfl) ?_
  refine lv_imul hx hb dX8_checkRuns_7 ?_
  refine lv_iconst (v := 1) hx hb dX8_checkRuns_8 (by decide) ?_
  refine lv_iadd hx hb dX8_checkRuns_9 ?_
  obtain ⟨v1, eh, h⟩ := ik_bd h
  refine ik_ld hx hb hK hP 1 0 rfl rfl eh dX8_checkRuns_10 ?_
  clear eh
  refine lv_sipush (v := 1023) hx hb dX8_checkRuns_11 (by decide) ?_
  refine lv_iadd hx hb dX8_checkRuns_14 ?_
  refine lv_sipush (v := 1024) hx hb dX8_checkRuns_15 (by decide) ?_
  refine lv_idiv hx hb dX8_checkRuns_18 (by decide) ?_
  refine lv_istore_n (lv' := [(2, .int ((v1 + 1023) / 1024)), (0, .ref (a 0)), (1, .int p0)]) hx hb dX8_checkRuns_19 rfl hl (by decide) rfl (fun ls hl => ?_)
  refine lv_iconst (v := 0) hx hb dX8_checkRuns_20 (by decide) ?_
  refine lv_istore_n (lv' := [(3, .int 0), (2, .int ((v1 + 1023) / 1024)), (0, .ref (a 0)), (1, .int p0)]) hx hb dX8_checkRuns_21 rfl hl (by decide) rfl (fun ls hl => ?_)
  refine lv_iconst (v := 0) hx hb dX8_checkRuns_22 (by decide) ?_
  refine lv_istore (lv' := [(4, .int 0), (3, .int 0), (2, .int ((v1 + 1023) / 1024)), (0, .ref (a 0)), (1, .int p0)]) hx hb dX8_checkRuns_23 hl (by decide) rfl (fun ls hl => ?_)
  refine lv_iconst (v := 0) hx hb dX8_checkRuns_25 (by decide) ?_
  refine lv_istore (lv' := [(5, .int 0), (4, .int 0), (3, .int 0), (2, .int ((v1 + 1023) / 1024)), (0, .ref (a 0)), (1, .int p0)]) hx hb dX8_checkRuns_26 hl (by decide) rfl (fun ls hl => ?_)
  refine qp4_W (P := fun (x2 : Int32) (x3 : Int32) (x4 : Int32) (σ5 : mk_S) => ∀ (H : Heap) (locs : List Loc) (ls : Array Slot), va_P D vwCl (mk_W cI cZ a σ5) H → va_D A (mk_W cI cZ a σ5) → va_S A s.heap H locs → lv_has ls 12 [(0, .ref (a 0)), (1, .int p0), (2, .int ((v1 + 1023) / 1024)), (3, .int x2), (4, .int x3), (5, .int x4)] → W p l e (headSpec wsX8_checkRuns rm_X8_checkRuns).room s m args below meth c H locs 0 0 (MQ below (ik_Qv D (mk_W cI cZ a) A σz) args s 0 0 A) (F0 m 28 ls [])) ?_ FU _ _ _ _ h _ _ _ hP hD hS (lv_sub hl [4, 5, 3, 2, 1, 0] rfl)
  intro rec28 ih28 x2 x3 x4 σ5 h H locs ls hP hD hS hl
  refine lv_iload hx hb dX8_checkRuns_28 (lv_at hl 5 rfl) ?_
  refine lv_bipush (v := 6) hx hb dX8_checkRuns_30 (by decide) ?_
  refine lv_icmp_ge (tgt := 204) hx hb dX8_checkRuns_32 (by decide) (fun c6 => ?_) (fun c6 => ?_)
  · have h := ik_t c6 h
    refine lv_aload_n hx hb dX8_checkRuns_204 rfl (lv_at hl 0 rfl) ?_
    refine lv_iload_n hx hb dX8_checkRuns_205 rfl (lv_at hl 1 rfl) ?_
    refine lv_iload_n hx hb dX8_checkRuns_206 rfl (lv_at hl 3 rfl) ?_
    obtain ⟨v7, eh, h⟩ := ik_bd h
    refine ik_Si (As := [.int p0, .int x2]) (rest := [.ref (a 0)]) ⟨hx, hb, hml, hown, hts⟩ (c_X8_runAt l D cI cZ a A p0 x2 σ5 _ eh) (va_cwS 2 hts gX8_checkRuns_X8_runAt rfl rfl rfl (by decide +kernel) ⟨Nat.le_of_ble_eq_true rfl, Nat.le_of_ble_eq_true rfl⟩) hP hK hD hN hS rfl hl.1 rfl (Nat.le_of_ble_eq_true rfl) dX8_checkRuns_207 (fun H locs hP hD hS => ?_)
    clear eh
    refine lv_iload_n hx hb dX8_checkRuns_210 rfl (lv_at hl 1 rfl) ?_
    refine lv_bipush (v := 6) hx hb dX8_checkRuns_211 (by decide) ?_
    obtain ⟨v8, eh, h⟩ := ik_bd h
    refine ik_Si (As := [.int p0, .int 6]) (rest := [.int v7, .ref (a 0)]) ⟨hx, hb, hml, hown, hts⟩ (c_X8_runAt l D cI cZ a A p0 6 σ5 _ eh) (va_cwS 2 hts gX8_checkRuns_X8_runAt rfl rfl rfl (by decide +kernel) ⟨Nat.le_of_ble_eq_true rfl, Nat.le_of_ble_eq_true rfl⟩) hP hK hD hN hS rfl hl.1 rfl (Nat.le_of_ble_eq_true rfl) dX8_checkRuns_213 (fun H locs hP hD hS => ?_)
    clear eh
    obtain ⟨σ9, eh, h⟩ := ik_bd h
    refine ik_Vv (As := [.int v7, .int v8]) (rest := []) ⟨hx, hb, hml, hown, hts⟩ (c_X8_blank l D cI cZ a A v7 v8 σ5 _ eh) (cwV 2 hts gX8_checkRuns_X8_blank rfl rfl rfl (by decide +kernel) ⟨Nat.le_of_ble_eq_true rfl, Nat.le_of_ble_eq_true rfl⟩) (va_recv hK hP (ci := 6) (q0 := 0) rfl rfl) hP hK hD hN hS rfl hl.1 rfl (Nat.le_of_ble_eq_true rfl) dX8_checkRuns_216 (fun H locs hP hD hS => ?_)
    clear eh
    exact W.vret hx hb hr (fun t ht hW => ⟨⟨_, rfl, Option.some.inj h, by rw [ht]; exact hP, hD⟩, hS.F ht⟩) hS.2.2 dX8_checkRuns_219
  · have h := ik_f c6 h
    refine lv_iload_n hx hb dX8_checkRuns_35 rfl (lv_at hl 1 rfl) ?_
    refine lv_iload hx hb dX8_checkRuns_36 (lv_at hl 5 rfl) ?_
    obtain ⟨v10, eh, h⟩ := ik_bd h
    refine ik_Si (As := [.int p0, .int x4]) (rest := []) ⟨hx, hb, hml, hown, hts⟩ (c_X8_runAt l D cI cZ a A p0 x4 σ5 _ eh) (va_cwS 2 hts gX8_checkRuns_X8_runAt rfl rfl rfl (by decide +kernel) ⟨Nat.le_of_ble_eq_true rfl, Nat.le_of_ble_eq_true rfl⟩) hP hK hD hN hS rfl hl.1 rfl (Nat.le_of_ble_eq_true rfl) dX8_checkRuns_38 (fun H locs hP hD hS => ?_)
    clear eh
    refine lv_istore (lv' := [(6, .int v10), (0, .ref (a 0)), (1, .int p0), (2, .int ((v1 + 1023) / 1024)), (3, .int x2), (4, .int x3), (5, .int x4)]) hx hb dX8_checkRuns_41 hl (by decide) rfl (fun ls hl => ?_)
    refine lv_aload_n hx hb dX8_checkRuns_43 rfl (lv_at hl 1 rfl) ?_
    refine va_get (D := D) (ci := 6) (v := .ref (a 1)) (C := RX8) (T := TX8) (N := 10) hx hb hts in_X8_checkRuns_X8 hown hK hP 0 rfl rfl 1 (by decide) (hts (.fieldLink RX8 7 "ImageCheckerModel" "all" "[I") (by decide +kernel)) (fun _ h9 => h9) rfl dX8_checkRuns_44 ?_
    refine lv_iload hx hb dX8_checkRuns_47 (lv_at hl 0 rfl) ?_
    obtain ⟨v11, eh, h⟩ := ik_bd h
    refine ik_ld hx hb hK hP 1 0 rfl rfl eh dX8_checkRuns_49 ?_
    clear eh
    refine lv_istore (lv' := [(7, .int v11), (6, .int v10), (0, .ref (a 0)), (1, .int p0), (2, .int ((v1 + 1023) / 1024)), (3, .int x2), (4, .int x3), (5, .int x4)]) hx hb dX8_checkRuns_50 hl (by decide) rfl (fun ls hl => ?_)
    refine lv_aload_n hx hb dX8_checkRuns_52 rfl (lv_at hl 2 rfl) ?_
    refine va_get (D := D) (ci := 6) (v := .ref (a 1)) (C := RX8) (T := TX8) (N := 10) hx hb hts in_X8_checkRuns_X8 hown hK hP 0 rfl rfl 1 (by decide) (hts (.fieldLink RX8 7 "ImageCheckerModel" "all" "[I") (by decide +kernel)) (fun _ h9 => h9) rfl dX8_checkRuns_53 ?_
    refine lv_iload hx hb dX8_checkRuns_56 (lv_at hl 1 rfl) ?_
    refine lv_iconst (v := 1) hx hb dX8_checkRuns_58 (by decide) ?_
    refine lv_iadd hx hb dX8_checkRuns_59 ?_
    obtain ⟨v12, eh, h⟩ := ik_bd h
    refine ik_ld hx hb hK hP 1 0 rfl rfl eh dX8_checkRuns_60 ?_
    clear eh
    refine lv_istore (lv' := [(8, .int v12), (7, .int v11), (6, .int v10), (0, .ref (a 0)), (1, .int p0), (2, .int ((v1 + 1023) / 1024)), (3, .int x2), (4, .int x3), (5, .int x4)]) hx hb dX8_checkRuns_61 hl (by decide) rfl (fun ls hl => ?_)
    refine lv_aload_n hx hb dX8_checkRuns_63 rfl (lv_at hl 3 rfl) ?_
    refine va_get (D := D) (ci := 6) (v := .ref (a 1)) (C := RX8) (T := TX8) (N := 10) hx hb hts in_X8_checkRuns_X8 hown hK hP 0 rfl rfl 1 (by decide) (hts (.fieldLink RX8 7 "ImageCheckerModel" "all" "[I") (by decide +kernel)) (fun _ h9 => h9) rfl dX8_checkRuns_64 ?_
    refine lv_iload hx hb dX8_checkRuns_67 (lv_at hl 2 rfl) ?_
    refine lv_iconst (v := 2) hx hb dX8_checkRuns_69 (by decide) ?_
    refine lv_iadd hx hb dX8_checkRuns_70 ?_
    obtain ⟨v13, eh, h⟩ := ik_bd h
    refine ik_ld hx hb hK hP 1 0 rfl rfl eh dX8_checkRuns_71 ?_
    clear eh
    refine lv_istore (lv' := [(9, .int v13), (8, .int v12), (7, .int v11), (6, .int v10), (0, .ref (a 0)), (1, .int p0), (2, .int ((v1 + 1023) / 1024)), (3, .int x2), (4, .int x3), (5, .int x4)]) hx hb dX8_checkRuns_72 hl (by decide) rfl (fun ls hl => ?_)
    refine lv_iload hx hb dX8_checkRuns_74 (lv_at hl 2 rfl) ?_
    refine lv_iload hx hb dX8_checkRuns_76 (lv_at hl 1 rfl) ?_
    refine lv_iload hx hb dX8_checkRuns_78 (lv_at hl 0 rfl) ?_
    obtain ⟨v14, eh, h⟩ := ik_bd h
    refine ik_Si (As := [.int v11, .int v12, .int v13]) (rest := []) ⟨hx, hb, hml, hown, hts⟩ (c_X8_isRight l D cI cZ a A v11 v12 v13 σ5 _ eh) (va_cwS 3 hts gX8_checkRuns_X8_isRight rfl rfl rfl (by decide +kernel) ⟨Nat.le_of_ble_eq_true rfl, Nat.le_of_ble_eq_true rfl⟩) hP hK hD hN hS rfl hl.1 rfl (Nat.le_of_ble_eq_true rfl) dX8_checkRuns_80 (fun H locs hP hD hS => ?_)
    clear eh
    refine lv_istore (lv' := [(10, .int v14), (9, .int v13), (8, .int v12), (7, .int v11), (6, .int v10), (0, .ref (a 0)), (1, .int p0), (2, .int ((v1 + 1023) / 1024)), (3, .int x2), (4, .int x3), (5, .int x4)]) hx hb dX8_checkRuns_83 hl (by decide) rfl (fun ls hl => ?_)
    refine lv_iload hx hb dX8_checkRuns_85 (lv_at hl 0 rfl) ?_
    obtain ⟨j105, ej, h⟩ := jn_ex h
    have hj105 : ∀ (x15 : Int32), j105 x15 = some σz → ∀ (H : Heap) (locs : List Loc) (ls : Array Slot), va_P D vwCl (mk_W cI cZ a σ5) H → va_D A (mk_W cI cZ a σ5) → va_S A s.heap H locs → lv_has ls 12 [(0, .ref (a 0)), (1, .int p0), (2, .int ((v1 + 1023) / 1024)), (3, .int x2), (4, .int x3), (5, .int x4), (7, .int v11), (8, .int x15), (9, .int v13), (10, .int v14)] → W p l e (headSpec wsX8_checkRuns rm_X8_checkRuns).room s m args below meth c H locs 0 0 (MQ below (ik_Qv D (mk_W cI cZ a) A σz) args s 0 0 A) (F0 m 105 ls []) := by
      rw [ej]; clear h
      intro x15 h H locs ls hP hD hS hl
      refine lv_iload hx hb dX8_checkRuns_105 (lv_at hl 9 rfl) ?_
      obtain ⟨j138, ej, h⟩ := jn_ex h
      have hj138 : ∀ (y16 : Int32), j138 y16 = some σz → ∀ (H : Heap) (locs : List Loc) (ls : Array Slot), va_P D vwCl (mk_W cI cZ a σ5) H → va_D A (mk_W cI cZ a σ5) → va_S A s.heap H locs → lv_has ls 12 [(0, .ref (a 0)), (1, .int p0), (2, .int ((v1 + 1023) / 1024)), (3, .int x2), (4, .int x3), (5, .int x4), (7, .int v11), (8, .int x15), (9, .int v13)] → W p l e (headSpec wsX8_checkRuns rm_X8_checkRuns).room s m args below meth c H locs 0 0 (MQ below (ik_Qv D (mk_W cI cZ a) A σz) args s 0 0 A) (F0 m 138 ls [.int y16]) := by
        rw [ej]; clear h
        intro y16 h H locs ls hP hD hS hl
        refine lv_istore (lv' := [(10, .int y16), (0, .ref (a 0)), (1, .int p0), (2, .int ((v1 + 1023) / 1024)), (3, .int x2), (4, .int x3), (5, .int x4), (7, .int v11), (8, .int x15), (9, .int v13)]) hx hb dX8_checkRuns_138 hl (by decide) rfl (fun ls hl => ?_)
        refine lv_iload hx hb dX8_checkRuns_140 (lv_at hl 0 rfl) ?_
        refine lv_if_eq (tgt := 198) hx hb dX8_checkRuns_142 (by decide) (fun c17 => ?_) (fun c17 => ?_)
        · have h := ik_t c17 h
          refine lv_iinc (v := x4 + 1) (lv' := [(5, .int (x4 + 1)), (10, .int y16), (0, .ref (a 0)), (1, .int p0), (2, .int ((v1 + 1023) / 1024)), (3, .int x2), (4, .int x3), (7, .int v11), (8, .int x15), (9, .int v13)]) hx hb dX8_checkRuns_198 hl (k := 6) rfl rfl (by decide) rfl (fun ls hl => ?_)
          refine lv_goto (tgt := 28) hx hb dX8_checkRuns_201 (by decide) ?_
          exact ih28 _ _ _ _ h _ _ _ hP hD hS (lv_sub hl [2, 3, 4, 5, 6, 0] rfl)
        · have h := ik_f c17 h
          refine lv_iload hx hb dX8_checkRuns_145 (lv_at hl 9 rfl) ?_
          refine lv_istore (lv' := [(11, .int v13), (10, .int y16), (0, .ref (a 0)), (1, .int p0), (2, .int ((v1 + 1023) / 1024)), (3, .int x2), (4, .int x3), (5, .int x4), (7, .int v11), (8, .int x15), (9, .int v13)]) hx hb dX8_checkRuns_147 hl (by decide) rfl (fun ls hl => ?_)
          refine qp2_W (P := fun (x18 : Int32) (σ19 : mk_S) => ∀ (H : Heap) (locs : List Loc) (ls : Array Slot), va_P D vwCl (mk_W cI cZ a σ19) H → va_D A (mk_W cI cZ a σ19) → va_S A s.heap H locs → lv_has ls 12 [(0, .ref (a 0)), (1, .int p0), (2, .int ((v1 + 1023) / 1024)), (3, .int x2), (5, .int x4), (7, .int v11), (8, .int x15), (9, .int v13), (11, .int x18)] → W p l e (headSpec wsX8_checkRuns rm_X8_checkRuns).room s m args below meth c H locs 0 0 (MQ below (ik_Qv D (mk_W cI cZ a) A σz) args s 0 0 A) (F0 m 149 ls [])) ?_ FU _ _ h _ _ _ hP hD hS (lv_sub hl [2, 3, 4, 5, 7, 8, 9, 10, 0] rfl)
          intro rec149 ih149 x18 σ19 h H locs ls hP hD hS hl
          refine lv_iload hx hb dX8_checkRuns_149 (lv_at hl 8 rfl) ?_
          refine lv_iload hx hb dX8_checkRuns_151 (lv_at hl 7 rfl) ?_
          refine lv_iload hx hb dX8_checkRuns_153 (lv_at hl 6 rfl) ?_
          refine lv_iadd hx hb dX8_checkRuns_155 ?_
          refine lv_icmp_ge (tgt := 173) hx hb dX8_checkRuns_156 (by decide) (fun c20 => ?_) (fun c20 => ?_)
          · have h := ik_t c20 h
            refine lv_aload_n hx hb dX8_checkRuns_173 rfl (lv_at hl 0 rfl) ?_
            refine lv_iload_n hx hb dX8_checkRuns_174 rfl (lv_at hl 1 rfl) ?_
            refine lv_iload_n hx hb dX8_checkRuns_175 rfl (lv_at hl 3 rfl) ?_
            obtain ⟨v21, eh, h⟩ := ik_bd h
            refine ik_Si (As := [.int p0, .int x2]) (rest := [.ref (a 0)]) ⟨hx, hb, hml, hown, hts⟩ (c_X8_runAt l D cI cZ a A p0 x2 σ19 _ eh) (va_cwS 2 hts gX8_checkRuns_X8_runAt rfl rfl rfl (by decide +kernel) ⟨Nat.le_of_ble_eq_true rfl, Nat.le_of_ble_eq_true rfl⟩) hP hK hD hN hS rfl hl.1 rfl (Nat.le_of_ble_eq_true rfl) dX8_checkRuns_176 (fun H locs hP hD hS => ?_)
            clear eh
            refine lv_iload hx hb dX8_checkRuns_179 (lv_at hl 5 rfl) ?_
            refine lv_iload hx hb dX8_checkRuns_181 (lv_at hl 6 rfl) ?_
            refine lv_iload hx hb dX8_checkRuns_183 (lv_at hl 7 rfl) ?_
            obtain ⟨σ22, eh, h⟩ := ik_bd h
            refine ik_Vv (As := [.int v21, .int v11, .int x15, .int v13]) (rest := []) ⟨hx, hb, hml, hown, hts⟩ (c_X8_put l D cI cZ a A v21 v11 x15 v13 σ19 _ eh) (cwV 4 hts gX8_checkRuns_X8_put rfl rfl rfl (by decide +kernel) ⟨Nat.le_of_ble_eq_true rfl, Nat.le_of_ble_eq_true rfl⟩) (va_recv hK hP (ci := 6) (q0 := 0) rfl rfl) hP hK hD hN hS rfl hl.1 rfl (Nat.le_of_ble_eq_true rfl) dX8_checkRuns_185 (fun H locs hP hD hS => ?_)
            clear eh
            refine lv_iinc (v := x2 + 1) (lv' := [(3, .int (x2 + 1)), (0, .ref (a 0)), (1, .int p0), (2, .int ((v1 + 1023) / 1024)), (5, .int x4), (7, .int v11), (8, .int x15), (9, .int v13), (11, .int x18)]) hx hb dX8_checkRuns_188 hl (k := 3) rfl rfl (by decide) rfl (fun ls hl => ?_)
            refine lv_iload hx hb dX8_checkRuns_191 (lv_at hl 5 rfl) ?_
            refine lv_iload hx hb dX8_checkRuns_193 (lv_at hl 6 rfl) ?_
            refine lv_iadd hx hb dX8_checkRuns_195 ?_
            refine lv_istore (lv' := [(4, .int (v11 + x15)), (3, .int (x2 + 1)), (0, .ref (a 0)), (1, .int p0), (2, .int ((v1 + 1023) / 1024)), (5, .int x4), (7, .int v11), (8, .int x15), (9, .int v13), (11, .int x18)]) hx hb dX8_checkRuns_196 hl (by decide) rfl (fun ls hl => ?_)
            refine lv_iinc (v := x4 + 1) (lv' := [(5, .int (x4 + 1)), (4, .int (v11 + x15)), (3, .int (x2 + 1)), (0, .ref (a 0)), (1, .int p0), (2, .int ((v1 + 1023) / 1024)), (7, .int v11), (8, .int x15), (9, .int v13), (11, .int x18)]) hx hb dX8_checkRuns_198 hl (k := 5) rfl rfl (by decide) rfl (fun ls hl => ?_)
            refine lv_goto (tgt := 28) hx hb dX8_checkRuns_201 (by decide) ?_
            exact ih28 _ _ _ _ h _ _ _ hP hD hS (lv_sub hl [3, 4, 5, 2, 1, 0] rfl)
          · have h := ik_f c20 h
            refine lv_aload_n hx hb dX8_checkRuns_159 rfl (lv_at hl 0 rfl) ?_
            refine va_get (D := D) (ci := 6) (v := .ref (a 4)) (C := RX8) (T := TX8) (N := 10) hx hb hts in_X8_checkRuns_X8 hown hK hP 0 rfl rfl 4 (by decide) (hts (.fieldLink RX8 20 "ImageCheckerModel" "owner" "[I") (by decide +kernel)) (fun _ h9 => h9) rfl dX8_checkRuns_160 ?_
            refine lv_iload hx hb dX8_checkRuns_163 (lv_at hl 8 rfl) ?_
            refine lv_iload_n hx hb dX8_checkRuns_165 rfl (lv_at hl 1 rfl) ?_
            obtain ⟨σ23, eh, h⟩ := ik_bd h
            refine ik_st (Wd := mk_W cI cZ a) (σ1 := σ23) hx hb hK hP hD hS 4 0 rfl rfl (fun _ => rfl) eh dX8_checkRuns_166 (fun H locs hP hD hS => ?_)
            clear eh
            refine lv_iinc (v := x18 + 1) (lv' := [(11, .int (x18 + 1)), (0, .ref (a 0)), (1, .int p0), (2, .int ((v1 + 1023) / 1024)), (3, .int x2), (5, .int x4), (7, .int v11), (8, .int x15), (9, .int v13)]) hx hb dX8_checkRuns_167 hl (k := 8) rfl rfl (by decide) rfl (fun ls hl => ?_)
            refine lv_goto (tgt := 149) hx hb dX8_checkRuns_170 (by decide) ?_
            exact ih149 _ _ h _ _ _ hP hD hS (lv_sub hl [1, 2, 3, 4, 5, 6, 7, 8, 0] rfl)
      clear ej
      obtain ⟨j137, ej, h⟩ := jn_ex h
      have hj137 : ∀ (_u : Unit), j137 _u = some σz → ∀ (H : Heap) (locs : List Loc) (ls : Array Slot), va_P D vwCl (mk_W cI cZ a σ5) H → va_D A (mk_W cI cZ a σ5) → va_S A s.heap H locs → lv_has ls 12 [(0, .ref (a 0)), (1, .int p0), (2, .int ((v1 + 1023) / 1024)), (3, .int x2), (4, .int x3), (5, .int x4), (7, .int v11), (8, .int x15), (9, .int v13)] → W p l e (headSpec wsX8_checkRuns rm_X8_checkRuns).room s m args below meth c H locs 0 0 (MQ below (ik_Qv D (mk_W cI cZ a) A σz) args s 0 0 A) (F0 m 137 ls []) := by
        rw [ej]; clear h
        intro _u h H locs ls hP hD hS hl
        refine lv_iconst (v := 0) hx hb dX8_checkRuns_137 (by decide) ?_
        exact hj138 _ h _ _ _ hP hD hS (lv_sub hl [0, 1, 2, 3, 4, 5, 6, 7, 8] rfl)
      clear ej
      refine lv_if_eq (tgt := 137) hx hb dX8_checkRuns_107 (by decide) (fun c24 => ?_) (fun c24 => ?_)
      · have h := ik_t c24 h
        exact hj137 () h _ _ _ hP hD hS (lv_sub hl [0, 1, 2, 3, 4, 5, 6, 7, 8] rfl)
      · have h := ik_f c24 h
        refine lv_iload hx hb dX8_checkRuns_110 (lv_at hl 7 rfl) ?_
        refine lv_if_le (tgt := 137) hx hb dX8_checkRuns_112 (by decide) (fun c25 => ?_) (fun c25 => ?_)
        · have h := ik_t c25 h
          exact hj137 () h _ _ _ hP hD hS (lv_sub hl [0, 1, 2, 3, 4, 5, 6, 7, 8] rfl)
        · have h := ik_f c25 h
          refine lv_iload hx hb dX8_checkRuns_115 (lv_at hl 6 rfl) ?_
          refine lv_iload hx hb dX8_checkRuns_117 (lv_at hl 4 rfl) ?_
          refine lv_icmp_lt (tgt := 137) hx hb dX8_checkRuns_119 (by decide) (fun c26 => ?_) (fun c26 => ?_)
          · have h := ik_t c26 h
            exact hj137 () h _ _ _ hP hD hS (lv_sub hl [0, 1, 2, 3, 4, 5, 6, 7, 8] rfl)
          · have h := ik_f c26 h
            refine lv_aload_n hx hb dX8_checkRuns_122 rfl (lv_at hl 0 rfl) ?_
            refine lv_iload hx hb dX8_checkRuns_123 (lv_at hl 8 rfl) ?_
            refine lv_iload hx hb dX8_checkRuns_125 (lv_at hl 7 rfl) ?_
            obtain ⟨v27, eh, h⟩ := ik_bd h
            refine ik_Vi (As := [.int v13, .int x15]) (rest := []) ⟨hx, hb, hml, hown, hts⟩ (c_X8_isFree l D cI cZ a A v13 x15 σ5 _ eh) (cwV 2 hts gX8_checkRuns_X8_isFree rfl rfl rfl (by decide +kernel) ⟨Nat.le_of_ble_eq_true rfl, Nat.le_of_ble_eq_true rfl⟩) (va_recv hK hP (ci := 6) (q0 := 0) rfl rfl) hP hK hD hN hS rfl hl.1 rfl (Nat.le_of_ble_eq_true rfl) dX8_checkRuns_127 (fun H locs hP hD hS => ?_)
            clear eh
            refine lv_if_eq (tgt := 137) hx hb dX8_checkRuns_130 (by decide) (fun c28 => ?_) (fun c28 => ?_)
            · have h := ik_t c28 h
              exact hj137 () h _ _ _ hP hD hS (lv_sub hl [0, 1, 2, 3, 4, 5, 6, 7, 8] rfl)
            · have h := ik_f c28 h
              refine lv_iconst (v := 1) hx hb dX8_checkRuns_133 (by decide) ?_
              refine lv_goto (tgt := 138) hx hb dX8_checkRuns_134 (by decide) ?_
              exact hj138 _ h _ _ _ hP hD hS (lv_sub hl [0, 1, 2, 3, 4, 5, 6, 7, 8] rfl)
    clear ej
    refine lv_if_eq (tgt := 105) hx hb dX8_checkRuns_87 (by decide) (fun c29 => ?_) (fun c29 => ?_)
    · have h := ik_t c29 h
      exact hj105 _ h _ _ _ hP hD hS (lv_sub hl [5, 6, 7, 8, 9, 10, 3, 2, 1, 0] rfl)
    · have h := ik_f c29 h
      refine lv_iload hx hb dX8_checkRuns_90 (lv_at hl 3 rfl) ?_
      refine lv_iload hx hb dX8_checkRuns_92 (lv_at hl 2 rfl) ?_
      refine lv_iadd hx hb dX8_checkRuns_94 ?_
      refine lv_iload_n hx hb dX8_checkRuns_95 rfl (lv_at hl 7 rfl) ?_
      refine lv_icmp_le (tgt := 105) hx hb dX8_checkRuns_96 (by decide) (fun c30 => ?_) (fun c30 => ?_)
      · have h := ik_t c30 h
        exact hj105 _ h _ _ _ hP hD hS (lv_sub hl [5, 6, 7, 8, 9, 10, 3, 2, 1, 0] rfl)
      · have h := ik_f c30 h
        refine lv_iload_n hx hb dX8_checkRuns_99 rfl (lv_at hl 7 rfl) ?_
        refine lv_iload hx hb dX8_checkRuns_100 (lv_at hl 3 rfl) ?_
        refine lv_isub hx hb dX8_checkRuns_102 ?_
        refine lv_istore (lv' := [(8, .int (((v1 + 1023) / 1024) - v11)), (10, .int v14), (9, .int v13), (7, .int v11), (6, .int v10), (0, .ref (a 0)), (1, .int p0), (2, .int ((v1 + 1023) / 1024)), (3, .int x2), (4, .int x3), (5, .int x4)]) hx hb dX8_checkRuns_103 hl (by decide) rfl (fun ls hl => ?_)
        exact hj105 _ h _ _ _ hP hD hS (lv_sub hl [5, 6, 7, 8, 9, 10, 3, 0, 2, 1] rfl)
