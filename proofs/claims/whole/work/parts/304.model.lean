abbrev rm_X8_checkFolders : Room := { frames := 2, cells := 0, slots := 0, locals := 46 }
theorem in_X8_checkFolders_X8 : ∀ w ∈ wsX80, w ∈ wsX8_checkFolders := by decide +kernel
set_option maxHeartbeats 4000000 in
set_option maxRecDepth 100000 in
theorem c_X8_checkFolders (l : Launch) (D : va_G) (cI cZ : ClassId) (a : Nat → Nat) (A : Nat → Prop) (σ : mk_S) (σz : mk_S) (h : fX8_checkFolders σ = some σz) : Met l yX8_checkFolders wsX8_checkFolders rm_X8_checkFolders (va_Pc [.ref (a 0)] (ik_P D [(cI, .int), (cZ, .boolean)] [] (mk_W cI cZ a) A σ)) (ik_Qv D (mk_W cI cZ a) A σz) 0 0 A := by
  unfold fX8_checkFolders at h
  refine Met.ofW (cc := cX8_checkFolders) (maxL := 8) (ret := none) (by decide) rfl ?_
  intro p e s m args below meth c s₁ B hml hv
  obtain ⟨hAr, hP, hK, hD, hN⟩ := hv
  have hx := B.exec
  have hb := B.bytes
  have hr := B.returns
  have hts := atoms_spec (ws := wsX8_checkFolders) B.pre
  have hown : s.vm.findClass RX8 = some m.cls := findClass_of_methodNamed B.named
  have hlocks := B.notSynchronized
  have hS : va_S A s.heap s.heap [] := va_S.rf
  have hl := lv_entry ([.ref (a 0)]) (n := 8) (Nat.le_of_ble_eq_true rfl)
  rw [show entryFrame m args 8 = entryFrame m ([.ref (a 0)] : List Value).toArray 8 from by rw [hAr], lg_entry_eq]
  generalize (lg_sl ([.ref (a 0)]) ++ List.replicate (8 - (lg_sl ([.ref (a 0)])).length) Slot.unset).toArray = ls at hl ⊢
  have hl : lv_has ls 8 [(0, .ref (a 0))] := hl
  refine lv_iconst (v := 0) hx hb dX8_checkFolders_0 (by decide) ?_
  refine lv_istore_n (lv' := [(1, .int 0), (0, .ref (a 0))]) hx hb dX8_checkFolders_1 rfl hl (by decide) rfl (fun ls hl => ?_)
  refine qp2_W (P := fun (x1 : Int32) (σ2 : mk_S) => ∀ (H : Heap) (locs : List Loc) (ls : Array Slot), va_P D vwCl (mk_W cI cZ a σ2) H → va_D A (mk_W cI cZ a σ2) → va_S A s.heap H locs → lv_has ls 8 [(0, .ref (a 0)), (1, .int x1)] → W p l e (headSpec wsX8_checkFolders rm_X8_checkFolders).room s m args below meth c H locs 0 0 (MQ below (ik_Qv D (mk_W cI cZ a) A σz) args s 0 0 A) (F0 m 2 ls [])) ?_ FU _ _ h _ _ _ hP hD hS (lv_sub hl [1, 0] rfl)
  intro rec2 ih2 x1 σ2 h H locs ls hP hD hS hl
  refine lv_iload_n hx hb dX8_checkFolders_2 rfl (lv_at hl 1 rfl) ?_
  refine lv_bipush (v := 24) hx hb dX8_checkFolders_3 (by decide) ?_
  refine lv_icmp_gt (tgt := 21) hx hb dX8_checkFolders_5 (by decide) (fun c3 => ?_) (fun c3 => ?_)
  · have h := ik_t c3 h
    refine lv_iconst (v := 1) hx hb dX8_checkFolders_21 (by decide) ?_
    refine lv_istore_n (lv' := [(1, .int 1), (0, .ref (a 0))]) hx hb dX8_checkFolders_22 rfl hl (by decide) rfl (fun ls hl => ?_)
    refine qp2_W (P := fun (x4 : Int32) (σ5 : mk_S) => ∀ (H : Heap) (locs : List Loc) (ls : Array Slot), va_P D vwCl (mk_W cI cZ a σ5) H → va_D A (mk_W cI cZ a σ5) → va_S A s.heap H locs → lv_has ls 8 [(0, .ref (a 0)), (1, .int x4)] → W p l e (headSpec wsX8_checkFolders rm_X8_checkFolders).room s m args below meth c H locs 0 0 (MQ below (ik_Qv D (mk_W cI cZ a) A σz) args s 0 0 A) (F0 m 23 ls [])) ?_ FU _ _ h _ _ _ hP hD hS (lv_sub hl [1, 0] rfl)
    intro rec23 ih23 x4 σ5 h H locs ls hP hD hS hl
    refine lv_iload_n hx hb dX8_checkFolders_23 rfl (lv_at hl 1 rfl) ?_
    refine lv_bipush (v := 24) hx hb dX8_checkFolders_24 (by decide) ?_
    refine lv_icmp_gt (tgt := 210) hx hb dX8_checkFolders_26 (by decide) (fun c6 => ?_) (fun c6 => ?_)
    · have h := ik_t c6 h
      exact W.vret hx hb hr (fun t ht hW => ⟨⟨_, rfl, Option.some.inj h, by rw [ht]; exact hP, hD⟩, hS.F ht⟩) hS.2.2 dX8_checkFolders_210
    · have h := ik_f c6 h
      refine lv_aload_n hx hb dX8_checkFolders_29 rfl (lv_at hl 0 rfl) ?_
      refine lv_iload_n hx hb dX8_checkFolders_30 rfl (lv_at hl 1 rfl) ?_
      obtain ⟨v7, eh, h⟩ := ik_bd h
      refine ik_Vi (As := [.int x4]) (rest := []) ⟨hx, hb, hml, hown, hts⟩ (c_X8_kindOf l D cI cZ a A x4 σ5 _ eh) (cwV 1 hts gX8_checkFolders_X8_kindOf rfl rfl rfl (by decide +kernel) ⟨Nat.le_of_ble_eq_true rfl, Nat.le_of_ble_eq_true rfl⟩) (va_recv hK hP (ci := 6) (q0 := 0) rfl rfl) hP hK hD hN hS rfl hl.1 rfl (Nat.le_of_ble_eq_true rfl) dX8_checkFolders_31 (fun H locs hP hD hS => ?_)
      clear eh
      refine lv_iconst (v := 2) hx hb dX8_checkFolders_34 (by decide) ?_
      refine lv_icmp_eq (tgt := 41) hx hb dX8_checkFolders_35 (by decide) (fun c8 => ?_) (fun c8 => ?_)
      · have h := ik_t c8 h
        refine lv_iconst (v := 0) hx hb dX8_checkFolders_41 (by decide) ?_
        refine lv_istore_n (lv' := [(2, .int 0), (0, .ref (a 0)), (1, .int x4)]) hx hb dX8_checkFolders_42 rfl hl (by decide) rfl (fun ls hl => ?_)
        refine lv_iconst (v := 0) hx hb dX8_checkFolders_43 (by decide) ?_
        refine lv_istore_n (lv' := [(3, .int 0), (2, .int 0), (0, .ref (a 0)), (1, .int x4)]) hx hb dX8_checkFolders_44 rfl hl (by decide) rfl (fun ls hl => ?_)
        refine qp3_W (P := fun (x9 : Int32) (x10 : Int32) (σ11 : mk_S) => ∀ (H : Heap) (locs : List Loc) (ls : Array Slot), va_P D vwCl (mk_W cI cZ a σ11) H → va_D A (mk_W cI cZ a σ11) → va_S A s.heap H locs → lv_has ls 8 [(0, .ref (a 0)), (1, .int x4), (2, .int x9), (3, .int x10)] → W p l e (headSpec wsX8_checkFolders rm_X8_checkFolders).room s m args below meth c H locs 0 0 (MQ below (ik_Qv D (mk_W cI cZ a) A σz) args s 0 0 A) (F0 m 45 ls [])) ?_ FU _ _ _ h _ _ _ hP hD hS (lv_sub hl [2, 3, 1, 0] rfl)
        intro rec45 ih45 x9 x10 σ11 h H locs ls hP hD hS hl
        refine lv_iload_n hx hb dX8_checkFolders_45 rfl (lv_at hl 3 rfl) ?_
        refine lv_bipush (v := 8) hx hb dX8_checkFolders_46 (by decide) ?_
        refine lv_icmp_ge (tgt := 189) hx hb dX8_checkFolders_48 (by decide) (fun c12 => ?_) (fun c12 => ?_)
        · have h := ik_t c12 h
          refine lv_aload_n hx hb dX8_checkFolders_189 rfl (lv_at hl 0 rfl) ?_
          refine lv_iload_n hx hb dX8_checkFolders_190 rfl (lv_at hl 1 rfl) ?_
          refine lv_iload_n hx hb dX8_checkFolders_191 rfl (lv_at hl 2 rfl) ?_
          obtain ⟨v13, eh, h⟩ := ik_bd h
          refine ik_Si (As := [.int x4, .int x9]) (rest := [.ref (a 0)]) ⟨hx, hb, hml, hown, hts⟩ (c_X8_entryAt l D cI cZ a A x4 x9 σ11 _ eh) (va_cwS 2 hts gX8_checkFolders_X8_entryAt rfl rfl rfl (by decide +kernel) ⟨Nat.le_of_ble_eq_true rfl, Nat.le_of_ble_eq_true rfl⟩) hP hK hD hN hS rfl hl.1 rfl (Nat.le_of_ble_eq_true rfl) dX8_checkFolders_192 (fun H locs hP hD hS => ?_)
          clear eh
          refine lv_iload_n hx hb dX8_checkFolders_195 rfl (lv_at hl 1 rfl) ?_
          refine lv_bipush (v := 8) hx hb dX8_checkFolders_196 (by decide) ?_
          obtain ⟨v14, eh, h⟩ := ik_bd h
          refine ik_Si (As := [.int x4, .int 8]) (rest := [.int v13, .ref (a 0)]) ⟨hx, hb, hml, hown, hts⟩ (c_X8_entryAt l D cI cZ a A x4 8 σ11 _ eh) (va_cwS 2 hts gX8_checkFolders_X8_entryAt rfl rfl rfl (by decide +kernel) ⟨Nat.le_of_ble_eq_true rfl, Nat.le_of_ble_eq_true rfl⟩) hP hK hD hN hS rfl hl.1 rfl (Nat.le_of_ble_eq_true rfl) dX8_checkFolders_198 (fun H locs hP hD hS => ?_)
          clear eh
          obtain ⟨σ15, eh, h⟩ := ik_bd h
          refine ik_Vv (As := [.int v13, .int v14]) (rest := []) ⟨hx, hb, hml, hown, hts⟩ (c_X8_blank l D cI cZ a A v13 v14 σ11 _ eh) (cwV 2 hts gX8_checkFolders_X8_blank rfl rfl rfl (by decide +kernel) ⟨Nat.le_of_ble_eq_true rfl, Nat.le_of_ble_eq_true rfl⟩) (va_recv hK hP (ci := 6) (q0 := 0) rfl rfl) hP hK hD hN hS rfl hl.1 rfl (Nat.le_of_ble_eq_true rfl) dX8_checkFolders_201 (fun H locs hP hD hS => ?_)
          clear eh
          refine lv_iinc (v := x4 + 1) (lv' := [(1, .int (x4 + 1)), (0, .ref (a 0)), (2, .int x9), (3, .int x10)]) hx hb dX8_checkFolders_204 hl (k := 1) rfl rfl (by decide) rfl (fun ls hl => ?_)
          refine lv_goto (tgt := 23) hx hb dX8_checkFolders_207 (by decide) ?_
          exact ih23 _ _ h _ _ _ hP hD hS (lv_sub hl [1, 0] rfl)
        · have h := ik_f c12 h
          refine lv_iload_n hx hb dX8_checkFolders_51 rfl (lv_at hl 1 rfl) ?_
          refine lv_iload_n hx hb dX8_checkFolders_52 rfl (lv_at hl 3 rfl) ?_
          obtain ⟨v16, eh, h⟩ := ik_bd h
          refine ik_Si (As := [.int x4, .int x10]) (rest := []) ⟨hx, hb, hml, hown, hts⟩ (c_X8_entryAt l D cI cZ a A x4 x10 σ11 _ eh) (va_cwS 2 hts gX8_checkFolders_X8_entryAt rfl rfl rfl (by decide +kernel) ⟨Nat.le_of_ble_eq_true rfl, Nat.le_of_ble_eq_true rfl⟩) hP hK hD hN hS rfl hl.1 rfl (Nat.le_of_ble_eq_true rfl) dX8_checkFolders_53 (fun H locs hP hD hS => ?_)
          clear eh
          refine lv_istore (lv' := [(4, .int v16), (0, .ref (a 0)), (1, .int x4), (2, .int x9), (3, .int x10)]) hx hb dX8_checkFolders_56 hl (by decide) rfl (fun ls hl => ?_)
          refine lv_aload_n hx hb dX8_checkFolders_58 rfl (lv_at hl 1 rfl) ?_
          refine va_get (D := D) (ci := 6) (v := .ref (a 1)) (C := RX8) (T := TX8) (N := 10) hx hb hts in_X8_checkFolders_X8 hown hK hP 0 rfl rfl 1 (by decide) (hts (.fieldLink RX8 7 "ImageCheckerModel" "all" "[I") (by decide +kernel)) (fun _ h9 => h9) rfl dX8_checkFolders_59 ?_
          refine lv_iload hx hb dX8_checkFolders_62 (lv_at hl 0 rfl) ?_
          obtain ⟨v17, eh, h⟩ := ik_bd h
          refine ik_ld hx hb hK hP 1 0 rfl rfl eh dX8_checkFolders_64 ?_
          clear eh
          refine lv_istore (lv' := [(5, .int v17), (4, .int v16), (0, .ref (a 0)), (1, .int x4), (2, .int x9), (3, .int x10)]) hx hb dX8_checkFolders_65 hl (by decide) rfl (fun ls hl => ?_)
          refine lv_aload_n hx hb dX8_checkFolders_67 rfl (lv_at hl 2 rfl) ?_
          refine va_get (D := D) (ci := 6) (v := .ref (a 1)) (C := RX8) (T := TX8) (N := 10) hx hb hts in_X8_checkFolders_X8 hown hK hP 0 rfl rfl 1 (by decide) (hts (.fieldLink RX8 7 "ImageCheckerModel" "all" "[I") (by decide +kernel)) (fun _ h9 => h9) rfl dX8_checkFolders_68 ?_
          refine lv_iload hx hb dX8_checkFolders_71 (lv_at hl 1 rfl) ?_
          refine lv_iconst (v := 1) hx hb dX8_checkFolders_73 (by decide) ?_
          refine lv_iadd hx hb dX8_checkFolders_74 ?_
          obtain ⟨v18, eh, h⟩ := ik_bd h
          refine ik_ld hx hb hK hP 1 0 rfl rfl eh dX8_checkFolders_75 ?_
          clear eh
          refine lv_istore (lv' := [(6, .int v18), (5, .int v17), (4, .int v16), (0, .ref (a 0)), (1, .int x4), (2, .int x9), (3, .int x10)]) hx hb dX8_checkFolders_76 hl (by decide) rfl (fun ls hl => ?_)
          refine lv_iload hx hb dX8_checkFolders_78 (lv_at hl 1 rfl) ?_
          refine lv_iconst (v := 1) hx hb dX8_checkFolders_80 (by decide) ?_
          refine lv_sipush (v := 255) hx hb dX8_checkFolders_81 (by decide) ?_
          obtain ⟨v19, eh, h⟩ := ik_bd h
          refine ik_Si (As := [.int v17, .int 1, .int 255]) (rest := []) ⟨hx, hb, hml, hown, hts⟩ (c_X8_isIn l D cI cZ a A v17 1 255 σ11 _ eh) (va_cwS 3 hts gX8_checkFolders_X8_isIn rfl rfl rfl (by decide +kernel) ⟨Nat.le_of_ble_eq_true rfl, Nat.le_of_ble_eq_true rfl⟩) hP hK hD hN hS rfl hl.1 rfl (Nat.le_of_ble_eq_true rfl) dX8_checkFolders_84 (fun H locs hP hD hS => ?_)
          clear eh
          obtain ⟨j146, ej, h⟩ := jn_ex h
          have hj146 : ∀ (y20 : Int32), j146 y20 = some σz → ∀ (H : Heap) (locs : List Loc) (ls : Array Slot), va_P D vwCl (mk_W cI cZ a σ11) H → va_D A (mk_W cI cZ a σ11) → va_S A s.heap H locs → lv_has ls 8 [(0, .ref (a 0)), (1, .int x4), (2, .int x9), (3, .int x10), (5, .int v17), (6, .int v18)] → W p l e (headSpec wsX8_checkFolders rm_X8_checkFolders).room s m args below meth c H locs 0 0 (MQ below (ik_Qv D (mk_W cI cZ a) A σz) args s 0 0 A) (F0 m 146 ls [.int y20]) := by
            rw [ej]; clear h
            intro y20 h H locs ls hP hD hS hl
            refine lv_istore (lv' := [(7, .int y20), (0, .ref (a 0)), (1, .int x4), (2, .int x9), (3, .int x10), (5, .int v17), (6, .int v18)]) hx hb dX8_checkFolders_146 hl (by decide) rfl (fun ls hl => ?_)
            refine lv_iload hx hb dX8_checkFolders_148 (lv_at hl 0 rfl) ?_
            refine lv_if_eq (tgt := 183) hx hb dX8_checkFolders_150 (by decide) (fun c21 => ?_) (fun c21 => ?_)
            · have h := ik_t c21 h
              refine lv_iinc (v := x10 + 1) (lv' := [(3, .int (x10 + 1)), (7, .int y20), (0, .ref (a 0)), (1, .int x4), (2, .int x9), (5, .int v17), (6, .int v18)]) hx hb dX8_checkFolders_183 hl (k := 4) rfl rfl (by decide) rfl (fun ls hl => ?_)
              refine lv_goto (tgt := 45) hx hb dX8_checkFolders_186 (by decide) ?_
              exact ih45 _ _ _ h _ _ _ hP hD hS (lv_sub hl [2, 3, 4, 0] rfl)
            · have h := ik_f c21 h
              refine lv_aload_n hx hb dX8_checkFolders_153 rfl (lv_at hl 1 rfl) ?_
              refine va_get (D := D) (ci := 6) (v := .ref (a 5)) (C := RX8) (T := TX8) (N := 10) hx hb hts in_X8_checkFolders_X8 hown hK hP 0 rfl rfl 5 (by decide) (hts (.fieldLink RX8 23 "ImageCheckerModel" "reached" "[Z") (by decide +kernel)) (fun _ h9 => h9) rfl dX8_checkFolders_154 ?_
              refine lv_iload hx hb dX8_checkFolders_157 (lv_at hl 6 rfl) ?_
              refine lv_iconst (v := 1) hx hb dX8_checkFolders_159 (by decide) ?_
              obtain ⟨σ22, eh, h⟩ := ik_bd h
              refine ik_zst (Wd := mk_W cI cZ a) (σ1 := σ22) hx hb hK hP hD hS 5 1 rfl rfl (fun _ => rfl) eh dX8_checkFolders_160 (fun H locs hP hD hS => ?_)
              clear eh
              refine lv_aload_n hx hb dX8_checkFolders_161 rfl (lv_at hl 1 rfl) ?_
              refine lv_iload_n hx hb dX8_checkFolders_162 rfl (lv_at hl 2 rfl) ?_
              refine lv_iload_n hx hb dX8_checkFolders_163 rfl (lv_at hl 3 rfl) ?_
              obtain ⟨v23, eh, h⟩ := ik_bd h
              refine ik_Si (As := [.int x4, .int x9]) (rest := [.ref (a 0)]) ⟨hx, hb, hml, hown, hts⟩ (c_X8_entryAt l D cI cZ a A x4 x9 σ22 _ eh) (va_cwS 2 hts gX8_checkFolders_X8_entryAt rfl rfl rfl (by decide +kernel) ⟨Nat.le_of_ble_eq_true rfl, Nat.le_of_ble_eq_true rfl⟩) hP hK hD hN hS rfl hl.1 rfl (Nat.le_of_ble_eq_true rfl) dX8_checkFolders_164 (fun H locs hP hD hS => ?_)
              clear eh
              refine lv_iload hx hb dX8_checkFolders_167 (lv_at hl 5 rfl) ?_
              refine lv_iload hx hb dX8_checkFolders_169 (lv_at hl 6 rfl) ?_
              refine lv_aload_n hx hb dX8_checkFolders_171 rfl (lv_at hl 1 rfl) ?_
              refine lv_iload hx hb dX8_checkFolders_172 (lv_at hl 6 rfl) ?_
              obtain ⟨v24, eh, h⟩ := ik_bd h
              refine ik_Vi (As := [.int v18]) (rest := [.int v18, .int v17, .int v23, .ref (a 0)]) ⟨hx, hb, hml, hown, hts⟩ (c_X8_kindOf l D cI cZ a A v18 σ22 _ eh) (cwV 1 hts gX8_checkFolders_X8_kindOf rfl rfl rfl (by decide +kernel) ⟨Nat.le_of_ble_eq_true rfl, Nat.le_of_ble_eq_true rfl⟩) (va_recv hK hP (ci := 6) (q0 := 0) rfl rfl) hP hK hD hN hS rfl hl.1 rfl (Nat.le_of_ble_eq_true rfl) dX8_checkFolders_174 (fun H locs hP hD hS => ?_)
              clear eh
              obtain ⟨σ25, eh, h⟩ := ik_bd h
              refine ik_Vv (As := [.int v23, .int v17, .int v18, .int v24]) (rest := []) ⟨hx, hb, hml, hown, hts⟩ (c_X8_put l D cI cZ a A v23 v17 v18 v24 σ22 _ eh) (cwV 4 hts gX8_checkFolders_X8_put rfl rfl rfl (by decide +kernel) ⟨Nat.le_of_ble_eq_true rfl, Nat.le_of_ble_eq_true rfl⟩) (va_recv hK hP (ci := 6) (q0 := 0) rfl rfl) hP hK hD hN hS rfl hl.1 rfl (Nat.le_of_ble_eq_true rfl) dX8_checkFolders_177 (fun H locs hP hD hS => ?_)
              clear eh
              refine lv_iinc (v := x9 + 1) (lv' := [(2, .int (x9 + 1)), (7, .int y20), (0, .ref (a 0)), (1, .int x4), (3, .int x10), (5, .int v17), (6, .int v18)]) hx hb dX8_checkFolders_180 hl (k := 3) rfl rfl (by decide) rfl (fun ls hl => ?_)
              refine lv_iinc (v := x10 + 1) (lv' := [(3, .int (x10 + 1)), (2, .int (x9 + 1)), (7, .int y20), (0, .ref (a 0)), (1, .int x4), (5, .int v17), (6, .int v18)]) hx hb dX8_checkFolders_183 hl (k := 4) rfl rfl (by decide) rfl (fun ls hl => ?_)
              refine lv_goto (tgt := 45) hx hb dX8_checkFolders_186 (by decide) ?_
              exact ih45 _ _ _ h _ _ _ hP hD hS (lv_sub hl [3, 4, 1, 0] rfl)
          clear ej
          obtain ⟨j145, ej, h⟩ := jn_ex h
          have hj145 : ∀ (_u : Unit), j145 _u = some σz → ∀ (H : Heap) (locs : List Loc) (ls : Array Slot), va_P D vwCl (mk_W cI cZ a σ11) H → va_D A (mk_W cI cZ a σ11) → va_S A s.heap H locs → lv_has ls 8 [(0, .ref (a 0)), (1, .int x4), (2, .int x9), (3, .int x10), (5, .int v17), (6, .int v18)] → W p l e (headSpec wsX8_checkFolders rm_X8_checkFolders).room s m args below meth c H locs 0 0 (MQ below (ik_Qv D (mk_W cI cZ a) A σz) args s 0 0 A) (F0 m 145 ls []) := by
            rw [ej]; clear h
            intro _u h H locs ls hP hD hS hl
            refine lv_iconst (v := 0) hx hb dX8_checkFolders_145 (by decide) ?_
            exact hj146 _ h _ _ _ hP hD hS (lv_sub hl [0, 1, 2, 3, 4, 5] rfl)
          clear ej
          refine lv_if_eq (tgt := 145) hx hb dX8_checkFolders_87 (by decide) (fun c26 => ?_) (fun c26 => ?_)
          · have h := ik_t c26 h
            exact hj145 () h _ _ _ hP hD hS (lv_sub hl [3, 4, 5, 6, 1, 0] rfl)
          · have h := ik_f c26 h
            refine lv_aload_n hx hb dX8_checkFolders_90 rfl (lv_at hl 3 rfl) ?_
            refine lv_iload_n hx hb dX8_checkFolders_91 rfl (lv_at hl 4 rfl) ?_
            refine lv_iload_n hx hb dX8_checkFolders_92 rfl (lv_at hl 5 rfl) ?_
            refine lv_iload hx hb dX8_checkFolders_93 (lv_at hl 1 rfl) ?_
            obtain ⟨v27, eh, h⟩ := ik_bd h
            refine ik_Vi (As := [.int x4, .int x9, .int v17]) (rest := []) ⟨hx, hb, hml, hown, hts⟩ (c_X8_hasName l D cI cZ a A x4 x9 v17 σ11 _ eh) (cwV 3 hts gX8_checkFolders_X8_hasName rfl rfl rfl (by decide +kernel) ⟨Nat.le_of_ble_eq_true rfl, Nat.le_of_ble_eq_true rfl⟩) (va_recv hK hP (ci := 6) (q0 := 0) rfl rfl) hP hK hD hN hS rfl hl.1 rfl (Nat.le_of_ble_eq_true rfl) dX8_checkFolders_95 (fun H locs hP hD hS => ?_)
            clear eh
            refine lv_if_ne (tgt := 145) hx hb dX8_checkFolders_98 (by decide) (fun c28 => ?_) (fun c28 => ?_)
            · have h := ik_f c28 h
              exact hj145 () h _ _ _ hP hD hS (lv_sub hl [3, 4, 5, 6, 1, 0] rfl)
            · have h := ik_t c28 h
              refine lv_iload hx hb dX8_checkFolders_101 (lv_at hl 0 rfl) ?_
              refine lv_iconst (v := 2) hx hb dX8_checkFolders_103 (by decide) ?_
              refine lv_bipush (v := 24) hx hb dX8_checkFolders_104 (by decide) ?_
              obtain ⟨v29, eh, h⟩ := ik_bd h
              refine ik_Si (As := [.int v18, .int 2, .int 24]) (rest := []) ⟨hx, hb, hml, hown, hts⟩ (c_X8_isIn l D cI cZ a A v18 2 24 σ11 _ eh) (va_cwS 3 hts gX8_checkFolders_X8_isIn rfl rfl rfl (by decide +kernel) ⟨Nat.le_of_ble_eq_true rfl, Nat.le_of_ble_eq_true rfl⟩) hP hK hD hN hS rfl hl.1 rfl (Nat.le_of_ble_eq_true rfl) dX8_checkFolders_106 (fun H locs hP hD hS => ?_)
              clear eh
              refine lv_if_eq (tgt := 145) hx hb dX8_checkFolders_109 (by decide) (fun c30 => ?_) (fun c30 => ?_)
              · have h := ik_t c30 h
                exact hj145 () h _ _ _ hP hD hS (lv_sub hl [3, 4, 5, 6, 1, 0] rfl)
              · have h := ik_f c30 h
                refine lv_aload_n hx hb dX8_checkFolders_112 rfl (lv_at hl 3 rfl) ?_
                refine lv_iload hx hb dX8_checkFolders_113 (lv_at hl 0 rfl) ?_
                obtain ⟨v31, eh, h⟩ := ik_bd h
                refine ik_Vi (As := [.int v18]) (rest := []) ⟨hx, hb, hml, hown, hts⟩ (c_X8_kindOf l D cI cZ a A v18 σ11 _ eh) (cwV 1 hts gX8_checkFolders_X8_kindOf rfl rfl rfl (by decide +kernel) ⟨Nat.le_of_ble_eq_true rfl, Nat.le_of_ble_eq_true rfl⟩) (va_recv hK hP (ci := 6) (q0 := 0) rfl rfl) hP hK hD hN hS rfl hl.1 rfl (Nat.le_of_ble_eq_true rfl) dX8_checkFolders_115 (fun H locs hP hD hS => ?_)
                clear eh
                refine lv_if_eq (tgt := 145) hx hb dX8_checkFolders_118 (by decide) (fun c32 => ?_) (fun c32 => ?_)
                · have h := ik_t c32 h
                  exact hj145 () h _ _ _ hP hD hS (lv_sub hl [3, 4, 5, 6, 1, 0] rfl)
                · have h := ik_f c32 h
                  refine lv_aload_n hx hb dX8_checkFolders_121 rfl (lv_at hl 3 rfl) ?_
                  refine lv_iload hx hb dX8_checkFolders_122 (lv_at hl 0 rfl) ?_
                  obtain ⟨v33, eh, h⟩ := ik_bd h
                  refine ik_Vi (As := [.int v18]) (rest := []) ⟨hx, hb, hml, hown, hts⟩ (c_X8_kindOf l D cI cZ a A v18 σ11 _ eh) (cwV 1 hts gX8_checkFolders_X8_kindOf rfl rfl rfl (by decide +kernel) ⟨Nat.le_of_ble_eq_true rfl, Nat.le_of_ble_eq_true rfl⟩) (va_recv hK hP (ci := 6) (q0 := 0) rfl rfl) hP hK hD hN hS rfl hl.1 rfl (Nat.le_of_ble_eq_true rfl) dX8_checkFolders_124 (fun H locs hP hD hS => ?_)
                  clear eh
                  refine lv_iconst (v := 2) hx hb dX8_checkFolders_127 (by decide) ?_
                  obtain ⟨j141, ej, h⟩ := jn_ex h
                  have hj141 : ∀ (_u : Unit), j141 _u = some σz → ∀ (H : Heap) (locs : List Loc) (ls : Array Slot), va_P D vwCl (mk_W cI cZ a σ11) H → va_D A (mk_W cI cZ a σ11) → va_S A s.heap H locs → lv_has ls 8 [(0, .ref (a 0)), (1, .int x4), (2, .int x9), (3, .int x10), (5, .int v17), (6, .int v18)] → W p l e (headSpec wsX8_checkFolders rm_X8_checkFolders).room s m args below meth c H locs 0 0 (MQ below (ik_Qv D (mk_W cI cZ a) A σz) args s 0 0 A) (F0 m 141 ls []) := by
                    rw [ej]; clear h
                    intro _u h H locs ls hP hD hS hl
                    refine lv_iconst (v := 1) hx hb dX8_checkFolders_141 (by decide) ?_
                    refine lv_goto (tgt := 146) hx hb dX8_checkFolders_142 (by decide) ?_
                    exact hj146 _ h _ _ _ hP hD hS (lv_sub hl [0, 1, 2, 3, 4, 5] rfl)
                  clear ej
                  refine lv_icmp_ne (tgt := 141) hx hb dX8_checkFolders_128 (by decide) (fun c34 => ?_) (fun c34 => ?_)
                  · have h := ik_f c34 h
                    exact hj141 () h _ _ _ hP hD hS (lv_sub hl [3, 4, 5, 6, 1, 0] rfl)
                  · have h := ik_t c34 h
                    refine lv_aload_n hx hb dX8_checkFolders_131 rfl (lv_at hl 3 rfl) ?_
                    refine va_get (D := D) (ci := 6) (v := .ref (a 5)) (C := RX8) (T := TX8) (N := 10) hx hb hts in_X8_checkFolders_X8 hown hK hP 0 rfl rfl 5 (by decide) (hts (.fieldLink RX8 23 "ImageCheckerModel" "reached" "[Z") (by decide +kernel)) (fun _ h9 => h9) rfl dX8_checkFolders_132 ?_
                    refine lv_iload hx hb dX8_checkFolders_135 (lv_at hl 0 rfl) ?_
                    obtain ⟨v35, eh, h⟩ := ik_bd h
                    refine ik_zld hx hb hK hP 5 1 rfl rfl eh dX8_checkFolders_137 ?_
                    clear eh
                    refine lv_if_ne (tgt := 145) hx hb dX8_checkFolders_138 (by decide) (fun c36 => ?_) (fun c36 => ?_)
                    · have h := ik_f c36 h
                      exact hj145 () h _ _ _ hP hD hS (lv_sub hl [3, 4, 5, 6, 1, 0] rfl)
                    · have h := ik_t c36 h
                      exact hj141 () h _ _ _ hP hD hS (lv_sub hl [3, 4, 5, 6, 1, 0] rfl)
      · have h := ik_f c8 h
        refine lv_goto (tgt := 204) hx hb dX8_checkFolders_38 (by decide) ?_
        refine lv_iinc (v := x4 + 1) (lv' := [(1, .int (x4 + 1)), (0, .ref (a 0))]) hx hb dX8_checkFolders_204 hl (k := 1) rfl rfl (by decide) rfl (fun ls hl => ?_)
        refine lv_goto (tgt := 23) hx hb dX8_checkFolders_207 (by decide) ?_
        exact ih23 _ _ h _ _ _ hP hD hS (lv_sub hl [1, 0] rfl)
  · have h := ik_f c3 h
    refine lv_aload_n hx hb dX8_checkFolders_8 rfl (lv_at hl 0 rfl) ?_
    refine va_get (D := D) (ci := 6) (v := .ref (a 5)) (C := RX8) (T := TX8) (N := 10) hx hb hts in_X8_checkFolders_X8 hown hK hP 0 rfl rfl 5 (by decide) (hts (.fieldLink RX8 23 "ImageCheckerModel" "reached" "[Z") (by decide +kernel)) (fun _ h9 => h9) rfl dX8_checkFolders_9 ?_
    refine lv_iload_n hx hb dX8_checkFolders_12 rfl (lv_at hl 1 rfl) ?_
    refine lv_iconst (v := 0) hx hb dX8_checkFolders_13 (by decide) ?_
    obtain ⟨σ37, eh, h⟩ := ik_bd h
    refine ik_zst (Wd := mk_W cI cZ a) (σ1 := σ37) hx hb hK hP hD hS 5 1 rfl rfl (fun _ => rfl) eh dX8_checkFolders_14 (fun H locs hP hD hS => ?_)
    clear eh
    refine lv_iinc (v := x1 + 1) (lv' := [(1, .int (x1 + 1)), (0, .ref (a 0))]) hx hb dX8_checkFolders_15 hl (k := 1) rfl rfl (by decide) rfl (fun ls hl => ?_)
    refine lv_goto (tgt := 2) hx hb dX8_checkFolders_18 (by decide) ?_
    exact ih2 _ _ h _ _ _ hP hD hS (lv_sub hl [1, 0] rfl)
abbrev rm_X8_findReached : Room := { frames := 1, cells := 0, slots := 0, locals := 21 }
theorem in_X8_findReached_X8 : ∀ w ∈ wsX80, w ∈ wsX8_findReached := by decide +kernel
set_option maxHeartbeats 4000000 in
set_option maxRecDepth 100000 in
theorem c_X8_findReached (l : Launch) (D : va_G) (cI cZ : ClassId) (a : Nat → Nat) (A : Nat → Prop) (σ : mk_S) (σz : mk_S) (h : fX8_findReached σ = some σz) : Met l yX8_findReached wsX8_findReached rm_X8_findReached (va_Pc [.ref (a 0)] (ik_P D [(cI, .int), (cZ, .boolean)] [] (mk_W cI cZ a) A σ)) (ik_Qv D (mk_W cI cZ a) A σz) 0 0 A := by
  unfold fX8_findReached at h
  refine Met.ofW (cc := cX8_findReached) (maxL := 5) (ret := none) (by decide) rfl ?_
  intro p e s m args below meth c s₁ B hml hv
  obtain ⟨hAr, hP, hK, hD, hN⟩ := hv
  have hx := B.exec
  have hb := B.bytes
  have hr := B.returns
  have hts := atoms_spec (ws := wsX8_findReached) B.pre
  have hown : s.vm.findClass RX8 = some m.cls := findClass_of_methodNamed B.named
  have hlocks := B.notSynchronized
  have hS : va_S A s.heap s.heap [] := va_S.rf
  have hl := lv_entry ([.ref (a 0)]) (n := 5) (Nat.le_of_ble_eq_true rfl)
  rw [show entryFrame m args 5 = entryFrame m ([.ref (a 0)] : List Value).toArray 5 from by rw [hAr], lg_entry_eq]
  generalize (lg_sl ([.ref (a 0)]) ++ List.replicate (5 - (lg_sl ([.ref (a 0)])).length) Slot.unset).toArray = ls at hl ⊢
  have hl : lv_has ls 5 [(0, .ref (a 0))] := hl
  refine lv_iconst (v := 0) hx hb dX8_findReached_0 (by decide) ?_
  refine lv_istore_n (lv' := [(1, .int 0), (0, .ref (a 0))]) hx hb dX8_findReached_1 rfl hl (by decide) rfl (fun ls hl => ?_)
  refine qp2_W (P := fun (x1 : Int32) (σ2 : mk_S) => ∀ (H : Heap) (locs : List Loc) (ls : Array Slot), va_P D vwCl (mk_W cI cZ a σ2) H → va_D A (mk_W cI cZ a σ2) → va_S A s.heap H locs → lv_has ls 5 [(0, .ref (a 0)), (1, .int x1)] → W p l e (headSpec wsX8_findReached rm_X8_findReached).room s m args below meth c H locs 0 0 (MQ below (ik_Qv D (mk_W cI cZ a) A σz) args s 0 0 A) (F0 m 2 ls [])) ?_ FU _ _ h _ _ _ hP hD hS (lv_sub hl [1, 0] rfl)
  intro rec2 ih2 x1 σ2 h H locs ls hP hD hS hl
  refine lv_iload_n hx hb dX8_findReached_2 rfl (lv_at hl 1 rfl) ?_
  refine lv_bipush (v := 24) hx hb dX8_findReached_3 (by decide) ?_
  refine lv_icmp_gt (tgt := 30) hx hb dX8_findReached_5 (by decide) (fun c3 => ?_) (fun c3 => ?_)
  · have h := ik_t c3 h
    refine lv_iconst (v := 0) hx hb dX8_findReached_30 (by decide) ?_
    refine lv_istore_n (lv' := [(1, .int 0), (0, .ref (a 0))]) hx hb dX8_findReached_31 rfl hl (by decide) rfl (fun ls hl => ?_)
    refine qp2_W (P := fun (x4 : Int32) (σ5 : mk_S) => ∀ (H : Heap) (locs : List Loc) (ls : Array Slot), va_P D vwCl (mk_W cI cZ a σ5) H → va_D A (mk_W cI cZ a σ5) → va_S A s.heap H locs → lv_has ls 5 [(0, .ref (a 0)), (1, .int x4)] → W p l e (headSpec wsX8_findReached rm_X8_findReached).room s m args below meth c H locs 0 0 (MQ below (ik_Qv D (mk_W cI cZ a) A σz) args s 0 0 A) (F0 m 32 ls [])) ?_ FU _ _ h _ _ _ hP hD hS (lv_sub hl [1, 0] rfl)
    intro rec32 ih32 x4 σ5 h H locs ls hP hD hS hl
    refine lv_iload_n hx hb dX8_findReached_32 rfl (lv_at hl 1 rfl) ?_
    refine lv_bipush (v := 24) hx hb dX8_findReached_33 (by decide) ?_
    refine lv_icmp_ge (tgt := 122) hx hb dX8_findReached_35 (by decide) (fun c6 => ?_) (fun c6 => ?_)
    · have h := ik_t c6 h
      exact W.vret hx hb hr (fun t ht hW => ⟨⟨_, rfl, Option.some.inj h, by rw [ht]; exact hP, hD⟩, hS.F ht⟩) hS.2.2 dX8_findReached_122
    · have h := ik_f c6 h
      refine lv_iconst (v := 1) hx hb dX8_findReached_38 (by decide) ?_
      refine lv_istore_n (lv' := [(2, .int 1), (0, .ref (a 0)), (1, .int x4)]) hx hb dX8_findReached_39 rfl hl (by decide) rfl (fun ls hl => ?_)
      refine qp2_W (P := fun (x7 : Int32) (σ8 : mk_S) => ∀ (H : Heap) (locs : List Loc) (ls : Array Slot), va_P D vwCl (mk_W cI cZ a σ8) H → va_D A (mk_W cI cZ a σ8) → va_S A s.heap H locs → lv_has ls 5 [(0, .ref (a 0)), (1, .int x4), (2, .int x7)] → W p l e (headSpec wsX8_findReached rm_X8_findReached).room s m args below meth c H locs 0 0 (MQ below (ik_Qv D (mk_W cI cZ a) A σz) args s 0 0 A) (F0 m 40 ls [])) ?_ FU _ _ h _ _ _ hP hD hS (lv_sub hl [1, 2, 0] rfl)
      intro rec40 ih40 x7 σ8 h H locs ls hP hD hS hl
      refine lv_iload_n hx hb dX8_findReached_40 rfl (lv_at hl 2 rfl) ?_
      refine lv_bipush (v := 24) hx hb dX8_findReached_41 (by decide) ?_
      refine lv_icmp_gt (tgt := 116) hx hb dX8_findReached_43 (by decide) (fun c9 => ?_) (fun c9 => ?_)
      · have h := ik_t c9 h
        refine lv_iinc (v := x4 + 1) (lv' := [(1, .int (x4 + 1)), (0, .ref (a 0)), (2, .int x7)]) hx hb dX8_findReached_116 hl (k := 1) rfl rfl (by decide) rfl (fun ls hl => ?_)
        refine lv_goto (tgt := 32) hx hb dX8_findReached_119 (by decide) ?_
        exact ih32 _ _ h _ _ _ hP hD hS (lv_sub hl [1, 0] rfl)
      · have h := ik_f c9 h
        refine lv_iconst (v := 0) hx hb dX8_findReached_46 (by decide) ?_
        refine lv_istore_n (lv' := [(3, .int 0), (0, .ref (a 0)), (1, .int x4), (2, .int x7)]) hx hb dX8_findReached_47 rfl hl (by decide) rfl (fun ls hl => ?_)
        refine qp2_W (P := fun (x10 : Int32) (σ11 : mk_S) => ∀ (H : Heap) (locs : List Loc) (ls : Array Slot), va_P D vwCl (mk_W cI cZ a σ11) H → va_D A (mk_W cI cZ a σ11) → va_S A s.heap H locs → lv_has ls 5 [(0, .ref (a 0)), (1, .int x4), (2, .int x7), (3, .int x10)] → W p l e (headSpec wsX8_findReached rm_X8_findReached).room s m args below meth c H locs 0 0 (MQ below (ik_Qv D (mk_W cI cZ a) A σz) args s 0 0 A) (F0 m 48 ls [])) ?_ FU _ _ h _ _ _ hP hD hS (lv_sub hl [1, 2, 3, 0] rfl)
        intro rec48 ih48 x10 σ11 h H locs ls hP hD hS hl
        refine lv_iload_n hx hb dX8_findReached_48 rfl (lv_at hl 3 rfl) ?_
        refine lv_bipush (v := 8) hx hb dX8_findReached_49 (by decide) ?_
        refine lv_icmp_ge (tgt := 110) hx hb dX8_findReached_51 (by decide) (fun c12 => ?_) (fun c12 => ?_)
        · have h := ik_t c12 h
          refine lv_iinc (v := x7 + 1) (lv' := [(2, .int (x7 + 1)), (0, .ref (a 0)), (1, .int x4), (3, .int x10)]) hx hb dX8_findReached_110 hl (k := 2) rfl rfl (by decide) rfl (fun ls hl => ?_)
          refine lv_goto (tgt := 40) hx hb dX8_findReached_113 (by decide) ?_
          exact ih40 _ _ h _ _ _ hP hD hS (lv_sub hl [1, 2, 0] rfl)
        · have h := ik_f c12 h
          refine lv_aload_n hx hb dX8_findReached_54 rfl (lv_at hl 0 rfl) ?_
          refine va_get (D := D) (ci := 6) (v := .ref (a 5)) (C := RX8) (T := TX8) (N := 10) hx hb hts in_X8_findReached_X8 hown hK hP 0 rfl rfl 5 (by decide) (hts (.fieldLink RX8 23 "ImageCheckerModel" "reached" "[Z") (by decide +kernel)) (fun _ h9 => h9) rfl dX8_findReached_55 ?_
          refine lv_iload_n hx hb dX8_findReached_58 rfl (lv_at hl 2 rfl) ?_
          obtain ⟨v13, eh, h⟩ := ik_bd h
          refine ik_zld hx hb hK hP 5 1 rfl rfl eh dX8_findReached_59 ?_
          clear eh
          refine lv_if_eq (tgt := 110) hx hb dX8_findReached_60 (by decide) (fun c14 => ?_) (fun c14 => ?_)
          · have h := ik_t c14 h
            refine lv_iinc (v := x7 + 1) (lv' := [(2, .int (x7 + 1)), (0, .ref (a 0)), (1, .int x4), (3, .int x10)]) hx hb dX8_findReached_110 hl (k := 2) rfl rfl (by decide) rfl (fun ls hl => ?_)
            refine lv_goto (tgt := 40) hx hb dX8_findReached_113 (by decide) ?_
            exact ih40 _ _ h _ _ _ hP hD hS (lv_sub hl [1, 2, 0] rfl)
          · have h := ik_f c14 h
            refine lv_aload_n hx hb dX8_findReached_63 rfl (lv_at hl 0 rfl) ?_
            refine lv_iload_n hx hb dX8_findReached_64 rfl (lv_at hl 2 rfl) ?_
            obtain ⟨v15, eh, h⟩ := ik_bd h
            refine ik_Vi (As := [.int x7]) (rest := []) ⟨hx, hb, hml, hown, hts⟩ (c_X8_kindOf l D cI cZ a A x7 σ11 _ eh) (cwV 1 hts gX8_findReached_X8_kindOf rfl rfl rfl (by decide +kernel) ⟨Nat.le_of_ble_eq_true rfl, Nat.le_of_ble_eq_true rfl⟩) (va_recv hK hP (ci := 6) (q0 := 0) rfl rfl) hP hK hD hN hS rfl hl.1 rfl (Nat.le_of_ble_eq_true rfl) dX8_findReached_65 (fun H locs hP hD hS => ?_)
            clear eh
            refine lv_iconst (v := 2) hx hb dX8_findReached_68 (by decide) ?_
            refine lv_icmp_ne (tgt := 110) hx hb dX8_findReached_69 (by decide) (fun c16 => ?_) (fun c16 => ?_)
            · have h := ik_f c16 h
              refine lv_iinc (v := x7 + 1) (lv' := [(2, .int (x7 + 1)), (0, .ref (a 0)), (1, .int x4), (3, .int x10)]) hx hb dX8_findReached_110 hl (k := 2) rfl rfl (by decide) rfl (fun ls hl => ?_)
              refine lv_goto (tgt := 40) hx hb dX8_findReached_113 (by decide) ?_
              exact ih40 _ _ h _ _ _ hP hD hS (lv_sub hl [1, 2, 0] rfl)
            · have h := ik_t c16 h
              refine lv_iload_n hx hb dX8_findReached_72 rfl (lv_at hl 2 rfl) ?_
              refine lv_iload_n hx hb dX8_findReached_73 rfl (lv_at hl 3 rfl) ?_
              obtain ⟨v17, eh, h⟩ := ik_bd h
              refine ik_Si (As := [.int x7, .int x10]) (rest := []) ⟨hx, hb, hml, hown, hts⟩ (c_X8_entryAt l D cI cZ a A x7 x10 σ11 _ eh) (va_cwS 2 hts gX8_findReached_X8_entryAt rfl rfl rfl (by decide +kernel) ⟨Nat.le_of_ble_eq_true rfl, Nat.le_of_ble_eq_true rfl⟩) hP hK hD hN hS rfl hl.1 rfl (Nat.le_of_ble_eq_true rfl) dX8_findReached_74 (fun H locs hP hD hS => ?_)
              clear eh
              refine lv_istore (lv' := [(4, .int v17), (0, .ref (a 0)), (1, .int x4), (2, .int x7), (3, .int x10)]) hx hb dX8_findReached_77 hl (by decide) rfl (fun ls hl => ?_)
              refine lv_aload_n hx hb dX8_findReached_79 rfl (lv_at hl 1 rfl) ?_
              refine va_get (D := D) (ci := 6) (v := .ref (a 1)) (C := RX8) (T := TX8) (N := 10) hx hb hts in_X8_findReached_X8 hown hK hP 0 rfl rfl 1 (by decide) (hts (.fieldLink RX8 7 "ImageCheckerModel" "all" "[I") (by decide +kernel)) (fun _ h9 => h9) rfl dX8_findReached_80 ?_
              refine lv_iload hx hb dX8_findReached_83 (lv_at hl 0 rfl) ?_
              obtain ⟨v18, eh, h⟩ := ik_bd h
              refine ik_ld hx hb hK hP 1 0 rfl rfl eh dX8_findReached_85 ?_
              clear eh
              refine lv_if_eq (tgt := 104) hx hb dX8_findReached_86 (by decide) (fun c19 => ?_) (fun c19 => ?_)
              · have h := ik_t c19 h
                refine lv_iinc (v := x10 + 1) (lv' := [(3, .int (x10 + 1)), (4, .int v17), (0, .ref (a 0)), (1, .int x4), (2, .int x7)]) hx hb dX8_findReached_104 hl (k := 4) rfl rfl (by decide) rfl (fun ls hl => ?_)
                refine lv_goto (tgt := 48) hx hb dX8_findReached_107 (by decide) ?_
                exact ih48 _ _ h _ _ _ hP hD hS (lv_sub hl [2, 3, 4, 0] rfl)
              · have h := ik_f c19 h
                refine lv_aload_n hx hb dX8_findReached_89 rfl (lv_at hl 1 rfl) ?_
                refine va_get (D := D) (ci := 6) (v := .ref (a 5)) (C := RX8) (T := TX8) (N := 10) hx hb hts in_X8_findReached_X8 hown hK hP 0 rfl rfl 5 (by decide) (hts (.fieldLink RX8 23 "ImageCheckerModel" "reached" "[Z") (by decide +kernel)) (fun _ h9 => h9) rfl dX8_findReached_90 ?_
                refine lv_aload_n hx hb dX8_findReached_93 rfl (lv_at hl 1 rfl) ?_
                refine va_get (D := D) (ci := 6) (v := .ref (a 1)) (C := RX8) (T := TX8) (N := 10) hx hb hts in_X8_findReached_X8 hown hK hP 0 rfl rfl 1 (by decide) (hts (.fieldLink RX8 7 "ImageCheckerModel" "all" "[I") (by decide +kernel)) (fun _ h9 => h9) rfl dX8_findReached_94 ?_
                refine lv_iload hx hb dX8_findReached_97 (lv_at hl 0 rfl) ?_
                refine lv_iconst (v := 1) hx hb dX8_findReached_99 (by decide) ?_
                refine lv_iadd hx hb dX8_findReached_100 ?_
                obtain ⟨v20, eh, h⟩ := ik_bd h
                refine ik_ld hx hb hK hP 1 0 rfl rfl eh dX8_findReached_101 ?_
                clear eh
                refine lv_iconst (v := 1) hx hb dX8_findReached_102 (by decide) ?_
                obtain ⟨σ21, eh, h⟩ := ik_bd h
                refine ik_zst (Wd := mk_W cI cZ a) (σ1 := σ21) hx hb hK hP hD hS 5 1 rfl rfl (fun _ => rfl) eh dX8_findReached_103 (fun H locs hP hD hS => ?_)
                clear eh
                refine lv_iinc (v := x10 + 1) (lv' := [(3, .int (x10 + 1)), (4, .int v17), (0, .ref (a 0)), (1, .int x4), (2, .int x7)]) hx hb dX8_findReached_104 hl (k := 4) rfl rfl (by decide) rfl (fun ls hl => ?_)
                refine lv_goto (tgt := 48) hx hb dX8_findReached_107 (by decide) ?_
                exact ih48 _ _ h _ _ _ hP hD hS (lv_sub hl [2, 3, 4, 0] rfl)
  · have h := ik_f c3 h
    refine lv_aload_n hx hb dX8_findReached_8 rfl (lv_at hl 0 rfl) ?_
    refine va_get (D := D) (ci := 6) (v := .ref (a 5)) (C := RX8) (T := TX8) (N := 10) hx hb hts in_X8_findReached_X8 hown hK hP 0 rfl rfl 5 (by decide) (hts (.fieldLink RX8 23 "ImageCheckerModel" "reached" "[Z") (by decide +kernel)) (fun _ h9 => h9) rfl dX8_findReached_9 ?_
    refine lv_iload_n hx hb dX8_findReached_12 rfl (lv_at hl 1 rfl) ?_
    refine lv_iload_n hx hb dX8_findReached_13 rfl (lv_at hl 1 rfl) ?_
    refine lv_iconst (v := 1) hx hb dX8_findReached_14 (by decide) ?_
    obtain ⟨j23, ej, h⟩ := jn_ex h
    have hj23 : ∀ (y22 : Int32), j23 y22 = some σz → ∀ (H : Heap) (locs : List Loc) (ls : Array Slot), va_P D vwCl (mk_W cI cZ a σ2) H → va_D A (mk_W cI cZ a σ2) → va_S A s.heap H locs → lv_has ls 5 [(0, .ref (a 0)), (1, .int x1)] → W p l e (headSpec wsX8_findReached rm_X8_findReached).room s m args below meth c H locs 0 0 (MQ below (ik_Qv D (mk_W cI cZ a) A σz) args s 0 0 A) (F0 m 23 ls [.int y22, .int x1, .ref (a 5)]) := by
      rw [ej]; clear h
      intro y22 h H locs ls hP hD hS hl
      obtain ⟨σ23, eh, h⟩ := ik_bd h
      refine ik_zst (Wd := mk_W cI cZ a) (σ1 := σ23) hx hb hK hP hD hS 5 1 rfl rfl (fun _ => rfl) eh dX8_findReached_23 (fun H locs hP hD hS => ?_)
      clear eh
      refine lv_iinc (v := x1 + 1) (lv' := [(1, .int (x1 + 1)), (0, .ref (a 0))]) hx hb dX8_findReached_24 hl (k := 1) rfl rfl (by decide) rfl (fun ls hl => ?_)
      refine lv_goto (tgt := 2) hx hb dX8_findReached_27 (by decide) ?_
      exact ih2 _ _ h _ _ _ hP hD hS (lv_sub hl [1, 0] rfl)
    clear ej
    refine lv_icmp_ne (tgt := 22) hx hb dX8_findReached_15 (by decide) (fun c24 => ?_) (fun c24 => ?_)
    · have h := ik_f c24 h
      refine lv_iconst (v := 0) hx hb dX8_findReached_22 (by decide) ?_
      exact hj23 _ h _ _ _ hP hD hS (lv_sub hl [0, 1] rfl)
    · have h := ik_t c24 h
      refine lv_iconst (v := 1) hx hb dX8_findReached_18 (by decide) ?_
      refine lv_goto (tgt := 23) hx hb dX8_findReached_19 (by decide) ?_
      exact hj23 _ h _ _ _ hP hD hS (lv_sub hl [0, 1] rfl)
abbrev rm_X8_leading : Room := { frames := 1, cells := 0, slots := 0, locals := 21 }
theorem in_X8_leading_X8 : ∀ w ∈ wsX80, w ∈ wsX8_leading := by decide +kernel
set_option maxHeartbeats 4000000 in
set_option maxRecDepth 100000 in
theorem c_X8_leading (l : Launch) (D : va_G) (cI cZ : ClassId) (a : Nat → Nat) (A : Nat → Prop) (p0 : Int32) (σ : mk_S) (rz : Int32) (h : fX8_leading p0 σ = some rz) : Met l yX8_leading wsX8_leading rm_X8_leading (va_Pc [.ref (a 0), .int p0] (ik_P D [(cI, .int), (cZ, .boolean)] [] (mk_W cI cZ a) A σ)) (ik_Qi D (mk_W cI cZ a) A rz σ) 0 0 A := by
  unfold fX8_leading at h
  refine Met.ofW (cc := cX8_leading) (maxL := 5) (ret := (some .int)) (by decide) rfl ?_
  intro p e s m args below meth c s₁ B hml hv
  obtain ⟨hAr, hP, hK, hD, hN⟩ := hv
  have hx := B.exec
  have hb := B.bytes
  have hr := B.returns
  have hts := atoms_spec (ws := wsX8_leading) B.pre
  have hown : s.vm.findClass RX8 = some m.cls := findClass_of_methodNamed B.named
  have hlocks := B.notSynchronized
  have hS : va_S A s.heap s.heap [] := va_S.rf
  have hl := lv_entry ([.ref (a 0), .int p0]) (n := 5) (Nat.le_of_ble_eq_true rfl)
  rw [show entryFrame m args 5 = entryFrame m ([.ref (a 0), .int p0] : List Value).toArray 5 from by rw [hAr], lg_entry_eq]
  generalize (lg_sl ([.ref (a 0), .int p0]) ++ List.replicate (5 - (lg_sl ([.ref (a 0), .int p0])).length) Slot.unset).toArray = ls at hl ⊢
  have hl : lv_has ls 5 [(0, .ref (a 0)), (1, .int p0)] := hl
  refine lv_iconst (v := 0) hx hb dX8_leading_0 (by decide) ?_
  refine lv_istore_n (lv' := [(2, .int 0), (0, .ref (a 0)), (1, .int p0)]) hx hb dX8_leading_1 rfl hl (by decide) rfl (fun ls hl => ?_)
  refine lv_iconst (v := 1) hx hb dX8_leading_2 (by decide) ?_
  refine lv_istore_n (lv' := [(3, .int 1), (2, .int 0), (0, .ref (a 0)), (1, .int p0)]) hx hb dX8_leading_3 rfl hl (by decide) rfl (fun ls hl => ?_)
  refine qp2_W (P := fun (x1 : Int32) (x2 : Int32) => ∀ (H : Heap) (locs : List Loc) (ls : Array Slot), va_P D vwCl (mk_W cI cZ a σ) H → va_D A (mk_W cI cZ a σ) → va_S A s.heap H locs → lv_has ls 5 [(0, .ref (a 0)), (1, .int p0), (2, .int x1), (3, .int x2)] → W p l e (headSpec wsX8_leading rm_X8_leading).room s m args below meth c H locs 0 0 (MQ below (ik_Qi D (mk_W cI cZ a) A rz σ) args s 0 0 A) (F0 m 4 ls [])) ?_ FU _ _ h _ _ _ hP hD hS (lv_sub hl [2, 3, 1, 0] rfl)
  intro rec4 ih4 x1 x2 h H locs ls hP hD hS hl
  refine lv_iload_n hx hb dX8_leading_4 rfl (lv_at hl 3 rfl) ?_
  refine lv_bipush (v := 24) hx hb dX8_leading_5 (by decide) ?_
  refine lv_icmp_gt (tgt := 80) hx hb dX8_leading_7 (by decide) (fun c3 => ?_) (fun c3 => ?_)
  · have h := ik_t c3 h
    refine lv_iload_n hx hb dX8_leading_80 rfl (lv_at hl 2 rfl) ?_
    exact W.iret hx hb hr (fun t ht hW => ⟨⟨_, _, rfl, ⟨Option.some.inj h, rfl⟩, by rw [ht]; exact hP, hD⟩, hS.F ht⟩) hS.2.2 dX8_leading_81
  · have h := ik_f c3 h
    refine lv_iconst (v := 0) hx hb dX8_leading_10 (by decide) ?_
    refine lv_istore (lv' := [(4, .int 0), (0, .ref (a 0)), (1, .int p0), (2, .int x1), (3, .int x2)]) hx hb dX8_leading_11 hl (by decide) rfl (fun ls hl => ?_)
    refine qp2_W (P := fun (x4 : Int32) (x5 : Int32) => ∀ (H : Heap) (locs : List Loc) (ls : Array Slot), va_P D vwCl (mk_W cI cZ a σ) H → va_D A (mk_W cI cZ a σ) → va_S A s.heap H locs → lv_has ls 5 [(0, .ref (a 0)), (1, .int p0), (2, .int x4), (3, .int x2), (4, .int x5)] → W p l e (headSpec wsX8_leading rm_X8_leading).room s m args below meth c H locs 0 0 (MQ below (ik_Qi D (mk_W cI cZ a) A rz σ) args s 0 0 A) (F0 m 13 ls [])) ?_ FU _ _ h _ _ _ hP hD hS (lv_sub hl [1, 2, 3, 4, 0] rfl)
    intro rec13 ih13 x4 x5 h H locs ls hP hD hS hl
    refine lv_iload hx hb dX8_leading_13 (lv_at hl 4 rfl) ?_
    refine lv_bipush (v := 8) hx hb dX8_leading_15 (by decide) ?_
    refine lv_icmp_ge (tgt := 74) hx hb dX8_leading_17 (by decide) (fun c6 => ?_) (fun c6 => ?_)
    · have h := ik_t c6 h
      refine lv_iinc (v := x2 + 1) (lv' := [(3, .int (x2 + 1)), (0, .ref (a 0)), (1, .int p0), (2, .int x4), (4, .int x5)]) hx hb dX8_leading_74 hl (k := 3) rfl rfl (by decide) rfl (fun ls hl => ?_)
      refine lv_goto (tgt := 4) hx hb dX8_leading_77 (by decide) ?_
      exact ih4 _ _ h _ _ _ hP hD hS (lv_sub hl [1, 2, 3, 0] rfl)
    · have h := ik_f c6 h
      refine lv_aload_n hx hb dX8_leading_20 rfl (lv_at hl 0 rfl) ?_
      refine lv_iload_n hx hb dX8_leading_21 rfl (lv_at hl 3 rfl) ?_
      obtain ⟨v7, eh, h⟩ := ik_bd h
      refine ik_Vi (As := [.int x2]) (rest := []) ⟨hx, hb, hml, hown, hts⟩ (c_X8_kindOf l D cI cZ a A x2 σ _ eh) (cwV 1 hts gX8_leading_X8_kindOf rfl rfl rfl (by decide +kernel) ⟨Nat.le_of_ble_eq_true rfl, Nat.le_of_ble_eq_true rfl⟩) (va_recv hK hP (ci := 6) (q0 := 0) rfl rfl) hP hK hD hN hS rfl hl.1 rfl (Nat.le_of_ble_eq_true rfl) dX8_leading_22 (fun H locs hP hD hS => ?_)
      clear eh
      refine lv_iconst (v := 2) hx hb dX8_leading_25 (by decide) ?_
      refine lv_icmp_ne (tgt := 74) hx hb dX8_leading_26 (by decide) (fun c8 => ?_) (fun c8 => ?_)
      · have h := ik_f c8 h
        refine lv_iinc (v := x2 + 1) (lv' := [(3, .int (x2 + 1)), (0, .ref (a 0)), (1, .int p0), (2, .int x4), (4, .int x5)]) hx hb dX8_leading_74 hl (k := 3) rfl rfl (by decide) rfl (fun ls hl => ?_)
        refine lv_goto (tgt := 4) hx hb dX8_leading_77 (by decide) ?_
        exact ih4 _ _ h _ _ _ hP hD hS (lv_sub hl [1, 2, 3, 0] rfl)
      · have h := ik_t c8 h
        refine lv_iload_n hx hb dX8_leading_29 rfl (lv_at hl 2 rfl) ?_
        refine lv_aload_n hx hb dX8_leading_30 rfl (lv_at hl 0 rfl) ?_
        refine va_get (D := D) (ci := 6) (v := .ref (a 1)) (C := RX8) (T := TX8) (N := 10) hx hb hts in_X8_leading_X8 hown hK hP 0 rfl rfl 1 (by decide) (hts (.fieldLink RX8 7 "ImageCheckerModel" "all" "[I") (by decide +kernel)) (fun _ h9 => h9) rfl dX8_leading_31 ?_
        refine lv_iload_n hx hb dX8_leading_34 rfl (lv_at hl 3 rfl) ?_
        refine lv_iload hx hb dX8_leading_35 (lv_at hl 4 rfl) ?_
        obtain ⟨v9, eh, h⟩ := ik_bd h
        refine ik_Si (As := [.int x2, .int x5]) (rest := [.ref (a 1), .int x4]) ⟨hx, hb, hml, hown, hts⟩ (c_X8_entryAt l D cI cZ a A x2 x5 σ _ eh) (va_cwS 2 hts gX8_leading_X8_entryAt rfl rfl rfl (by decide +kernel) ⟨Nat.le_of_ble_eq_true rfl, Nat.le_of_ble_eq_true rfl⟩) hP hK hD hN hS rfl hl.1 rfl (Nat.le_of_ble_eq_true rfl) dX8_leading_37 (fun H locs hP hD hS => ?_)
        clear eh
        obtain ⟨v10, eh, h⟩ := ik_bd h
        refine ik_ld hx hb hK hP 1 0 rfl rfl eh dX8_leading_40 ?_
        clear eh
        obtain ⟨j66, ej, h⟩ := jn_ex h
        have hj66 : ∀ (y11 : Int32), j66 y11 = some rz → ∀ (H : Heap) (locs : List Loc) (ls : Array Slot), va_P D vwCl (mk_W cI cZ a σ) H → va_D A (mk_W cI cZ a σ) → va_S A s.heap H locs → lv_has ls 5 [(0, .ref (a 0)), (1, .int p0), (3, .int x2), (4, .int x5)] → W p l e (headSpec wsX8_leading rm_X8_leading).room s m args below meth c H locs 0 0 (MQ below (ik_Qi D (mk_W cI cZ a) A rz σ) args s 0 0 A) (F0 m 66 ls [.int y11, .int x4]) := by
          rw [ej]; clear h
          intro y11 h H locs ls hP hD hS hl
          refine lv_iadd hx hb dX8_leading_66 ?_
          refine lv_istore_n (lv' := [(2, .int (x4 + y11)), (0, .ref (a 0)), (1, .int p0), (3, .int x2), (4, .int x5)]) hx hb dX8_leading_67 rfl hl (by decide) rfl (fun ls hl => ?_)
          refine lv_iinc (v := x5 + 1) (lv' := [(4, .int (x5 + 1)), (2, .int (x4 + y11)), (0, .ref (a 0)), (1, .int p0), (3, .int x2)]) hx hb dX8_leading_68 hl (k := 4) rfl rfl (by decide) rfl (fun ls hl => ?_)
          refine lv_goto (tgt := 13) hx hb dX8_leading_71 (by decide) ?_
          exact ih13 _ _ h _ _ _ hP hD hS (lv_sub hl [2, 3, 1, 4, 0] rfl)
        clear ej
        obtain ⟨j65, ej, h⟩ := jn_ex h
        have hj65 : ∀ (_u : Unit), j65 _u = some rz → ∀ (H : Heap) (locs : List Loc) (ls : Array Slot), va_P D vwCl (mk_W cI cZ a σ) H → va_D A (mk_W cI cZ a σ) → va_S A s.heap H locs → lv_has ls 5 [(0, .ref (a 0)), (1, .int p0), (3, .int x2), (4, .int x5)] → W p l e (headSpec wsX8_leading rm_X8_leading).room s m args below meth c H locs 0 0 (MQ below (ik_Qi D (mk_W cI cZ a) A rz σ) args s 0 0 A) (F0 m 65 ls [.int x4]) := by
          rw [ej]; clear h
          intro _u h H locs ls hP hD hS hl
          refine lv_iconst (v := 0) hx hb dX8_leading_65 (by decide) ?_
          exact hj66 _ h _ _ _ hP hD hS (lv_sub hl [0, 1, 2, 3] rfl)
        clear ej
        refine lv_if_eq (tgt := 65) hx hb dX8_leading_41 (by decide) (fun c12 => ?_) (fun c12 => ?_)
        · have h := ik_t c12 h
          exact hj65 () h _ _ _ hP hD hS (lv_sub hl [0, 1, 3, 4] rfl)
        · have h := ik_f c12 h
          refine lv_aload_n hx hb dX8_leading_44 rfl (lv_at hl 0 rfl) ?_
          refine va_get (D := D) (ci := 6) (v := .ref (a 1)) (C := RX8) (T := TX8) (N := 10) hx hb hts in_X8_leading_X8 hown hK hP 0 rfl rfl 1 (by decide) (hts (.fieldLink RX8 7 "ImageCheckerModel" "all" "[I") (by decide +kernel)) (fun _ h9 => h9) rfl dX8_leading_45 ?_
          refine lv_iload_n hx hb dX8_leading_48 rfl (lv_at hl 3 rfl) ?_
          refine lv_iload hx hb dX8_leading_49 (lv_at hl 4 rfl) ?_
          obtain ⟨v13, eh, h⟩ := ik_bd h
          refine ik_Si (As := [.int x2, .int x5]) (rest := [.ref (a 1), .int x4]) ⟨hx, hb, hml, hown, hts⟩ (c_X8_entryAt l D cI cZ a A x2 x5 σ _ eh) (va_cwS 2 hts gX8_leading_X8_entryAt rfl rfl rfl (by decide +kernel) ⟨Nat.le_of_ble_eq_true rfl, Nat.le_of_ble_eq_true rfl⟩) hP hK hD hN hS rfl hl.1 rfl (Nat.le_of_ble_eq_true rfl) dX8_leading_51 (fun H locs hP hD hS => ?_)
          clear eh
          refine lv_iconst (v := 1) hx hb dX8_leading_54 (by decide) ?_
          refine lv_iadd hx hb dX8_leading_55 ?_
          obtain ⟨v14, eh, h⟩ := ik_bd h
          refine ik_ld hx hb hK hP 1 0 rfl rfl eh dX8_leading_56 ?_
          clear eh
          refine lv_iload_n hx hb dX8_leading_57 rfl (lv_at hl 1 rfl) ?_
          refine lv_icmp_ne (tgt := 65) hx hb dX8_leading_58 (by decide) (fun c15 => ?_) (fun c15 => ?_)
          · have h := ik_f c15 h
            exact hj65 () h _ _ _ hP hD hS (lv_sub hl [0, 1, 3, 4] rfl)
          · have h := ik_t c15 h
            refine lv_iconst (v := 1) hx hb dX8_leading_61 (by decide) ?_
            refine lv_goto (tgt := 66) hx hb dX8_leading_62 (by decide) ?_
            exact hj66 _ h _ _ _ hP hD hS (lv_sub hl [0, 1, 3, 4] rfl)
