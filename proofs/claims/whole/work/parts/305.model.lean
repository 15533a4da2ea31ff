abbrev rm_X8_findWaiting : Room := { frames := 2, cells := 0, slots := 0, locals := 45 }
theorem in_X8_findWaiting_X8 : ∀ w ∈ wsX80, w ∈ wsX8_findWaiting := by decide +kernel
set_option maxHeartbeats 4000000 in
set_option maxRecDepth 100000 in
theorem c_X8_findWaiting (l : Launch) (D : va_G) (cI cZ : ClassId) (a : Nat → Nat) (A : Nat → Prop) (σ : mk_S) (σz : mk_S) (h : fX8_findWaiting σ = some σz) : Met l yX8_findWaiting wsX8_findWaiting rm_X8_findWaiting (va_Pc [.ref (a 0)] (ik_P D [(cI, .int), (cZ, .boolean)] [] (mk_W cI cZ a) A σ)) (ik_Qv D (mk_W cI cZ a) A σz) 0 0 A := by
  unfold fX8_findWaiting at h
  refine Met.ofW (cc := cX8_findWaiting) (maxL := 4) (ret := none) (by decide) rfl ?_
  intro p e s m args below meth c s₁ B hml hv
  obtain ⟨hAr, hP, hK, hD, hN⟩ := hv
  have hx := B.exec
  have hb := B.bytes
  have hr := B.returns
  have hts := atoms_spec (ws := wsX8_findWaiting) B.pre
  have hown : s.vm.findClass RX8 = some m.cls := findClass_of_methodNamed B.named
  have hlocks := B.notSynchronized
  have hS : va_S A s.heap s.heap [] := va_S.rf
  have hl := lv_entry ([.ref (a 0)]) (n := 4) (Nat.le_of_ble_eq_true rfl)
  rw [show entryFrame m args 4 = entryFrame m ([.ref (a 0)] : List Value).toArray 4 from by rw [hAr], lg_entry_eq]
  generalize (lg_sl ([.ref (a 0)]) ++ List.replicate (4 - (lg_sl ([.ref (a 0)])).length) Slot.unset).toArray = ls at hl ⊢
  have hl : lv_has ls 4 [(0, .ref (a 0))] := hl
  refine lv_iconst (v := 0) hx hb dX8_findWaiting_0 (by decide) ?_
  refine lv_istore_n (lv' := [(1, .int 0), (0, .ref (a 0))]) hx hb dX8_findWaiting_1 rfl hl (by decide) rfl (fun ls hl => ?_)
  refine qp2_W (P := fun (x1 : Int32) (σ2 : mk_S) => ∀ (H : Heap) (locs : List Loc) (ls : Array Slot), va_P D vwCl (mk_W cI cZ a σ2) H → va_D A (mk_W cI cZ a σ2) → va_S A s.heap H locs → lv_has ls 4 [(0, .ref (a 0)), (1, .int x1)] → W p l e (headSpec wsX8_findWaiting rm_X8_findWaiting).room s m args below meth c H locs 0 0 (MQ below (ik_Qv D (mk_W cI cZ a) A σz) args s 0 0 A) (F0 m 2 ls [])) ?_ FU _ _ h _ _ _ hP hD hS (lv_sub hl [1, 0] rfl)
  intro rec2 ih2 x1 σ2 h H locs ls hP hD hS hl
  refine lv_iload_n hx hb dX8_findWaiting_2 rfl (lv_at hl 1 rfl) ?_
  refine lv_bipush (v := 24) hx hb dX8_findWaiting_3 (by decide) ?_
  refine lv_icmp_gt (tgt := 28) hx hb dX8_findWaiting_5 (by decide) (fun c3 => ?_) (fun c3 => ?_)
  · have h := ik_t c3 h
    refine lv_aload_n hx hb dX8_findWaiting_28 rfl (lv_at hl 0 rfl) ?_
    refine lv_iconst (v := 0) hx hb dX8_findWaiting_29 (by decide) ?_
    obtain ⟨σ4, eh, h⟩ := ik_bd h
    refine va_put (D := D) (ci := 6) (v := .int 0) (ty := .int) (C := RX8) (T := TX8) (N := 10) hx hb hts in_X8_findWaiting_X8 tyX8 tyX8_ok nmX8 hown hK hP hD hS 0 rfl rfl 8 (by decide) (hts (.fieldLink RX8 96 "ImageCheckerModel" "listSize" "I") (by decide +kernel)) (fun _ h9 => h9) rfl (by decide +kernel) rfl rfl (Nat.le_of_ble_eq_true rfl) dX8_findWaiting_30 (fun H locs hP hD hS => ?_)
    have hP : va_P D vwCl (mk_W cI cZ a σ4) H := by rw [← Option.some.inj eh]; exact hP
    have hD : va_D A (mk_W cI cZ a σ4) := by rw [← Option.some.inj eh]; exact hD
    clear eh
    refine lv_aload_n hx hb dX8_findWaiting_33 rfl (lv_at hl 0 rfl) ?_
    refine va_get (D := D) (ci := 6) (v := .ref (a 1)) (C := RX8) (T := TX8) (N := 10) hx hb hts in_X8_findWaiting_X8 hown hK hP 0 rfl rfl 1 (by decide) (hts (.fieldLink RX8 7 "ImageCheckerModel" "all" "[I") (by decide +kernel)) (fun _ h9 => h9) rfl dX8_findWaiting_34 ?_
    refine lv_sipush (v := 1428) hx hb dX8_findWaiting_37 (by decide) ?_
    obtain ⟨v5, eh, h⟩ := ik_bd h
    refine ik_ld hx hb hK hP 1 0 rfl rfl eh dX8_findWaiting_40 ?_
    clear eh
    refine lv_istore_n (lv' := [(1, .int v5), (0, .ref (a 0))]) hx hb dX8_findWaiting_41 rfl hl (by decide) rfl (fun ls hl => ?_)
    refine qp2_W (P := fun (x6 : Int32) (σ7 : mk_S) => ∀ (H : Heap) (locs : List Loc) (ls : Array Slot), va_P D vwCl (mk_W cI cZ a σ7) H → va_D A (mk_W cI cZ a σ7) → va_S A s.heap H locs → lv_has ls 4 [(0, .ref (a 0)), (1, .int x6)] → W p l e (headSpec wsX8_findWaiting rm_X8_findWaiting).room s m args below meth c H locs 0 0 (MQ below (ik_Qv D (mk_W cI cZ a) A σz) args s 0 0 A) (F0 m 42 ls [])) ?_ FU _ _ h _ _ _ hP hD hS (lv_sub hl [1, 0] rfl)
    intro rec42 ih42 x6 σ7 h H locs ls hP hD hS hl
    refine lv_iload_n hx hb dX8_findWaiting_42 rfl (lv_at hl 1 rfl) ?_
    refine lv_iconst (v := 1) hx hb dX8_findWaiting_43 (by decide) ?_
    refine lv_bipush (v := 24) hx hb dX8_findWaiting_44 (by decide) ?_
    obtain ⟨v8, eh, h⟩ := ik_bd h
    refine ik_Si (As := [.int x6, .int 1, .int 24]) (rest := []) ⟨hx, hb, hml, hown, hts⟩ (c_X8_isIn l D cI cZ a A x6 1 24 σ7 _ eh) (va_cwS 3 hts gX8_findWaiting_X8_isIn rfl rfl rfl (by decide +kernel) ⟨Nat.le_of_ble_eq_true rfl, Nat.le_of_ble_eq_true rfl⟩) hP hK hD hN hS rfl hl.1 rfl (Nat.le_of_ble_eq_true rfl) dX8_findWaiting_46 (fun H locs hP hD hS => ?_)
    clear eh
    refine lv_if_eq (tgt := 103) hx hb dX8_findWaiting_49 (by decide) (fun c9 => ?_) (fun c9 => ?_)
    · have h := ik_t c9 h
      refine lv_iconst (v := 0) hx hb dX8_findWaiting_103 (by decide) ?_
      refine lv_istore_n (lv' := [(2, .int 0), (0, .ref (a 0)), (1, .int x6)]) hx hb dX8_findWaiting_104 rfl hl (by decide) rfl (fun ls hl => ?_)
      refine qp2_W (P := fun (x10 : Int32) (σ11 : mk_S) => ∀ (H : Heap) (locs : List Loc) (ls : Array Slot), va_P D vwCl (mk_W cI cZ a σ11) H → va_D A (mk_W cI cZ a σ11) → va_S A s.heap H locs → lv_has ls 4 [(0, .ref (a 0)), (2, .int x10)] → W p l e (headSpec wsX8_findWaiting rm_X8_findWaiting).room s m args below meth c H locs 0 0 (MQ below (ik_Qv D (mk_W cI cZ a) A σz) args s 0 0 A) (F0 m 105 ls [])) ?_ FU _ _ h _ _ _ hP hD hS (lv_sub hl [1, 0] rfl)
      intro rec105 ih105 x10 σ11 h H locs ls hP hD hS hl
      refine lv_iload_n hx hb dX8_findWaiting_105 rfl (lv_at hl 1 rfl) ?_
      refine lv_aload_n hx hb dX8_findWaiting_106 rfl (lv_at hl 0 rfl) ?_
      refine va_get (D := D) (ci := 6) (v := .int (mk_listSize σ11)) (C := RX8) (T := TX8) (N := 10) hx hb hts in_X8_findWaiting_X8 hown hK hP 0 rfl rfl 8 (by decide) (hts (.fieldLink RX8 96 "ImageCheckerModel" "listSize" "I") (by decide +kernel)) (fun _ h9 => h9) rfl dX8_findWaiting_107 ?_
      refine lv_icmp_ge (tgt := 188) hx hb dX8_findWaiting_110 (by decide) (fun c12 => ?_) (fun c12 => ?_)
      · have h := ik_t c12 h
        exact W.vret hx hb hr (fun t ht hW => ⟨⟨_, rfl, Option.some.inj h, by rw [ht]; exact hP, hD⟩, hS.F ht⟩) hS.2.2 dX8_findWaiting_188
      · have h := ik_f c12 h
        refine lv_aload_n hx hb dX8_findWaiting_113 rfl (lv_at hl 0 rfl) ?_
        refine va_get (D := D) (ci := 6) (v := .ref (a 7)) (C := RX8) (T := TX8) (N := 10) hx hb hts in_X8_findWaiting_X8 hown hK hP 0 rfl rfl 7 (by decide) (hts (.fieldLink RX8 29 "ImageCheckerModel" "list" "[I") (by decide +kernel)) (fun _ h9 => h9) rfl dX8_findWaiting_114 ?_
        refine lv_iload_n hx hb dX8_findWaiting_117 rfl (lv_at hl 1 rfl) ?_
        obtain ⟨v13, eh, h⟩ := ik_bd h
        refine ik_ld hx hb hK hP 7 0 rfl rfl eh dX8_findWaiting_118 ?_
        clear eh
        refine lv_istore_n (lv' := [(3, .int v13), (0, .ref (a 0)), (2, .int x10)]) hx hb dX8_findWaiting_119 rfl hl (by decide) rfl (fun ls hl => ?_)
        refine lv_aload_n hx hb dX8_findWaiting_120 rfl (lv_at hl 1 rfl) ?_
        refine va_get (D := D) (ci := 6) (v := .ref (a 8)) (C := RX8) (T := TX8) (N := 10) hx hb hts in_X8_findWaiting_X8 hown hK hP 0 rfl rfl 9 (by decide) (hts (.fieldLink RX8 32 "ImageCheckerModel" "goesOn" "[Z") (by decide +kernel)) (fun _ h9 => h9) rfl dX8_findWaiting_121 ?_
        refine lv_iload_n hx hb dX8_findWaiting_124 rfl (lv_at hl 0 rfl) ?_
        refine lv_iconst (v := 0) hx hb dX8_findWaiting_125 (by decide) ?_
        obtain ⟨σ14, eh, h⟩ := ik_bd h
        refine ik_zst (Wd := mk_W cI cZ a) (σ1 := σ14) hx hb hK hP hD hS 8 1 rfl rfl (fun _ => rfl) eh dX8_findWaiting_126 (fun H locs hP hD hS => ?_)
        clear eh
        refine lv_aload_n hx hb dX8_findWaiting_127 rfl (lv_at hl 1 rfl) ?_
        refine va_get (D := D) (ci := 6) (v := .ref (a 6)) (C := RX8) (T := TX8) (N := 10) hx hb hts in_X8_findWaiting_X8 hown hK hP 0 rfl rfl 6 (by decide) (hts (.fieldLink RX8 26 "ImageCheckerModel" "rightly" "[Z") (by decide +kernel)) (fun _ h9 => h9) rfl dX8_findWaiting_128 ?_
        refine lv_iload_n hx hb dX8_findWaiting_131 rfl (lv_at hl 0 rfl) ?_
        refine lv_aload_n hx hb dX8_findWaiting_132 rfl (lv_at hl 1 rfl) ?_
        refine lv_iload_n hx hb dX8_findWaiting_133 rfl (lv_at hl 0 rfl) ?_
        obtain ⟨v15, eh, h⟩ := ik_bd h
        refine ik_Vi (As := [.int v13]) (rest := [.int v13, .ref (a 6)]) ⟨hx, hb, hml, hown, hts⟩ (c_X8_kindOf l D cI cZ a A v13 σ14 _ eh) (cwV 1 hts gX8_findWaiting_X8_kindOf rfl rfl rfl (by decide +kernel) ⟨Nat.le_of_ble_eq_true rfl, Nat.le_of_ble_eq_true rfl⟩) (va_recv hK hP (ci := 6) (q0 := 0) rfl rfl) hP hK hD hN hS rfl hl.1 rfl (Nat.le_of_ble_eq_true rfl) dX8_findWaiting_134 (fun H locs hP hD hS => ?_)
        clear eh
        refine lv_iconst (v := 1) hx hb dX8_findWaiting_137 (by decide) ?_
        refine lv_iconst (v := 3) hx hb dX8_findWaiting_138 (by decide) ?_
        obtain ⟨v16, eh, h⟩ := ik_bd h
        refine ik_Si (As := [.int v15, .int 1, .int 3]) (rest := [.int v13, .ref (a 6)]) ⟨hx, hb, hml, hown, hts⟩ (c_X8_isIn l D cI cZ a A v15 1 3 σ14 _ eh) (va_cwS 3 hts gX8_findWaiting_X8_isIn rfl rfl rfl (by decide +kernel) ⟨Nat.le_of_ble_eq_true rfl, Nat.le_of_ble_eq_true rfl⟩) hP hK hD hN hS rfl hl.1 rfl (Nat.le_of_ble_eq_true rfl) dX8_findWaiting_139 (fun H locs hP hD hS => ?_)
        clear eh
        obtain ⟨j181, ej, h⟩ := jn_ex h
        have hj181 : ∀ (y17 : Int32), j181 y17 = some σz → ∀ (H : Heap) (locs : List Loc) (ls : Array Slot), va_P D vwCl (mk_W cI cZ a σ14) H → va_D A (mk_W cI cZ a σ14) → va_S A s.heap H locs → lv_has ls 4 [(0, .ref (a 0)), (2, .int x10)] → W p l e (headSpec wsX8_findWaiting rm_X8_findWaiting).room s m args below meth c H locs 0 0 (MQ below (ik_Qv D (mk_W cI cZ a) A σz) args s 0 0 A) (F0 m 181 ls [.int y17, .int v13, .ref (a 6)]) := by
          rw [ej]; clear h
          intro y17 h H locs ls hP hD hS hl
          obtain ⟨σ18, eh, h⟩ := ik_bd h
          refine ik_zst (Wd := mk_W cI cZ a) (σ1 := σ18) hx hb hK hP hD hS 6 1 rfl rfl (fun _ => rfl) eh dX8_findWaiting_181 (fun H locs hP hD hS => ?_)
          clear eh
          refine lv_iinc (v := x10 + 1) (lv' := [(2, .int (x10 + 1)), (0, .ref (a 0))]) hx hb dX8_findWaiting_182 hl (k := 1) rfl rfl (by decide) rfl (fun ls hl => ?_)
          refine lv_goto (tgt := 105) hx hb dX8_findWaiting_185 (by decide) ?_
          exact ih105 _ _ h _ _ _ hP hD hS (lv_sub hl [1, 0] rfl)
        clear ej
        obtain ⟨j180, ej, h⟩ := jn_ex h
        have hj180 : ∀ (_u : Unit), j180 _u = some σz → ∀ (H : Heap) (locs : List Loc) (ls : Array Slot), va_P D vwCl (mk_W cI cZ a σ14) H → va_D A (mk_W cI cZ a σ14) → va_S A s.heap H locs → lv_has ls 4 [(0, .ref (a 0)), (2, .int x10)] → W p l e (headSpec wsX8_findWaiting rm_X8_findWaiting).room s m args below meth c H locs 0 0 (MQ below (ik_Qv D (mk_W cI cZ a) A σz) args s 0 0 A) (F0 m 180 ls [.int v13, .ref (a 6)]) := by
          rw [ej]; clear h
          intro _u h H locs ls hP hD hS hl
          refine lv_iconst (v := 0) hx hb dX8_findWaiting_180 (by decide) ?_
          exact hj181 _ h _ _ _ hP hD hS (lv_sub hl [0, 1] rfl)
        clear ej
        refine lv_if_eq (tgt := 180) hx hb dX8_findWaiting_142 (by decide) (fun c19 => ?_) (fun c19 => ?_)
        · have h := ik_t c19 h
          exact hj180 () h _ _ _ hP hD hS (lv_sub hl [1, 2] rfl)
        · have h := ik_f c19 h
          refine lv_aload_n hx hb dX8_findWaiting_145 rfl (lv_at hl 1 rfl) ?_
          refine lv_iload_n hx hb dX8_findWaiting_146 rfl (lv_at hl 0 rfl) ?_
          obtain ⟨v20, eh, h⟩ := ik_bd h
          refine ik_Vi (As := [.int v13]) (rest := [.int v13, .ref (a 6)]) ⟨hx, hb, hml, hown, hts⟩ (c_X8_kindOf l D cI cZ a A v13 σ14 _ eh) (cwV 1 hts gX8_findWaiting_X8_kindOf rfl rfl rfl (by decide +kernel) ⟨Nat.le_of_ble_eq_true rfl, Nat.le_of_ble_eq_true rfl⟩) (va_recv hK hP (ci := 6) (q0 := 0) rfl rfl) hP hK hD hN hS rfl hl.1 rfl (Nat.le_of_ble_eq_true rfl) dX8_findWaiting_147 (fun H locs hP hD hS => ?_)
          clear eh
          refine lv_iconst (v := 2) hx hb dX8_findWaiting_150 (by decide) ?_
          refine lv_icmp_eq (tgt := 180) hx hb dX8_findWaiting_151 (by decide) (fun c21 => ?_) (fun c21 => ?_)
          · have h := ik_t c21 h
            exact hj180 () h _ _ _ hP hD hS (lv_sub hl [1, 2] rfl)
          · have h := ik_f c21 h
            refine lv_aload_n hx hb dX8_findWaiting_154 rfl (lv_at hl 1 rfl) ?_
            refine va_get (D := D) (ci := 6) (v := .ref (a 1)) (C := RX8) (T := TX8) (N := 10) hx hb hts in_X8_findWaiting_X8 hown hK hP 0 rfl rfl 1 (by decide) (hts (.fieldLink RX8 7 "ImageCheckerModel" "all" "[I") (by decide +kernel)) (fun _ h9 => h9) rfl dX8_findWaiting_155 ?_
            refine lv_bipush (v := 47) hx hb dX8_findWaiting_158 (by decide) ?_
            refine lv_iload_n hx hb dX8_findWaiting_160 rfl (lv_at hl 0 rfl) ?_
            refine lv_imul hx hb dX8_findWaiting_161 ?_
            refine lv_iconst (v := 2) hx hb dX8_findWaiting_162 (by decide) ?_
            refine lv_iadd hx hb dX8_findWaiting_163 ?_
            obtain ⟨v22, eh, h⟩ := ik_bd h
            refine ik_ld hx hb hK hP 1 0 rfl rfl eh dX8_findWaiting_164 ?_
            clear eh
            refine lv_if_ne (tgt := 180) hx hb dX8_findWaiting_165 (by decide) (fun c23 => ?_) (fun c23 => ?_)
            · have h := ik_f c23 h
              exact hj180 () h _ _ _ hP hD hS (lv_sub hl [1, 2] rfl)
            · have h := ik_t c23 h
              refine lv_aload_n hx hb dX8_findWaiting_168 rfl (lv_at hl 1 rfl) ?_
              refine lv_iload_n hx hb dX8_findWaiting_169 rfl (lv_at hl 0 rfl) ?_
              obtain ⟨v24, eh, h⟩ := ik_bd h
              refine ik_Vi (As := [.int v13]) (rest := [.int v13, .ref (a 6)]) ⟨hx, hb, hml, hown, hts⟩ (c_X8_leading l D cI cZ a A v13 σ14 _ eh) (cwV 1 hts gX8_findWaiting_X8_leading rfl rfl rfl (by decide +kernel) ⟨Nat.le_of_ble_eq_true rfl, Nat.le_of_ble_eq_true rfl⟩) (va_recv hK hP (ci := 6) (q0 := 0) rfl rfl) hP hK hD hN hS rfl hl.1 rfl (Nat.le_of_ble_eq_true rfl) dX8_findWaiting_170 (fun H locs hP hD hS => ?_)
              clear eh
              refine lv_if_ne (tgt := 180) hx hb dX8_findWaiting_173 (by decide) (fun c25 => ?_) (fun c25 => ?_)
              · have h := ik_f c25 h
                exact hj180 () h _ _ _ hP hD hS (lv_sub hl [1, 2] rfl)
              · have h := ik_t c25 h
                refine lv_iconst (v := 1) hx hb dX8_findWaiting_176 (by decide) ?_
                refine lv_goto (tgt := 181) hx hb dX8_findWaiting_177 (by decide) ?_
                exact hj181 _ h _ _ _ hP hD hS (lv_sub hl [1, 2] rfl)
    · have h := ik_f c9 h
      refine lv_aload_n hx hb dX8_findWaiting_52 rfl (lv_at hl 0 rfl) ?_
      refine va_get (D := D) (ci := 6) (v := .ref (a 8)) (C := RX8) (T := TX8) (N := 10) hx hb hts in_X8_findWaiting_X8 hown hK hP 0 rfl rfl 9 (by decide) (hts (.fieldLink RX8 32 "ImageCheckerModel" "goesOn" "[Z") (by decide +kernel)) (fun _ h9 => h9) rfl dX8_findWaiting_53 ?_
      refine lv_iload_n hx hb dX8_findWaiting_56 rfl (lv_at hl 1 rfl) ?_
      obtain ⟨v26, eh, h⟩ := ik_bd h
      refine ik_zld hx hb hK hP 8 1 rfl rfl eh dX8_findWaiting_57 ?_
      clear eh
      refine lv_if_ne (tgt := 103) hx hb dX8_findWaiting_58 (by decide) (fun c27 => ?_) (fun c27 => ?_)
      · have h := ik_f c27 h
        refine lv_iconst (v := 0) hx hb dX8_findWaiting_103 (by decide) ?_
        refine lv_istore_n (lv' := [(2, .int 0), (0, .ref (a 0)), (1, .int x6)]) hx hb dX8_findWaiting_104 rfl hl (by decide) rfl (fun ls hl => ?_)
        refine qp2_W (P := fun (x28 : Int32) (σ29 : mk_S) => ∀ (H : Heap) (locs : List Loc) (ls : Array Slot), va_P D vwCl (mk_W cI cZ a σ29) H → va_D A (mk_W cI cZ a σ29) → va_S A s.heap H locs → lv_has ls 4 [(0, .ref (a 0)), (2, .int x28)] → W p l e (headSpec wsX8_findWaiting rm_X8_findWaiting).room s m args below meth c H locs 0 0 (MQ below (ik_Qv D (mk_W cI cZ a) A σz) args s 0 0 A) (F0 m 105 ls [])) ?_ FU _ _ h _ _ _ hP hD hS (lv_sub hl [1, 0] rfl)
        intro rec105 ih105 x28 σ29 h H locs ls hP hD hS hl
        refine lv_iload_n hx hb dX8_findWaiting_105 rfl (lv_at hl 1 rfl) ?_
        refine lv_aload_n hx hb dX8_findWaiting_106 rfl (lv_at hl 0 rfl) ?_
        refine va_get (D := D) (ci := 6) (v := .int (mk_listSize σ29)) (C := RX8) (T := TX8) (N := 10) hx hb hts in_X8_findWaiting_X8 hown hK hP 0 rfl rfl 8 (by decide) (hts (.fieldLink RX8 96 "ImageCheckerModel" "listSize" "I") (by decide +kernel)) (fun _ h9 => h9) rfl dX8_findWaiting_107 ?_
        refine lv_icmp_ge (tgt := 188) hx hb dX8_findWaiting_110 (by decide) (fun c30 => ?_) (fun c30 => ?_)
        · have h := ik_t c30 h
          exact W.vret hx hb hr (fun t ht hW => ⟨⟨_, rfl, Option.some.inj h, by rw [ht]; exact hP, hD⟩, hS.F ht⟩) hS.2.2 dX8_findWaiting_188
        · have h := ik_f c30 h
          refine lv_aload_n hx hb dX8_findWaiting_113 rfl (lv_at hl 0 rfl) ?_
          refine va_get (D := D) (ci := 6) (v := .ref (a 7)) (C := RX8) (T := TX8) (N := 10) hx hb hts in_X8_findWaiting_X8 hown hK hP 0 rfl rfl 7 (by decide) (hts (.fieldLink RX8 29 "ImageCheckerModel" "list" "[I") (by decide +kernel)) (fun _ h9 => h9) rfl dX8_findWaiting_114 ?_
          refine lv_iload_n hx hb dX8_findWaiting_117 rfl (lv_at hl 1 rfl) ?_
          obtain ⟨v31, eh, h⟩ := ik_bd h
          refine ik_ld hx hb hK hP 7 0 rfl rfl eh dX8_findWaiting_118 ?_
          clear eh
          refine lv_istore_n (lv' := [(3, .int v31), (0, .ref (a 0)), (2, .int x28)]) hx hb dX8_findWaiting_119 rfl hl (by decide) rfl (fun ls hl => ?_)
          refine lv_aload_n hx hb dX8_findWaiting_120 rfl (lv_at hl 1 rfl) ?_
          refine va_get (D := D) (ci := 6) (v := .ref (a 8)) (C := RX8) (T := TX8) (N := 10) hx hb hts in_X8_findWaiting_X8 hown hK hP 0 rfl rfl 9 (by decide) (hts (.fieldLink RX8 32 "ImageCheckerModel" "goesOn" "[Z") (by decide +kernel)) (fun _ h9 => h9) rfl dX8_findWaiting_121 ?_
          refine lv_iload_n hx hb dX8_findWaiting_124 rfl (lv_at hl 0 rfl) ?_
          refine lv_iconst (v := 0) hx hb dX8_findWaiting_125 (by decide) ?_
          obtain ⟨σ32, eh, h⟩ := ik_bd h
          refine ik_zst (Wd := mk_W cI cZ a) (σ1 := σ32) hx hb hK hP hD hS 8 1 rfl rfl (fun _ => rfl) eh dX8_findWaiting_126 (fun H locs hP hD hS => ?_)
          clear eh
          refine lv_aload_n hx hb dX8_findWaiting_127 rfl (lv_at hl 1 rfl) ?_
          refine va_get (D := D) (ci := 6) (v := .ref (a 6)) (C := RX8) (T := TX8) (N := 10) hx hb hts in_X8_findWaiting_X8 hown hK hP 0 rfl rfl 6 (by decide) (hts (.fieldLink RX8 26 "ImageCheckerModel" "rightly" "[Z") (by decide +kernel)) (fun _ h9 => h9) rfl dX8_findWaiting_128 ?_
          refine lv_iload_n hx hb dX8_findWaiting_131 rfl (lv_at hl 0 rfl) ?_
          refine lv_aload_n hx hb dX8_findWaiting_132 rfl (lv_at hl 1 rfl) ?_
          refine lv_iload_n hx hb dX8_findWaiting_133 rfl (lv_at hl 0 rfl) ?_
          obtain ⟨v33, eh, h⟩ := ik_bd h
          refine ik_Vi (As := [.int v31]) (rest := [.int v31, .ref (a 6)]) ⟨hx, hb, hml, hown, hts⟩ (c_X8_kindOf l D cI cZ a A v31 σ32 _ eh) (cwV 1 hts gX8_findWaiting_X8_kindOf rfl rfl rfl (by decide +kernel) ⟨Nat.le_of_ble_eq_true rfl, Nat.le_of_ble_eq_true rfl⟩) (va_recv hK hP (ci := 6) (q0 := 0) rfl rfl) hP hK hD hN hS rfl hl.1 rfl (Nat.le_of_ble_eq_true rfl) dX8_findWaiting_134 (fun H locs hP hD hS => ?_)
          clear eh
          refine lv_iconst (v := 1) hx hb dX8_findWaiting_137 (by decide) ?_
          refine lv_iconst (v := 3) hx hb dX8_findWaiting_138 (by decide) ?_
          obtain ⟨v34, eh, h⟩ := ik_bd h
          refine ik_Si (As := [.int v33, .int 1, .int 3]) (rest := [.int v31, .ref (a 6)]) ⟨hx, hb, hml, hown, hts⟩ (c_X8_isIn l D cI cZ a A v33 1 3 σ32 _ eh) (va_cwS 3 hts gX8_findWaiting_X8_isIn rfl rfl rfl (by decide +kernel) ⟨Nat.le_of_ble_eq_true rfl, Nat.le_of_ble_eq_true rfl⟩) hP hK hD hN hS rfl hl.1 rfl (Nat.le_of_ble_eq_true rfl) dX8_findWaiting_139 (fun H locs hP hD hS => ?_)
          clear eh
          obtain ⟨j181, ej, h⟩ := jn_ex h
          have hj181 : ∀ (y35 : Int32), j181 y35 = some σz → ∀ (H : Heap) (locs : List Loc) (ls : Array Slot), va_P D vwCl (mk_W cI cZ a σ32) H → va_D A (mk_W cI cZ a σ32) → va_S A s.heap H locs → lv_has ls 4 [(0, .ref (a 0)), (2, .int x28)] → W p l e (headSpec wsX8_findWaiting rm_X8_findWaiting).room s m args below meth c H locs 0 0 (MQ below (ik_Qv D (mk_W cI cZ a) A σz) args s 0 0 A) (F0 m 181 ls [.int y35, .int v31, .ref (a 6)]) := by
            rw [ej]; clear h
            intro y35 h H locs ls hP hD hS hl
            obtain ⟨σ36, eh, h⟩ := ik_bd h
            refine ik_zst (Wd := mk_W cI cZ a) (σ1 := σ36) hx hb hK hP hD hS 6 1 rfl rfl (fun _ => rfl) eh dX8_findWaiting_181 (fun H locs hP hD hS => ?_)
            clear eh
            refine lv_iinc (v := x28 + 1) (lv' := [(2, .int (x28 + 1)), (0, .ref (a 0))]) hx hb dX8_findWaiting_182 hl (k := 1) rfl rfl (by decide) rfl (fun ls hl => ?_)
            refine lv_goto (tgt := 105) hx hb dX8_findWaiting_185 (by decide) ?_
            exact ih105 _ _ h _ _ _ hP hD hS (lv_sub hl [1, 0] rfl)
          clear ej
          obtain ⟨j180, ej, h⟩ := jn_ex h
          have hj180 : ∀ (_u : Unit), j180 _u = some σz → ∀ (H : Heap) (locs : List Loc) (ls : Array Slot), va_P D vwCl (mk_W cI cZ a σ32) H → va_D A (mk_W cI cZ a σ32) → va_S A s.heap H locs → lv_has ls 4 [(0, .ref (a 0)), (2, .int x28)] → W p l e (headSpec wsX8_findWaiting rm_X8_findWaiting).room s m args below meth c H locs 0 0 (MQ below (ik_Qv D (mk_W cI cZ a) A σz) args s 0 0 A) (F0 m 180 ls [.int v31, .ref (a 6)]) := by
            rw [ej]; clear h
            intro _u h H locs ls hP hD hS hl
            refine lv_iconst (v := 0) hx hb dX8_findWaiting_180 (by decide) ?_
            exact hj181 _ h _ _ _ hP hD hS (lv_sub hl [0, 1] rfl)
          clear ej
          refine lv_if_eq (tgt := 180) hx hb dX8_findWaiting_142 (by decide) (fun c37 => ?_) (fun c37 => ?_)
          · have h := ik_t c37 h
            exact hj180 () h _ _ _ hP hD hS (lv_sub hl [1, 2] rfl)
          · have h := ik_f c37 h
            refine lv_aload_n hx hb dX8_findWaiting_145 rfl (lv_at hl 1 rfl) ?_
            refine lv_iload_n hx hb dX8_findWaiting_146 rfl (lv_at hl 0 rfl) ?_
            obtain ⟨v38, eh, h⟩ := ik_bd h
            refine ik_Vi (As := [.int v31]) (rest := [.int v31, .ref (a 6)]) ⟨hx, hb, hml, hown, hts⟩ (c_X8_kindOf l D cI cZ a A v31 σ32 _ eh) (cwV 1 hts gX8_findWaiting_X8_kindOf rfl rfl rfl (by decide +kernel) ⟨Nat.le_of_ble_eq_true rfl, Nat.le_of_ble_eq_true rfl⟩) (va_recv hK hP (ci := 6) (q0 := 0) rfl rfl) hP hK hD hN hS rfl hl.1 rfl (Nat.le_of_ble_eq_true rfl) dX8_findWaiting_147 (fun H locs hP hD hS => ?_)
            clear eh
            refine lv_iconst (v := 2) hx hb dX8_findWaiting_150 (by decide) ?_
            refine lv_icmp_eq (tgt := 180) hx hb dX8_findWaiting_151 (by decide) (fun c39 => ?_) (fun c39 => ?_)
            · have h := ik_t c39 h
              exact hj180 () h _ _ _ hP hD hS (lv_sub hl [1, 2] rfl)
            · have h := ik_f c39 h
              refine lv_aload_n hx hb dX8_findWaiting_154 rfl (lv_at hl 1 rfl) ?_
              refine va_get (D := D) (ci := 6) (v := .ref (a 1)) (C := RX8) (T := TX8) (N := 10) hx hb hts in_X8_findWaiting_X8 hown hK hP 0 rfl rfl 1 (by decide) (hts (.fieldLink RX8 7 "ImageCheckerModel" "all" "[I") (by decide +kernel)) (fun _ h9 => h9) rfl dX8_findWaiting_155 ?_
              refine lv_bipush (v := 47) hx hb dX8_findWaiting_158 (by decide) ?_
              refine lv_iload_n hx hb dX8_findWaiting_160 rfl (lv_at hl 0 rfl) ?_
              refine lv_imul hx hb dX8_findWaiting_161 ?_
              refine lv_iconst (v := 2) hx hb dX8_findWaiting_162 (by decide) ?_
              refine lv_iadd hx hb dX8_findWaiting_163 ?_
              obtain ⟨v40, eh, h⟩ := ik_bd h
              refine ik_ld hx hb hK hP 1 0 rfl rfl eh dX8_findWaiting_164 ?_
              clear eh
              refine lv_if_ne (tgt := 180) hx hb dX8_findWaiting_165 (by decide) (fun c41 => ?_) (fun c41 => ?_)
              · have h := ik_f c41 h
                exact hj180 () h _ _ _ hP hD hS (lv_sub hl [1, 2] rfl)
              · have h := ik_t c41 h
                refine lv_aload_n hx hb dX8_findWaiting_168 rfl (lv_at hl 1 rfl) ?_
                refine lv_iload_n hx hb dX8_findWaiting_169 rfl (lv_at hl 0 rfl) ?_
                obtain ⟨v42, eh, h⟩ := ik_bd h
                refine ik_Vi (As := [.int v31]) (rest := [.int v31, .ref (a 6)]) ⟨hx, hb, hml, hown, hts⟩ (c_X8_leading l D cI cZ a A v31 σ32 _ eh) (cwV 1 hts gX8_findWaiting_X8_leading rfl rfl rfl (by decide +kernel) ⟨Nat.le_of_ble_eq_true rfl, Nat.le_of_ble_eq_true rfl⟩) (va_recv hK hP (ci := 6) (q0 := 0) rfl rfl) hP hK hD hN hS rfl hl.1 rfl (Nat.le_of_ble_eq_true rfl) dX8_findWaiting_170 (fun H locs hP hD hS => ?_)
                clear eh
                refine lv_if_ne (tgt := 180) hx hb dX8_findWaiting_173 (by decide) (fun c43 => ?_) (fun c43 => ?_)
                · have h := ik_f c43 h
                  exact hj180 () h _ _ _ hP hD hS (lv_sub hl [1, 2] rfl)
                · have h := ik_t c43 h
                  refine lv_iconst (v := 1) hx hb dX8_findWaiting_176 (by decide) ?_
                  refine lv_goto (tgt := 181) hx hb dX8_findWaiting_177 (by decide) ?_
                  exact hj181 _ h _ _ _ hP hD hS (lv_sub hl [1, 2] rfl)
      · have h := ik_t c27 h
        refine lv_aload_n hx hb dX8_findWaiting_61 rfl (lv_at hl 0 rfl) ?_
        refine va_get (D := D) (ci := 6) (v := .ref (a 8)) (C := RX8) (T := TX8) (N := 10) hx hb hts in_X8_findWaiting_X8 hown hK hP 0 rfl rfl 9 (by decide) (hts (.fieldLink RX8 32 "ImageCheckerModel" "goesOn" "[Z") (by decide +kernel)) (fun _ h9 => h9) rfl dX8_findWaiting_62 ?_
        refine lv_iload_n hx hb dX8_findWaiting_65 rfl (lv_at hl 1 rfl) ?_
        refine lv_iconst (v := 1) hx hb dX8_findWaiting_66 (by decide) ?_
        obtain ⟨σ44, eh, h⟩ := ik_bd h
        refine ik_zst (Wd := mk_W cI cZ a) (σ1 := σ44) hx hb hK hP hD hS 8 1 rfl rfl (fun _ => rfl) eh dX8_findWaiting_67 (fun H locs hP hD hS => ?_)
        clear eh
        refine lv_aload_n hx hb dX8_findWaiting_68 rfl (lv_at hl 0 rfl) ?_
        refine va_get (D := D) (ci := 6) (v := .ref (a 7)) (C := RX8) (T := TX8) (N := 10) hx hb hts in_X8_findWaiting_X8 hown hK hP 0 rfl rfl 7 (by decide) (hts (.fieldLink RX8 29 "ImageCheckerModel" "list" "[I") (by decide +kernel)) (fun _ h9 => h9) rfl dX8_findWaiting_69 ?_
        refine lv_aload_n hx hb dX8_findWaiting_72 rfl (lv_at hl 0 rfl) ?_
        refine va_get (D := D) (ci := 6) (v := .int (mk_listSize σ44)) (C := RX8) (T := TX8) (N := 10) hx hb hts in_X8_findWaiting_X8 hown hK hP 0 rfl rfl 8 (by decide) (hts (.fieldLink RX8 96 "ImageCheckerModel" "listSize" "I") (by decide +kernel)) (fun _ h9 => h9) rfl dX8_findWaiting_73 ?_
        refine lv_iload_n hx hb dX8_findWaiting_76 rfl (lv_at hl 1 rfl) ?_
        obtain ⟨σ45, eh, h⟩ := ik_bd h
        refine ik_st (Wd := mk_W cI cZ a) (σ1 := σ45) hx hb hK hP hD hS 7 0 rfl rfl (fun _ => rfl) eh dX8_findWaiting_77 (fun H locs hP hD hS => ?_)
        clear eh
        refine lv_aload_n hx hb dX8_findWaiting_78 rfl (lv_at hl 0 rfl) ?_
        refine lv_dup hx hb dX8_findWaiting_79 rfl ?_
        refine va_get (D := D) (ci := 6) (v := .int (mk_listSize σ45)) (C := RX8) (T := TX8) (N := 10) hx hb hts in_X8_findWaiting_X8 hown hK hP 0 rfl rfl 8 (by decide) (hts (.fieldLink RX8 96 "ImageCheckerModel" "listSize" "I") (by decide +kernel)) (fun _ h9 => h9) rfl dX8_findWaiting_80 ?_
        refine lv_iconst (v := 1) hx hb dX8_findWaiting_83 (by decide) ?_
        refine lv_iadd hx hb dX8_findWaiting_84 ?_
        obtain ⟨σ46, eh, h⟩ := ik_bd h
        refine va_put (D := D) (ci := 6) (v := .int ((mk_listSize σ45) + 1)) (ty := .int) (C := RX8) (T := TX8) (N := 10) hx hb hts in_X8_findWaiting_X8 tyX8 tyX8_ok nmX8 hown hK hP hD hS 0 rfl rfl 8 (by decide) (hts (.fieldLink RX8 96 "ImageCheckerModel" "listSize" "I") (by decide +kernel)) (fun _ h9 => h9) rfl (by decide +kernel) rfl rfl (Nat.le_of_ble_eq_true rfl) dX8_findWaiting_85 (fun H locs hP hD hS => ?_)
        have hP : va_P D vwCl (mk_W cI cZ a σ46) H := by rw [← Option.some.inj eh]; exact hP
        have hD : va_D A (mk_W cI cZ a σ46) := by rw [← Option.some.inj eh]; exact hD
        clear eh
        refine lv_aload_n hx hb dX8_findWaiting_88 rfl (lv_at hl 0 rfl) ?_
        refine va_get (D := D) (ci := 6) (v := .ref (a 1)) (C := RX8) (T := TX8) (N := 10) hx hb hts in_X8_findWaiting_X8 hown hK hP 0 rfl rfl 1 (by decide) (hts (.fieldLink RX8 7 "ImageCheckerModel" "all" "[I") (by decide +kernel)) (fun _ h9 => h9) rfl dX8_findWaiting_89 ?_
        refine lv_bipush (v := 47) hx hb dX8_findWaiting_92 (by decide) ?_
        refine lv_iload_n hx hb dX8_findWaiting_94 rfl (lv_at hl 1 rfl) ?_
        refine lv_imul hx hb dX8_findWaiting_95 ?_
        refine lv_iconst (v := 3) hx hb dX8_findWaiting_96 (by decide) ?_
        refine lv_iadd hx hb dX8_findWaiting_97 ?_
        obtain ⟨v47, eh, h⟩ := ik_bd h
        refine ik_ld hx hb hK hP 1 0 rfl rfl eh dX8_findWaiting_98 ?_
        clear eh
        refine lv_istore_n (lv' := [(1, .int v47), (0, .ref (a 0))]) hx hb dX8_findWaiting_99 rfl hl (by decide) rfl (fun ls hl => ?_)
        refine lv_goto (tgt := 42) hx hb dX8_findWaiting_100 (by decide) ?_
        exact ih42 _ _ h _ _ _ hP hD hS (lv_sub hl [1, 0] rfl)
  · have h := ik_f c3 h
    refine lv_aload_n hx hb dX8_findWaiting_8 rfl (lv_at hl 0 rfl) ?_
    refine va_get (D := D) (ci := 6) (v := .ref (a 6)) (C := RX8) (T := TX8) (N := 10) hx hb hts in_X8_findWaiting_X8 hown hK hP 0 rfl rfl 6 (by decide) (hts (.fieldLink RX8 26 "ImageCheckerModel" "rightly" "[Z") (by decide +kernel)) (fun _ h9 => h9) rfl dX8_findWaiting_9 ?_
    refine lv_iload_n hx hb dX8_findWaiting_12 rfl (lv_at hl 1 rfl) ?_
    refine lv_iconst (v := 0) hx hb dX8_findWaiting_13 (by decide) ?_
    obtain ⟨σ48, eh, h⟩ := ik_bd h
    refine ik_zst (Wd := mk_W cI cZ a) (σ1 := σ48) hx hb hK hP hD hS 6 1 rfl rfl (fun _ => rfl) eh dX8_findWaiting_14 (fun H locs hP hD hS => ?_)
    clear eh
    refine lv_aload_n hx hb dX8_findWaiting_15 rfl (lv_at hl 0 rfl) ?_
    refine va_get (D := D) (ci := 6) (v := .ref (a 8)) (C := RX8) (T := TX8) (N := 10) hx hb hts in_X8_findWaiting_X8 hown hK hP 0 rfl rfl 9 (by decide) (hts (.fieldLink RX8 32 "ImageCheckerModel" "goesOn" "[Z") (by decide +kernel)) (fun _ h9 => h9) rfl dX8_findWaiting_16 ?_
    refine lv_iload_n hx hb dX8_findWaiting_19 rfl (lv_at hl 1 rfl) ?_
    refine lv_iconst (v := 0) hx hb dX8_findWaiting_20 (by decide) ?_
    obtain ⟨σ49, eh, h⟩ := ik_bd h
    refine ik_zst (Wd := mk_W cI cZ a) (σ1 := σ49) hx hb hK hP hD hS 8 1 rfl rfl (fun _ => rfl) eh dX8_findWaiting_21 (fun H locs hP hD hS => ?_)
    clear eh
    refine lv_iinc (v := x1 + 1) (lv' := [(1, .int (x1 + 1)), (0, .ref (a 0))]) hx hb dX8_findWaiting_22 hl (k := 1) rfl rfl (by decide) rfl (fun ls hl => ?_)
    refine lv_goto (tgt := 2) hx hb dX8_findWaiting_25 (by decide) ?_
    exact ih2 _ _ h _ _ _ hP hD hS (lv_sub hl [1, 0] rfl)
abbrev rm_X8_dropEntries : Room := { frames := 1, cells := 0, slots := 0, locals := 24 }
theorem in_X8_dropEntries_X8 : ∀ w ∈ wsX80, w ∈ wsX8_dropEntries := by decide +kernel
set_option maxHeartbeats 4000000 in
set_option maxRecDepth 100000 in
theorem c_X8_dropEntries (l : Launch) (D : va_G) (cI cZ : ClassId) (a : Nat → Nat) (A : Nat → Prop) (p0 : Int32) (σ : mk_S) (σz : mk_S) (h : fX8_dropEntries p0 σ = some σz) : Met l yX8_dropEntries wsX8_dropEntries rm_X8_dropEntries (va_Pc [.ref (a 0), .int p0] (ik_P D [(cI, .int), (cZ, .boolean)] [] (mk_W cI cZ a) A σ)) (ik_Qv D (mk_W cI cZ a) A σz) 0 0 A := by
  unfold fX8_dropEntries at h
  refine Met.ofW (cc := cX8_dropEntries) (maxL := 6) (ret := none) (by decide) rfl ?_
  intro p e s m args below meth c s₁ B hml hv
  obtain ⟨hAr, hP, hK, hD, hN⟩ := hv
  have hx := B.exec
  have hb := B.bytes
  have hr := B.returns
  have hts := atoms_spec (ws := wsX8_dropEntries) B.pre
  have hown : s.vm.findClass RX8 = some m.cls := findClass_of_methodNamed B.named
  have hlocks := B.notSynchronized
  have hS : va_S A s.heap s.heap [] := va_S.rf
  have hl := lv_entry ([.ref (a 0), .int p0]) (n := 6) (Nat.le_of_ble_eq_true rfl)
  rw [show entryFrame m args 6 = entryFrame m ([.ref (a 0), .int p0] : List Value).toArray 6 from by rw [hAr], lg_entry_eq]
  generalize (lg_sl ([.ref (a 0), .int p0]) ++ List.replicate (6 - (lg_sl ([.ref (a 0), .int p0])).length) Slot.unset).toArray = ls at hl ⊢
  have hl : lv_has ls 6 [(0, .ref (a 0)), (1, .int p0)] := hl
  refine lv_iconst (v := 1) hx hb dX8_dropEntries_0 (by decide) ?_
  refine lv_istore_n (lv' := [(2, .int 1), (0, .ref (a 0)), (1, .int p0)]) hx hb dX8_dropEntries_1 rfl hl (by decide) rfl (fun ls hl => ?_)
  refine qp2_W (P := fun (x1 : Int32) (σ2 : mk_S) => ∀ (H : Heap) (locs : List Loc) (ls : Array Slot), va_P D vwCl (mk_W cI cZ a σ2) H → va_D A (mk_W cI cZ a σ2) → va_S A s.heap H locs → lv_has ls 6 [(0, .ref (a 0)), (1, .int p0), (2, .int x1)] → W p l e (headSpec wsX8_dropEntries rm_X8_dropEntries).room s m args below meth c H locs 0 0 (MQ below (ik_Qv D (mk_W cI cZ a) A σz) args s 0 0 A) (F0 m 2 ls [])) ?_ FU _ _ h _ _ _ hP hD hS (lv_sub hl [1, 2, 0] rfl)
  intro rec2 ih2 x1 σ2 h H locs ls hP hD hS hl
  refine lv_iload_n hx hb dX8_dropEntries_2 rfl (lv_at hl 2 rfl) ?_
  refine lv_bipush (v := 24) hx hb dX8_dropEntries_3 (by decide) ?_
  refine lv_icmp_gt (tgt := 115) hx hb dX8_dropEntries_5 (by decide) (fun c3 => ?_) (fun c3 => ?_)
  · have h := ik_t c3 h
    exact W.vret hx hb hr (fun t ht hW => ⟨⟨_, rfl, Option.some.inj h, by rw [ht]; exact hP, hD⟩, hS.F ht⟩) hS.2.2 dX8_dropEntries_115
  · have h := ik_f c3 h
    refine lv_iconst (v := 0) hx hb dX8_dropEntries_8 (by decide) ?_
    refine lv_istore_n (lv' := [(3, .int 0), (0, .ref (a 0)), (1, .int p0), (2, .int x1)]) hx hb dX8_dropEntries_9 rfl hl (by decide) rfl (fun ls hl => ?_)
    refine lv_iconst (v := 0) hx hb dX8_dropEntries_10 (by decide) ?_
    refine lv_istore (lv' := [(4, .int 0), (3, .int 0), (0, .ref (a 0)), (1, .int p0), (2, .int x1)]) hx hb dX8_dropEntries_11 hl (by decide) rfl (fun ls hl => ?_)
    refine qp3_W (P := fun (x4 : Int32) (x5 : Int32) (σ6 : mk_S) => ∀ (H : Heap) (locs : List Loc) (ls : Array Slot), va_P D vwCl (mk_W cI cZ a σ6) H → va_D A (mk_W cI cZ a σ6) → va_S A s.heap H locs → lv_has ls 6 [(0, .ref (a 0)), (1, .int p0), (2, .int x1), (3, .int x4), (4, .int x5)] → W p l e (headSpec wsX8_dropEntries rm_X8_dropEntries).room s m args below meth c H locs 0 0 (MQ below (ik_Qv D (mk_W cI cZ a) A σz) args s 0 0 A) (F0 m 13 ls [])) ?_ FU _ _ _ h _ _ _ hP hD hS (lv_sub hl [2, 3, 4, 1, 0] rfl)
    intro rec13 ih13 x4 x5 σ6 h H locs ls hP hD hS hl
    refine lv_iload hx hb dX8_dropEntries_13 (lv_at hl 4 rfl) ?_
    refine lv_bipush (v := 8) hx hb dX8_dropEntries_15 (by decide) ?_
    refine lv_icmp_ge (tgt := 94) hx hb dX8_dropEntries_17 (by decide) (fun c7 => ?_) (fun c7 => ?_)
    · have h := ik_t c7 h
      refine lv_aload_n hx hb dX8_dropEntries_94 rfl (lv_at hl 0 rfl) ?_
      refine lv_iload_n hx hb dX8_dropEntries_95 rfl (lv_at hl 2 rfl) ?_
      refine lv_iload_n hx hb dX8_dropEntries_96 rfl (lv_at hl 3 rfl) ?_
      obtain ⟨v8, eh, h⟩ := ik_bd h
      refine ik_Si (As := [.int x1, .int x4]) (rest := [.ref (a 0)]) ⟨hx, hb, hml, hown, hts⟩ (c_X8_entryAt l D cI cZ a A x1 x4 σ6 _ eh) (va_cwS 2 hts gX8_dropEntries_X8_entryAt rfl rfl rfl (by decide +kernel) ⟨Nat.le_of_ble_eq_true rfl, Nat.le_of_ble_eq_true rfl⟩) hP hK hD hN hS rfl hl.1 rfl (Nat.le_of_ble_eq_true rfl) dX8_dropEntries_97 (fun H locs hP hD hS => ?_)
      clear eh
      refine lv_iload_n hx hb dX8_dropEntries_100 rfl (lv_at hl 2 rfl) ?_
      refine lv_bipush (v := 8) hx hb dX8_dropEntries_101 (by decide) ?_
      obtain ⟨v9, eh, h⟩ := ik_bd h
      refine ik_Si (As := [.int x1, .int 8]) (rest := [.int v8, .ref (a 0)]) ⟨hx, hb, hml, hown, hts⟩ (c_X8_entryAt l D cI cZ a A x1 8 σ6 _ eh) (va_cwS 2 hts gX8_dropEntries_X8_entryAt rfl rfl rfl (by decide +kernel) ⟨Nat.le_of_ble_eq_true rfl, Nat.le_of_ble_eq_true rfl⟩) hP hK hD hN hS rfl hl.1 rfl (Nat.le_of_ble_eq_true rfl) dX8_dropEntries_103 (fun H locs hP hD hS => ?_)
      clear eh
      obtain ⟨σ10, eh, h⟩ := ik_bd h
      refine ik_Vv (As := [.int v8, .int v9]) (rest := []) ⟨hx, hb, hml, hown, hts⟩ (c_X8_blank l D cI cZ a A v8 v9 σ6 _ eh) (cwV 2 hts gX8_dropEntries_X8_blank rfl rfl rfl (by decide +kernel) ⟨Nat.le_of_ble_eq_true rfl, Nat.le_of_ble_eq_true rfl⟩) (va_recv hK hP (ci := 6) (q0 := 0) rfl rfl) hP hK hD hN hS rfl hl.1 rfl (Nat.le_of_ble_eq_true rfl) dX8_dropEntries_106 (fun H locs hP hD hS => ?_)
      clear eh
      refine lv_iinc (v := x1 + 1) (lv' := [(2, .int (x1 + 1)), (0, .ref (a 0)), (1, .int p0), (3, .int x4), (4, .int x5)]) hx hb dX8_dropEntries_109 hl (k := 2) rfl rfl (by decide) rfl (fun ls hl => ?_)
      refine lv_goto (tgt := 2) hx hb dX8_dropEntries_112 (by decide) ?_
      exact ih2 _ _ h _ _ _ hP hD hS (lv_sub hl [1, 2, 0] rfl)
    · have h := ik_f c7 h
      refine lv_iload_n hx hb dX8_dropEntries_20 rfl (lv_at hl 2 rfl) ?_
      refine lv_iload hx hb dX8_dropEntries_21 (lv_at hl 4 rfl) ?_
      obtain ⟨v11, eh, h⟩ := ik_bd h
      refine ik_Si (As := [.int x1, .int x5]) (rest := []) ⟨hx, hb, hml, hown, hts⟩ (c_X8_entryAt l D cI cZ a A x1 x5 σ6 _ eh) (va_cwS 2 hts gX8_dropEntries_X8_entryAt rfl rfl rfl (by decide +kernel) ⟨Nat.le_of_ble_eq_true rfl, Nat.le_of_ble_eq_true rfl⟩) hP hK hD hN hS rfl hl.1 rfl (Nat.le_of_ble_eq_true rfl) dX8_dropEntries_23 (fun H locs hP hD hS => ?_)
      clear eh
      refine lv_istore (lv' := [(5, .int v11), (0, .ref (a 0)), (1, .int p0), (2, .int x1), (3, .int x4), (4, .int x5)]) hx hb dX8_dropEntries_26 hl (by decide) rfl (fun ls hl => ?_)
      refine lv_aload_n hx hb dX8_dropEntries_28 rfl (lv_at hl 1 rfl) ?_
      refine va_get (D := D) (ci := 6) (v := .ref (a 1)) (C := RX8) (T := TX8) (N := 10) hx hb hts in_X8_dropEntries_X8 hown hK hP 0 rfl rfl 1 (by decide) (hts (.fieldLink RX8 7 "ImageCheckerModel" "all" "[I") (by decide +kernel)) (fun _ h9 => h9) rfl dX8_dropEntries_29 ?_
      refine lv_iload hx hb dX8_dropEntries_32 (lv_at hl 0 rfl) ?_
      obtain ⟨v12, eh, h⟩ := ik_bd h
      refine ik_ld hx hb hK hP 1 0 rfl rfl eh dX8_dropEntries_34 ?_
      clear eh
      refine lv_if_eq (tgt := 88) hx hb dX8_dropEntries_35 (by decide) (fun c13 => ?_) (fun c13 => ?_)
      · have h := ik_t c13 h
        refine lv_iinc (v := x5 + 1) (lv' := [(4, .int (x5 + 1)), (5, .int v11), (0, .ref (a 0)), (1, .int p0), (2, .int x1), (3, .int x4)]) hx hb dX8_dropEntries_88 hl (k := 5) rfl rfl (by decide) rfl (fun ls hl => ?_)
        refine lv_goto (tgt := 13) hx hb dX8_dropEntries_91 (by decide) ?_
        exact ih13 _ _ _ h _ _ _ hP hD hS (lv_sub hl [2, 3, 4, 5, 0] rfl)
      · have h := ik_f c13 h
        refine lv_aload_n hx hb dX8_dropEntries_38 rfl (lv_at hl 1 rfl) ?_
        refine va_get (D := D) (ci := 6) (v := .ref (a 1)) (C := RX8) (T := TX8) (N := 10) hx hb hts in_X8_dropEntries_X8 hown hK hP 0 rfl rfl 1 (by decide) (hts (.fieldLink RX8 7 "ImageCheckerModel" "all" "[I") (by decide +kernel)) (fun _ h9 => h9) rfl dX8_dropEntries_39 ?_
        refine lv_iload hx hb dX8_dropEntries_42 (lv_at hl 0 rfl) ?_
        refine lv_iconst (v := 1) hx hb dX8_dropEntries_44 (by decide) ?_
        refine lv_iadd hx hb dX8_dropEntries_45 ?_
        obtain ⟨v14, eh, h⟩ := ik_bd h
        refine ik_ld hx hb hK hP 1 0 rfl rfl eh dX8_dropEntries_46 ?_
        clear eh
        refine lv_iload_n hx hb dX8_dropEntries_47 rfl (lv_at hl 2 rfl) ?_
        refine lv_icmp_eq (tgt := 88) hx hb dX8_dropEntries_48 (by decide) (fun c15 => ?_) (fun c15 => ?_)
        · have h := ik_t c15 h
          refine lv_iinc (v := x5 + 1) (lv' := [(4, .int (x5 + 1)), (5, .int v11), (0, .ref (a 0)), (1, .int p0), (2, .int x1), (3, .int x4)]) hx hb dX8_dropEntries_88 hl (k := 5) rfl rfl (by decide) rfl (fun ls hl => ?_)
          refine lv_goto (tgt := 13) hx hb dX8_dropEntries_91 (by decide) ?_
          exact ih13 _ _ _ h _ _ _ hP hD hS (lv_sub hl [2, 3, 4, 5, 0] rfl)
        · have h := ik_f c15 h
          refine lv_aload_n hx hb dX8_dropEntries_51 rfl (lv_at hl 1 rfl) ?_
          refine lv_iload_n hx hb dX8_dropEntries_52 rfl (lv_at hl 3 rfl) ?_
          refine lv_iload_n hx hb dX8_dropEntries_53 rfl (lv_at hl 4 rfl) ?_
          obtain ⟨v16, eh, h⟩ := ik_bd h
          refine ik_Si (As := [.int x1, .int x4]) (rest := [.ref (a 0)]) ⟨hx, hb, hml, hown, hts⟩ (c_X8_entryAt l D cI cZ a A x1 x4 σ6 _ eh) (va_cwS 2 hts gX8_dropEntries_X8_entryAt rfl rfl rfl (by decide +kernel) ⟨Nat.le_of_ble_eq_true rfl, Nat.le_of_ble_eq_true rfl⟩) hP hK hD hN hS rfl hl.1 rfl (Nat.le_of_ble_eq_true rfl) dX8_dropEntries_54 (fun H locs hP hD hS => ?_)
          clear eh
          refine lv_aload_n hx hb dX8_dropEntries_57 rfl (lv_at hl 1 rfl) ?_
          refine va_get (D := D) (ci := 6) (v := .ref (a 1)) (C := RX8) (T := TX8) (N := 10) hx hb hts in_X8_dropEntries_X8 hown hK hP 0 rfl rfl 1 (by decide) (hts (.fieldLink RX8 7 "ImageCheckerModel" "all" "[I") (by decide +kernel)) (fun _ h9 => h9) rfl dX8_dropEntries_58 ?_
          refine lv_iload hx hb dX8_dropEntries_61 (lv_at hl 0 rfl) ?_
          obtain ⟨v17, eh, h⟩ := ik_bd h
          refine ik_ld hx hb hK hP 1 0 rfl rfl eh dX8_dropEntries_63 ?_
          clear eh
          refine lv_aload_n hx hb dX8_dropEntries_64 rfl (lv_at hl 1 rfl) ?_
          refine va_get (D := D) (ci := 6) (v := .ref (a 1)) (C := RX8) (T := TX8) (N := 10) hx hb hts in_X8_dropEntries_X8 hown hK hP 0 rfl rfl 1 (by decide) (hts (.fieldLink RX8 7 "ImageCheckerModel" "all" "[I") (by decide +kernel)) (fun _ h9 => h9) rfl dX8_dropEntries_65 ?_
          refine lv_iload hx hb dX8_dropEntries_68 (lv_at hl 0 rfl) ?_
          refine lv_iconst (v := 1) hx hb dX8_dropEntries_70 (by decide) ?_
          refine lv_iadd hx hb dX8_dropEntries_71 ?_
          obtain ⟨v18, eh, h⟩ := ik_bd h
          refine ik_ld hx hb hK hP 1 0 rfl rfl eh dX8_dropEntries_72 ?_
          clear eh
          refine lv_aload_n hx hb dX8_dropEntries_73 rfl (lv_at hl 1 rfl) ?_
          refine va_get (D := D) (ci := 6) (v := .ref (a 1)) (C := RX8) (T := TX8) (N := 10) hx hb hts in_X8_dropEntries_X8 hown hK hP 0 rfl rfl 1 (by decide) (hts (.fieldLink RX8 7 "ImageCheckerModel" "all" "[I") (by decide +kernel)) (fun _ h9 => h9) rfl dX8_dropEntries_74 ?_
          refine lv_iload hx hb dX8_dropEntries_77 (lv_at hl 0 rfl) ?_
          refine lv_iconst (v := 2) hx hb dX8_dropEntries_79 (by decide) ?_
          refine lv_iadd hx hb dX8_dropEntries_80 ?_
          obtain ⟨v19, eh, h⟩ := ik_bd h
          refine ik_ld hx hb hK hP 1 0 rfl rfl eh dX8_dropEntries_81 ?_
          clear eh
          obtain ⟨σ20, eh, h⟩ := ik_bd h
          refine ik_Vv (As := [.int v16, .int v17, .int v18, .int v19]) (rest := []) ⟨hx, hb, hml, hown, hts⟩ (c_X8_put l D cI cZ a A v16 v17 v18 v19 σ6 _ eh) (cwV 4 hts gX8_dropEntries_X8_put rfl rfl rfl (by decide +kernel) ⟨Nat.le_of_ble_eq_true rfl, Nat.le_of_ble_eq_true rfl⟩) (va_recv hK hP (ci := 6) (q0 := 0) rfl rfl) hP hK hD hN hS rfl hl.1 rfl (Nat.le_of_ble_eq_true rfl) dX8_dropEntries_82 (fun H locs hP hD hS => ?_)
          clear eh
          refine lv_iinc (v := x4 + 1) (lv' := [(3, .int (x4 + 1)), (5, .int v11), (0, .ref (a 0)), (1, .int p0), (2, .int x1), (4, .int x5)]) hx hb dX8_dropEntries_85 hl (k := 4) rfl rfl (by decide) rfl (fun ls hl => ?_)
          refine lv_iinc (v := x5 + 1) (lv' := [(4, .int (x5 + 1)), (3, .int (x4 + 1)), (5, .int v11), (0, .ref (a 0)), (1, .int p0), (2, .int x1)]) hx hb dX8_dropEntries_88 hl (k := 5) rfl rfl (by decide) rfl (fun ls hl => ?_)
          refine lv_goto (tgt := 13) hx hb dX8_dropEntries_91 (by decide) ?_
          exact ih13 _ _ _ h _ _ _ hP hD hS (lv_sub hl [3, 4, 5, 1, 0] rfl)
