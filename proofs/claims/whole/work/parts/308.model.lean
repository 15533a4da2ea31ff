abbrev rm_X8_checkBits : Room := { frames := 1, cells := 0, slots := 0, locals := 21 }
theorem in_X8_checkBits_X8 : ∀ w ∈ wsX80, w ∈ wsX8_checkBits := by decide +kernel
set_option maxHeartbeats 4000000 in
set_option maxRecDepth 100000 in
theorem c_X8_checkBits (l : Launch) (D : va_G) (cI cZ : ClassId) (a : Nat → Nat) (A : Nat → Prop) (σ : mk_S) (σz : mk_S) (h : fX8_checkBits σ = some σz) : Met l yX8_checkBits wsX8_checkBits rm_X8_checkBits (va_Pc [.ref (a 0)] (ik_P D [(cI, .int), (cZ, .boolean)] [] (mk_W cI cZ a) A σ)) (ik_Qv D (mk_W cI cZ a) A σz) 0 0 A := by
  unfold fX8_checkBits at h
  refine Met.ofW (cc := cX8_checkBits) (maxL := 5) (ret := none) (by decide) rfl ?_
  intro p e s m args below meth c s₁ B hml hv
  obtain ⟨hAr, hP, hK, hD, hN⟩ := hv
  have hx := B.exec
  have hb := B.bytes
  have hr := B.returns
  have hts := atoms_spec (ws := wsX8_checkBits) B.pre
  have hown : s.vm.findClass RX8 = some m.cls := findClass_of_methodNamed B.named
  have hlocks := B.notSynchronized
  have hS : va_S A s.heap s.heap [] := va_S.rf
  have hl := lv_entry ([.ref (a 0)]) (n := 5) (Nat.le_of_ble_eq_true rfl)
  rw [show entryFrame m args 5 = entryFrame m ([.ref (a 0)] : List Value).toArray 5 from by rw [hAr], lg_entry_eq]
  generalize (lg_sl ([.ref (a 0)]) ++ List.replicate (5 - (lg_sl ([.ref (a 0)])).length) Slot.unset).toArray = ls at hl ⊢
  have hl : lv_has ls 5 [(0, .ref (a 0))] := hl
  refine lv_iconst (v := 1) hx hb dX8_checkBits_0 (by decide) ?_
  refine lv_istore_n (lv' := [(1, .int 1), (0, .ref (a 0))]) hx hb dX8_checkBits_1 rfl hl (by decide) rfl (fun ls hl => ?_)
  refine qp2_W (P := fun (x1 : Int32) (σ2 : mk_S) => ∀ (H : Heap) (locs : List Loc) (ls : Array Slot), va_P D vwCl (mk_W cI cZ a σ2) H → va_D A (mk_W cI cZ a σ2) → va_S A s.heap H locs → lv_has ls 5 [(0, .ref (a 0)), (1, .int x1)] → W p l e (headSpec wsX8_checkBits rm_X8_checkBits).room s m args below meth c H locs 0 0 (MQ below (ik_Qv D (mk_W cI cZ a) A σz) args s 0 0 A) (F0 m 2 ls [])) ?_ FU _ _ h _ _ _ hP hD hS (lv_sub hl [1, 0] rfl)
  intro rec2 ih2 x1 σ2 h H locs ls hP hD hS hl
  refine lv_iload_n hx hb dX8_checkBits_2 rfl (lv_at hl 1 rfl) ?_
  refine lv_sipush (v := 200) hx hb dX8_checkBits_3 (by decide) ?_
  refine lv_icmp_gt (tgt := 36) hx hb dX8_checkBits_6 (by decide) (fun c3 => ?_) (fun c3 => ?_)
  · have h := ik_t c3 h
    refine lv_iconst (v := 1) hx hb dX8_checkBits_36 (by decide) ?_
    refine lv_istore_n (lv' := [(1, .int 1), (0, .ref (a 0))]) hx hb dX8_checkBits_37 rfl hl (by decide) rfl (fun ls hl => ?_)
    refine qp2_W (P := fun (x4 : Int32) (σ5 : mk_S) => ∀ (H : Heap) (locs : List Loc) (ls : Array Slot), va_P D vwCl (mk_W cI cZ a σ5) H → va_D A (mk_W cI cZ a σ5) → va_S A s.heap H locs → lv_has ls 5 [(0, .ref (a 0)), (1, .int x4)] → W p l e (headSpec wsX8_checkBits rm_X8_checkBits).room s m args below meth c H locs 0 0 (MQ below (ik_Qv D (mk_W cI cZ a) A σz) args s 0 0 A) (F0 m 38 ls [])) ?_ FU _ _ h _ _ _ hP hD hS (lv_sub hl [1, 0] rfl)
    intro rec38 ih38 x4 σ5 h H locs ls hP hD hS hl
    refine lv_iload_n hx hb dX8_checkBits_38 rfl (lv_at hl 1 rfl) ?_
    refine lv_bipush (v := 24) hx hb dX8_checkBits_39 (by decide) ?_
    refine lv_icmp_gt (tgt := 143) hx hb dX8_checkBits_41 (by decide) (fun c6 => ?_) (fun c6 => ?_)
    · have h := ik_t c6 h
      refine lv_iconst (v := 0) hx hb dX8_checkBits_143 (by decide) ?_
      refine lv_istore_n (lv' := [(1, .int 0), (0, .ref (a 0))]) hx hb dX8_checkBits_144 rfl hl (by decide) rfl (fun ls hl => ?_)
      refine lv_iconst (v := 0) hx hb dX8_checkBits_145 (by decide) ?_
      refine lv_istore_n (lv' := [(2, .int 0), (1, .int 0), (0, .ref (a 0))]) hx hb dX8_checkBits_146 rfl hl (by decide) rfl (fun ls hl => ?_)
      refine lv_iconst (v := 1) hx hb dX8_checkBits_147 (by decide) ?_
      refine lv_istore_n (lv' := [(3, .int 1), (2, .int 0), (1, .int 0), (0, .ref (a 0))]) hx hb dX8_checkBits_148 rfl hl (by decide) rfl (fun ls hl => ?_)
      refine qp2_W (P := fun (x7 : Int32) (x8 : Int32) => ∀ (H : Heap) (locs : List Loc) (ls : Array Slot), va_P D vwCl (mk_W cI cZ a σ5) H → va_D A (mk_W cI cZ a σ5) → va_S A s.heap H locs → lv_has ls 5 [(0, .ref (a 0)), (1, .int x7), (2, .int 0), (3, .int x8)] → W p l e (headSpec wsX8_checkBits rm_X8_checkBits).room s m args below meth c H locs 0 0 (MQ below (ik_Qv D (mk_W cI cZ a) A σz) args s 0 0 A) (F0 m 149 ls [])) ?_ FU _ _ h _ _ _ hP hD hS (lv_sub hl [3, 2, 1, 0] rfl)
      intro rec149 ih149 x7 x8 h H locs ls hP hD hS hl
      refine lv_iload_n hx hb dX8_checkBits_149 rfl (lv_at hl 3 rfl) ?_
      refine lv_sipush (v := 200) hx hb dX8_checkBits_150 (by decide) ?_
      refine lv_icmp_gt (tgt := 177) hx hb dX8_checkBits_153 (by decide) (fun c9 => ?_) (fun c9 => ?_)
      · have h := ik_t c9 h
        refine lv_iconst (v := 1) hx hb dX8_checkBits_177 (by decide) ?_
        refine lv_istore_n (lv' := [(3, .int 1), (0, .ref (a 0)), (1, .int x7), (2, .int 0)]) hx hb dX8_checkBits_178 rfl hl (by decide) rfl (fun ls hl => ?_)
        refine qp2_W (P := fun (x10 : Int32) (x11 : Int32) => ∀ (H : Heap) (locs : List Loc) (ls : Array Slot), va_P D vwCl (mk_W cI cZ a σ5) H → va_D A (mk_W cI cZ a σ5) → va_S A s.heap H locs → lv_has ls 5 [(0, .ref (a 0)), (1, .int x7), (2, .int x10), (3, .int x11)] → W p l e (headSpec wsX8_checkBits rm_X8_checkBits).room s m args below meth c H locs 0 0 (MQ below (ik_Qv D (mk_W cI cZ a) A σz) args s 0 0 A) (F0 m 179 ls [])) ?_ FU _ _ h _ _ _ hP hD hS (lv_sub hl [1, 2, 3, 0] rfl)
        intro rec179 ih179 x10 x11 h H locs ls hP hD hS hl
        refine lv_iload_n hx hb dX8_checkBits_179 rfl (lv_at hl 3 rfl) ?_
        refine lv_bipush (v := 24) hx hb dX8_checkBits_180 (by decide) ?_
        refine lv_icmp_gt (tgt := 206) hx hb dX8_checkBits_182 (by decide) (fun c12 => ?_) (fun c12 => ?_)
        · have h := ik_t c12 h
          refine lv_aload_n hx hb dX8_checkBits_206 rfl (lv_at hl 0 rfl) ?_
          refine va_get (D := D) (ci := 6) (v := .ref (a 1)) (C := RX8) (T := TX8) (N := 10) hx hb hts in_X8_checkBits_X8 hown hK hP 0 rfl rfl 1 (by decide) (hts (.fieldLink RX8 7 "ImageCheckerModel" "all" "[I") (by decide +kernel)) (fun _ h9 => h9) rfl dX8_checkBits_207 ?_
          refine lv_sipush (v := 1426) hx hb dX8_checkBits_210 (by decide) ?_
          refine lv_iload_n hx hb dX8_checkBits_213 rfl (lv_at hl 1 rfl) ?_
          obtain ⟨σ13, eh, h⟩ := ik_bd h
          refine ik_st (Wd := mk_W cI cZ a) (σ1 := σ13) hx hb hK hP hD hS 1 0 rfl rfl (fun _ => rfl) eh dX8_checkBits_214 (fun H locs hP hD hS => ?_)
          clear eh
          refine lv_aload_n hx hb dX8_checkBits_215 rfl (lv_at hl 0 rfl) ?_
          refine va_get (D := D) (ci := 6) (v := .ref (a 1)) (C := RX8) (T := TX8) (N := 10) hx hb hts in_X8_checkBits_X8 hown hK hP 0 rfl rfl 1 (by decide) (hts (.fieldLink RX8 7 "ImageCheckerModel" "all" "[I") (by decide +kernel)) (fun _ h9 => h9) rfl dX8_checkBits_216 ?_
          refine lv_sipush (v := 1427) hx hb dX8_checkBits_219 (by decide) ?_
          refine lv_iload_n hx hb dX8_checkBits_222 rfl (lv_at hl 2 rfl) ?_
          obtain ⟨σ14, eh, h⟩ := ik_bd h
          refine ik_st (Wd := mk_W cI cZ a) (σ1 := σ14) hx hb hK hP hD hS 1 0 rfl rfl (fun _ => rfl) eh dX8_checkBits_223 (fun H locs hP hD hS => ?_)
          clear eh
          exact W.vret hx hb hr (fun t ht hW => ⟨⟨_, rfl, Option.some.inj h, by rw [ht]; exact hP, hD⟩, hS.F ht⟩) hS.2.2 dX8_checkBits_224
        · have h := ik_f c12 h
          refine lv_iload_n hx hb dX8_checkBits_185 rfl (lv_at hl 2 rfl) ?_
          refine lv_iconst (v := 1) hx hb dX8_checkBits_186 (by decide) ?_
          refine lv_aload_n hx hb dX8_checkBits_187 rfl (lv_at hl 0 rfl) ?_
          refine va_get (D := D) (ci := 6) (v := .ref (a 1)) (C := RX8) (T := TX8) (N := 10) hx hb hts in_X8_checkBits_X8 hown hK hP 0 rfl rfl 1 (by decide) (hts (.fieldLink RX8 7 "ImageCheckerModel" "all" "[I") (by decide +kernel)) (fun _ h9 => h9) rfl dX8_checkBits_188 ?_
          refine lv_sipush (v := 1401) hx hb dX8_checkBits_191 (by decide) ?_
          refine lv_iload_n hx hb dX8_checkBits_194 rfl (lv_at hl 3 rfl) ?_
          refine lv_iadd hx hb dX8_checkBits_195 ?_
          obtain ⟨v15, eh, h⟩ := ik_bd h
          refine ik_ld hx hb hK hP 1 0 rfl rfl eh dX8_checkBits_196 ?_
          clear eh
          refine lv_isub hx hb dX8_checkBits_197 ?_
          refine lv_iadd hx hb dX8_checkBits_198 ?_
          refine lv_istore_n (lv' := [(2, .int (x10 + (1 - v15))), (0, .ref (a 0)), (1, .int x7), (3, .int x11)]) hx hb dX8_checkBits_199 rfl hl (by decide) rfl (fun ls hl => ?_)
          refine lv_iinc (v := x11 + 1) (lv' := [(3, .int (x11 + 1)), (2, .int (x10 + (1 - v15))), (0, .ref (a 0)), (1, .int x7)]) hx hb dX8_checkBits_200 hl (k := 3) rfl rfl (by decide) rfl (fun ls hl => ?_)
          refine lv_goto (tgt := 179) hx hb dX8_checkBits_203 (by decide) ?_
          exact ih179 _ _ h _ _ _ hP hD hS (lv_sub hl [2, 3, 1, 0] rfl)
      · have h := ik_f c9 h
        refine lv_iload_n hx hb dX8_checkBits_156 rfl (lv_at hl 1 rfl) ?_
        refine lv_iconst (v := 1) hx hb dX8_checkBits_157 (by decide) ?_
        refine lv_aload_n hx hb dX8_checkBits_158 rfl (lv_at hl 0 rfl) ?_
        refine va_get (D := D) (ci := 6) (v := .ref (a 1)) (C := RX8) (T := TX8) (N := 10) hx hb hts in_X8_checkBits_X8 hown hK hP 0 rfl rfl 1 (by decide) (hts (.fieldLink RX8 7 "ImageCheckerModel" "all" "[I") (by decide +kernel)) (fun _ h9 => h9) rfl dX8_checkBits_159 ?_
        refine lv_sipush (v := 1200) hx hb dX8_checkBits_162 (by decide) ?_
        refine lv_iload_n hx hb dX8_checkBits_165 rfl (lv_at hl 3 rfl) ?_
        refine lv_iadd hx hb dX8_checkBits_166 ?_
        obtain ⟨v16, eh, h⟩ := ik_bd h
        refine ik_ld hx hb hK hP 1 0 rfl rfl eh dX8_checkBits_167 ?_
        clear eh
        refine lv_isub hx hb dX8_checkBits_168 ?_
        refine lv_iadd hx hb dX8_checkBits_169 ?_
        refine lv_istore_n (lv' := [(1, .int (x7 + (1 - v16))), (0, .ref (a 0)), (2, .int 0), (3, .int x8)]) hx hb dX8_checkBits_170 rfl hl (by decide) rfl (fun ls hl => ?_)
        refine lv_iinc (v := x8 + 1) (lv' := [(3, .int (x8 + 1)), (1, .int (x7 + (1 - v16))), (0, .ref (a 0)), (2, .int 0)]) hx hb dX8_checkBits_171 hl (k := 3) rfl rfl (by decide) rfl (fun ls hl => ?_)
        refine lv_goto (tgt := 149) hx hb dX8_checkBits_174 (by decide) ?_
        exact ih149 _ _ h _ _ _ hP hD hS (lv_sub hl [2, 1, 3, 0] rfl)
    · have h := ik_f c6 h
      refine lv_aload_n hx hb dX8_checkBits_44 rfl (lv_at hl 0 rfl) ?_
      refine va_get (D := D) (ci := 6) (v := .ref (a 1)) (C := RX8) (T := TX8) (N := 10) hx hb hts in_X8_checkBits_X8 hown hK hP 0 rfl rfl 1 (by decide) (hts (.fieldLink RX8 7 "ImageCheckerModel" "all" "[I") (by decide +kernel)) (fun _ h9 => h9) rfl dX8_checkBits_45 ?_
      refine lv_sipush (v := 1401) hx hb dX8_checkBits_48 (by decide) ?_
      refine lv_iload_n hx hb dX8_checkBits_51 rfl (lv_at hl 1 rfl) ?_
      refine lv_iadd hx hb dX8_checkBits_52 ?_
      refine lv_aload_n hx hb dX8_checkBits_53 rfl (lv_at hl 0 rfl) ?_
      refine lv_iload_n hx hb dX8_checkBits_54 rfl (lv_at hl 1 rfl) ?_
      obtain ⟨v17, eh, h⟩ := ik_bd h
      refine ik_Vi (As := [.int x4]) (rest := [.int (1401 + x4), .ref (a 1)]) ⟨hx, hb, hml, hown, hts⟩ (c_X8_kindOf l D cI cZ a A x4 σ5 _ eh) (cwV 1 hts gX8_checkBits_X8_kindOf rfl rfl rfl (by decide +kernel) ⟨Nat.le_of_ble_eq_true rfl, Nat.le_of_ble_eq_true rfl⟩) (va_recv hK hP (ci := 6) (q0 := 0) rfl rfl) hP hK hD hN hS rfl hl.1 rfl (Nat.le_of_ble_eq_true rfl) dX8_checkBits_55 (fun H locs hP hD hS => ?_)
      clear eh
      obtain ⟨j66, ej, h⟩ := jn_ex h
      have hj66 : ∀ (y18 : Int32), j66 y18 = some σz → ∀ (H : Heap) (locs : List Loc) (ls : Array Slot), va_P D vwCl (mk_W cI cZ a σ5) H → va_D A (mk_W cI cZ a σ5) → va_S A s.heap H locs → lv_has ls 5 [(0, .ref (a 0)), (1, .int x4)] → W p l e (headSpec wsX8_checkBits rm_X8_checkBits).room s m args below meth c H locs 0 0 (MQ below (ik_Qv D (mk_W cI cZ a) A σz) args s 0 0 A) (F0 m 66 ls [.int y18, .int (1401 + x4), .ref (a 1)]) := by
        rw [ej]; clear h
        intro y18 h H locs ls hP hD hS hl
        obtain ⟨σ19, eh, h⟩ := ik_bd h
        refine ik_st (Wd := mk_W cI cZ a) (σ1 := σ19) hx hb hK hP hD hS 1 0 rfl rfl (fun _ => rfl) eh dX8_checkBits_66 (fun H locs hP hD hS => ?_)
        clear eh
        refine lv_iconst (v := 0) hx hb dX8_checkBits_67 (by decide) ?_
        refine lv_istore_n (lv' := [(2, .int 0), (0, .ref (a 0)), (1, .int x4)]) hx hb dX8_checkBits_68 rfl hl (by decide) rfl (fun ls hl => ?_)
        refine qp2_W (P := fun (x20 : Int32) (σ21 : mk_S) => ∀ (H : Heap) (locs : List Loc) (ls : Array Slot), va_P D vwCl (mk_W cI cZ a σ21) H → va_D A (mk_W cI cZ a σ21) → va_S A s.heap H locs → lv_has ls 5 [(0, .ref (a 0)), (1, .int x4), (2, .int x20)] → W p l e (headSpec wsX8_checkBits rm_X8_checkBits).room s m args below meth c H locs 0 0 (MQ below (ik_Qv D (mk_W cI cZ a) A σz) args s 0 0 A) (F0 m 69 ls [])) ?_ FU _ _ h _ _ _ hP hD hS (lv_sub hl [1, 2, 0] rfl)
        intro rec69 ih69 x20 σ21 h H locs ls hP hD hS hl
        refine lv_iload_n hx hb dX8_checkBits_69 rfl (lv_at hl 2 rfl) ?_
        refine lv_bipush (v := 6) hx hb dX8_checkBits_70 (by decide) ?_
        refine lv_icmp_ge (tgt := 137) hx hb dX8_checkBits_72 (by decide) (fun c22 => ?_) (fun c22 => ?_)
        · have h := ik_t c22 h
          refine lv_iinc (v := x4 + 1) (lv' := [(1, .int (x4 + 1)), (0, .ref (a 0)), (2, .int x20)]) hx hb dX8_checkBits_137 hl (k := 1) rfl rfl (by decide) rfl (fun ls hl => ?_)
          refine lv_goto (tgt := 38) hx hb dX8_checkBits_140 (by decide) ?_
          exact ih38 _ _ h _ _ _ hP hD hS (lv_sub hl [1, 0] rfl)
        · have h := ik_f c22 h
          refine lv_iload_n hx hb dX8_checkBits_75 rfl (lv_at hl 1 rfl) ?_
          refine lv_iload_n hx hb dX8_checkBits_76 rfl (lv_at hl 2 rfl) ?_
          obtain ⟨v23, eh, h⟩ := ik_bd h
          refine ik_Si (As := [.int x4, .int x20]) (rest := []) ⟨hx, hb, hml, hown, hts⟩ (c_X8_runAt l D cI cZ a A x4 x20 σ21 _ eh) (va_cwS 2 hts gX8_checkBits_X8_runAt rfl rfl rfl (by decide +kernel) ⟨Nat.le_of_ble_eq_true rfl, Nat.le_of_ble_eq_true rfl⟩) hP hK hD hN hS rfl hl.1 rfl (Nat.le_of_ble_eq_true rfl) dX8_checkBits_77 (fun H locs hP hD hS => ?_)
          clear eh
          refine lv_istore_n (lv' := [(3, .int v23), (0, .ref (a 0)), (1, .int x4), (2, .int x20)]) hx hb dX8_checkBits_80 rfl hl (by decide) rfl (fun ls hl => ?_)
          refine lv_aload_n hx hb dX8_checkBits_81 rfl (lv_at hl 1 rfl) ?_
          refine va_get (D := D) (ci := 6) (v := .ref (a 1)) (C := RX8) (T := TX8) (N := 10) hx hb hts in_X8_checkBits_X8 hown hK hP 0 rfl rfl 1 (by decide) (hts (.fieldLink RX8 7 "ImageCheckerModel" "all" "[I") (by decide +kernel)) (fun _ h9 => h9) rfl dX8_checkBits_82 ?_
          refine lv_iload_n hx hb dX8_checkBits_85 rfl (lv_at hl 0 rfl) ?_
          refine lv_iconst (v := 2) hx hb dX8_checkBits_86 (by decide) ?_
          refine lv_iadd hx hb dX8_checkBits_87 ?_
          obtain ⟨v24, eh, h⟩ := ik_bd h
          refine ik_ld hx hb hK hP 1 0 rfl rfl eh dX8_checkBits_88 ?_
          clear eh
          refine lv_istore (lv' := [(4, .int v24), (3, .int v23), (0, .ref (a 0)), (1, .int x4), (2, .int x20)]) hx hb dX8_checkBits_89 hl (by decide) rfl (fun ls hl => ?_)
          refine qp2_W (P := fun (x25 : Int32) (σ26 : mk_S) => ∀ (H : Heap) (locs : List Loc) (ls : Array Slot), va_P D vwCl (mk_W cI cZ a σ26) H → va_D A (mk_W cI cZ a σ26) → va_S A s.heap H locs → lv_has ls 5 [(0, .ref (a 0)), (1, .int x4), (2, .int x20), (3, .int v23), (4, .int x25)] → W p l e (headSpec wsX8_checkBits rm_X8_checkBits).room s m args below meth c H locs 0 0 (MQ below (ik_Qv D (mk_W cI cZ a) A σz) args s 0 0 A) (F0 m 91 ls [])) ?_ FU _ _ h _ _ _ hP hD hS (lv_sub hl [2, 3, 4, 1, 0] rfl)
          intro rec91 ih91 x25 σ26 h H locs ls hP hD hS hl
          refine lv_iload hx hb dX8_checkBits_91 (lv_at hl 4 rfl) ?_
          refine lv_aload_n hx hb dX8_checkBits_93 rfl (lv_at hl 0 rfl) ?_
          refine va_get (D := D) (ci := 6) (v := .ref (a 1)) (C := RX8) (T := TX8) (N := 10) hx hb hts in_X8_checkBits_X8 hown hK hP 0 rfl rfl 1 (by decide) (hts (.fieldLink RX8 7 "ImageCheckerModel" "all" "[I") (by decide +kernel)) (fun _ h9 => h9) rfl dX8_checkBits_94 ?_
          refine lv_iload_n hx hb dX8_checkBits_97 rfl (lv_at hl 3 rfl) ?_
          refine lv_iconst (v := 2) hx hb dX8_checkBits_98 (by decide) ?_
          refine lv_iadd hx hb dX8_checkBits_99 ?_
          obtain ⟨v27, eh, h⟩ := ik_bd h
          refine ik_ld hx hb hK hP 1 0 rfl rfl eh dX8_checkBits_100 ?_
          clear eh
          refine lv_aload_n hx hb dX8_checkBits_101 rfl (lv_at hl 0 rfl) ?_
          refine va_get (D := D) (ci := 6) (v := .ref (a 1)) (C := RX8) (T := TX8) (N := 10) hx hb hts in_X8_checkBits_X8 hown hK hP 0 rfl rfl 1 (by decide) (hts (.fieldLink RX8 7 "ImageCheckerModel" "all" "[I") (by decide +kernel)) (fun _ h9 => h9) rfl dX8_checkBits_102 ?_
          refine lv_iload_n hx hb dX8_checkBits_105 rfl (lv_at hl 3 rfl) ?_
          refine lv_iconst (v := 1) hx hb dX8_checkBits_106 (by decide) ?_
          refine lv_iadd hx hb dX8_checkBits_107 ?_
          obtain ⟨v28, eh, h⟩ := ik_bd h
          refine ik_ld hx hb hK hP 1 0 rfl rfl eh dX8_checkBits_108 ?_
          clear eh
          refine lv_iadd hx hb dX8_checkBits_109 ?_
          refine lv_icmp_ge (tgt := 131) hx hb dX8_checkBits_110 (by decide) (fun c29 => ?_) (fun c29 => ?_)
          · have h := ik_t c29 h
            refine lv_iinc (v := x20 + 1) (lv' := [(2, .int (x20 + 1)), (0, .ref (a 0)), (1, .int x4), (3, .int v23), (4, .int x25)]) hx hb dX8_checkBits_131 hl (k := 2) rfl rfl (by decide) rfl (fun ls hl => ?_)
            refine lv_goto (tgt := 69) hx hb dX8_checkBits_134 (by decide) ?_
            exact ih69 _ _ h _ _ _ hP hD hS (lv_sub hl [1, 2, 0] rfl)
          · have h := ik_f c29 h
            refine lv_aload_n hx hb dX8_checkBits_113 rfl (lv_at hl 0 rfl) ?_
            refine va_get (D := D) (ci := 6) (v := .ref (a 1)) (C := RX8) (T := TX8) (N := 10) hx hb hts in_X8_checkBits_X8 hown hK hP 0 rfl rfl 1 (by decide) (hts (.fieldLink RX8 7 "ImageCheckerModel" "all" "[I") (by decide +kernel)) (fun _ h9 => h9) rfl dX8_checkBits_114 ?_
            refine lv_sipush (v := 1200) hx hb dX8_checkBits_117 (by decide) ?_
            refine lv_iload hx hb dX8_checkBits_120 (lv_at hl 4 rfl) ?_
            refine lv_iadd hx hb dX8_checkBits_122 ?_
            refine lv_iconst (v := 1) hx hb dX8_checkBits_123 (by decide) ?_
            obtain ⟨σ30, eh, h⟩ := ik_bd h
            refine ik_st (Wd := mk_W cI cZ a) (σ1 := σ30) hx hb hK hP hD hS 1 0 rfl rfl (fun _ => rfl) eh dX8_checkBits_124 (fun H locs hP hD hS => ?_)
            clear eh
            refine lv_iinc (v := x25 + 1) (lv' := [(4, .int (x25 + 1)), (0, .ref (a 0)), (1, .int x4), (2, .int x20), (3, .int v23)]) hx hb dX8_checkBits_125 hl (k := 4) rfl rfl (by decide) rfl (fun ls hl => ?_)
            refine lv_goto (tgt := 91) hx hb dX8_checkBits_128 (by decide) ?_
            exact ih91 _ _ h _ _ _ hP hD hS (lv_sub hl [1, 2, 3, 4, 0] rfl)
      clear ej
      refine lv_if_ne (tgt := 65) hx hb dX8_checkBits_58 (by decide) (fun c31 => ?_) (fun c31 => ?_)
      · have h := ik_f c31 h
        refine lv_iconst (v := 1) hx hb dX8_checkBits_65 (by decide) ?_
        exact hj66 _ h _ _ _ hP hD hS (lv_sub hl [0, 1] rfl)
      · have h := ik_t c31 h
        refine lv_iconst (v := 0) hx hb dX8_checkBits_61 (by decide) ?_
        refine lv_goto (tgt := 66) hx hb dX8_checkBits_62 (by decide) ?_
        exact hj66 _ h _ _ _ hP hD hS (lv_sub hl [0, 1] rfl)
  · have h := ik_f c3 h
    refine lv_aload_n hx hb dX8_checkBits_9 rfl (lv_at hl 0 rfl) ?_
    refine va_get (D := D) (ci := 6) (v := .ref (a 1)) (C := RX8) (T := TX8) (N := 10) hx hb hts in_X8_checkBits_X8 hown hK hP 0 rfl rfl 1 (by decide) (hts (.fieldLink RX8 7 "ImageCheckerModel" "all" "[I") (by decide +kernel)) (fun _ h9 => h9) rfl dX8_checkBits_10 ?_
    refine lv_sipush (v := 1200) hx hb dX8_checkBits_13 (by decide) ?_
    refine lv_iload_n hx hb dX8_checkBits_16 rfl (lv_at hl 1 rfl) ?_
    refine lv_iadd hx hb dX8_checkBits_17 ?_
    refine lv_iload_n hx hb dX8_checkBits_18 rfl (lv_at hl 1 rfl) ?_
    refine lv_bipush (v := 9) hx hb dX8_checkBits_19 (by decide) ?_
    obtain ⟨j29, ej, h⟩ := jn_ex h
    have hj29 : ∀ (y32 : Int32), j29 y32 = some σz → ∀ (H : Heap) (locs : List Loc) (ls : Array Slot), va_P D vwCl (mk_W cI cZ a σ2) H → va_D A (mk_W cI cZ a σ2) → va_S A s.heap H locs → lv_has ls 5 [(0, .ref (a 0)), (1, .int x1)] → W p l e (headSpec wsX8_checkBits rm_X8_checkBits).room s m args below meth c H locs 0 0 (MQ below (ik_Qv D (mk_W cI cZ a) A σz) args s 0 0 A) (F0 m 29 ls [.int y32, .int (1200 + x1), .ref (a 1)]) := by
      rw [ej]; clear h
      intro y32 h H locs ls hP hD hS hl
      obtain ⟨σ33, eh, h⟩ := ik_bd h
      refine ik_st (Wd := mk_W cI cZ a) (σ1 := σ33) hx hb hK hP hD hS 1 0 rfl rfl (fun _ => rfl) eh dX8_checkBits_29 (fun H locs hP hD hS => ?_)
      clear eh
      refine lv_iinc (v := x1 + 1) (lv' := [(1, .int (x1 + 1)), (0, .ref (a 0))]) hx hb dX8_checkBits_30 hl (k := 1) rfl rfl (by decide) rfl (fun ls hl => ?_)
      refine lv_goto (tgt := 2) hx hb dX8_checkBits_33 (by decide) ?_
      exact ih2 _ _ h _ _ _ hP hD hS (lv_sub hl [1, 0] rfl)
    clear ej
    refine lv_icmp_ge (tgt := 28) hx hb dX8_checkBits_21 (by decide) (fun c34 => ?_) (fun c34 => ?_)
    · have h := ik_t c34 h
      refine lv_iconst (v := 0) hx hb dX8_checkBits_28 (by decide) ?_
      exact hj29 _ h _ _ _ hP hD hS (lv_sub hl [0, 1] rfl)
    · have h := ik_f c34 h
      refine lv_iconst (v := 1) hx hb dX8_checkBits_24 (by decide) ?_
      refine lv_goto (tgt := 29) hx hb dX8_checkBits_25 (by decide) ?_
      exact hj29 _ h _ _ _ hP hD hS (lv_sub hl [0, 1] rfl)
abbrev rm_X8_pass : Room := { frames := 4, cells := 0, slots := 0, locals := 98 }
set_option maxHeartbeats 4000000 in
set_option maxRecDepth 100000 in
theorem c_X8_pass (l : Launch) (D : va_G) (cI cZ : ClassId) (a : Nat → Nat) (A : Nat → Prop) (p0 : Int32) (σ : mk_S) (σz : mk_S) (h : fX8_pass p0 σ = some σz) : Met l yX8_pass wsX8_pass rm_X8_pass (va_Pc [.ref (a 0), .int p0] (ik_P D [(cI, .int), (cZ, .boolean)] [] (mk_W cI cZ a) A σ)) (ik_Qv D (mk_W cI cZ a) A σz) 0 0 A := by
  unfold fX8_pass at h
  refine Met.ofW (cc := cX8_pass) (maxL := 2) (ret := none) (by decide) rfl ?_
  intro p e s m args below meth c s₁ B hml hv
  obtain ⟨hAr, hP, hK, hD, hN⟩ := hv
  have hx := B.exec
  have hb := B.bytes
  have hr := B.returns
  have hts := atoms_spec (ws := wsX8_pass) B.pre
  have hown : s.vm.findClass RX8 = some m.cls := findClass_of_methodNamed B.named
  have hlocks := B.notSynchronized
  have hS : va_S A s.heap s.heap [] := va_S.rf
  have hl := lv_entry ([.ref (a 0), .int p0]) (n := 2) (Nat.le_of_ble_eq_true rfl)
  rw [show entryFrame m args 2 = entryFrame m ([.ref (a 0), .int p0] : List Value).toArray 2 from by rw [hAr], lg_entry_eq]
  generalize (lg_sl ([.ref (a 0), .int p0]) ++ List.replicate (2 - (lg_sl ([.ref (a 0), .int p0])).length) Slot.unset).toArray = ls at hl ⊢
  have hl : lv_has ls 2 [(0, .ref (a 0)), (1, .int p0)] := hl
  refine lv_iload_n hx hb dX8_pass_0 rfl (lv_at hl 1 rfl) ?_
  by_cases c1_0 : p0 = 0
  · have h := ik_t c1_0 h
    refine ik_tin (k := 0) (tgt := 32) (off := 31) hx hb dX8_pass_1 c1_0 (by decide) (by decide) rfl (by decide) ?_
    refine lv_aload_n hx hb dX8_pass_32 rfl (lv_at hl 0 rfl) ?_
    obtain ⟨σ2, eh, h⟩ := ik_bd h
    refine ik_Vv (As := []) (rest := []) ⟨hx, hb, hml, hown, hts⟩ (c_X8_checkRecords l D cI cZ a A  σ _ eh) (cwV 0 hts gX8_pass_X8_checkRecords rfl rfl rfl (by decide +kernel) ⟨Nat.le_of_ble_eq_true rfl, Nat.le_of_ble_eq_true rfl⟩) (va_recv hK hP (ci := 6) (q0 := 0) rfl rfl) hP hK hD hN hS rfl hl.1 rfl (Nat.le_of_ble_eq_true rfl) dX8_pass_33 (fun H locs hP hD hS => ?_)
    clear eh
    refine lv_goto (tgt := 64) hx hb dX8_pass_36 (by decide) ?_
    exact W.vret hx hb hr (fun t ht hW => ⟨⟨_, rfl, Option.some.inj h, by rw [ht]; exact hP, hD⟩, hS.F ht⟩) hS.2.2 dX8_pass_64
  · have h := ik_f c1_0 h
    by_cases c1_1 : p0 = 1
    · have h := ik_t c1_1 h
      refine ik_tin (k := 1) (tgt := 39) (off := 38) hx hb dX8_pass_1 c1_1 (by decide) (by decide) rfl (by decide) ?_
      refine lv_aload_n hx hb dX8_pass_39 rfl (lv_at hl 0 rfl) ?_
      obtain ⟨σ3, eh, h⟩ := ik_bd h
      refine ik_Vv (As := []) (rest := []) ⟨hx, hb, hml, hown, hts⟩ (c_X8_checkFolders l D cI cZ a A  σ _ eh) (cwV 0 hts gX8_pass_X8_checkFolders rfl rfl rfl (by decide +kernel) ⟨Nat.le_of_ble_eq_true rfl, Nat.le_of_ble_eq_true rfl⟩) (va_recv hK hP (ci := 6) (q0 := 0) rfl rfl) hP hK hD hN hS rfl hl.1 rfl (Nat.le_of_ble_eq_true rfl) dX8_pass_40 (fun H locs hP hD hS => ?_)
      clear eh
      refine lv_goto (tgt := 64) hx hb dX8_pass_43 (by decide) ?_
      exact W.vret hx hb hr (fun t ht hW => ⟨⟨_, rfl, Option.some.inj h, by rw [ht]; exact hP, hD⟩, hS.F ht⟩) hS.2.2 dX8_pass_64
    · have h := ik_f c1_1 h
      by_cases c1_2 : p0 = 2
      · have h := ik_t c1_2 h
        refine ik_tin (k := 2) (tgt := 46) (off := 45) hx hb dX8_pass_1 c1_2 (by decide) (by decide) rfl (by decide) ?_
        refine lv_aload_n hx hb dX8_pass_46 rfl (lv_at hl 0 rfl) ?_
        obtain ⟨σ4, eh, h⟩ := ik_bd h
        refine ik_Vv (As := []) (rest := []) ⟨hx, hb, hml, hown, hts⟩ (c_X8_checkHanging l D cI cZ a A  σ _ eh) (cwV 0 hts gX8_pass_X8_checkHanging rfl rfl rfl (by decide +kernel) ⟨Nat.le_of_ble_eq_true rfl, Nat.le_of_ble_eq_true rfl⟩) (va_recv hK hP (ci := 6) (q0 := 0) rfl rfl) hP hK hD hN hS rfl hl.1 rfl (Nat.le_of_ble_eq_true rfl) dX8_pass_47 (fun H locs hP hD hS => ?_)
        clear eh
        refine lv_goto (tgt := 64) hx hb dX8_pass_50 (by decide) ?_
        exact W.vret hx hb hr (fun t ht hW => ⟨⟨_, rfl, Option.some.inj h, by rw [ht]; exact hP, hD⟩, hS.F ht⟩) hS.2.2 dX8_pass_64
      · have h := ik_f c1_2 h
        by_cases c1_3 : p0 = 3
        · have h := ik_t c1_3 h
          refine ik_tin (k := 3) (tgt := 53) (off := 52) hx hb dX8_pass_1 c1_3 (by decide) (by decide) rfl (by decide) ?_
          refine lv_aload_n hx hb dX8_pass_53 rfl (lv_at hl 0 rfl) ?_
          obtain ⟨σ5, eh, h⟩ := ik_bd h
          refine ik_Vv (As := []) (rest := []) ⟨hx, hb, hml, hown, hts⟩ (c_X8_checkLinks l D cI cZ a A  σ _ eh) (cwV 0 hts gX8_pass_X8_checkLinks rfl rfl rfl (by decide +kernel) ⟨Nat.le_of_ble_eq_true rfl, Nat.le_of_ble_eq_true rfl⟩) (va_recv hK hP (ci := 6) (q0 := 0) rfl rfl) hP hK hD hN hS rfl hl.1 rfl (Nat.le_of_ble_eq_true rfl) dX8_pass_54 (fun H locs hP hD hS => ?_)
          clear eh
          refine lv_goto (tgt := 64) hx hb dX8_pass_57 (by decide) ?_
          exact W.vret hx hb hr (fun t ht hW => ⟨⟨_, rfl, Option.some.inj h, by rw [ht]; exact hP, hD⟩, hS.F ht⟩) hS.2.2 dX8_pass_64
        · have h := ik_f c1_3 h
          refine lv_tableOut (tgt := 60) hx hb dX8_pass_1 (ik_tout4 c1_0 c1_1 c1_2 c1_3) (by decide) ?_
          refine lv_aload_n hx hb dX8_pass_60 rfl (lv_at hl 0 rfl) ?_
          obtain ⟨σ6, eh, h⟩ := ik_bd h
          refine ik_Vv (As := []) (rest := []) ⟨hx, hb, hml, hown, hts⟩ (c_X8_checkBits l D cI cZ a A  σ _ eh) (cwV 0 hts gX8_pass_X8_checkBits rfl rfl rfl (by decide +kernel) ⟨Nat.le_of_ble_eq_true rfl, Nat.le_of_ble_eq_true rfl⟩) (va_recv hK hP (ci := 6) (q0 := 0) rfl rfl) hP hK hD hN hS rfl hl.1 rfl (Nat.le_of_ble_eq_true rfl) dX8_pass_61 (fun H locs hP hD hS => ?_)
          clear eh
          exact W.vret hx hb hr (fun t ht hW => ⟨⟨_, rfl, Option.some.inj h, by rw [ht]; exact hP, hD⟩, hS.F ht⟩) hS.2.2 dX8_pass_64
abbrev rm_X8_check : Room := { frames := 5, cells := 0, slots := 0, locals := 119 }
theorem in_X8_check_X8 : ∀ w ∈ wsX80, w ∈ wsX8_check := by decide +kernel
set_option maxHeartbeats 4000000 in
set_option maxRecDepth 100000 in
theorem c_X8_check (l : Launch) (D : va_G) (cI cZ : ClassId) (a : Nat → Nat) (A : Nat → Prop) (σ : mk_S) (rz : Int32) (σz : mk_S) (h : fX8_check σ = some (rz, σz)) : Met l yX8_check wsX8_check rm_X8_check (va_Pc [.ref (a 0)] (ik_P D [(cI, .int), (cZ, .boolean)] [] (mk_W cI cZ a) A σ)) (ik_Qi D (mk_W cI cZ a) A rz σz) 0 0 A := by
  unfold fX8_check at h
  refine Met.ofW (cc := cX8_check) (maxL := 5) (ret := (some .int)) (by decide) rfl ?_
  intro p e s m args below meth c s₁ B hml hv
  obtain ⟨hAr, hP, hK, hD, hN⟩ := hv
  have hx := B.exec
  have hb := B.bytes
  have hr := B.returns
  have hts := atoms_spec (ws := wsX8_check) B.pre
  have hown : s.vm.findClass RX8 = some m.cls := findClass_of_methodNamed B.named
  have hlocks := B.notSynchronized
  have hS : va_S A s.heap s.heap [] := va_S.rf
  have hl := lv_entry ([.ref (a 0)]) (n := 5) (Nat.le_of_ble_eq_true rfl)
  rw [show entryFrame m args 5 = entryFrame m ([.ref (a 0)] : List Value).toArray 5 from by rw [hAr], lg_entry_eq]
  generalize (lg_sl ([.ref (a 0)]) ++ List.replicate (5 - (lg_sl ([.ref (a 0)])).length) Slot.unset).toArray = ls at hl ⊢
  have hl : lv_has ls 5 [(0, .ref (a 0))] := hl
  refine lv_aload_n hx hb dX8_check_0 rfl (lv_at hl 0 rfl) ?_
  refine lv_iconst (v := 0) hx hb dX8_check_1 (by decide) ?_
  obtain ⟨σ1, eh, h⟩ := ik_bd h
  refine va_put (D := D) (ci := 6) (v := .int 0) (ty := .int) (C := RX8) (T := TX8) (N := 10) hx hb hts in_X8_check_X8 tyX8 tyX8_ok nmX8 hown hK hP hD hS 0 rfl rfl 0 (by decide) (hts (.fieldLink RX8 38 "ImageCheckerModel" "code" "I") (by decide +kernel)) (fun _ h9 => h9) rfl (by decide +kernel) rfl rfl (Nat.le_of_ble_eq_true rfl) dX8_check_2 (fun H locs hP hD hS => ?_)
  have hP : va_P D vwCl (mk_W cI cZ a σ1) H := by rw [← Option.some.inj eh]; exact hP
  have hD : va_D A (mk_W cI cZ a σ1) := by rw [← Option.some.inj eh]; exact hD
  clear eh
  refine lv_iconst (v := 0) hx hb dX8_check_5 (by decide) ?_
  refine lv_istore_n (lv' := [(1, .int 0), (0, .ref (a 0))]) hx hb dX8_check_6 rfl hl (by decide) rfl (fun ls hl => ?_)
  refine lv_iconst (v := 0) hx hb dX8_check_7 (by decide) ?_
  refine lv_istore_n (lv' := [(2, .int 0), (1, .int 0), (0, .ref (a 0))]) hx hb dX8_check_8 rfl hl (by decide) rfl (fun ls hl => ?_)
  refine qp3_W (P := fun (x2 : Int32) (x3 : Int32) (σ4 : mk_S) => ∀ (H : Heap) (locs : List Loc) (ls : Array Slot), va_P D vwCl (mk_W cI cZ a σ4) H → va_D A (mk_W cI cZ a σ4) → va_S A s.heap H locs → lv_has ls 5 [(0, .ref (a 0)), (1, .int x2), (2, .int x3)] → W p l e (headSpec wsX8_check rm_X8_check).room s m args below meth c H locs 0 0 (MQ below (ik_Qi D (mk_W cI cZ a) A rz σz) args s 0 0 A) (F0 m 9 ls [])) ?_ FU _ _ _ h _ _ _ hP hD hS (lv_sub hl [2, 1, 0] rfl)
  intro rec9 ih9 x2 x3 σ4 h H locs ls hP hD hS hl
  refine lv_iload_n hx hb dX8_check_9 rfl (lv_at hl 2 rfl) ?_
  refine lv_iconst (v := 5) hx hb dX8_check_10 (by decide) ?_
  refine lv_icmp_ge (tgt := 112) hx hb dX8_check_11 (by decide) (fun c5 => ?_) (fun c5 => ?_)
  · have h := ik_t c5 h
    refine lv_iload_n hx hb dX8_check_112 rfl (lv_at hl 1 rfl) ?_
    exact W.iret hx hb hr (fun t ht hW => ⟨⟨_, _, rfl, ⟨congrArg Prod.fst (Option.some.inj h), congrArg Prod.snd (Option.some.inj h)⟩, by rw [ht]; exact hP, hD⟩, hS.F ht⟩) hS.2.2 dX8_check_113
  · have h := ik_f c5 h
    refine lv_iconst (v := 0) hx hb dX8_check_14 (by decide) ?_
    refine lv_istore_n (lv' := [(3, .int 0), (0, .ref (a 0)), (1, .int x2), (2, .int x3)]) hx hb dX8_check_15 rfl hl (by decide) rfl (fun ls hl => ?_)
    refine qp2_W (P := fun (x6 : Int32) (σ7 : mk_S) => ∀ (H : Heap) (locs : List Loc) (ls : Array Slot), va_P D vwCl (mk_W cI cZ a σ7) H → va_D A (mk_W cI cZ a σ7) → va_S A s.heap H locs → lv_has ls 5 [(0, .ref (a 0)), (1, .int x2), (2, .int x3), (3, .int x6)] → W p l e (headSpec wsX8_check rm_X8_check).room s m args below meth c H locs 0 0 (MQ below (ik_Qi D (mk_W cI cZ a) A rz σz) args s 0 0 A) (F0 m 16 ls [])) ?_ FU _ _ h _ _ _ hP hD hS (lv_sub hl [1, 2, 3, 0] rfl)
    intro rec16 ih16 x6 σ7 h H locs ls hP hD hS hl
    refine lv_iload_n hx hb dX8_check_16 rfl (lv_at hl 3 rfl) ?_
    refine lv_sipush (v := 1429) hx hb dX8_check_17 (by decide) ?_
    refine lv_icmp_ge (tgt := 41) hx hb dX8_check_20 (by decide) (fun c8 => ?_) (fun c8 => ?_)
    · have h := ik_t c8 h
      refine lv_aload_n hx hb dX8_check_41 rfl (lv_at hl 0 rfl) ?_
      refine lv_iload_n hx hb dX8_check_42 rfl (lv_at hl 2 rfl) ?_
      obtain ⟨σ9, eh, h⟩ := ik_bd h
      refine ik_Vv (As := [.int x3]) (rest := []) ⟨hx, hb, hml, hown, hts⟩ (c_X8_pass l D cI cZ a A x3 σ7 _ eh) (cwV 1 hts gX8_check_X8_pass rfl rfl rfl (by decide +kernel) ⟨Nat.le_of_ble_eq_true rfl, Nat.le_of_ble_eq_true rfl⟩) (va_recv hK hP (ci := 6) (q0 := 0) rfl rfl) hP hK hD hN hS rfl hl.1 rfl (Nat.le_of_ble_eq_true rfl) dX8_check_43 (fun H locs hP hD hS => ?_)
      clear eh
      refine lv_iconst (v := 0) hx hb dX8_check_46 (by decide) ?_
      refine lv_istore_n (lv' := [(3, .int 0), (0, .ref (a 0)), (1, .int x2), (2, .int x3)]) hx hb dX8_check_47 rfl hl (by decide) rfl (fun ls hl => ?_)
      refine lv_iconst (v := 0) hx hb dX8_check_48 (by decide) ?_
      refine lv_istore (lv' := [(4, .int 0), (3, .int 0), (0, .ref (a 0)), (1, .int x2), (2, .int x3)]) hx hb dX8_check_49 hl (by decide) rfl (fun ls hl => ?_)
      refine qp2_W (P := fun (x10 : Int32) (x11 : Int32) => ∀ (H : Heap) (locs : List Loc) (ls : Array Slot), va_P D vwCl (mk_W cI cZ a σ9) H → va_D A (mk_W cI cZ a σ9) → va_S A s.heap H locs → lv_has ls 5 [(0, .ref (a 0)), (1, .int x2), (2, .int x3), (3, .int x10), (4, .int x11)] → W p l e (headSpec wsX8_check rm_X8_check).room s m args below meth c H locs 0 0 (MQ below (ik_Qi D (mk_W cI cZ a) A rz σz) args s 0 0 A) (F0 m 51 ls [])) ?_ FU _ _ h _ _ _ hP hD hS (lv_sub hl [2, 3, 4, 1, 0] rfl)
      intro rec51 ih51 x10 x11 h H locs ls hP hD hS hl
      refine lv_iload hx hb dX8_check_51 (lv_at hl 4 rfl) ?_
      refine lv_sipush (v := 1429) hx hb dX8_check_53 (by decide) ?_
      refine lv_icmp_ge (tgt := 92) hx hb dX8_check_56 (by decide) (fun c12 => ?_) (fun c12 => ?_)
      · have h := ik_t c12 h
        refine lv_iload_n hx hb dX8_check_92 rfl (lv_at hl 1 rfl) ?_
        refine lv_iload_n hx hb dX8_check_93 rfl (lv_at hl 3 rfl) ?_
        obtain ⟨j104, ej, h⟩ := jn_ex h
        have hj104 : ∀ (y13 : Int32), j104 y13 = some (rz, σz) → ∀ (H : Heap) (locs : List Loc) (ls : Array Slot), va_P D vwCl (mk_W cI cZ a σ9) H → va_D A (mk_W cI cZ a σ9) → va_S A s.heap H locs → lv_has ls 5 [(0, .ref (a 0)), (2, .int x3)] → W p l e (headSpec wsX8_check rm_X8_check).room s m args below meth c H locs 0 0 (MQ below (ik_Qi D (mk_W cI cZ a) A rz σz) args s 0 0 A) (F0 m 104 ls [.int y13, .int x2]) := by
          rw [ej]; clear h
          intro y13 h H locs ls hP hD hS hl
          refine lv_iadd hx hb dX8_check_104 ?_
          refine lv_istore_n (lv' := [(1, .int (x2 + y13)), (0, .ref (a 0)), (2, .int x3)]) hx hb dX8_check_105 rfl hl (by decide) rfl (fun ls hl => ?_)
          refine lv_iinc (v := x3 + 1) (lv' := [(2, .int (x3 + 1)), (1, .int (x2 + y13)), (0, .ref (a 0))]) hx hb dX8_check_106 hl (k := 2) rfl rfl (by decide) rfl (fun ls hl => ?_)
          refine lv_goto (tgt := 9) hx hb dX8_check_109 (by decide) ?_
          exact ih9 _ _ _ h _ _ _ hP hD hS (lv_sub hl [2, 1, 0] rfl)
        clear ej
        refine lv_if_eq (tgt := 103) hx hb dX8_check_94 (by decide) (fun c14 => ?_) (fun c14 => ?_)
        · have h := ik_t c14 h
          refine lv_iconst (v := 0) hx hb dX8_check_103 (by decide) ?_
          exact hj104 _ h _ _ _ hP hD hS (lv_sub hl [0, 2] rfl)
        · have h := ik_f c14 h
          refine lv_iconst (v := 1) hx hb dX8_check_97 (by decide) ?_
          refine lv_iload_n hx hb dX8_check_98 rfl (lv_at hl 2 rfl) ?_
          refine lv_ishl hx hb dX8_check_99 ?_
          refine lv_goto (tgt := 104) hx hb dX8_check_100 (by decide) ?_
          exact hj104 _ h _ _ _ hP hD hS (lv_sub hl [0, 2] rfl)
      · have h := ik_f c12 h
        refine lv_iload_n hx hb dX8_check_59 rfl (lv_at hl 3 rfl) ?_
        obtain ⟨j80, ej, h⟩ := jn_ex h
        have hj80 : ∀ (_u : Unit), j80 _u = some (rz, σz) → ∀ (H : Heap) (locs : List Loc) (ls : Array Slot), va_P D vwCl (mk_W cI cZ a σ9) H → va_D A (mk_W cI cZ a σ9) → va_S A s.heap H locs → lv_has ls 5 [(0, .ref (a 0)), (1, .int x2), (2, .int x3), (4, .int x11)] → W p l e (headSpec wsX8_check rm_X8_check).room s m args below meth c H locs 0 0 (MQ below (ik_Qi D (mk_W cI cZ a) A rz σz) args s 0 0 A) (F0 m 80 ls []) := by
          rw [ej]; clear h
          intro _u h H locs ls hP hD hS hl
          refine lv_iconst (v := 1) hx hb dX8_check_80 (by decide) ?_
          refine lv_goto (tgt := 85) hx hb dX8_check_81 (by decide) ?_
          refine lv_istore_n (lv' := [(3, .int 1), (0, .ref (a 0)), (1, .int x2), (2, .int x3), (4, .int x11)]) hx hb dX8_check_85 rfl hl (by decide) rfl (fun ls hl => ?_)
          refine lv_iinc (v := x11 + 1) (lv' := [(4, .int (x11 + 1)), (3, .int 1), (0, .ref (a 0)), (1, .int x2), (2, .int x3)]) hx hb dX8_check_86 hl (k := 4) rfl rfl (by decide) rfl (fun ls hl => ?_)
          refine lv_goto (tgt := 51) hx hb dX8_check_89 (by decide) ?_
          exact ih51 _ _ h _ _ _ hP hD hS (lv_sub hl [2, 3, 4, 1, 0] rfl)
        clear ej
        refine lv_if_ne (tgt := 80) hx hb dX8_check_60 (by decide) (fun c15 => ?_) (fun c15 => ?_)
        · have h := ik_f c15 h
          exact hj80 () h _ _ _ hP hD hS (lv_sub hl [0, 1, 2, 4] rfl)
        · have h := ik_t c15 h
          refine lv_aload_n hx hb dX8_check_63 rfl (lv_at hl 0 rfl) ?_
          refine va_get (D := D) (ci := 6) (v := .ref (a 2)) (C := RX8) (T := TX8) (N := 10) hx hb hts in_X8_check_X8 hown hK hP 0 rfl rfl 2 (by decide) (hts (.fieldLink RX8 13 "ImageCheckerModel" "before" "[I") (by decide +kernel)) (fun _ h9 => h9) rfl dX8_check_64 ?_
          refine lv_iload hx hb dX8_check_67 (lv_at hl 4 rfl) ?_
          obtain ⟨v16, eh, h⟩ := ik_bd h
          refine ik_ld hx hb hK hP 2 0 rfl rfl eh dX8_check_69 ?_
          clear eh
          refine lv_aload_n hx hb dX8_check_70 rfl (lv_at hl 0 rfl) ?_
          refine va_get (D := D) (ci := 6) (v := .ref (a 1)) (C := RX8) (T := TX8) (N := 10) hx hb hts in_X8_check_X8 hown hK hP 0 rfl rfl 1 (by decide) (hts (.fieldLink RX8 7 "ImageCheckerModel" "all" "[I") (by decide +kernel)) (fun _ h9 => h9) rfl dX8_check_71 ?_
          refine lv_iload hx hb dX8_check_74 (lv_at hl 4 rfl) ?_
          obtain ⟨v17, eh, h⟩ := ik_bd h
          refine ik_ld hx hb hK hP 1 0 rfl rfl eh dX8_check_76 ?_
          clear eh
          refine lv_icmp_eq (tgt := 84) hx hb dX8_check_77 (by decide) (fun c18 => ?_) (fun c18 => ?_)
          · have h := ik_t c18 h
            refine lv_iconst (v := 0) hx hb dX8_check_84 (by decide) ?_
            refine lv_istore_n (lv' := [(3, .int 0), (0, .ref (a 0)), (1, .int x2), (2, .int x3), (4, .int x11)]) hx hb dX8_check_85 rfl hl (by decide) rfl (fun ls hl => ?_)
            refine lv_iinc (v := x11 + 1) (lv' := [(4, .int (x11 + 1)), (3, .int 0), (0, .ref (a 0)), (1, .int x2), (2, .int x3)]) hx hb dX8_check_86 hl (k := 4) rfl rfl (by decide) rfl (fun ls hl => ?_)
            refine lv_goto (tgt := 51) hx hb dX8_check_89 (by decide) ?_
            exact ih51 _ _ h _ _ _ hP hD hS (lv_sub hl [2, 3, 4, 1, 0] rfl)
          · have h := ik_f c18 h
            exact hj80 () h _ _ _ hP hD hS (lv_sub hl [0, 1, 2, 4] rfl)
    · have h := ik_f c8 h
      refine lv_aload_n hx hb dX8_check_23 rfl (lv_at hl 0 rfl) ?_
      refine va_get (D := D) (ci := 6) (v := .ref (a 2)) (C := RX8) (T := TX8) (N := 10) hx hb hts in_X8_check_X8 hown hK hP 0 rfl rfl 2 (by decide) (hts (.fieldLink RX8 13 "ImageCheckerModel" "before" "[I") (by decide +kernel)) (fun _ h9 => h9) rfl dX8_check_24 ?_
      refine lv_iload_n hx hb dX8_check_27 rfl (lv_at hl 3 rfl) ?_
      refine lv_aload_n hx hb dX8_check_28 rfl (lv_at hl 0 rfl) ?_
      refine va_get (D := D) (ci := 6) (v := .ref (a 1)) (C := RX8) (T := TX8) (N := 10) hx hb hts in_X8_check_X8 hown hK hP 0 rfl rfl 1 (by decide) (hts (.fieldLink RX8 7 "ImageCheckerModel" "all" "[I") (by decide +kernel)) (fun _ h9 => h9) rfl dX8_check_29 ?_
      refine lv_iload_n hx hb dX8_check_32 rfl (lv_at hl 3 rfl) ?_
      obtain ⟨v19, eh, h⟩ := ik_bd h
      refine ik_ld hx hb hK hP 1 0 rfl rfl eh dX8_check_33 ?_
      clear eh
      obtain ⟨σ20, eh, h⟩ := ik_bd h
      refine ik_st (Wd := mk_W cI cZ a) (σ1 := σ20) hx hb hK hP hD hS 2 0 rfl rfl (fun _ => rfl) eh dX8_check_34 (fun H locs hP hD hS => ?_)
      clear eh
      refine lv_iinc (v := x6 + 1) (lv' := [(3, .int (x6 + 1)), (0, .ref (a 0)), (1, .int x2), (2, .int x3)]) hx hb dX8_check_35 hl (k := 3) rfl rfl (by decide) rfl (fun ls hl => ?_)
      refine lv_goto (tgt := 16) hx hb dX8_check_38 (by decide) ?_
      exact ih16 _ _ h _ _ _ hP hD hS (lv_sub hl [1, 2, 3, 0] rfl)
