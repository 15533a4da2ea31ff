/-! THE CLAIM OUT OF ONE WALK OF THE LAW'S BODY. Your part is whole_start (and what it stands on); all else here is the same for every law, but numbers. -/
def R_law : String := "ImageCheckerLaw"
def lw_P (b : Addr) (xs : List Int32) (args : Array Value) (s : State) : Prop := args = #[.ref b] ∧ s.IntsAt b xs ∧ xs.length ≤ 3072 ∧ (Jvm.Cond.and given_1 narrow_1).before args s = true
def lw_Q (_ : Array Value) (s : State) (o : Outcome) (t : State) : Prop := o = .returned (some (.int 1)) ∧ Framed s o t [] 1053 14505
def lw_Z (below : List Frame) (a : Array Value) (s : State) : State → Prop := fun t => ∃ o, t.status = .running ∧ Ended t below o ∧ lw_Q a s o t
/-- the law's own end, with 1 on the stack, nothing written that was there before, its room as the claim has it -/
theorem lw_ret {p : Program} {l : Launch} {e : Env} {s : State} {m : MethodId} {below : List Frame} {meth : Method} {c : Code} {b : Nat} (hx : p.tables.exec = Jvm.exec) (hb : c.code = code) (hr : meth.sig.returnType = ret) (hlocks : meth.locks = false) {pc : Nat} {H : Heap} {ls : Array Slot} (hdg : decode code pc = .ok (.ireturn, 1)) : W p l e room_1 s m #[Value.ref b] below meth c H [] 1053 14505 (lw_Z below #[Value.ref b] s) (F0 m pc ls [.int 1]) := by
  intro T hT X
  obtain ⟨fs, hret, hrun, hended, hW, hframe⟩ := X.leave (v := some (.int 1)) (hlocks := hlocks) (fun h => by rw [hr] at h; cases h)
  have hmeth' : T.vm.method? m = some meth := X.method'
  refine ⟨T.setFrames fs, ?_, .returned (some (.int 1)), hrun, hended, rfl, ⟨_, rfl⟩, hW, hframe⟩
  jvm_step X.here [X.here.top, hx, hb, hdg, hmeth', hr, ret, narrow_b1]
  (try refine ⟨rfl, ?_⟩); (try refine ⟨rfl, ?_⟩)
  first | (intro acts; rw [hret _ acts rfl rfl rfl]) | rw [hret _ _ rfl rfl rfl]
  exact Steps.refl _
/-- what holds at the law's entry: the machine, the code, the tables' words (any of lw_tbl by 'hts w (by decide +kernel)'), the script of L ints xs at the cell b, what the Statement gives of the start (any of its parts by flat_of_before) -/
def lw_At (p : Program) (s : State) (m : MethodId) (meth : Method) (c : Code) (b L : Nat) (xs : Nat → Int32) : Prop :=
  p.tables.exec = Jvm.exec ∧ c.code = code ∧ meth.sig.returnType = ret ∧ c.maxLocals = 7 ∧ s.vm.findClass R_law = some m.cls ∧ (∀ w ∈ lw_tbl, w.before #[Value.ref b] s = true) ∧ va_X b L xs s s.heap ∧ b < s.heap.size ∧ meth.locks = false ∧ (Jvm.Cond.and given_1 narrow_1).before #[Value.ref b] s = true
/-! the law's body, a case of its switch at a time -/
abbrev lk_v (xs : Nat → Int32) (x4 j : Int32) : Int32 := xs (x4 + j).toNatClampNeg
def lk_b (x : Int32) : Int32 := if x = 0 then 0 else 1
theorem lk_cmp0 (x : Int64) : lg_cmp x x = 0 := by simp [lg_cmp]
theorem lk_same1 (f : Nat → Int64) (r : Int32) : lg_cmp (lk_out f r.toInt64 (0 : Int32).toNatClampNeg) r.toInt64 = 0 := by
  rw [show lk_out f r.toInt64 (0 : Int32).toNatClampNeg = r.toInt64 from pk_uLs]; exact lk_cmp0 _
theorem lk_same2 (f : Nat → Int64) {r r8 : Int32} {z : Int64} (h : lk_z r = lk_z r8) (e : lk_z r8 = z) : lg_cmp (lk_out f (lk_z r) (0 : Int32).toNatClampNeg) z = 0 := by
  rw [show lk_out f (lk_z r) (0 : Int32).toNatClampNeg = lk_z r from pk_uLs, h, e]; exact lk_cmp0 _
/-- what the walk of the law's body rests on -/
def lk_Cx (p : Program) (l : Launch) (s : State) (m : MethodId) (meth : Method) (c : Code) (D : va_G) (cI cZ cJ : ClassId) (bs L : Nat) (xs : Nat → Int32) : Prop :=
  p.tables.exec = Jvm.exec ∧ c.code = cL_law ∧ meth.sig.returnType = ret ∧ c.maxLocals = 7 ∧ s.vm.findClass RL = some m.cls ∧ (∀ w ∈ wsL_law, w.before #[Value.ref bs] s = true) ∧ va_X bs L xs s s.heap ∧ bs < s.heap.size ∧ meth.locks = false ∧ l.stackTraces = false ∧ va_K D vwCl (lk_T cI cZ cJ) s ∧ (∀ q ∈ ck_N, va_Nw (.methodLinkNest q.1 q.2.1 q.2.2 "ImageChecker") s) ∧ xk_P (fun q : Nat => s.heap.size ≤ q) s
section IKW
variable {S : Type} {p : Program} {l : Launch} {e : Env} {R : Room} {s : State} {m : MethodId} {args : Array Value} {below : List Frame} {meth : Method} {c : Code} {H : Heap} {locs : List Loc} {Q : State → Prop} {cc : ByteArray} {pc : Nat} {ls : Array Slot} {rest st0 : List Value} {cells slots : Nat}
variable {D : va_G} {Wd : S → va_W} {A : Nat → Prop} {σ1 : S} {own : String} {y : MethodName} {bytes : ByteArray} {maxL nL n index : Nat} {ret : Option FieldType} {ws Ts : List Cond} {rm : Room} {As : List Value} {r : Int32} {mc ms : Nat} {hh : List (Nat × Nat × Nat × Nat)} {P0 : State → Prop}
theorem ig_Wi (S0 : CallFix p m c cc nL s args Ts own) (hM : Met l y ws rm (va_Pc As P0) (ik_Qi D Wd A r σ1) mc ms A) (cw : vx_CSW R s args own index y bytes maxL ret hh ws rm mc ms n) (hbl : FrameBlind (va_Pc As P0)) (hpre : ∀ U : State, U.heap = H → s.WarmedH U.vm → va_Pc As P0 As.toArray U)
    (hS : va_S A s.heap H locs) (hn : As.length = n) (hsize : ls.size = nL) (hst : st0 = As.reverse ++ rest) (hW : (rest.map fun v => v.category).sum ≤ 8) (hdg : decode cc pc = .ok (.invokestatic index, 3)) (hcap : cells + mc ≤ R.cells ∧ slots + ms ≤ R.slots)
    (kk : ∀ (H1 : Heap) (locs1 : List Loc), va_P D vwCl (Wd σ1) H1 → va_D A (Wd σ1) → va_S A s.heap H1 locs1 → W p l e R s m args below meth c H1 locs1 (cells + mc) (slots + ms) Q (F0 m (pc + 3) ls (.int r :: rest))) : W p l e R s m args below meth c H locs cells slots Q (F0 m pc ls st0) := by
  refine va_calli (vx_runSW (As := As) (rest := rest) S0 hM cw ⟨hbl, hpre⟩ rfl hn hsize hst (lv_room hW) hdg hcap) hS (fun q _ h => h) (fun q h => h) (fun r1 u t H1 locs1 ht hvm hw hB hz hk hS1 => ?_)
  obtain ⟨rfl, rfl⟩ := hw
  obtain ⟨hP1, hD1⟩ := hB
  rw [ht] at hP1
  exact kk H1 locs1 hP1 hD1 hS1
end IKW
set_option maxHeartbeats 4000000 in
set_option maxRecDepth 100000 in
theorem lc_clear {p : Program} {l : Launch} {e : Env} {s : State} {m : MethodId} {below : List Frame} {meth : Method} {c : Code} {D : va_G} {cI cZ cJ : ClassId} {a g : Nat → Nat} {o bs L : Nat} {xs : Nat → Int32} (CX : lk_Cx p l s m meth c D cI cZ cJ bs L xs) (x4 : Int32) (hin : ∀ j : Int32, j = 0 ∨ j = 1 ∨ j = 2 ∨ j = 3 ∨ j = 4 ∨ j = 5 → vp_in (x4 + j) L) (cells slots : Nat) (hc1 : cells + 1 ≤ 1053) (hc2 : slots + 6 ≤ 14505) (σ : ck_S) (ρ : mk_S) (f : Nat → Int64) (σ1 : ck_S) (ρ1 : mk_S) (hA : fX7_clear  σ = some σ1) (hB : fX8_clear  ρ = some ρ1) (H : Heap) (locs : List Loc) (ls : Array Slot) (hP : va_P D vwCl ((lk_W cI cZ cJ a g o) (σ, ρ, f)) H) (hD : va_D (fun q : Nat => s.heap.size ≤ q) ((lk_W cI cZ cJ a g o) (σ, ρ, f))) (hS : va_S (fun q : Nat => s.heap.size ≤ q) s.heap H locs) (hl : lv_has ls 7 [(0, .ref bs), (1, .ref (a 0)), (2, .ref (g 0)), (3, .ref o), (4, .int x4)])
    (KK : ∀ (f : Nat → Int64) (H : Heap) (locs : List Loc) (ls : Array Slot), va_P D vwCl ((lk_W cI cZ cJ a g o) (σ1, ρ1, f)) H → va_D (fun q : Nat => s.heap.size ≤ q) ((lk_W cI cZ cJ a g o) (σ1, ρ1, f)) → va_S (fun q : Nat => s.heap.size ≤ q) s.heap H locs → lv_has ls 7 [(0, .ref bs), (1, .ref (a 0)), (2, .ref (g 0)), (3, .ref o), (4, .int x4)] → W p l e room_1 s m #[Value.ref bs] below meth c H locs (cells + 1) (slots + 6) (lw_Z below #[Value.ref bs] s) (F0 m 968 ls [])) :
    W p l e room_1 s m #[Value.ref bs] below meth c H locs cells slots (lw_Z below #[Value.ref bs] s) (F0 m 112 ls []) := by
  obtain ⟨hx, hb, hr, hml, hown, hts, hSc, hbl, hlocks, hl0, hK, hN, hXk⟩ := CX
  have hbA : ¬ (fun q : Nat => s.heap.size ≤ q) bs := Nat.not_le.mpr hbl
  refine lv_aload_n hx hb dL_law_112 rfl (lv_at hl 1 rfl) ?_
  refine ig_Vv (As := []) (rest := []) ⟨hx, hb, hml, hown, hts⟩ (fr_v (isT := [0, 1]) (fun A => c_X7_clear l D cI cZ a A  σ σ1 hA) (lk_em cI cZ cJ a g o σ σ1 ρ f) rfl (fun _ h => h) (fun q : Nat => s.heap.size ≤ q)) (cwV 0 hts gL_law_X7_clear rfl rfl rfl (by decide +kernel) ⟨Nat.le_of_ble_eq_true rfl, Nat.le_of_ble_eq_true rfl⟩) (va_recv hK hP (ci := 5) (q0 := 0) rfl rfl) hP hK hD hN hS rfl hl.1 rfl (Nat.le_of_ble_eq_true rfl) dL_law_113 ⟨by show cells + 0 ≤ 1053; omega, by show slots + 0 ≤ 14505; omega⟩ (fun H locs hP hD hS => ?_)
  refine lv_aload_n hx hb dL_law_116 rfl (lv_at hl 2 rfl) ?_
  refine ig_Vv (As := []) (rest := []) ⟨hx, hb, hml, hown, hts⟩ (fr_v (isT := [0, 1]) (fun A => c_X8_clear l D cI cZ g A  ρ ρ1 hB) (lk_emM cI cZ cJ a g o σ1 ρ ρ1 f) rfl (fun _ h => absurd h List.not_mem_nil) (fun q : Nat => s.heap.size ≤ q)) (cwV 0 hts gL_law_X8_clear rfl rfl rfl (by decide +kernel) ⟨Nat.le_of_ble_eq_true rfl, Nat.le_of_ble_eq_true rfl⟩) (va_recv hK hP (ci := 6) (q0 := 16) rfl rfl) hP hK hD hN hS rfl hl.1 rfl (Nat.le_of_ble_eq_true rfl) dL_law_117 ⟨by show cells + 0 ≤ 1053; omega, by show slots + 0 ≤ 14505; omega⟩ (fun H locs hP hD hS => ?_)
  refine lv_goto (tgt := 968) hx hb dL_law_120 (by decide) ?_
  refine W.widen (k := cells + 1) (n := slots + 6) (by omega) (by omega) ?_
  exact KK _ _ _ _ hP hD hS (lv_sub hl [0, 1, 2, 3, 4] rfl)
set_option maxHeartbeats 4000000 in
set_option maxRecDepth 100000 in
theorem lc_set {p : Program} {l : Launch} {e : Env} {s : State} {m : MethodId} {below : List Frame} {meth : Method} {c : Code} {D : va_G} {cI cZ cJ : ClassId} {a g : Nat → Nat} {o bs L : Nat} {xs : Nat → Int32} (CX : lk_Cx p l s m meth c D cI cZ cJ bs L xs) (x4 : Int32) (hin : ∀ j : Int32, j = 0 ∨ j = 1 ∨ j = 2 ∨ j = 3 ∨ j = 4 ∨ j = 5 → vp_in (x4 + j) L) (cells slots : Nat) (hc1 : cells + 1 ≤ 1053) (hc2 : slots + 6 ≤ 14505) (σ : ck_S) (ρ : mk_S) (f : Nat → Int64) (σ1 : ck_S) (ρ1 : mk_S) (hA : fX7_set (lk_v xs x4 1) (lk_v xs x4 2) (lk_v xs x4 3) σ = some σ1) (hB : fX8_set (lk_v xs x4 1) (lk_v xs x4 2) (lk_v xs x4 3) ρ = some ρ1) (hC : mk_code ρ1 = 0) (H : Heap) (locs : List Loc) (ls : Array Slot) (hP : va_P D vwCl ((lk_W cI cZ cJ a g o) (σ, ρ, f)) H) (hD : va_D (fun q : Nat => s.heap.size ≤ q) ((lk_W cI cZ cJ a g o) (σ, ρ, f))) (hS : va_S (fun q : Nat => s.heap.size ≤ q) s.heap H locs) (hl : lv_has ls 7 [(0, .ref bs), (1, .ref (a 0)), (2, .ref (g 0)), (3, .ref o), (4, .int x4)])
    (KK : ∀ (f : Nat → Int64) (H : Heap) (locs : List Loc) (ls : Array Slot), va_P D vwCl ((lk_W cI cZ cJ a g o) (σ1, ρ1, f)) H → va_D (fun q : Nat => s.heap.size ≤ q) ((lk_W cI cZ cJ a g o) (σ1, ρ1, f)) → va_S (fun q : Nat => s.heap.size ≤ q) s.heap H locs → lv_has ls 7 [(0, .ref bs), (1, .ref (a 0)), (2, .ref (g 0)), (3, .ref o), (4, .int x4)] → W p l e room_1 s m #[Value.ref bs] below meth c H locs (cells + 1) (slots + 6) (lw_Z below #[Value.ref bs] s) (F0 m 968 ls [])) :
    W p l e room_1 s m #[Value.ref bs] below meth c H locs cells slots (lw_Z below #[Value.ref bs] s) (F0 m 123 ls []) := by
  obtain ⟨hx, hb, hr, hml, hown, hts, hSc, hbl, hlocks, hl0, hK, hN, hXk⟩ := CX
  have hbA : ¬ (fun q : Nat => s.heap.size ≤ q) bs := Nat.not_le.mpr hbl
  refine lv_aload_n hx hb dL_law_123 rfl (lv_at hl 1 rfl) ?_
  refine lv_aload_n hx hb dL_law_124 rfl (lv_at hl 0 rfl) ?_
  refine lv_iload hx hb dL_law_125 (lv_at hl 4 rfl) ?_
  refine lv_iconst (v := 1) hx hb dL_law_127 (by decide) ?_
  refine lv_iadd hx hb dL_law_128 ?_
  refine va_sld hx hb hSc hbl hbA hS (hin 1 (by decide)) dL_law_129 ?_
  refine lv_aload_n hx hb dL_law_130 rfl (lv_at hl 0 rfl) ?_
  refine lv_iload hx hb dL_law_131 (lv_at hl 4 rfl) ?_
  refine lv_iconst (v := 2) hx hb dL_law_133 (by decide) ?_
  refine lv_iadd hx hb dL_law_134 ?_
  refine va_sld hx hb hSc hbl hbA hS (hin 2 (by decide)) dL_law_135 ?_
  refine lv_aload_n hx hb dL_law_136 rfl (lv_at hl 0 rfl) ?_
  refine lv_iload hx hb dL_law_137 (lv_at hl 4 rfl) ?_
  refine lv_iconst (v := 3) hx hb dL_law_139 (by decide) ?_
  refine lv_iadd hx hb dL_law_140 ?_
  refine va_sld hx hb hSc hbl hbA hS (hin 3 (by decide)) dL_law_141 ?_
  refine ig_Wi (As := [.ref (a 0), .int (lk_v xs x4 1), .int (lk_v xs x4 2), .int (lk_v xs x4 3)]) (rest := []) (hh := [(0, 7, 10, 13)]) ⟨hx, hb, hml, hown, hts⟩ (c_L_set l D cI cZ cJ a g o (fun q : Nat => s.heap.size ≤ q) (lk_v xs x4 1) (lk_v xs x4 2) (lk_v xs x4 3) σ σ1 ρ f hA) (vx_cwSW 4 hts gL_law_L_set rfl rfl rfl (by decide +kernel) ⟨Nat.le_of_ble_eq_true rfl, Nat.le_of_ble_eq_true rfl⟩) ik_blind (ik_pre hP hK hD hN) hS rfl hl.1 rfl (Nat.le_of_ble_eq_true rfl) dL_law_142 ⟨by show cells + 0 ≤ 1053; omega, by show slots + 0 ≤ 14505; omega⟩ (fun H locs hP hD hS => ?_)
  refine lv_istore (lv' := [(5, .int 0), (0, .ref bs), (1, .ref (a 0)), (2, .ref (g 0)), (3, .ref o), (4, .int x4)]) hx hb dL_law_145 hl (by decide) rfl (fun ls hl => ?_)
  refine lv_aload_n hx hb dL_law_147 rfl (lv_at hl 3 rfl) ?_
  refine lv_aload_n hx hb dL_law_148 rfl (lv_at hl 1 rfl) ?_
  refine lv_iload hx hb dL_law_149 (lv_at hl 5 rfl) ?_
  refine lv_iconst (v := 1) hx hb dL_law_151 (by decide) ?_
  refine lv_iadd hx hb dL_law_152 ?_
  refine va_sld hx hb hSc hbl hbA hS (hin 1 (by decide)) dL_law_153 ?_
  refine lv_aload_n hx hb dL_law_154 rfl (lv_at hl 1 rfl) ?_
  refine lv_iload hx hb dL_law_155 (lv_at hl 5 rfl) ?_
  refine lv_iconst (v := 2) hx hb dL_law_157 (by decide) ?_
  refine lv_iadd hx hb dL_law_158 ?_
  refine va_sld hx hb hSc hbl hbA hS (hin 2 (by decide)) dL_law_159 ?_
  refine lv_aload_n hx hb dL_law_160 rfl (lv_at hl 1 rfl) ?_
  refine lv_iload hx hb dL_law_161 (lv_at hl 5 rfl) ?_
  refine lv_iconst (v := 3) hx hb dL_law_163 (by decide) ?_
  refine lv_iadd hx hb dL_law_164 ?_
  refine va_sld hx hb hSc hbl hbA hS (hin 3 (by decide)) dL_law_165 ?_
  refine ig_Vv (As := [.int (lk_v xs x4 1), .int (lk_v xs x4 2), .int (lk_v xs x4 3)]) (rest := []) ⟨hx, hb, hml, hown, hts⟩ (fr_v (isT := [0, 1]) (fun A => c_X8_set l D cI cZ g A (lk_v xs x4 1) (lk_v xs x4 2) (lk_v xs x4 3) ρ ρ1 hB) (lk_emM cI cZ cJ a g o σ1 ρ ρ1 f) rfl (fun _ h => absurd h List.not_mem_nil) (fun q : Nat => s.heap.size ≤ q)) (cwV 3 hts gL_law_X8_set rfl rfl rfl (by decide +kernel) ⟨Nat.le_of_ble_eq_true rfl, Nat.le_of_ble_eq_true rfl⟩) (va_recv hK hP (ci := 6) (q0 := 16) rfl rfl) hP hK hD hN hS rfl hl.1 rfl (Nat.le_of_ble_eq_true rfl) dL_law_166 ⟨by show cells + 0 ≤ 1053; omega, by show slots + 0 ≤ 14505; omega⟩ (fun H locs hP hD hS => ?_)
  refine lv_aload_n hx hb dL_law_169 rfl (lv_at hl 3 rfl) ?_
  refine ig_Vi (As := []) (rest := []) ⟨hx, hb, hml, hown, hts⟩ (fr_i (isT := [0, 1]) (fun A => c_X8_thrown l D cI cZ g A  ρ1 (mk_code ρ1) rfl) (lk_emM cI cZ cJ a g o σ1 ρ1 ρ1 f) rfl (fun _ h => absurd h List.not_mem_nil) (fun q : Nat => s.heap.size ≤ q)) (cwV 0 hts gL_law_X8_thrown rfl rfl rfl (by decide +kernel) ⟨Nat.le_of_ble_eq_true rfl, Nat.le_of_ble_eq_true rfl⟩) (va_recv hK hP (ci := 6) (q0 := 16) rfl rfl) hP hK hD hN hS rfl hl.1 rfl (Nat.le_of_ble_eq_true rfl) dL_law_170 ⟨by show cells + 0 ≤ 1053; omega, by show slots + 0 ≤ 14505; omega⟩ (fun H locs hP hD hS => ?_)
  refine lv_iload hx hb dL_law_173 (lv_at hl 0 rfl) ?_
  refine lv_icmp_eq (tgt := 180) hx hb dL_law_175 (by decide) (fun _ => ?_) (fun c9 => absurd hC c9)
  refine lv_goto (tgt := 968) hx hb dL_law_180 (by decide) ?_
  refine W.widen (k := cells + 1) (n := slots + 6) (by omega) (by omega) ?_
  exact KK _ _ _ _ hP hD hS (lv_sub hl [1, 2, 3, 4, 5] rfl)
set_option maxHeartbeats 4000000 in
set_option maxRecDepth 100000 in
theorem lc_set_t {p : Program} {l : Launch} {e : Env} {s : State} {m : MethodId} {below : List Frame} {meth : Method} {c : Code} {D : va_G} {cI cZ cJ : ClassId} {a g : Nat → Nat} {o bs L : Nat} {xs : Nat → Int32} (CX : lk_Cx p l s m meth c D cI cZ cJ bs L xs) (x4 : Int32) (hin : ∀ j : Int32, j = 0 ∨ j = 1 ∨ j = 2 ∨ j = 3 ∨ j = 4 ∨ j = 5 → vp_in (x4 + j) L) (cells slots : Nat) (hc1 : cells + 1 ≤ 1053) (hc2 : slots + 6 ≤ 14505) (σ : ck_S) (ρ : mk_S) (f : Nat → Int64) (ρ1 : mk_S) (hA : tX7_set (lk_v xs x4 1) (lk_v xs x4 2) (lk_v xs x4 3) σ = some ()) (hB : fX8_set (lk_v xs x4 1) (lk_v xs x4 2) (lk_v xs x4 3) ρ = some ρ1) (hC : mk_code ρ1 = 1) (H : Heap) (locs : List Loc) (ls : Array Slot) (hP : va_P D vwCl ((lk_W cI cZ cJ a g o) (σ, ρ, f)) H) (hD : va_D (fun q : Nat => s.heap.size ≤ q) ((lk_W cI cZ cJ a g o) (σ, ρ, f))) (hS : va_S (fun q : Nat => s.heap.size ≤ q) s.heap H locs) (hl : lv_has ls 7 [(0, .ref bs), (1, .ref (a 0)), (2, .ref (g 0)), (3, .ref o), (4, .int x4)])
    (KK : ∀ (f : Nat → Int64) (H : Heap) (locs : List Loc) (ls : Array Slot), va_P D vwCl ((lk_W cI cZ cJ a g o) (σ, ρ1, f)) H → va_D (fun q : Nat => s.heap.size ≤ q) ((lk_W cI cZ cJ a g o) (σ, ρ1, f)) → va_S (fun q : Nat => s.heap.size ≤ q) s.heap H locs → lv_has ls 7 [(0, .ref bs), (1, .ref (a 0)), (2, .ref (g 0)), (3, .ref o), (4, .int x4)] → W p l e room_1 s m #[Value.ref bs] below meth c H locs (cells + 1) (slots + 6) (lw_Z below #[Value.ref bs] s) (F0 m 968 ls [])) :
    W p l e room_1 s m #[Value.ref bs] below meth c H locs cells slots (lw_Z below #[Value.ref bs] s) (F0 m 123 ls []) := by
  obtain ⟨hx, hb, hr, hml, hown, hts, hSc, hbl, hlocks, hl0, hK, hN, hXk⟩ := CX
  have hbA : ¬ (fun q : Nat => s.heap.size ≤ q) bs := Nat.not_le.mpr hbl
  refine lv_aload_n hx hb dL_law_123 rfl (lv_at hl 1 rfl) ?_
  refine lv_aload_n hx hb dL_law_124 rfl (lv_at hl 0 rfl) ?_
  refine lv_iload hx hb dL_law_125 (lv_at hl 4 rfl) ?_
  refine lv_iconst (v := 1) hx hb dL_law_127 (by decide) ?_
  refine lv_iadd hx hb dL_law_128 ?_
  refine va_sld hx hb hSc hbl hbA hS (hin 1 (by decide)) dL_law_129 ?_
  refine lv_aload_n hx hb dL_law_130 rfl (lv_at hl 0 rfl) ?_
  refine lv_iload hx hb dL_law_131 (lv_at hl 4 rfl) ?_
  refine lv_iconst (v := 2) hx hb dL_law_133 (by decide) ?_
  refine lv_iadd hx hb dL_law_134 ?_
  refine va_sld hx hb hSc hbl hbA hS (hin 2 (by decide)) dL_law_135 ?_
  refine lv_aload_n hx hb dL_law_136 rfl (lv_at hl 0 rfl) ?_
  refine lv_iload hx hb dL_law_137 (lv_at hl 4 rfl) ?_
  refine lv_iconst (v := 3) hx hb dL_law_139 (by decide) ?_
  refine lv_iadd hx hb dL_law_140 ?_
  refine va_sld hx hb hSc hbl hbA hS (hin 3 (by decide)) dL_law_141 ?_
  refine ig_Wi (As := [.ref (a 0), .int (lk_v xs x4 1), .int (lk_v xs x4 2), .int (lk_v xs x4 3)]) (rest := []) (hh := [(0, 7, 10, 13)]) ⟨hx, hb, hml, hown, hts⟩ (t_L_set l hl0 D cI cZ cJ a g o (fun q : Nat => s.heap.size ≤ q) (lk_v xs x4 1) (lk_v xs x4 2) (lk_v xs x4 3) σ ρ f hA) (vx_cwSW 4 hts gL_law_L_set rfl rfl rfl (by decide +kernel) ⟨Nat.le_of_ble_eq_true rfl, Nat.le_of_ble_eq_true rfl⟩) xk_blind (xk_pre hP hK hD hN hXk hS) hS rfl hl.1 rfl (Nat.le_of_ble_eq_true rfl) dL_law_142 ⟨by show cells + 1 ≤ 1053; omega, by show slots + 6 ≤ 14505; omega⟩ (fun H locs hP hD hS => ?_)
  refine lv_istore (lv' := [(5, .int 1), (0, .ref bs), (1, .ref (a 0)), (2, .ref (g 0)), (3, .ref o), (4, .int x4)]) hx hb dL_law_145 hl (by decide) rfl (fun ls hl => ?_)
  refine lv_aload_n hx hb dL_law_147 rfl (lv_at hl 3 rfl) ?_
  refine lv_aload_n hx hb dL_law_148 rfl (lv_at hl 1 rfl) ?_
  refine lv_iload hx hb dL_law_149 (lv_at hl 5 rfl) ?_
  refine lv_iconst (v := 1) hx hb dL_law_151 (by decide) ?_
  refine lv_iadd hx hb dL_law_152 ?_
  refine va_sld hx hb hSc hbl hbA hS (hin 1 (by decide)) dL_law_153 ?_
  refine lv_aload_n hx hb dL_law_154 rfl (lv_at hl 1 rfl) ?_
  refine lv_iload hx hb dL_law_155 (lv_at hl 5 rfl) ?_
  refine lv_iconst (v := 2) hx hb dL_law_157 (by decide) ?_
  refine lv_iadd hx hb dL_law_158 ?_
  refine va_sld hx hb hSc hbl hbA hS (hin 2 (by decide)) dL_law_159 ?_
  refine lv_aload_n hx hb dL_law_160 rfl (lv_at hl 1 rfl) ?_
  refine lv_iload hx hb dL_law_161 (lv_at hl 5 rfl) ?_
  refine lv_iconst (v := 3) hx hb dL_law_163 (by decide) ?_
  refine lv_iadd hx hb dL_law_164 ?_
  refine va_sld hx hb hSc hbl hbA hS (hin 3 (by decide)) dL_law_165 ?_
  refine ig_Vv (As := [.int (lk_v xs x4 1), .int (lk_v xs x4 2), .int (lk_v xs x4 3)]) (rest := []) ⟨hx, hb, hml, hown, hts⟩ (fr_v (isT := [0, 1]) (fun A => c_X8_set l D cI cZ g A (lk_v xs x4 1) (lk_v xs x4 2) (lk_v xs x4 3) ρ ρ1 hB) (lk_emM cI cZ cJ a g o σ ρ ρ1 f) rfl (fun _ h => absurd h List.not_mem_nil) (fun q : Nat => s.heap.size ≤ q)) (cwV 3 hts gL_law_X8_set rfl rfl rfl (by decide +kernel) ⟨Nat.le_of_ble_eq_true rfl, Nat.le_of_ble_eq_true rfl⟩) (va_recv hK hP (ci := 6) (q0 := 16) rfl rfl) hP hK hD hN hS rfl hl.1 rfl (Nat.le_of_ble_eq_true rfl) dL_law_166 ⟨by show (cells + 1) + 0 ≤ 1053; omega, by show (slots + 6) + 0 ≤ 14505; omega⟩ (fun H locs hP hD hS => ?_)
  refine lv_aload_n hx hb dL_law_169 rfl (lv_at hl 3 rfl) ?_
  refine ig_Vi (As := []) (rest := []) ⟨hx, hb, hml, hown, hts⟩ (fr_i (isT := [0, 1]) (fun A => c_X8_thrown l D cI cZ g A  ρ1 (mk_code ρ1) rfl) (lk_emM cI cZ cJ a g o σ ρ1 ρ1 f) rfl (fun _ h => absurd h List.not_mem_nil) (fun q : Nat => s.heap.size ≤ q)) (cwV 0 hts gL_law_X8_thrown rfl rfl rfl (by decide +kernel) ⟨Nat.le_of_ble_eq_true rfl, Nat.le_of_ble_eq_true rfl⟩) (va_recv hK hP (ci := 6) (q0 := 16) rfl rfl) hP hK hD hN hS rfl hl.1 rfl (Nat.le_of_ble_eq_true rfl) dL_law_170 ⟨by show (cells + 1) + 0 ≤ 1053; omega, by show (slots + 6) + 0 ≤ 14505; omega⟩ (fun H locs hP hD hS => ?_)
  refine lv_iload hx hb dL_law_173 (lv_at hl 0 rfl) ?_
  refine lv_icmp_eq (tgt := 180) hx hb dL_law_175 (by decide) (fun _ => ?_) (fun c9 => absurd hC c9)
  refine lv_goto (tgt := 968) hx hb dL_law_180 (by decide) ?_
  refine W.widen (k := cells + 1) (n := slots + 6) (by omega) (by omega) ?_
  exact KK _ _ _ _ hP hD hS (lv_sub hl [1, 2, 3, 4, 5] rfl)
set_option maxHeartbeats 4000000 in
set_option maxRecDepth 100000 in
theorem lc_run {p : Program} {l : Launch} {e : Env} {s : State} {m : MethodId} {below : List Frame} {meth : Method} {c : Code} {D : va_G} {cI cZ cJ : ClassId} {a g : Nat → Nat} {o bs L : Nat} {xs : Nat → Int32} (CX : lk_Cx p l s m meth c D cI cZ cJ bs L xs) (x4 : Int32) (hin : ∀ j : Int32, j = 0 ∨ j = 1 ∨ j = 2 ∨ j = 3 ∨ j = 4 ∨ j = 5 → vp_in (x4 + j) L) (cells slots : Nat) (hc1 : cells + 1 ≤ 1053) (hc2 : slots + 6 ≤ 14505) (σ : ck_S) (ρ : mk_S) (f : Nat → Int64) (σ1 : ck_S) (ρ1 : mk_S) (hA : fX7_run (lk_v xs x4 1) (lk_v xs x4 2) (lk_v xs x4 3) (lk_v xs x4 4) (lk_v xs x4 5) σ = some σ1) (hB : fX8_run (lk_v xs x4 1) (lk_v xs x4 2) (lk_v xs x4 3) (lk_v xs x4 4) (lk_v xs x4 5) ρ = some ρ1) (hC : mk_code ρ1 = 0) (H : Heap) (locs : List Loc) (ls : Array Slot) (hP : va_P D vwCl ((lk_W cI cZ cJ a g o) (σ, ρ, f)) H) (hD : va_D (fun q : Nat => s.heap.size ≤ q) ((lk_W cI cZ cJ a g o) (σ, ρ, f))) (hS : va_S (fun q : Nat => s.heap.size ≤ q) s.heap H locs) (hl : lv_has ls 7 [(0, .ref bs), (1, .ref (a 0)), (2, .ref (g 0)), (3, .ref o), (4, .int x4)])
    (KK : ∀ (f : Nat → Int64) (H : Heap) (locs : List Loc) (ls : Array Slot), va_P D vwCl ((lk_W cI cZ cJ a g o) (σ1, ρ1, f)) H → va_D (fun q : Nat => s.heap.size ≤ q) ((lk_W cI cZ cJ a g o) (σ1, ρ1, f)) → va_S (fun q : Nat => s.heap.size ≤ q) s.heap H locs → lv_has ls 7 [(0, .ref bs), (1, .ref (a 0)), (2, .ref (g 0)), (3, .ref o), (4, .int x4)] → W p l e room_1 s m #[Value.ref bs] below meth c H locs (cells + 1) (slots + 6) (lw_Z below #[Value.ref bs] s) (F0 m 968 ls [])) :
    W p l e room_1 s m #[Value.ref bs] below meth c H locs cells slots (lw_Z below #[Value.ref bs] s) (F0 m 183 ls []) := by
  obtain ⟨hx, hb, hr, hml, hown, hts, hSc, hbl, hlocks, hl0, hK, hN, hXk⟩ := CX
  have hbA : ¬ (fun q : Nat => s.heap.size ≤ q) bs := Nat.not_le.mpr hbl
  refine lv_aload_n hx hb dL_law_183 rfl (lv_at hl 1 rfl) ?_
  refine lv_aload_n hx hb dL_law_184 rfl (lv_at hl 0 rfl) ?_
  refine lv_iload hx hb dL_law_185 (lv_at hl 4 rfl) ?_
  refine lv_iconst (v := 1) hx hb dL_law_187 (by decide) ?_
  refine lv_iadd hx hb dL_law_188 ?_
  refine va_sld hx hb hSc hbl hbA hS (hin 1 (by decide)) dL_law_189 ?_
  refine lv_aload_n hx hb dL_law_190 rfl (lv_at hl 0 rfl) ?_
  refine lv_iload hx hb dL_law_191 (lv_at hl 4 rfl) ?_
  refine lv_iconst (v := 2) hx hb dL_law_193 (by decide) ?_
  refine lv_iadd hx hb dL_law_194 ?_
  refine va_sld hx hb hSc hbl hbA hS (hin 2 (by decide)) dL_law_195 ?_
  refine lv_aload_n hx hb dL_law_196 rfl (lv_at hl 0 rfl) ?_
  refine lv_iload hx hb dL_law_197 (lv_at hl 4 rfl) ?_
  refine lv_iconst (v := 3) hx hb dL_law_199 (by decide) ?_
  refine lv_iadd hx hb dL_law_200 ?_
  refine va_sld hx hb hSc hbl hbA hS (hin 3 (by decide)) dL_law_201 ?_
  refine lv_aload_n hx hb dL_law_202 rfl (lv_at hl 0 rfl) ?_
  refine lv_iload hx hb dL_law_203 (lv_at hl 4 rfl) ?_
  refine lv_iconst (v := 4) hx hb dL_law_205 (by decide) ?_
  refine lv_iadd hx hb dL_law_206 ?_
  refine va_sld hx hb hSc hbl hbA hS (hin 4 (by decide)) dL_law_207 ?_
  refine lv_aload_n hx hb dL_law_208 rfl (lv_at hl 0 rfl) ?_
  refine lv_iload hx hb dL_law_209 (lv_at hl 4 rfl) ?_
  refine lv_iconst (v := 5) hx hb dL_law_211 (by decide) ?_
  refine lv_iadd hx hb dL_law_212 ?_
  refine va_sld hx hb hSc hbl hbA hS (hin 5 (by decide)) dL_law_213 ?_
  refine ig_Wi (As := [.ref (a 0), .int (lk_v xs x4 1), .int (lk_v xs x4 2), .int (lk_v xs x4 3), .int (lk_v xs x4 4), .int (lk_v xs x4 5)]) (rest := []) (hh := [(0, 11, 14, 13)]) ⟨hx, hb, hml, hown, hts⟩ (c_L_run l D cI cZ cJ a g o (fun q : Nat => s.heap.size ≤ q) (lk_v xs x4 1) (lk_v xs x4 2) (lk_v xs x4 3) (lk_v xs x4 4) (lk_v xs x4 5) σ σ1 ρ f hA) (vx_cwSW 6 hts gL_law_L_run rfl rfl rfl (by decide +kernel) ⟨Nat.le_of_ble_eq_true rfl, Nat.le_of_ble_eq_true rfl⟩) ik_blind (ik_pre hP hK hD hN) hS rfl hl.1 rfl (Nat.le_of_ble_eq_true rfl) dL_law_214 ⟨by show cells + 0 ≤ 1053; omega, by show slots + 0 ≤ 14505; omega⟩ (fun H locs hP hD hS => ?_)
  refine lv_istore (lv' := [(5, .int 0), (0, .ref bs), (1, .ref (a 0)), (2, .ref (g 0)), (3, .ref o), (4, .int x4)]) hx hb dL_law_217 hl (by decide) rfl (fun ls hl => ?_)
  refine lv_aload_n hx hb dL_law_219 rfl (lv_at hl 3 rfl) ?_
  refine lv_aload_n hx hb dL_law_220 rfl (lv_at hl 1 rfl) ?_
  refine lv_iload hx hb dL_law_221 (lv_at hl 5 rfl) ?_
  refine lv_iconst (v := 1) hx hb dL_law_223 (by decide) ?_
  refine lv_iadd hx hb dL_law_224 ?_
  refine va_sld hx hb hSc hbl hbA hS (hin 1 (by decide)) dL_law_225 ?_
  refine lv_aload_n hx hb dL_law_226 rfl (lv_at hl 1 rfl) ?_
  refine lv_iload hx hb dL_law_227 (lv_at hl 5 rfl) ?_
  refine lv_iconst (v := 2) hx hb dL_law_229 (by decide) ?_
  refine lv_iadd hx hb dL_law_230 ?_
  refine va_sld hx hb hSc hbl hbA hS (hin 2 (by decide)) dL_law_231 ?_
  refine lv_aload_n hx hb dL_law_232 rfl (lv_at hl 1 rfl) ?_
  refine lv_iload hx hb dL_law_233 (lv_at hl 5 rfl) ?_
  refine lv_iconst (v := 3) hx hb dL_law_235 (by decide) ?_
  refine lv_iadd hx hb dL_law_236 ?_
  refine va_sld hx hb hSc hbl hbA hS (hin 3 (by decide)) dL_law_237 ?_
  refine lv_aload_n hx hb dL_law_238 rfl (lv_at hl 1 rfl) ?_
  refine lv_iload hx hb dL_law_239 (lv_at hl 5 rfl) ?_
  refine lv_iconst (v := 4) hx hb dL_law_241 (by decide) ?_
  refine lv_iadd hx hb dL_law_242 ?_
  refine va_sld hx hb hSc hbl hbA hS (hin 4 (by decide)) dL_law_243 ?_
  refine lv_aload_n hx hb dL_law_244 rfl (lv_at hl 1 rfl) ?_
  refine lv_iload hx hb dL_law_245 (lv_at hl 5 rfl) ?_
  refine lv_iconst (v := 5) hx hb dL_law_247 (by decide) ?_
  refine lv_iadd hx hb dL_law_248 ?_
  refine va_sld hx hb hSc hbl hbA hS (hin 5 (by decide)) dL_law_249 ?_
  refine ig_Vv (As := [.int (lk_v xs x4 1), .int (lk_v xs x4 2), .int (lk_v xs x4 3), .int (lk_v xs x4 4), .int (lk_v xs x4 5)]) (rest := []) ⟨hx, hb, hml, hown, hts⟩ (fr_v (isT := [0, 1]) (fun A => c_X8_run l D cI cZ g A (lk_v xs x4 1) (lk_v xs x4 2) (lk_v xs x4 3) (lk_v xs x4 4) (lk_v xs x4 5) ρ ρ1 hB) (lk_emM cI cZ cJ a g o σ1 ρ ρ1 f) rfl (fun _ h => absurd h List.not_mem_nil) (fun q : Nat => s.heap.size ≤ q)) (cwV 5 hts gL_law_X8_run rfl rfl rfl (by decide +kernel) ⟨Nat.le_of_ble_eq_true rfl, Nat.le_of_ble_eq_true rfl⟩) (va_recv hK hP (ci := 6) (q0 := 16) rfl rfl) hP hK hD hN hS rfl hl.1 rfl (Nat.le_of_ble_eq_true rfl) dL_law_250 ⟨by show cells + 0 ≤ 1053; omega, by show slots + 0 ≤ 14505; omega⟩ (fun H locs hP hD hS => ?_)
  refine lv_aload_n hx hb dL_law_253 rfl (lv_at hl 3 rfl) ?_
  refine ig_Vi (As := []) (rest := []) ⟨hx, hb, hml, hown, hts⟩ (fr_i (isT := [0, 1]) (fun A => c_X8_thrown l D cI cZ g A  ρ1 (mk_code ρ1) rfl) (lk_emM cI cZ cJ a g o σ1 ρ1 ρ1 f) rfl (fun _ h => absurd h List.not_mem_nil) (fun q : Nat => s.heap.size ≤ q)) (cwV 0 hts gL_law_X8_thrown rfl rfl rfl (by decide +kernel) ⟨Nat.le_of_ble_eq_true rfl, Nat.le_of_ble_eq_true rfl⟩) (va_recv hK hP (ci := 6) (q0 := 16) rfl rfl) hP hK hD hN hS rfl hl.1 rfl (Nat.le_of_ble_eq_true rfl) dL_law_254 ⟨by show cells + 0 ≤ 1053; omega, by show slots + 0 ≤ 14505; omega⟩ (fun H locs hP hD hS => ?_)
  refine lv_iload hx hb dL_law_257 (lv_at hl 0 rfl) ?_
  refine lv_icmp_eq (tgt := 264) hx hb dL_law_259 (by decide) (fun _ => ?_) (fun c9 => absurd hC c9)
  refine lv_goto (tgt := 968) hx hb dL_law_264 (by decide) ?_
  refine W.widen (k := cells + 1) (n := slots + 6) (by omega) (by omega) ?_
  exact KK _ _ _ _ hP hD hS (lv_sub hl [1, 2, 3, 4, 5] rfl)
set_option maxHeartbeats 4000000 in
set_option maxRecDepth 100000 in
theorem lc_run_t {p : Program} {l : Launch} {e : Env} {s : State} {m : MethodId} {below : List Frame} {meth : Method} {c : Code} {D : va_G} {cI cZ cJ : ClassId} {a g : Nat → Nat} {o bs L : Nat} {xs : Nat → Int32} (CX : lk_Cx p l s m meth c D cI cZ cJ bs L xs) (x4 : Int32) (hin : ∀ j : Int32, j = 0 ∨ j = 1 ∨ j = 2 ∨ j = 3 ∨ j = 4 ∨ j = 5 → vp_in (x4 + j) L) (cells slots : Nat) (hc1 : cells + 1 ≤ 1053) (hc2 : slots + 6 ≤ 14505) (σ : ck_S) (ρ : mk_S) (f : Nat → Int64) (ρ1 : mk_S) (hA : tX7_run (lk_v xs x4 1) (lk_v xs x4 2) (lk_v xs x4 3) (lk_v xs x4 4) (lk_v xs x4 5) σ = some ()) (hB : fX8_run (lk_v xs x4 1) (lk_v xs x4 2) (lk_v xs x4 3) (lk_v xs x4 4) (lk_v xs x4 5) ρ = some ρ1) (hC : mk_code ρ1 = 1) (H : Heap) (locs : List Loc) (ls : Array Slot) (hP : va_P D vwCl ((lk_W cI cZ cJ a g o) (σ, ρ, f)) H) (hD : va_D (fun q : Nat => s.heap.size ≤ q) ((lk_W cI cZ cJ a g o) (σ, ρ, f))) (hS : va_S (fun q : Nat => s.heap.size ≤ q) s.heap H locs) (hl : lv_has ls 7 [(0, .ref bs), (1, .ref (a 0)), (2, .ref (g 0)), (3, .ref o), (4, .int x4)])
    (KK : ∀ (f : Nat → Int64) (H : Heap) (locs : List Loc) (ls : Array Slot), va_P D vwCl ((lk_W cI cZ cJ a g o) (σ, ρ1, f)) H → va_D (fun q : Nat => s.heap.size ≤ q) ((lk_W cI cZ cJ a g o) (σ, ρ1, f)) → va_S (fun q : Nat => s.heap.size ≤ q) s.heap H locs → lv_has ls 7 [(0, .ref bs), (1, .ref (a 0)), (2, .ref (g 0)), (3, .ref o), (4, .int x4)] → W p l e room_1 s m #[Value.ref bs] below meth c H locs (cells + 1) (slots + 6) (lw_Z below #[Value.ref bs] s) (F0 m 968 ls [])) :
    W p l e room_1 s m #[Value.ref bs] below meth c H locs cells slots (lw_Z below #[Value.ref bs] s) (F0 m 183 ls []) := by
  obtain ⟨hx, hb, hr, hml, hown, hts, hSc, hbl, hlocks, hl0, hK, hN, hXk⟩ := CX
  have hbA : ¬ (fun q : Nat => s.heap.size ≤ q) bs := Nat.not_le.mpr hbl
  refine lv_aload_n hx hb dL_law_183 rfl (lv_at hl 1 rfl) ?_
  refine lv_aload_n hx hb dL_law_184 rfl (lv_at hl 0 rfl) ?_
  refine lv_iload hx hb dL_law_185 (lv_at hl 4 rfl) ?_
  refine lv_iconst (v := 1) hx hb dL_law_187 (by decide) ?_
  refine lv_iadd hx hb dL_law_188 ?_
  refine va_sld hx hb hSc hbl hbA hS (hin 1 (by decide)) dL_law_189 ?_
  refine lv_aload_n hx hb dL_law_190 rfl (lv_at hl 0 rfl) ?_
  refine lv_iload hx hb dL_law_191 (lv_at hl 4 rfl) ?_
  refine lv_iconst (v := 2) hx hb dL_law_193 (by decide) ?_
  refine lv_iadd hx hb dL_law_194 ?_
  refine va_sld hx hb hSc hbl hbA hS (hin 2 (by decide)) dL_law_195 ?_
  refine lv_aload_n hx hb dL_law_196 rfl (lv_at hl 0 rfl) ?_
  refine lv_iload hx hb dL_law_197 (lv_at hl 4 rfl) ?_
  refine lv_iconst (v := 3) hx hb dL_law_199 (by decide) ?_
  refine lv_iadd hx hb dL_law_200 ?_
  refine va_sld hx hb hSc hbl hbA hS (hin 3 (by decide)) dL_law_201 ?_
  refine lv_aload_n hx hb dL_law_202 rfl (lv_at hl 0 rfl) ?_
  refine lv_iload hx hb dL_law_203 (lv_at hl 4 rfl) ?_
  refine lv_iconst (v := 4) hx hb dL_law_205 (by decide) ?_
  refine lv_iadd hx hb dL_law_206 ?_
  refine va_sld hx hb hSc hbl hbA hS (hin 4 (by decide)) dL_law_207 ?_
  refine lv_aload_n hx hb dL_law_208 rfl (lv_at hl 0 rfl) ?_
  refine lv_iload hx hb dL_law_209 (lv_at hl 4 rfl) ?_
  refine lv_iconst (v := 5) hx hb dL_law_211 (by decide) ?_
  refine lv_iadd hx hb dL_law_212 ?_
  refine va_sld hx hb hSc hbl hbA hS (hin 5 (by decide)) dL_law_213 ?_
  refine ig_Wi (As := [.ref (a 0), .int (lk_v xs x4 1), .int (lk_v xs x4 2), .int (lk_v xs x4 3), .int (lk_v xs x4 4), .int (lk_v xs x4 5)]) (rest := []) (hh := [(0, 11, 14, 13)]) ⟨hx, hb, hml, hown, hts⟩ (t_L_run l hl0 D cI cZ cJ a g o (fun q : Nat => s.heap.size ≤ q) (lk_v xs x4 1) (lk_v xs x4 2) (lk_v xs x4 3) (lk_v xs x4 4) (lk_v xs x4 5) σ ρ f hA) (vx_cwSW 6 hts gL_law_L_run rfl rfl rfl (by decide +kernel) ⟨Nat.le_of_ble_eq_true rfl, Nat.le_of_ble_eq_true rfl⟩) xk_blind (xk_pre hP hK hD hN hXk hS) hS rfl hl.1 rfl (Nat.le_of_ble_eq_true rfl) dL_law_214 ⟨by show cells + 1 ≤ 1053; omega, by show slots + 6 ≤ 14505; omega⟩ (fun H locs hP hD hS => ?_)
  refine lv_istore (lv' := [(5, .int 1), (0, .ref bs), (1, .ref (a 0)), (2, .ref (g 0)), (3, .ref o), (4, .int x4)]) hx hb dL_law_217 hl (by decide) rfl (fun ls hl => ?_)
  refine lv_aload_n hx hb dL_law_219 rfl (lv_at hl 3 rfl) ?_
  refine lv_aload_n hx hb dL_law_220 rfl (lv_at hl 1 rfl) ?_
  refine lv_iload hx hb dL_law_221 (lv_at hl 5 rfl) ?_
  refine lv_iconst (v := 1) hx hb dL_law_223 (by decide) ?_
  refine lv_iadd hx hb dL_law_224 ?_
  refine va_sld hx hb hSc hbl hbA hS (hin 1 (by decide)) dL_law_225 ?_
  refine lv_aload_n hx hb dL_law_226 rfl (lv_at hl 1 rfl) ?_
  refine lv_iload hx hb dL_law_227 (lv_at hl 5 rfl) ?_
  refine lv_iconst (v := 2) hx hb dL_law_229 (by decide) ?_
  refine lv_iadd hx hb dL_law_230 ?_
  refine va_sld hx hb hSc hbl hbA hS (hin 2 (by decide)) dL_law_231 ?_
  refine lv_aload_n hx hb dL_law_232 rfl (lv_at hl 1 rfl) ?_
  refine lv_iload hx hb dL_law_233 (lv_at hl 5 rfl) ?_
  refine lv_iconst (v := 3) hx hb dL_law_235 (by decide) ?_
  refine lv_iadd hx hb dL_law_236 ?_
  refine va_sld hx hb hSc hbl hbA hS (hin 3 (by decide)) dL_law_237 ?_
  refine lv_aload_n hx hb dL_law_238 rfl (lv_at hl 1 rfl) ?_
  refine lv_iload hx hb dL_law_239 (lv_at hl 5 rfl) ?_
  refine lv_iconst (v := 4) hx hb dL_law_241 (by decide) ?_
  refine lv_iadd hx hb dL_law_242 ?_
  refine va_sld hx hb hSc hbl hbA hS (hin 4 (by decide)) dL_law_243 ?_
  refine lv_aload_n hx hb dL_law_244 rfl (lv_at hl 1 rfl) ?_
  refine lv_iload hx hb dL_law_245 (lv_at hl 5 rfl) ?_
  refine lv_iconst (v := 5) hx hb dL_law_247 (by decide) ?_
  refine lv_iadd hx hb dL_law_248 ?_
  refine va_sld hx hb hSc hbl hbA hS (hin 5 (by decide)) dL_law_249 ?_
  refine ig_Vv (As := [.int (lk_v xs x4 1), .int (lk_v xs x4 2), .int (lk_v xs x4 3), .int (lk_v xs x4 4), .int (lk_v xs x4 5)]) (rest := []) ⟨hx, hb, hml, hown, hts⟩ (fr_v (isT := [0, 1]) (fun A => c_X8_run l D cI cZ g A (lk_v xs x4 1) (lk_v xs x4 2) (lk_v xs x4 3) (lk_v xs x4 4) (lk_v xs x4 5) ρ ρ1 hB) (lk_emM cI cZ cJ a g o σ ρ ρ1 f) rfl (fun _ h => absurd h List.not_mem_nil) (fun q : Nat => s.heap.size ≤ q)) (cwV 5 hts gL_law_X8_run rfl rfl rfl (by decide +kernel) ⟨Nat.le_of_ble_eq_true rfl, Nat.le_of_ble_eq_true rfl⟩) (va_recv hK hP (ci := 6) (q0 := 16) rfl rfl) hP hK hD hN hS rfl hl.1 rfl (Nat.le_of_ble_eq_true rfl) dL_law_250 ⟨by show (cells + 1) + 0 ≤ 1053; omega, by show (slots + 6) + 0 ≤ 14505; omega⟩ (fun H locs hP hD hS => ?_)
  refine lv_aload_n hx hb dL_law_253 rfl (lv_at hl 3 rfl) ?_
  refine ig_Vi (As := []) (rest := []) ⟨hx, hb, hml, hown, hts⟩ (fr_i (isT := [0, 1]) (fun A => c_X8_thrown l D cI cZ g A  ρ1 (mk_code ρ1) rfl) (lk_emM cI cZ cJ a g o σ ρ1 ρ1 f) rfl (fun _ h => absurd h List.not_mem_nil) (fun q : Nat => s.heap.size ≤ q)) (cwV 0 hts gL_law_X8_thrown rfl rfl rfl (by decide +kernel) ⟨Nat.le_of_ble_eq_true rfl, Nat.le_of_ble_eq_true rfl⟩) (va_recv hK hP (ci := 6) (q0 := 16) rfl rfl) hP hK hD hN hS rfl hl.1 rfl (Nat.le_of_ble_eq_true rfl) dL_law_254 ⟨by show (cells + 1) + 0 ≤ 1053; omega, by show (slots + 6) + 0 ≤ 14505; omega⟩ (fun H locs hP hD hS => ?_)
  refine lv_iload hx hb dL_law_257 (lv_at hl 0 rfl) ?_
  refine lv_icmp_eq (tgt := 264) hx hb dL_law_259 (by decide) (fun _ => ?_) (fun c9 => absurd hC c9)
  refine lv_goto (tgt := 968) hx hb dL_law_264 (by decide) ?_
  refine W.widen (k := cells + 1) (n := slots + 6) (by omega) (by omega) ?_
  exact KK _ _ _ _ hP hD hS (lv_sub hl [1, 2, 3, 4, 5] rfl)
set_option maxHeartbeats 4000000 in
set_option maxRecDepth 100000 in
theorem lc_entry {p : Program} {l : Launch} {e : Env} {s : State} {m : MethodId} {below : List Frame} {meth : Method} {c : Code} {D : va_G} {cI cZ cJ : ClassId} {a g : Nat → Nat} {o bs L : Nat} {xs : Nat → Int32} (CX : lk_Cx p l s m meth c D cI cZ cJ bs L xs) (x4 : Int32) (hin : ∀ j : Int32, j = 0 ∨ j = 1 ∨ j = 2 ∨ j = 3 ∨ j = 4 ∨ j = 5 → vp_in (x4 + j) L) (cells slots : Nat) (hc1 : cells + 1 ≤ 1053) (hc2 : slots + 6 ≤ 14505) (σ : ck_S) (ρ : mk_S) (f : Nat → Int64) (σ1 : ck_S) (ρ1 : mk_S) (hA : fX7_entry (lk_v xs x4 1) (lk_v xs x4 2) (lk_v xs x4 3) (lk_v xs x4 4) (lk_v xs x4 5) σ = some σ1) (hB : fX8_entry (lk_v xs x4 1) (lk_v xs x4 2) (lk_v xs x4 3) (lk_v xs x4 4) (lk_v xs x4 5) ρ = some ρ1) (hC : mk_code ρ1 = 0) (H : Heap) (locs : List Loc) (ls : Array Slot) (hP : va_P D vwCl ((lk_W cI cZ cJ a g o) (σ, ρ, f)) H) (hD : va_D (fun q : Nat => s.heap.size ≤ q) ((lk_W cI cZ cJ a g o) (σ, ρ, f))) (hS : va_S (fun q : Nat => s.heap.size ≤ q) s.heap H locs) (hl : lv_has ls 7 [(0, .ref bs), (1, .ref (a 0)), (2, .ref (g 0)), (3, .ref o), (4, .int x4)])
    (KK : ∀ (f : Nat → Int64) (H : Heap) (locs : List Loc) (ls : Array Slot), va_P D vwCl ((lk_W cI cZ cJ a g o) (σ1, ρ1, f)) H → va_D (fun q : Nat => s.heap.size ≤ q) ((lk_W cI cZ cJ a g o) (σ1, ρ1, f)) → va_S (fun q : Nat => s.heap.size ≤ q) s.heap H locs → lv_has ls 7 [(0, .ref bs), (1, .ref (a 0)), (2, .ref (g 0)), (3, .ref o), (4, .int x4)] → W p l e room_1 s m #[Value.ref bs] below meth c H locs (cells + 1) (slots + 6) (lw_Z below #[Value.ref bs] s) (F0 m 968 ls [])) :
    W p l e room_1 s m #[Value.ref bs] below meth c H locs cells slots (lw_Z below #[Value.ref bs] s) (F0 m 267 ls []) := by
  obtain ⟨hx, hb, hr, hml, hown, hts, hSc, hbl, hlocks, hl0, hK, hN, hXk⟩ := CX
  have hbA : ¬ (fun q : Nat => s.heap.size ≤ q) bs := Nat.not_le.mpr hbl
  refine lv_aload_n hx hb dL_law_267 rfl (lv_at hl 1 rfl) ?_
  refine lv_aload_n hx hb dL_law_268 rfl (lv_at hl 0 rfl) ?_
  refine lv_iload hx hb dL_law_269 (lv_at hl 4 rfl) ?_
  refine lv_iconst (v := 1) hx hb dL_law_271 (by decide) ?_
  refine lv_iadd hx hb dL_law_272 ?_
  refine va_sld hx hb hSc hbl hbA hS (hin 1 (by decide)) dL_law_273 ?_
  refine lv_aload_n hx hb dL_law_274 rfl (lv_at hl 0 rfl) ?_
  refine lv_iload hx hb dL_law_275 (lv_at hl 4 rfl) ?_
  refine lv_iconst (v := 2) hx hb dL_law_277 (by decide) ?_
  refine lv_iadd hx hb dL_law_278 ?_
  refine va_sld hx hb hSc hbl hbA hS (hin 2 (by decide)) dL_law_279 ?_
  refine lv_aload_n hx hb dL_law_280 rfl (lv_at hl 0 rfl) ?_
  refine lv_iload hx hb dL_law_281 (lv_at hl 4 rfl) ?_
  refine lv_iconst (v := 3) hx hb dL_law_283 (by decide) ?_
  refine lv_iadd hx hb dL_law_284 ?_
  refine va_sld hx hb hSc hbl hbA hS (hin 3 (by decide)) dL_law_285 ?_
  refine lv_aload_n hx hb dL_law_286 rfl (lv_at hl 0 rfl) ?_
  refine lv_iload hx hb dL_law_287 (lv_at hl 4 rfl) ?_
  refine lv_iconst (v := 4) hx hb dL_law_289 (by decide) ?_
  refine lv_iadd hx hb dL_law_290 ?_
  refine va_sld hx hb hSc hbl hbA hS (hin 4 (by decide)) dL_law_291 ?_
  refine lv_aload_n hx hb dL_law_292 rfl (lv_at hl 0 rfl) ?_
  refine lv_iload hx hb dL_law_293 (lv_at hl 4 rfl) ?_
  refine lv_iconst (v := 5) hx hb dL_law_295 (by decide) ?_
  refine lv_iadd hx hb dL_law_296 ?_
  refine va_sld hx hb hSc hbl hbA hS (hin 5 (by decide)) dL_law_297 ?_
  refine ig_Wi (As := [.ref (a 0), .int (lk_v xs x4 1), .int (lk_v xs x4 2), .int (lk_v xs x4 3), .int (lk_v xs x4 4), .int (lk_v xs x4 5)]) (rest := []) (hh := [(0, 11, 14, 13)]) ⟨hx, hb, hml, hown, hts⟩ (c_L_entry l D cI cZ cJ a g o (fun q : Nat => s.heap.size ≤ q) (lk_v xs x4 1) (lk_v xs x4 2) (lk_v xs x4 3) (lk_v xs x4 4) (lk_v xs x4 5) σ σ1 ρ f hA) (vx_cwSW 6 hts gL_law_L_entry rfl rfl rfl (by decide +kernel) ⟨Nat.le_of_ble_eq_true rfl, Nat.le_of_ble_eq_true rfl⟩) ik_blind (ik_pre hP hK hD hN) hS rfl hl.1 rfl (Nat.le_of_ble_eq_true rfl) dL_law_298 ⟨by show cells + 0 ≤ 1053; omega, by show slots + 0 ≤ 14505; omega⟩ (fun H locs hP hD hS => ?_)
  refine lv_istore (lv' := [(5, .int 0), (0, .ref bs), (1, .ref (a 0)), (2, .ref (g 0)), (3, .ref o), (4, .int x4)]) hx hb dL_law_301 hl (by decide) rfl (fun ls hl => ?_)
  refine lv_aload_n hx hb dL_law_303 rfl (lv_at hl 3 rfl) ?_
  refine lv_aload_n hx hb dL_law_304 rfl (lv_at hl 1 rfl) ?_
  refine lv_iload hx hb dL_law_305 (lv_at hl 5 rfl) ?_
  refine lv_iconst (v := 1) hx hb dL_law_307 (by decide) ?_
  refine lv_iadd hx hb dL_law_308 ?_
  refine va_sld hx hb hSc hbl hbA hS (hin 1 (by decide)) dL_law_309 ?_
  refine lv_aload_n hx hb dL_law_310 rfl (lv_at hl 1 rfl) ?_
  refine lv_iload hx hb dL_law_311 (lv_at hl 5 rfl) ?_
  refine lv_iconst (v := 2) hx hb dL_law_313 (by decide) ?_
  refine lv_iadd hx hb dL_law_314 ?_
  refine va_sld hx hb hSc hbl hbA hS (hin 2 (by decide)) dL_law_315 ?_
  refine lv_aload_n hx hb dL_law_316 rfl (lv_at hl 1 rfl) ?_
  refine lv_iload hx hb dL_law_317 (lv_at hl 5 rfl) ?_
  refine lv_iconst (v := 3) hx hb dL_law_319 (by decide) ?_
  refine lv_iadd hx hb dL_law_320 ?_
  refine va_sld hx hb hSc hbl hbA hS (hin 3 (by decide)) dL_law_321 ?_
  refine lv_aload_n hx hb dL_law_322 rfl (lv_at hl 1 rfl) ?_
  refine lv_iload hx hb dL_law_323 (lv_at hl 5 rfl) ?_
  refine lv_iconst (v := 4) hx hb dL_law_325 (by decide) ?_
  refine lv_iadd hx hb dL_law_326 ?_
  refine va_sld hx hb hSc hbl hbA hS (hin 4 (by decide)) dL_law_327 ?_
  refine lv_aload_n hx hb dL_law_328 rfl (lv_at hl 1 rfl) ?_
  refine lv_iload hx hb dL_law_329 (lv_at hl 5 rfl) ?_
  refine lv_iconst (v := 5) hx hb dL_law_331 (by decide) ?_
  refine lv_iadd hx hb dL_law_332 ?_
  refine va_sld hx hb hSc hbl hbA hS (hin 5 (by decide)) dL_law_333 ?_
  refine ig_Vv (As := [.int (lk_v xs x4 1), .int (lk_v xs x4 2), .int (lk_v xs x4 3), .int (lk_v xs x4 4), .int (lk_v xs x4 5)]) (rest := []) ⟨hx, hb, hml, hown, hts⟩ (fr_v (isT := [0, 1]) (fun A => c_X8_entry l D cI cZ g A (lk_v xs x4 1) (lk_v xs x4 2) (lk_v xs x4 3) (lk_v xs x4 4) (lk_v xs x4 5) ρ ρ1 hB) (lk_emM cI cZ cJ a g o σ1 ρ ρ1 f) rfl (fun _ h => absurd h List.not_mem_nil) (fun q : Nat => s.heap.size ≤ q)) (cwV 5 hts gL_law_X8_entry rfl rfl rfl (by decide +kernel) ⟨Nat.le_of_ble_eq_true rfl, Nat.le_of_ble_eq_true rfl⟩) (va_recv hK hP (ci := 6) (q0 := 16) rfl rfl) hP hK hD hN hS rfl hl.1 rfl (Nat.le_of_ble_eq_true rfl) dL_law_334 ⟨by show cells + 0 ≤ 1053; omega, by show slots + 0 ≤ 14505; omega⟩ (fun H locs hP hD hS => ?_)
  refine lv_aload_n hx hb dL_law_337 rfl (lv_at hl 3 rfl) ?_
  refine ig_Vi (As := []) (rest := []) ⟨hx, hb, hml, hown, hts⟩ (fr_i (isT := [0, 1]) (fun A => c_X8_thrown l D cI cZ g A  ρ1 (mk_code ρ1) rfl) (lk_emM cI cZ cJ a g o σ1 ρ1 ρ1 f) rfl (fun _ h => absurd h List.not_mem_nil) (fun q : Nat => s.heap.size ≤ q)) (cwV 0 hts gL_law_X8_thrown rfl rfl rfl (by decide +kernel) ⟨Nat.le_of_ble_eq_true rfl, Nat.le_of_ble_eq_true rfl⟩) (va_recv hK hP (ci := 6) (q0 := 16) rfl rfl) hP hK hD hN hS rfl hl.1 rfl (Nat.le_of_ble_eq_true rfl) dL_law_338 ⟨by show cells + 0 ≤ 1053; omega, by show slots + 0 ≤ 14505; omega⟩ (fun H locs hP hD hS => ?_)
  refine lv_iload hx hb dL_law_341 (lv_at hl 0 rfl) ?_
  refine lv_icmp_eq (tgt := 348) hx hb dL_law_343 (by decide) (fun _ => ?_) (fun c9 => absurd hC c9)
  refine lv_goto (tgt := 968) hx hb dL_law_348 (by decide) ?_
  refine W.widen (k := cells + 1) (n := slots + 6) (by omega) (by omega) ?_
  exact KK _ _ _ _ hP hD hS (lv_sub hl [1, 2, 3, 4, 5] rfl)
set_option maxHeartbeats 4000000 in
set_option maxRecDepth 100000 in
theorem lc_entry_t {p : Program} {l : Launch} {e : Env} {s : State} {m : MethodId} {below : List Frame} {meth : Method} {c : Code} {D : va_G} {cI cZ cJ : ClassId} {a g : Nat → Nat} {o bs L : Nat} {xs : Nat → Int32} (CX : lk_Cx p l s m meth c D cI cZ cJ bs L xs) (x4 : Int32) (hin : ∀ j : Int32, j = 0 ∨ j = 1 ∨ j = 2 ∨ j = 3 ∨ j = 4 ∨ j = 5 → vp_in (x4 + j) L) (cells slots : Nat) (hc1 : cells + 1 ≤ 1053) (hc2 : slots + 6 ≤ 14505) (σ : ck_S) (ρ : mk_S) (f : Nat → Int64) (ρ1 : mk_S) (hA : tX7_entry (lk_v xs x4 1) (lk_v xs x4 2) (lk_v xs x4 3) (lk_v xs x4 4) (lk_v xs x4 5) σ = some ()) (hB : fX8_entry (lk_v xs x4 1) (lk_v xs x4 2) (lk_v xs x4 3) (lk_v xs x4 4) (lk_v xs x4 5) ρ = some ρ1) (hC : mk_code ρ1 = 1) (H : Heap) (locs : List Loc) (ls : Array Slot) (hP : va_P D vwCl ((lk_W cI cZ cJ a g o) (σ, ρ, f)) H) (hD : va_D (fun q : Nat => s.heap.size ≤ q) ((lk_W cI cZ cJ a g o) (σ, ρ, f))) (hS : va_S (fun q : Nat => s.heap.size ≤ q) s.heap H locs) (hl : lv_has ls 7 [(0, .ref bs), (1, .ref (a 0)), (2, .ref (g 0)), (3, .ref o), (4, .int x4)])
    (KK : ∀ (f : Nat → Int64) (H : Heap) (locs : List Loc) (ls : Array Slot), va_P D vwCl ((lk_W cI cZ cJ a g o) (σ, ρ1, f)) H → va_D (fun q : Nat => s.heap.size ≤ q) ((lk_W cI cZ cJ a g o) (σ, ρ1, f)) → va_S (fun q : Nat => s.heap.size ≤ q) s.heap H locs → lv_has ls 7 [(0, .ref bs), (1, .ref (a 0)), (2, .ref (g 0)), (3, .ref o), (4, .int x4)] → W p l e room_1 s m #[Value.ref bs] below meth c H locs (cells + 1) (slots + 6) (lw_Z below #[Value.ref bs] s) (F0 m 968 ls [])) :
    W p l e room_1 s m #[Value.ref bs] below meth c H locs cells slots (lw_Z below #[Value.ref bs] s) (F0 m 267 ls []) := by
  obtain ⟨hx, hb, hr, hml, hown, hts, hSc, hbl, hlocks, hl0, hK, hN, hXk⟩ := CX
  have hbA : ¬ (fun q : Nat => s.heap.size ≤ q) bs := Nat.not_le.mpr hbl
  refine lv_aload_n hx hb dL_law_267 rfl (lv_at hl 1 rfl) ?_
  refine lv_aload_n hx hb dL_law_268 rfl (lv_at hl 0 rfl) ?_
  refine lv_iload hx hb dL_law_269 (lv_at hl 4 rfl) ?_
  refine lv_iconst (v := 1) hx hb dL_law_271 (by decide) ?_
  refine lv_iadd hx hb dL_law_272 ?_
  refine va_sld hx hb hSc hbl hbA hS (hin 1 (by decide)) dL_law_273 ?_
  refine lv_aload_n hx hb dL_law_274 rfl (lv_at hl 0 rfl) ?_
  refine lv_iload hx hb dL_law_275 (lv_at hl 4 rfl) ?_
  refine lv_iconst (v := 2) hx hb dL_law_277 (by decide) ?_
  refine lv_iadd hx hb dL_law_278 ?_
  refine va_sld hx hb hSc hbl hbA hS (hin 2 (by decide)) dL_law_279 ?_
  refine lv_aload_n hx hb dL_law_280 rfl (lv_at hl 0 rfl) ?_
  refine lv_iload hx hb dL_law_281 (lv_at hl 4 rfl) ?_
  refine lv_iconst (v := 3) hx hb dL_law_283 (by decide) ?_
  refine lv_iadd hx hb dL_law_284 ?_
  refine va_sld hx hb hSc hbl hbA hS (hin 3 (by decide)) dL_law_285 ?_
  refine lv_aload_n hx hb dL_law_286 rfl (lv_at hl 0 rfl) ?_
  refine lv_iload hx hb dL_law_287 (lv_at hl 4 rfl) ?_
  refine lv_iconst (v := 4) hx hb dL_law_289 (by decide) ?_
  refine lv_iadd hx hb dL_law_290 ?_
  refine va_sld hx hb hSc hbl hbA hS (hin 4 (by decide)) dL_law_291 ?_
  refine lv_aload_n hx hb dL_law_292 rfl (lv_at hl 0 rfl) ?_
  refine lv_iload hx hb dL_law_293 (lv_at hl 4 rfl) ?_
  refine lv_iconst (v := 5) hx hb dL_law_295 (by decide) ?_
  refine lv_iadd hx hb dL_law_296 ?_
  refine va_sld hx hb hSc hbl hbA hS (hin 5 (by decide)) dL_law_297 ?_
  refine ig_Wi (As := [.ref (a 0), .int (lk_v xs x4 1), .int (lk_v xs x4 2), .int (lk_v xs x4 3), .int (lk_v xs x4 4), .int (lk_v xs x4 5)]) (rest := []) (hh := [(0, 11, 14, 13)]) ⟨hx, hb, hml, hown, hts⟩ (t_L_entry l hl0 D cI cZ cJ a g o (fun q : Nat => s.heap.size ≤ q) (lk_v xs x4 1) (lk_v xs x4 2) (lk_v xs x4 3) (lk_v xs x4 4) (lk_v xs x4 5) σ ρ f hA) (vx_cwSW 6 hts gL_law_L_entry rfl rfl rfl (by decide +kernel) ⟨Nat.le_of_ble_eq_true rfl, Nat.le_of_ble_eq_true rfl⟩) xk_blind (xk_pre hP hK hD hN hXk hS) hS rfl hl.1 rfl (Nat.le_of_ble_eq_true rfl) dL_law_298 ⟨by show cells + 1 ≤ 1053; omega, by show slots + 6 ≤ 14505; omega⟩ (fun H locs hP hD hS => ?_)
  refine lv_istore (lv' := [(5, .int 1), (0, .ref bs), (1, .ref (a 0)), (2, .ref (g 0)), (3, .ref o), (4, .int x4)]) hx hb dL_law_301 hl (by decide) rfl (fun ls hl => ?_)
  refine lv_aload_n hx hb dL_law_303 rfl (lv_at hl 3 rfl) ?_
  refine lv_aload_n hx hb dL_law_304 rfl (lv_at hl 1 rfl) ?_
  refine lv_iload hx hb dL_law_305 (lv_at hl 5 rfl) ?_
  refine lv_iconst (v := 1) hx hb dL_law_307 (by decide) ?_
  refine lv_iadd hx hb dL_law_308 ?_
  refine va_sld hx hb hSc hbl hbA hS (hin 1 (by decide)) dL_law_309 ?_
  refine lv_aload_n hx hb dL_law_310 rfl (lv_at hl 1 rfl) ?_
  refine lv_iload hx hb dL_law_311 (lv_at hl 5 rfl) ?_
  refine lv_iconst (v := 2) hx hb dL_law_313 (by decide) ?_
  refine lv_iadd hx hb dL_law_314 ?_
  refine va_sld hx hb hSc hbl hbA hS (hin 2 (by decide)) dL_law_315 ?_
  refine lv_aload_n hx hb dL_law_316 rfl (lv_at hl 1 rfl) ?_
  refine lv_iload hx hb dL_law_317 (lv_at hl 5 rfl) ?_
  refine lv_iconst (v := 3) hx hb dL_law_319 (by decide) ?_
  refine lv_iadd hx hb dL_law_320 ?_
  refine va_sld hx hb hSc hbl hbA hS (hin 3 (by decide)) dL_law_321 ?_
  refine lv_aload_n hx hb dL_law_322 rfl (lv_at hl 1 rfl) ?_
  refine lv_iload hx hb dL_law_323 (lv_at hl 5 rfl) ?_
  refine lv_iconst (v := 4) hx hb dL_law_325 (by decide) ?_
  refine lv_iadd hx hb dL_law_326 ?_
  refine va_sld hx hb hSc hbl hbA hS (hin 4 (by decide)) dL_law_327 ?_
  refine lv_aload_n hx hb dL_law_328 rfl (lv_at hl 1 rfl) ?_
  refine lv_iload hx hb dL_law_329 (lv_at hl 5 rfl) ?_
  refine lv_iconst (v := 5) hx hb dL_law_331 (by decide) ?_
  refine lv_iadd hx hb dL_law_332 ?_
  refine va_sld hx hb hSc hbl hbA hS (hin 5 (by decide)) dL_law_333 ?_
  refine ig_Vv (As := [.int (lk_v xs x4 1), .int (lk_v xs x4 2), .int (lk_v xs x4 3), .int (lk_v xs x4 4), .int (lk_v xs x4 5)]) (rest := []) ⟨hx, hb, hml, hown, hts⟩ (fr_v (isT := [0, 1]) (fun A => c_X8_entry l D cI cZ g A (lk_v xs x4 1) (lk_v xs x4 2) (lk_v xs x4 3) (lk_v xs x4 4) (lk_v xs x4 5) ρ ρ1 hB) (lk_emM cI cZ cJ a g o σ ρ ρ1 f) rfl (fun _ h => absurd h List.not_mem_nil) (fun q : Nat => s.heap.size ≤ q)) (cwV 5 hts gL_law_X8_entry rfl rfl rfl (by decide +kernel) ⟨Nat.le_of_ble_eq_true rfl, Nat.le_of_ble_eq_true rfl⟩) (va_recv hK hP (ci := 6) (q0 := 16) rfl rfl) hP hK hD hN hS rfl hl.1 rfl (Nat.le_of_ble_eq_true rfl) dL_law_334 ⟨by show (cells + 1) + 0 ≤ 1053; omega, by show (slots + 6) + 0 ≤ 14505; omega⟩ (fun H locs hP hD hS => ?_)
  refine lv_aload_n hx hb dL_law_337 rfl (lv_at hl 3 rfl) ?_
  refine ig_Vi (As := []) (rest := []) ⟨hx, hb, hml, hown, hts⟩ (fr_i (isT := [0, 1]) (fun A => c_X8_thrown l D cI cZ g A  ρ1 (mk_code ρ1) rfl) (lk_emM cI cZ cJ a g o σ ρ1 ρ1 f) rfl (fun _ h => absurd h List.not_mem_nil) (fun q : Nat => s.heap.size ≤ q)) (cwV 0 hts gL_law_X8_thrown rfl rfl rfl (by decide +kernel) ⟨Nat.le_of_ble_eq_true rfl, Nat.le_of_ble_eq_true rfl⟩) (va_recv hK hP (ci := 6) (q0 := 16) rfl rfl) hP hK hD hN hS rfl hl.1 rfl (Nat.le_of_ble_eq_true rfl) dL_law_338 ⟨by show (cells + 1) + 0 ≤ 1053; omega, by show (slots + 6) + 0 ≤ 14505; omega⟩ (fun H locs hP hD hS => ?_)
  refine lv_iload hx hb dL_law_341 (lv_at hl 0 rfl) ?_
  refine lv_icmp_eq (tgt := 348) hx hb dL_law_343 (by decide) (fun _ => ?_) (fun c9 => absurd hC c9)
  refine lv_goto (tgt := 968) hx hb dL_law_348 (by decide) ?_
  refine W.widen (k := cells + 1) (n := slots + 6) (by omega) (by omega) ?_
  exact KK _ _ _ _ hP hD hS (lv_sub hl [1, 2, 3, 4, 5] rfl)
set_option maxHeartbeats 4000000 in
set_option maxRecDepth 100000 in
theorem lc_hold {p : Program} {l : Launch} {e : Env} {s : State} {m : MethodId} {below : List Frame} {meth : Method} {c : Code} {D : va_G} {cI cZ cJ : ClassId} {a g : Nat → Nat} {o bs L : Nat} {xs : Nat → Int32} (CX : lk_Cx p l s m meth c D cI cZ cJ bs L xs) (x4 : Int32) (hin : ∀ j : Int32, j = 0 ∨ j = 1 ∨ j = 2 ∨ j = 3 ∨ j = 4 ∨ j = 5 → vp_in (x4 + j) L) (cells slots : Nat) (hc1 : cells + 1 ≤ 1053) (hc2 : slots + 6 ≤ 14505) (σ : ck_S) (ρ : mk_S) (f : Nat → Int64) (σ1 : ck_S) (ρ1 : mk_S) (hA : fX7_hold (lk_v xs x4 1) (lk_b (lk_v xs x4 2)) σ = some σ1) (hB : fX8_hold (lk_v xs x4 1) (lk_b (lk_v xs x4 2)) ρ = some ρ1) (hC : mk_code ρ1 = 0) (H : Heap) (locs : List Loc) (ls : Array Slot) (hP : va_P D vwCl ((lk_W cI cZ cJ a g o) (σ, ρ, f)) H) (hD : va_D (fun q : Nat => s.heap.size ≤ q) ((lk_W cI cZ cJ a g o) (σ, ρ, f))) (hS : va_S (fun q : Nat => s.heap.size ≤ q) s.heap H locs) (hl : lv_has ls 7 [(0, .ref bs), (1, .ref (a 0)), (2, .ref (g 0)), (3, .ref o), (4, .int x4)])
    (KK : ∀ (f : Nat → Int64) (H : Heap) (locs : List Loc) (ls : Array Slot), va_P D vwCl ((lk_W cI cZ cJ a g o) (σ1, ρ1, f)) H → va_D (fun q : Nat => s.heap.size ≤ q) ((lk_W cI cZ cJ a g o) (σ1, ρ1, f)) → va_S (fun q : Nat => s.heap.size ≤ q) s.heap H locs → lv_has ls 7 [(0, .ref bs), (1, .ref (a 0)), (2, .ref (g 0)), (3, .ref o), (4, .int x4)] → W p l e room_1 s m #[Value.ref bs] below meth c H locs (cells + 1) (slots + 6) (lw_Z below #[Value.ref bs] s) (F0 m 968 ls [])) :
    W p l e room_1 s m #[Value.ref bs] below meth c H locs cells slots (lw_Z below #[Value.ref bs] s) (F0 m 351 ls []) := by
  obtain ⟨hx, hb, hr, hml, hown, hts, hSc, hbl, hlocks, hl0, hK, hN, hXk⟩ := CX
  have hbA : ¬ (fun q : Nat => s.heap.size ≤ q) bs := Nat.not_le.mpr hbl
  refine lv_aload_n hx hb dL_law_351 rfl (lv_at hl 1 rfl) ?_
  refine lv_aload_n hx hb dL_law_352 rfl (lv_at hl 0 rfl) ?_
  refine lv_iload hx hb dL_law_353 (lv_at hl 4 rfl) ?_
  refine lv_iconst (v := 1) hx hb dL_law_355 (by decide) ?_
  refine lv_iadd hx hb dL_law_356 ?_
  refine va_sld hx hb hSc hbl hbA hS (hin 1 (by decide)) dL_law_357 ?_
  refine lv_aload_n hx hb dL_law_358 rfl (lv_at hl 0 rfl) ?_
  refine lv_iload hx hb dL_law_359 (lv_at hl 4 rfl) ?_
  refine lv_iconst (v := 2) hx hb dL_law_361 (by decide) ?_
  refine lv_iadd hx hb dL_law_362 ?_
  refine va_sld hx hb hSc hbl hbA hS (hin 2 (by decide)) dL_law_363 ?_
  refine lv_if_eq (tgt := 371) hx hb dL_law_364 (by decide) (fun c7 => ?_) (fun c7 => ?_)
  · have e7 : lk_b (lk_v xs x4 2) = 0 := if_pos c7
    rw [e7] at hA hB
    refine lv_iconst (v := 0) hx hb dL_law_371 (by decide) ?_
    refine ig_Wi (As := [.ref (a 0), .int (lk_v xs x4 1), .int 0]) (rest := []) (hh := [(0, 6, 9, 13)]) ⟨hx, hb, hml, hown, hts⟩ (c_L_hold l D cI cZ cJ a g o (fun q : Nat => s.heap.size ≤ q) (lk_v xs x4 1) 0 σ σ1 ρ f hA) (vx_cwSW 3 hts gL_law_L_hold rfl rfl rfl (by decide +kernel) ⟨Nat.le_of_ble_eq_true rfl, Nat.le_of_ble_eq_true rfl⟩) ik_blind (ik_pre hP hK hD hN) hS rfl hl.1 rfl (Nat.le_of_ble_eq_true rfl) dL_law_372 ⟨by show cells + 0 ≤ 1053; omega, by show slots + 0 ≤ 14505; omega⟩ (fun H locs hP hD hS => ?_)
    refine lv_istore (lv' := [(5, .int 0), (0, .ref bs), (1, .ref (a 0)), (2, .ref (g 0)), (3, .ref o), (4, .int x4)]) hx hb dL_law_375 hl (by decide) rfl (fun ls hl => ?_)
    refine lv_aload_n hx hb dL_law_377 rfl (lv_at hl 3 rfl) ?_
    refine lv_aload_n hx hb dL_law_378 rfl (lv_at hl 1 rfl) ?_
    refine lv_iload hx hb dL_law_379 (lv_at hl 5 rfl) ?_
    refine lv_iconst (v := 1) hx hb dL_law_381 (by decide) ?_
    refine lv_iadd hx hb dL_law_382 ?_
    refine va_sld hx hb hSc hbl hbA hS (hin 1 (by decide)) dL_law_383 ?_
    refine lv_aload_n hx hb dL_law_384 rfl (lv_at hl 1 rfl) ?_
    refine lv_iload hx hb dL_law_385 (lv_at hl 5 rfl) ?_
    refine lv_iconst (v := 2) hx hb dL_law_387 (by decide) ?_
    refine lv_iadd hx hb dL_law_388 ?_
    refine va_sld hx hb hSc hbl hbA hS (hin 2 (by decide)) dL_law_389 ?_
    refine lv_if_eq (tgt := 397) hx hb dL_law_390 (by decide) (fun _ => ?_) (fun c9 => absurd c7 c9)
    refine lv_iconst (v := 0) hx hb dL_law_397 (by decide) ?_
    refine ig_Vv (As := [.int (lk_v xs x4 1), .int 0]) (rest := []) ⟨hx, hb, hml, hown, hts⟩ (fr_v (isT := [0, 1]) (fun A => c_X8_hold l D cI cZ g A (lk_v xs x4 1) 0 ρ ρ1 hB) (lk_emM cI cZ cJ a g o σ1 ρ ρ1 f) rfl (fun _ h => absurd h List.not_mem_nil) (fun q : Nat => s.heap.size ≤ q)) (cwV 2 hts gL_law_X8_hold rfl rfl rfl (by decide +kernel) ⟨Nat.le_of_ble_eq_true rfl, Nat.le_of_ble_eq_true rfl⟩) (va_recv hK hP (ci := 6) (q0 := 16) rfl rfl) hP hK hD hN hS rfl hl.1 rfl (Nat.le_of_ble_eq_true rfl) dL_law_398 ⟨by show cells + 0 ≤ 1053; omega, by show slots + 0 ≤ 14505; omega⟩ (fun H locs hP hD hS => ?_)
    refine lv_aload_n hx hb dL_law_401 rfl (lv_at hl 3 rfl) ?_
    refine ig_Vi (As := []) (rest := []) ⟨hx, hb, hml, hown, hts⟩ (fr_i (isT := [0, 1]) (fun A => c_X8_thrown l D cI cZ g A  ρ1 (mk_code ρ1) rfl) (lk_emM cI cZ cJ a g o σ1 ρ1 ρ1 f) rfl (fun _ h => absurd h List.not_mem_nil) (fun q : Nat => s.heap.size ≤ q)) (cwV 0 hts gL_law_X8_thrown rfl rfl rfl (by decide +kernel) ⟨Nat.le_of_ble_eq_true rfl, Nat.le_of_ble_eq_true rfl⟩) (va_recv hK hP (ci := 6) (q0 := 16) rfl rfl) hP hK hD hN hS rfl hl.1 rfl (Nat.le_of_ble_eq_true rfl) dL_law_402 ⟨by show cells + 0 ≤ 1053; omega, by show slots + 0 ≤ 14505; omega⟩ (fun H locs hP hD hS => ?_)
    refine lv_iload hx hb dL_law_405 (lv_at hl 0 rfl) ?_
    refine lv_icmp_eq (tgt := 412) hx hb dL_law_407 (by decide) (fun _ => ?_) (fun c9 => absurd hC c9)
    refine lv_goto (tgt := 968) hx hb dL_law_412 (by decide) ?_
    refine W.widen (k := cells + 1) (n := slots + 6) (by omega) (by omega) ?_
    exact KK _ _ _ _ hP hD hS (lv_sub hl [1, 2, 3, 4, 5] rfl)
  · have e7 : lk_b (lk_v xs x4 2) = 1 := if_neg c7
    rw [e7] at hA hB
    refine lv_iconst (v := 1) hx hb dL_law_367 (by decide) ?_
    refine lv_goto (tgt := 372) hx hb dL_law_368 (by decide) ?_
    refine ig_Wi (As := [.ref (a 0), .int (lk_v xs x4 1), .int 1]) (rest := []) (hh := [(0, 6, 9, 13)]) ⟨hx, hb, hml, hown, hts⟩ (c_L_hold l D cI cZ cJ a g o (fun q : Nat => s.heap.size ≤ q) (lk_v xs x4 1) 1 σ σ1 ρ f hA) (vx_cwSW 3 hts gL_law_L_hold rfl rfl rfl (by decide +kernel) ⟨Nat.le_of_ble_eq_true rfl, Nat.le_of_ble_eq_true rfl⟩) ik_blind (ik_pre hP hK hD hN) hS rfl hl.1 rfl (Nat.le_of_ble_eq_true rfl) dL_law_372 ⟨by show cells + 0 ≤ 1053; omega, by show slots + 0 ≤ 14505; omega⟩ (fun H locs hP hD hS => ?_)
    refine lv_istore (lv' := [(5, .int 0), (0, .ref bs), (1, .ref (a 0)), (2, .ref (g 0)), (3, .ref o), (4, .int x4)]) hx hb dL_law_375 hl (by decide) rfl (fun ls hl => ?_)
    refine lv_aload_n hx hb dL_law_377 rfl (lv_at hl 3 rfl) ?_
    refine lv_aload_n hx hb dL_law_378 rfl (lv_at hl 1 rfl) ?_
    refine lv_iload hx hb dL_law_379 (lv_at hl 5 rfl) ?_
    refine lv_iconst (v := 1) hx hb dL_law_381 (by decide) ?_
    refine lv_iadd hx hb dL_law_382 ?_
    refine va_sld hx hb hSc hbl hbA hS (hin 1 (by decide)) dL_law_383 ?_
    refine lv_aload_n hx hb dL_law_384 rfl (lv_at hl 1 rfl) ?_
    refine lv_iload hx hb dL_law_385 (lv_at hl 5 rfl) ?_
    refine lv_iconst (v := 2) hx hb dL_law_387 (by decide) ?_
    refine lv_iadd hx hb dL_law_388 ?_
    refine va_sld hx hb hSc hbl hbA hS (hin 2 (by decide)) dL_law_389 ?_
    refine lv_if_eq (tgt := 397) hx hb dL_law_390 (by decide) (fun c9 => absurd c9 c7) (fun _ => ?_)
    refine lv_iconst (v := 1) hx hb dL_law_393 (by decide) ?_
    refine lv_goto (tgt := 398) hx hb dL_law_394 (by decide) ?_
    refine ig_Vv (As := [.int (lk_v xs x4 1), .int 1]) (rest := []) ⟨hx, hb, hml, hown, hts⟩ (fr_v (isT := [0, 1]) (fun A => c_X8_hold l D cI cZ g A (lk_v xs x4 1) 1 ρ ρ1 hB) (lk_emM cI cZ cJ a g o σ1 ρ ρ1 f) rfl (fun _ h => absurd h List.not_mem_nil) (fun q : Nat => s.heap.size ≤ q)) (cwV 2 hts gL_law_X8_hold rfl rfl rfl (by decide +kernel) ⟨Nat.le_of_ble_eq_true rfl, Nat.le_of_ble_eq_true rfl⟩) (va_recv hK hP (ci := 6) (q0 := 16) rfl rfl) hP hK hD hN hS rfl hl.1 rfl (Nat.le_of_ble_eq_true rfl) dL_law_398 ⟨by show cells + 0 ≤ 1053; omega, by show slots + 0 ≤ 14505; omega⟩ (fun H locs hP hD hS => ?_)
    refine lv_aload_n hx hb dL_law_401 rfl (lv_at hl 3 rfl) ?_
    refine ig_Vi (As := []) (rest := []) ⟨hx, hb, hml, hown, hts⟩ (fr_i (isT := [0, 1]) (fun A => c_X8_thrown l D cI cZ g A  ρ1 (mk_code ρ1) rfl) (lk_emM cI cZ cJ a g o σ1 ρ1 ρ1 f) rfl (fun _ h => absurd h List.not_mem_nil) (fun q : Nat => s.heap.size ≤ q)) (cwV 0 hts gL_law_X8_thrown rfl rfl rfl (by decide +kernel) ⟨Nat.le_of_ble_eq_true rfl, Nat.le_of_ble_eq_true rfl⟩) (va_recv hK hP (ci := 6) (q0 := 16) rfl rfl) hP hK hD hN hS rfl hl.1 rfl (Nat.le_of_ble_eq_true rfl) dL_law_402 ⟨by show cells + 0 ≤ 1053; omega, by show slots + 0 ≤ 14505; omega⟩ (fun H locs hP hD hS => ?_)
    refine lv_iload hx hb dL_law_405 (lv_at hl 0 rfl) ?_
    refine lv_icmp_eq (tgt := 412) hx hb dL_law_407 (by decide) (fun _ => ?_) (fun c9 => absurd hC c9)
    refine lv_goto (tgt := 968) hx hb dL_law_412 (by decide) ?_
    refine W.widen (k := cells + 1) (n := slots + 6) (by omega) (by omega) ?_
    exact KK _ _ _ _ hP hD hS (lv_sub hl [1, 2, 3, 4, 5] rfl)
set_option maxHeartbeats 4000000 in
set_option maxRecDepth 100000 in
theorem lc_hold_t {p : Program} {l : Launch} {e : Env} {s : State} {m : MethodId} {below : List Frame} {meth : Method} {c : Code} {D : va_G} {cI cZ cJ : ClassId} {a g : Nat → Nat} {o bs L : Nat} {xs : Nat → Int32} (CX : lk_Cx p l s m meth c D cI cZ cJ bs L xs) (x4 : Int32) (hin : ∀ j : Int32, j = 0 ∨ j = 1 ∨ j = 2 ∨ j = 3 ∨ j = 4 ∨ j = 5 → vp_in (x4 + j) L) (cells slots : Nat) (hc1 : cells + 1 ≤ 1053) (hc2 : slots + 6 ≤ 14505) (σ : ck_S) (ρ : mk_S) (f : Nat → Int64) (ρ1 : mk_S) (hA : tX7_hold (lk_v xs x4 1) (lk_b (lk_v xs x4 2)) σ = some ()) (hB : fX8_hold (lk_v xs x4 1) (lk_b (lk_v xs x4 2)) ρ = some ρ1) (hC : mk_code ρ1 = 1) (H : Heap) (locs : List Loc) (ls : Array Slot) (hP : va_P D vwCl ((lk_W cI cZ cJ a g o) (σ, ρ, f)) H) (hD : va_D (fun q : Nat => s.heap.size ≤ q) ((lk_W cI cZ cJ a g o) (σ, ρ, f))) (hS : va_S (fun q : Nat => s.heap.size ≤ q) s.heap H locs) (hl : lv_has ls 7 [(0, .ref bs), (1, .ref (a 0)), (2, .ref (g 0)), (3, .ref o), (4, .int x4)])
    (KK : ∀ (f : Nat → Int64) (H : Heap) (locs : List Loc) (ls : Array Slot), va_P D vwCl ((lk_W cI cZ cJ a g o) (σ, ρ1, f)) H → va_D (fun q : Nat => s.heap.size ≤ q) ((lk_W cI cZ cJ a g o) (σ, ρ1, f)) → va_S (fun q : Nat => s.heap.size ≤ q) s.heap H locs → lv_has ls 7 [(0, .ref bs), (1, .ref (a 0)), (2, .ref (g 0)), (3, .ref o), (4, .int x4)] → W p l e room_1 s m #[Value.ref bs] below meth c H locs (cells + 1) (slots + 6) (lw_Z below #[Value.ref bs] s) (F0 m 968 ls [])) :
    W p l e room_1 s m #[Value.ref bs] below meth c H locs cells slots (lw_Z below #[Value.ref bs] s) (F0 m 351 ls []) := by
  obtain ⟨hx, hb, hr, hml, hown, hts, hSc, hbl, hlocks, hl0, hK, hN, hXk⟩ := CX
  have hbA : ¬ (fun q : Nat => s.heap.size ≤ q) bs := Nat.not_le.mpr hbl
  refine lv_aload_n hx hb dL_law_351 rfl (lv_at hl 1 rfl) ?_
  refine lv_aload_n hx hb dL_law_352 rfl (lv_at hl 0 rfl) ?_
  refine lv_iload hx hb dL_law_353 (lv_at hl 4 rfl) ?_
  refine lv_iconst (v := 1) hx hb dL_law_355 (by decide) ?_
  refine lv_iadd hx hb dL_law_356 ?_
  refine va_sld hx hb hSc hbl hbA hS (hin 1 (by decide)) dL_law_357 ?_
  refine lv_aload_n hx hb dL_law_358 rfl (lv_at hl 0 rfl) ?_
  refine lv_iload hx hb dL_law_359 (lv_at hl 4 rfl) ?_
  refine lv_iconst (v := 2) hx hb dL_law_361 (by decide) ?_
  refine lv_iadd hx hb dL_law_362 ?_
  refine va_sld hx hb hSc hbl hbA hS (hin 2 (by decide)) dL_law_363 ?_
  refine lv_if_eq (tgt := 371) hx hb dL_law_364 (by decide) (fun c7 => ?_) (fun c7 => ?_)
  · have e7 : lk_b (lk_v xs x4 2) = 0 := if_pos c7
    rw [e7] at hA hB
    refine lv_iconst (v := 0) hx hb dL_law_371 (by decide) ?_
    refine ig_Wi (As := [.ref (a 0), .int (lk_v xs x4 1), .int 0]) (rest := []) (hh := [(0, 6, 9, 13)]) ⟨hx, hb, hml, hown, hts⟩ (t_L_hold l hl0 D cI cZ cJ a g o (fun q : Nat => s.heap.size ≤ q) (lk_v xs x4 1) 0 σ ρ f hA) (vx_cwSW 3 hts gL_law_L_hold rfl rfl rfl (by decide +kernel) ⟨Nat.le_of_ble_eq_true rfl, Nat.le_of_ble_eq_true rfl⟩) xk_blind (xk_pre hP hK hD hN hXk hS) hS rfl hl.1 rfl (Nat.le_of_ble_eq_true rfl) dL_law_372 ⟨by show cells + 1 ≤ 1053; omega, by show slots + 6 ≤ 14505; omega⟩ (fun H locs hP hD hS => ?_)
    refine lv_istore (lv' := [(5, .int 1), (0, .ref bs), (1, .ref (a 0)), (2, .ref (g 0)), (3, .ref o), (4, .int x4)]) hx hb dL_law_375 hl (by decide) rfl (fun ls hl => ?_)
    refine lv_aload_n hx hb dL_law_377 rfl (lv_at hl 3 rfl) ?_
    refine lv_aload_n hx hb dL_law_378 rfl (lv_at hl 1 rfl) ?_
    refine lv_iload hx hb dL_law_379 (lv_at hl 5 rfl) ?_
    refine lv_iconst (v := 1) hx hb dL_law_381 (by decide) ?_
    refine lv_iadd hx hb dL_law_382 ?_
    refine va_sld hx hb hSc hbl hbA hS (hin 1 (by decide)) dL_law_383 ?_
    refine lv_aload_n hx hb dL_law_384 rfl (lv_at hl 1 rfl) ?_
    refine lv_iload hx hb dL_law_385 (lv_at hl 5 rfl) ?_
    refine lv_iconst (v := 2) hx hb dL_law_387 (by decide) ?_
    refine lv_iadd hx hb dL_law_388 ?_
    refine va_sld hx hb hSc hbl hbA hS (hin 2 (by decide)) dL_law_389 ?_
    refine lv_if_eq (tgt := 397) hx hb dL_law_390 (by decide) (fun _ => ?_) (fun c9 => absurd c7 c9)
    refine lv_iconst (v := 0) hx hb dL_law_397 (by decide) ?_
    refine ig_Vv (As := [.int (lk_v xs x4 1), .int 0]) (rest := []) ⟨hx, hb, hml, hown, hts⟩ (fr_v (isT := [0, 1]) (fun A => c_X8_hold l D cI cZ g A (lk_v xs x4 1) 0 ρ ρ1 hB) (lk_emM cI cZ cJ a g o σ ρ ρ1 f) rfl (fun _ h => absurd h List.not_mem_nil) (fun q : Nat => s.heap.size ≤ q)) (cwV 2 hts gL_law_X8_hold rfl rfl rfl (by decide +kernel) ⟨Nat.le_of_ble_eq_true rfl, Nat.le_of_ble_eq_true rfl⟩) (va_recv hK hP (ci := 6) (q0 := 16) rfl rfl) hP hK hD hN hS rfl hl.1 rfl (Nat.le_of_ble_eq_true rfl) dL_law_398 ⟨by show (cells + 1) + 0 ≤ 1053; omega, by show (slots + 6) + 0 ≤ 14505; omega⟩ (fun H locs hP hD hS => ?_)
    refine lv_aload_n hx hb dL_law_401 rfl (lv_at hl 3 rfl) ?_
    refine ig_Vi (As := []) (rest := []) ⟨hx, hb, hml, hown, hts⟩ (fr_i (isT := [0, 1]) (fun A => c_X8_thrown l D cI cZ g A  ρ1 (mk_code ρ1) rfl) (lk_emM cI cZ cJ a g o σ ρ1 ρ1 f) rfl (fun _ h => absurd h List.not_mem_nil) (fun q : Nat => s.heap.size ≤ q)) (cwV 0 hts gL_law_X8_thrown rfl rfl rfl (by decide +kernel) ⟨Nat.le_of_ble_eq_true rfl, Nat.le_of_ble_eq_true rfl⟩) (va_recv hK hP (ci := 6) (q0 := 16) rfl rfl) hP hK hD hN hS rfl hl.1 rfl (Nat.le_of_ble_eq_true rfl) dL_law_402 ⟨by show (cells + 1) + 0 ≤ 1053; omega, by show (slots + 6) + 0 ≤ 14505; omega⟩ (fun H locs hP hD hS => ?_)
    refine lv_iload hx hb dL_law_405 (lv_at hl 0 rfl) ?_
    refine lv_icmp_eq (tgt := 412) hx hb dL_law_407 (by decide) (fun _ => ?_) (fun c9 => absurd hC c9)
    refine lv_goto (tgt := 968) hx hb dL_law_412 (by decide) ?_
    refine W.widen (k := cells + 1) (n := slots + 6) (by omega) (by omega) ?_
    exact KK _ _ _ _ hP hD hS (lv_sub hl [1, 2, 3, 4, 5] rfl)
  · have e7 : lk_b (lk_v xs x4 2) = 1 := if_neg c7
    rw [e7] at hA hB
    refine lv_iconst (v := 1) hx hb dL_law_367 (by decide) ?_
    refine lv_goto (tgt := 372) hx hb dL_law_368 (by decide) ?_
    refine ig_Wi (As := [.ref (a 0), .int (lk_v xs x4 1), .int 1]) (rest := []) (hh := [(0, 6, 9, 13)]) ⟨hx, hb, hml, hown, hts⟩ (t_L_hold l hl0 D cI cZ cJ a g o (fun q : Nat => s.heap.size ≤ q) (lk_v xs x4 1) 1 σ ρ f hA) (vx_cwSW 3 hts gL_law_L_hold rfl rfl rfl (by decide +kernel) ⟨Nat.le_of_ble_eq_true rfl, Nat.le_of_ble_eq_true rfl⟩) xk_blind (xk_pre hP hK hD hN hXk hS) hS rfl hl.1 rfl (Nat.le_of_ble_eq_true rfl) dL_law_372 ⟨by show cells + 1 ≤ 1053; omega, by show slots + 6 ≤ 14505; omega⟩ (fun H locs hP hD hS => ?_)
    refine lv_istore (lv' := [(5, .int 1), (0, .ref bs), (1, .ref (a 0)), (2, .ref (g 0)), (3, .ref o), (4, .int x4)]) hx hb dL_law_375 hl (by decide) rfl (fun ls hl => ?_)
    refine lv_aload_n hx hb dL_law_377 rfl (lv_at hl 3 rfl) ?_
    refine lv_aload_n hx hb dL_law_378 rfl (lv_at hl 1 rfl) ?_
    refine lv_iload hx hb dL_law_379 (lv_at hl 5 rfl) ?_
    refine lv_iconst (v := 1) hx hb dL_law_381 (by decide) ?_
    refine lv_iadd hx hb dL_law_382 ?_
    refine va_sld hx hb hSc hbl hbA hS (hin 1 (by decide)) dL_law_383 ?_
    refine lv_aload_n hx hb dL_law_384 rfl (lv_at hl 1 rfl) ?_
    refine lv_iload hx hb dL_law_385 (lv_at hl 5 rfl) ?_
    refine lv_iconst (v := 2) hx hb dL_law_387 (by decide) ?_
    refine lv_iadd hx hb dL_law_388 ?_
    refine va_sld hx hb hSc hbl hbA hS (hin 2 (by decide)) dL_law_389 ?_
    refine lv_if_eq (tgt := 397) hx hb dL_law_390 (by decide) (fun c9 => absurd c9 c7) (fun _ => ?_)
    refine lv_iconst (v := 1) hx hb dL_law_393 (by decide) ?_
    refine lv_goto (tgt := 398) hx hb dL_law_394 (by decide) ?_
    refine ig_Vv (As := [.int (lk_v xs x4 1), .int 1]) (rest := []) ⟨hx, hb, hml, hown, hts⟩ (fr_v (isT := [0, 1]) (fun A => c_X8_hold l D cI cZ g A (lk_v xs x4 1) 1 ρ ρ1 hB) (lk_emM cI cZ cJ a g o σ ρ ρ1 f) rfl (fun _ h => absurd h List.not_mem_nil) (fun q : Nat => s.heap.size ≤ q)) (cwV 2 hts gL_law_X8_hold rfl rfl rfl (by decide +kernel) ⟨Nat.le_of_ble_eq_true rfl, Nat.le_of_ble_eq_true rfl⟩) (va_recv hK hP (ci := 6) (q0 := 16) rfl rfl) hP hK hD hN hS rfl hl.1 rfl (Nat.le_of_ble_eq_true rfl) dL_law_398 ⟨by show (cells + 1) + 0 ≤ 1053; omega, by show (slots + 6) + 0 ≤ 14505; omega⟩ (fun H locs hP hD hS => ?_)
    refine lv_aload_n hx hb dL_law_401 rfl (lv_at hl 3 rfl) ?_
    refine ig_Vi (As := []) (rest := []) ⟨hx, hb, hml, hown, hts⟩ (fr_i (isT := [0, 1]) (fun A => c_X8_thrown l D cI cZ g A  ρ1 (mk_code ρ1) rfl) (lk_emM cI cZ cJ a g o σ ρ1 ρ1 f) rfl (fun _ h => absurd h List.not_mem_nil) (fun q : Nat => s.heap.size ≤ q)) (cwV 0 hts gL_law_X8_thrown rfl rfl rfl (by decide +kernel) ⟨Nat.le_of_ble_eq_true rfl, Nat.le_of_ble_eq_true rfl⟩) (va_recv hK hP (ci := 6) (q0 := 16) rfl rfl) hP hK hD hN hS rfl hl.1 rfl (Nat.le_of_ble_eq_true rfl) dL_law_402 ⟨by show (cells + 1) + 0 ≤ 1053; omega, by show (slots + 6) + 0 ≤ 14505; omega⟩ (fun H locs hP hD hS => ?_)
    refine lv_iload hx hb dL_law_405 (lv_at hl 0 rfl) ?_
    refine lv_icmp_eq (tgt := 412) hx hb dL_law_407 (by decide) (fun _ => ?_) (fun c9 => absurd hC c9)
    refine lv_goto (tgt := 968) hx hb dL_law_412 (by decide) ?_
    refine W.widen (k := cells + 1) (n := slots + 6) (by omega) (by omega) ?_
    exact KK _ _ _ _ hP hD hS (lv_sub hl [1, 2, 3, 4, 5] rfl)
