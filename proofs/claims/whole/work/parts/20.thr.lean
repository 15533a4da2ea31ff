/-! throwing: what a throw asks of the state, and rows for it -/
abbrev xk_E : String := "java/lang/IllegalArgumentException"
abbrev xk_Ns : List String := ["java/lang/RuntimeException", "java/lang/Exception"]
def xk_C (U : State) : Prop := va_Nw (.castable xk_E xk_E) U ∧ va_Nw (.declares (Bundle.initS "java/lang/RuntimeException")) U ∧ va_Nw (.declares (Bundle.initS "java/lang/Exception")) U ∧ va_Nw (.declares (Bundle.initS Bundle.tN)) U
theorem xk_C.warm {s U : State} (hW : s.WarmedH U.vm) (h : xk_C s) : xk_C U := ⟨va_Nw.warmC hW h.1, va_Nw.warmD hW h.2.1, va_Nw.warmD hW h.2.2.1, va_Nw.warmD hW h.2.2.2⟩
theorem xk_C.same {u U : State} (hv : u.vm = U.vm) (h : xk_C u) : xk_C U := ⟨va_Nw.same rfl hv h.1, va_Nw.same rfl hv h.2.1, va_Nw.same rfl hv h.2.2.1, va_Nw.same rfl hv h.2.2.2⟩
abbrev xk_B : List Cond := [.castable xk_E xk_E, .declares (Bundle.initS "java/lang/RuntimeException"), .declares (Bundle.initS "java/lang/Exception"), .declares (Bundle.initS Bundle.tN)]
theorem xk_C.use {U : State} {args : Array Value} (h : xk_C U) : ∀ w ∈ xk_B, w.before args U = true := vx_c (va_Nw.use rfl h.1) (vx_c (va_Nw.use rfl h.2.1) (vx_c (va_Nw.use rfl h.2.2.1) (vx_c (va_Nw.use rfl h.2.2.2) vx_n)))
theorem xk_bad : ∀ w ∈ (vx_atS RX7 145 xk_E xk_Ns).filter (fun w => !goodWord w), w ∈ xk_B := by decide +kernel
def xk_P (A : Nat → Prop) (U : State) : Prop := vx_Zq Bundle.tN "UNASSIGNED_STACK" Bundle.steD A U U.heap ∧ vx_Zq Bundle.tN "SUPPRESSED_SENTINEL" Bundle.listD A U U.heap ∧ xk_C U ∧ (∃ q, vk_R RX7 143 "there is no such file" q U) ∧ (∃ q, vk_R RX7 148 "there is no such place" q U) ∧ ∃ q, vk_R RX7 150 "there is no such bit" q U
abbrev xk_X {S : Type} (D : va_G) (Wd : S → va_W) (A : Nat → Prop) (σ : S) : String → State → State → Prop := vx_X (fun u : S => u = σ) (fun E (u : S) t => E = xk_E ∧ va_P D vwCl (Wd u) t.heap ∧ va_D A (Wd u)) A
abbrev xk_Qv (A : Nat → Prop) : Array Value → State → Outcome → State → Prop := va_Qv (fun _ : Unit => False) (fun _ _ => True) A
abbrev xk_Qi (A : Nat → Prop) : Array Value → State → Outcome → State → Prop := va_Qi (fun (_ : Int32) (_ : Unit) => False) (fun _ _ => True) A
theorem xk_at {A : Nat → Prop} {s : State} {H : Heap} {locs : List Loc} (hX : xk_P A s) (hS : va_S A s.heap H locs) : ∀ U : State, U.heap = H → s.WarmedH U.vm → xk_P A U := by
  intro U hU hW
  obtain ⟨h1, h2, h3, ⟨q1, h4⟩, ⟨q2, h5⟩, ⟨q3, h6⟩⟩ := hX
  exact ⟨by rw [hU]; exact vx_Zq.moved hW.alike (h1.kept hS.2.1), by rw [hU]; exact vx_Zq.moved hW.alike (h2.kept hS.2.1), h3.warm hW, ⟨q1, vk_R.warm hW h4⟩, ⟨q2, vk_R.warm hW h5⟩, ⟨q3, vk_R.warm hW h6⟩⟩
theorem xk_blind {S : Type} {D : va_G} {ty : List (ClassId × FieldType)} {N : List (String × Nat × MethodName)} {Wd : S → va_W} {A : Nat → Prop} {σ : S} {av : List Value} : FrameBlind (va_Pc av (fun U => ik_P D ty N Wd A σ U ∧ xk_P A U)) := by
  intro a U g mk q
  obtain ⟨q0, q1, h1, h2, h3, ⟨q4, h4⟩, ⟨q5, h5⟩, ⟨q6, h6⟩⟩ := q
  have e := ik_blind (av := av) a U g mk ⟨q0, q1⟩
  exact ⟨e.1, e.2, vx_Zq.moved (u := U) (U := U.calling g mk a) (Vm.Alike.refl U.vm) h1, vx_Zq.moved (u := U) (U := U.calling g mk a) (Vm.Alike.refl U.vm) h2, h3.same rfl, ⟨q4, vk_R.same rfl h4⟩, ⟨q5, vk_R.same rfl h5⟩, ⟨q6, vk_R.same rfl h6⟩⟩
theorem xk_pre {S : Type} {D : va_G} {ty : List (ClassId × FieldType)} {N : List (String × Nat × MethodName)} {Wd : S → va_W} {A : Nat → Prop} {σ : S} {av : List Value} {s : State} {H : Heap} {locs : List Loc} (hP : va_P D vwCl (Wd σ) H) (hK : va_K D vwCl ty s) (hD : va_D A (Wd σ)) (hN : ∀ q ∈ N, va_Nw (.methodLinkNest q.1 q.2.1 q.2.2 "ImageChecker") s) (hX : xk_P A s) (hS : va_S A s.heap H locs) :
    ∀ U : State, U.heap = H → s.WarmedH U.vm → va_Pc av (fun U => ik_P D ty N Wd A σ U ∧ xk_P A U) av.toArray U :=
  fun U hU hW => ⟨rfl, (ik_pre (av := av) hP hK hD hN U hU hW).2, xk_at hX hS U hU hW⟩
theorem xk_thrown {S : Type} {D : va_G} {Wd : S → va_W} {A : Nat → Prop} {σ : S} {s : State} {H : Heap} {locs : List Loc} (hP : va_P D vwCl (Wd σ) H) (hD : va_D A (Wd σ)) (hS : va_S A s.heap H locs) :
    ∀ t : State, s.vm.Alike t.vm → H.size ≤ t.heap.size → (∀ q : Nat, q < H.size → t.heap[q]? = H[q]?) → xk_X D Wd A σ xk_E s t := by
  intro t _ hz hk
  exact ⟨σ, rfl, ⟨rfl, hP.kept (fun k q hq => hk q.1 (hP k q hq).lt), hD⟩, Nat.le_trans hS.1 hz, fun q h1 h2 => by rw [hk q (Nat.lt_of_lt_of_le h1 hS.1)]; exact hS.2.1 q h1 h2⟩
section XKR
variable {S : Type} {p : Program} {l : Launch} {e : Env} {R : Room} {s : State} {m : MethodId} {args : Array Value} {below : List Frame} {meth : Method} {c : Code} {H : Heap} {locs : List Loc} {cc : ByteArray} {pc : Nat} {ls : Array Slot} {rest st0 : List Value}
variable {D : va_G} {ty : List (ClassId × FieldType)} {N : List (String × Nat × MethodName)} {Wd : S → va_W} {A : Nat → Prop} {σ : S} {own : String} {y : MethodName} {bytes : ByteArray} {maxL nL n index : Nat} {ret : Option FieldType} {ws Ts : List Cond} {rm : Room} {As : List Value} {Qc : Array Value → State → Outcome → State → Prop}
/-- a static call of a method that throws, in a method that doesn't catch -/
theorem xk_St (S0 : CallFix p m c cc nL s args Ts own) (hM : vx_Met l y ws rm (va_Pc As (fun U => ik_P D ty N Wd A σ U ∧ xk_P A U)) (xk_Qv A) (xk_X D Wd A σ) 1 6 A) (cw : CallB R s args own index y bytes maxL ret ws rm 1 6 n ∧ (Cond.static y).before args s = true)
    (hP : va_P D vwCl (Wd σ) H) (hK : va_K D vwCl ty s) (hD : va_D A (Wd σ)) (hN : ∀ q ∈ N, va_Nw (.methodLinkNest q.1 q.2.1 q.2.2 "ImageChecker") s) (hX : xk_P A s) (hS : va_S A s.heap H locs) (hn : As.length = n) (hsize : ls.size = nL) (hst : st0 = As.reverse ++ rest) (hW : (rest.map fun v => v.category).sum ≤ 8) (hdg : decode cc pc = .ok (.invokestatic index, 3))
    (hcap : 0 + 1 ≤ R.cells ∧ 0 + 6 ≤ R.slots) (htab : ∀ x ∈ c.exceptionTable.toList, False) (hlocks : meth.locks = false) :
    W p l e R s m args below meth c H locs 0 0 (vx_MQ below Qc (xk_X D Wd A σ) args s 1 6 A) (F0 m pc ls st0) := by
  refine vx_callv (vx_runS (As := As) (rest := rest) S0 hM cw ⟨xk_blind, xk_pre hP hK hD hN hX hS⟩ rfl hn hsize hst (lv_room hW) hdg hcap) hS (fun q _ h => h) (fun q h => h) (fun q _ h => h) (fun E ce q9 u t H1 locs1 ht hvm hpx hBX hz hk hS1 hce hcv hcl => ?_) (fun u t H1 locs1 ht hvm hp => hp.elim)
  subst hpx
  obtain ⟨hE, hP1, hD1⟩ := hBX
  refine vx_out (fun x hx => (htab x hx).elim) hlocks hce hcv hcl (fun t' ht' _ => ⟨u, rfl, ⟨hE, ?_, hD1⟩, hS1.F ht'⟩) hS1.2.2 (Nat.le_refl _) (Nat.le_refl _)
  rw [ht', ← ht]
  exact hP1
end XKR
/-- ImageChecker.needFile(I)V -/
def fX7_needFile (p0 : Int32) : Option Unit :=
  (fX7_isFile p0).bind fun v1 =>
  if v1 = 0 then (
    none
    ) else (
    some ()
    )
/-- ImageChecker.needFile(I)V -/
def tX7_needFile (p0 : Int32) (σ : ck_S) : Option Unit :=
  (fX7_isFile p0).bind fun v1 =>
  if v1 = 0 then (
    some ()
    ) else (
    none
    )
/-- ImageChecker.needPlace(II)V -/
def fX7_needPlace (p0 : Int32) (p1 : Int32) : Option Unit :=
  if p0 < 0 then (
    none
    ) else (
    if p0 < p1 then (
      some ()
      ) else (
      none
      )
    )
/-- ImageChecker.needPlace(II)V -/
def tX7_needPlace (p0 : Int32) (p1 : Int32) (σ : ck_S) : Option Unit :=
  if p0 < 0 then (
    some ()
    ) else (
    if p0 < p1 then (
      none
      ) else (
      some ()
      )
    )
/-- ImageChecker.about(II)I -/
def fX7_about (p0 : Int32) (p1 : Int32) (σ : ck_S) : Option Int32 :=
  (fX7_needFile p0).bind fun u1 =>
  (fX7_needPlace p1 5).bind fun u2 =>
  (fX5_number p0 p1 σ).bind fun v3 =>
  some v3
/-- ImageChecker.about(II)I -/
def tX7_about (p0 : Int32) (p1 : Int32) (σ : ck_S) : Option Unit :=
  if tX7_needFile p0 σ = some () then some () else (
  (fX7_needFile p0).bind fun u2 =>
  if tX7_needPlace p1 5 σ = some () then some () else (
  (fX7_needPlace p1 5).bind fun u4 =>
  (fX5_number p0 p1 σ).bind fun v5 =>
  none
  ))
/-- ImageChecker.needBit(II)V -/
def fX7_needBit (p0 : Int32) (p1 : Int32) : Option Unit :=
  jn (fun (y1 : Int32) =>
    jn (fun (y2 : Int32) =>
      if y1 = 0 then (
        if y2 = 0 then (
          none
          ) else (
          some ()
          )
        ) else (
        some ()
        )
      ) (fun j39 =>
    jn (fun (_u : Unit) =>
      j39 0
      ) (fun j38 =>
    if p0 = 1 then (
      (fX7_isFile p1).bind fun v6 =>
      if v6 = 0 then (
        j38 ()
        ) else (
        j39 1
        )
      ) else (
      j38 ()
      )
    ))) (fun j21 =>
  jn (fun (_u : Unit) =>
    j21 0
    ) (fun j20 =>
  if p0 = 0 then (
    if p1 < 1 then (
      j20 ()
      ) else (
      if 200 < p1 then (
        j20 ()
        ) else (
        j21 1
        )
      )
    ) else (
    j20 ()
    )
  ))
/-- ImageChecker.needBit(II)V -/
def tX7_needBit (p0 : Int32) (p1 : Int32) (σ : ck_S) : Option Unit :=
  jn (fun (y1 : Int32) =>
    jn (fun (y2 : Int32) =>
      if y1 = 0 then (
        if y2 = 0 then (
          some ()
          ) else (
          none
          )
        ) else (
        none
        )
      ) (fun j39 =>
    jn (fun (_u : Unit) =>
      j39 0
      ) (fun j38 =>
    if p0 = 1 then (
      (fX7_isFile p1).bind fun v6 =>
      if v6 = 0 then (
        j38 ()
        ) else (
        j39 1
        )
      ) else (
      j38 ()
      )
    ))) (fun j21 =>
  jn (fun (_u : Unit) =>
    j21 0
    ) (fun j20 =>
  if p0 = 0 then (
    if p1 < 1 then (
      j20 ()
      ) else (
      if 200 < p1 then (
        j20 ()
        ) else (
        j21 1
        )
      )
    ) else (
    j20 ()
    )
  ))
/-- ImageChecker.bit(IIZ)V -/
def fX7_bit (p0 : Int32) (p1 : Int32) (p2 : Int32) (σ : ck_S) : Option ck_S :=
  (fX7_needBit p0 p1).bind fun u1 =>
  jn (fun (y2 : Int32) =>
    (fX5_putBit p0 p1 y2 σ).bind fun σ3 =>
    some σ3
    ) (fun j20 =>
  if p2 = 0 then (
    j20 0
    ) else (
    j20 1
    )
  )
/-- ImageChecker.bit(IIZ)V -/
def tX7_bit (p0 : Int32) (p1 : Int32) (p2 : Int32) (σ : ck_S) : Option Unit :=
  if tX7_needBit p0 p1 σ = some () then some () else (
  (fX7_needBit p0 p1).bind fun u2 =>
  jn (fun (y3 : Int32) =>
    (fX5_putBit p0 p1 y3 σ).bind fun σ4 =>
    none
    ) (fun j20 =>
  if p2 = 0 then (
    j20 0
    ) else (
    j20 1
    )
  ))
/-- ImageChecker.entry(IIIII)V -/
def fX7_entry (p0 : Int32) (p1 : Int32) (p2 : Int32) (p3 : Int32) (p4 : Int32) (σ : ck_S) : Option ck_S :=
  (fX7_needFile p0).bind fun u1 =>
  (fX7_needPlace p1 8).bind fun u2 =>
  (fX5_putEntry p0 p1 p2 p3 p4 σ).bind fun σ3 =>
  some σ3
/-- ImageChecker.entry(IIIII)V -/
def tX7_entry (p0 : Int32) (p1 : Int32) (p2 : Int32) (p3 : Int32) (p4 : Int32) (σ : ck_S) : Option Unit :=
  if tX7_needFile p0 σ = some () then some () else (
  (fX7_needFile p0).bind fun u2 =>
  if tX7_needPlace p1 8 σ = some () then some () else (
  (fX7_needPlace p1 8).bind fun u4 =>
  (fX5_putEntry p0 p1 p2 p3 p4 σ).bind fun σ5 =>
  none
  ))
/-- ImageChecker.entryOf(III)I -/
def fX7_entryOf (p0 : Int32) (p1 : Int32) (p2 : Int32) (σ : ck_S) : Option Int32 :=
  (fX7_needFile p0).bind fun u1 =>
  (fX7_needPlace p1 8).bind fun u2 =>
  (fX7_needPlace p2 3).bind fun u3 =>
  (fX5_entryPart p0 p1 p2 σ).bind fun v4 =>
  some v4
/-- ImageChecker.entryOf(III)I -/
def tX7_entryOf (p0 : Int32) (p1 : Int32) (p2 : Int32) (σ : ck_S) : Option Unit :=
  if tX7_needFile p0 σ = some () then some () else (
  (fX7_needFile p0).bind fun u2 =>
  if tX7_needPlace p1 8 σ = some () then some () else (
  (fX7_needPlace p1 8).bind fun u4 =>
  if tX7_needPlace p2 3 σ = some () then some () else (
  (fX7_needPlace p2 3).bind fun u6 =>
  (fX5_entryPart p0 p1 p2 σ).bind fun v7 =>
  none
  )))
/-- ImageChecker.hold(IZ)V -/
def fX7_hold (p0 : Int32) (p1 : Int32) (σ : ck_S) : Option ck_S :=
  (fX7_needFile p0).bind fun u1 =>
  (ck_wr_held σ p0 p1).bind fun σ2 =>
  some σ2
/-- ImageChecker.hold(IZ)V -/
def tX7_hold (p0 : Int32) (p1 : Int32) (σ : ck_S) : Option Unit :=
  if tX7_needFile p0 σ = some () then some () else (
  (fX7_needFile p0).bind fun u2 =>
  (ck_wr_held σ p0 p1).bind fun σ3 =>
  none
  )
/-- ImageChecker.isTaken(II)Z -/
def fX7_isTaken (p0 : Int32) (p1 : Int32) (σ : ck_S) : Option Int32 :=
  (fX7_needBit p0 p1).bind fun u1 =>
  (fX5_bitOf p0 p1 σ).bind fun v2 =>
  if v2 = 0 then (
    some 0
    ) else (
    some 1
    )
/-- ImageChecker.isTaken(II)Z -/
def tX7_isTaken (p0 : Int32) (p1 : Int32) (σ : ck_S) : Option Unit :=
  if tX7_needBit p0 p1 σ = some () then some () else (
  (fX7_needBit p0 p1).bind fun u2 =>
  (fX5_bitOf p0 p1 σ).bind fun v3 =>
  if v3 = 0 then (
    none
    ) else (
    none
    )
  )
/-- ImageChecker.run(IIIII)V -/
def fX7_run (p0 : Int32) (p1 : Int32) (p2 : Int32) (p3 : Int32) (p4 : Int32) (σ : ck_S) : Option ck_S :=
  (fX7_needFile p0).bind fun u1 =>
  (fX7_needPlace p1 6).bind fun u2 =>
  (fX5_putRun p0 p1 p2 p3 p4 σ).bind fun σ3 =>
  some σ3
/-- ImageChecker.run(IIIII)V -/
def tX7_run (p0 : Int32) (p1 : Int32) (p2 : Int32) (p3 : Int32) (p4 : Int32) (σ : ck_S) : Option Unit :=
  if tX7_needFile p0 σ = some () then some () else (
  (fX7_needFile p0).bind fun u2 =>
  if tX7_needPlace p1 6 σ = some () then some () else (
  (fX7_needPlace p1 6).bind fun u4 =>
  (fX5_putRun p0 p1 p2 p3 p4 σ).bind fun σ5 =>
  none
  ))
/-- ImageChecker.runOf(III)I -/
def fX7_runOf (p0 : Int32) (p1 : Int32) (p2 : Int32) (σ : ck_S) : Option Int32 :=
  (fX7_needFile p0).bind fun u1 =>
  (fX7_needPlace p1 6).bind fun u2 =>
  (fX7_needPlace p2 3).bind fun u3 =>
  (fX5_runPart p0 p1 p2 σ).bind fun v4 =>
  some v4
/-- ImageChecker.runOf(III)I -/
def tX7_runOf (p0 : Int32) (p1 : Int32) (p2 : Int32) (σ : ck_S) : Option Unit :=
  if tX7_needFile p0 σ = some () then some () else (
  (fX7_needFile p0).bind fun u2 =>
  if tX7_needPlace p1 6 σ = some () then some () else (
  (fX7_needPlace p1 6).bind fun u4 =>
  if tX7_needPlace p2 3 σ = some () then some () else (
  (fX7_needPlace p2 3).bind fun u6 =>
  (fX5_runPart p0 p1 p2 σ).bind fun v7 =>
  none
  )))
/-- ImageChecker.set(III)V -/
def fX7_set (p0 : Int32) (p1 : Int32) (p2 : Int32) (σ : ck_S) : Option ck_S :=
  (fX7_needFile p0).bind fun u1 =>
  (fX7_needPlace p1 5).bind fun u2 =>
  (fX5_putNumber p0 p1 p2 σ).bind fun σ3 =>
  some σ3
/-- ImageChecker.set(III)V -/
def tX7_set (p0 : Int32) (p1 : Int32) (p2 : Int32) (σ : ck_S) : Option Unit :=
  if tX7_needFile p0 σ = some () then some () else (
  (fX7_needFile p0).bind fun u2 =>
  if tX7_needPlace p1 5 σ = some () then some () else (
  (fX7_needPlace p1 5).bind fun u4 =>
  (fX5_putNumber p0 p1 p2 σ).bind fun σ5 =>
  none
  ))
/-- ImageChecker.tell(II)V -/
def fX7_tell (p0 : Int32) (p1 : Int32) (σ : ck_S) : Option ck_S :=
  (fX7_needPlace p0 3).bind fun u1 =>
  (fX5_putTold p0 p1 σ).bind fun σ2 =>
  some σ2
/-- ImageChecker.tell(II)V -/
def tX7_tell (p0 : Int32) (p1 : Int32) (σ : ck_S) : Option Unit :=
  if tX7_needPlace p0 3 σ = some () then some () else (
  (fX7_needPlace p0 3).bind fun u2 =>
  (fX5_putTold p0 p1 σ).bind fun σ3 =>
  none
  )
/-- ImageChecker.told(I)I -/
def fX7_told (p0 : Int32) (σ : ck_S) : Option Int32 :=
  (fX7_needPlace p0 3).bind fun u1 =>
  (fX5_toldNumber p0 σ).bind fun v2 =>
  some v2
/-- ImageChecker.told(I)I -/
def tX7_told (p0 : Int32) (σ : ck_S) : Option Unit :=
  if tX7_needPlace p0 3 σ = some () then some () else (
  (fX7_needPlace p0 3).bind fun u2 =>
  (fX5_toldNumber p0 σ).bind fun v3 =>
  none
  )
