/-! what every part behind this one uses: pure words for the steps, and rows of the machine that speak in them -/
def FU : Nat := 3000
def ik_rd (f : Nat → Int32) (n : Nat) (i : Int32) : Option Int32 := if i < 0 ∨ n ≤ i.toNatClampNeg then none else some (f i.toNatClampNeg)
def ik_wr (f : Nat → Int32) (n : Nat) (i v : Int32) : Option (Nat → Int32) := if i < 0 ∨ n ≤ i.toNatClampNeg then none else some (upd f i.toNatClampNeg v)
def ik_zb (v : Int32) : Option Int32 := if v = 0 ∨ v = 1 then some v else none
def ik_b2 {α β ρ : Type} (o : Option (α × β)) (k : α → β → Option ρ) : Option ρ := o.bind fun q => k q.1 q.2
def jn {α β : Type} (j : α) (t : α → β) : β := t j
theorem jn_ex {α ρ : Type} {b : α} {t : α → Option ρ} {r : Option ρ} (h : jn b t = r) : ∃ j, j = b ∧ t j = r := ⟨b, rfl, h⟩
theorem ik_bd {α ρ : Type} {o : Option α} {k : α → Option ρ} {r : ρ} (h : o.bind k = some r) : ∃ v, o = some v ∧ k v = some r := by
  cases o with
  | none => cases h
  | some v => exact ⟨v, rfl, h⟩
theorem ik_bd2 {α β ρ : Type} {o : Option (α × β)} {k : α → β → Option ρ} {r : ρ} (h : ik_b2 o k = some r) : ∃ v w, o = some (v, w) ∧ k v w = some r := by
  obtain ⟨⟨v, w⟩, e, h⟩ := ik_bd h
  exact ⟨v, w, e, h⟩
theorem ik_t {α : Type} {c : Prop} {i : Decidable c} {x y : α} {r : α} (hc : c) (h : @ite α c i x y = r) : x = r := by rw [if_pos hc] at h; exact h
theorem ik_f {α : Type} {c : Prop} {i : Decidable c} {x y : α} {r : α} (hc : ¬ c) (h : @ite α c i x y = r) : y = r := by rw [if_neg hc] at h; exact h
theorem ik_rd_e {f : Nat → Int32} {n : Nat} {i v : Int32} (h : ik_rd f n i = some v) : vp_in i n ∧ f i.toNatClampNeg = v := by
  unfold ik_rd at h
  by_cases hc : i < 0 ∨ n ≤ i.toNatClampNeg
  · rw [if_pos hc] at h; cases h
  · rw [if_neg hc] at h; exact ⟨hc, Option.some.inj h⟩
theorem ik_wr_e {S : Type} {f : Nat → Int32} {n : Nat} {i v : Int32} {st : (Nat → Int32) → S} {σ : S} (h : (ik_wr f n i v).map st = some σ) : vp_in i n ∧ st (upd f i.toNatClampNeg v) = σ := by
  unfold ik_wr at h
  by_cases hc : i < 0 ∨ n ≤ i.toNatClampNeg
  · rw [if_pos hc] at h; cases h
  · rw [if_neg hc] at h; exact ⟨hc, Option.some.inj h⟩
theorem ik_zb_e {v r : Int32} (h : ik_zb v = some r) : (v = 0 ∨ v = 1) ∧ v = r := by
  unfold ik_zb at h
  by_cases hc : v = 0 ∨ v = 1
  · rw [if_pos hc] at h; exact ⟨hc, Option.some.inj h⟩
  · rw [if_neg hc] at h; cases h
theorem ik_zn {v : Int32} (h : v = 0 ∨ v = 1) : narrow .boolean (.int v) = .int v := by
  rcases h with rfl | rfl <;> rfl
def qp1 {A1 ρ : Type} : Nat → ((A1 → Option ρ) → A1 → Option ρ) → A1 → Option ρ
  | 0, _, _ => none
  | n + 1, b, x1 => b (qp1 n b) x1
def qp2 {A1 A2 ρ : Type} : Nat → ((A1 → A2 → Option ρ) → A1 → A2 → Option ρ) → A1 → A2 → Option ρ
  | 0, _, _, _ => none
  | n + 1, b, x1, x2 => b (qp2 n b) x1 x2
def qp3 {A1 A2 A3 ρ : Type} : Nat → ((A1 → A2 → A3 → Option ρ) → A1 → A2 → A3 → Option ρ) → A1 → A2 → A3 → Option ρ
  | 0, _, _, _, _ => none
  | n + 1, b, x1, x2, x3 => b (qp3 n b) x1 x2 x3
def qp4 {A1 A2 A3 A4 ρ : Type} : Nat → ((A1 → A2 → A3 → A4 → Option ρ) → A1 → A2 → A3 → A4 → Option ρ) → A1 → A2 → A3 → A4 → Option ρ
  | 0, _, _, _, _, _ => none
  | n + 1, b, x1, x2, x3, x4 => b (qp4 n b) x1 x2 x3 x4
def qp5 {A1 A2 A3 A4 A5 ρ : Type} : Nat → ((A1 → A2 → A3 → A4 → A5 → Option ρ) → A1 → A2 → A3 → A4 → A5 → Option ρ) → A1 → A2 → A3 → A4 → A5 → Option ρ
  | 0, _, _, _, _, _, _ => none
  | n + 1, b, x1, x2, x3, x4, x5 => b (qp5 n b) x1 x2 x3 x4 x5
theorem qp1_W {A1 ρ : Type} {b : (A1 → Option ρ) → A1 → Option ρ} {r : ρ} {P : A1 → Prop} (hb : ∀ rec : A1 → Option ρ, (∀ x1, rec x1 = some r → P x1) → ∀ x1, b rec x1 = some r → P x1) : ∀ (n : Nat) (x1 : A1), qp1 n b x1 = some r → P x1 := by
  intro n
  induction n with
  | zero => intro x1 h; cases h
  | succ n ih => intro x1 h; exact hb _ ih x1 h
theorem qp2_W {A1 A2 ρ : Type} {b : (A1 → A2 → Option ρ) → A1 → A2 → Option ρ} {r : ρ} {P : A1 → A2 → Prop} (hb : ∀ rec : A1 → A2 → Option ρ, (∀ x1 x2, rec x1 x2 = some r → P x1 x2) → ∀ x1 x2, b rec x1 x2 = some r → P x1 x2) : ∀ (n : Nat) (x1 : A1) (x2 : A2), qp2 n b x1 x2 = some r → P x1 x2 := by
  intro n
  induction n with
  | zero => intro x1 x2 h; cases h
  | succ n ih => intro x1 x2 h; exact hb _ ih x1 x2 h
theorem qp3_W {A1 A2 A3 ρ : Type} {b : (A1 → A2 → A3 → Option ρ) → A1 → A2 → A3 → Option ρ} {r : ρ} {P : A1 → A2 → A3 → Prop} (hb : ∀ rec : A1 → A2 → A3 → Option ρ, (∀ x1 x2 x3, rec x1 x2 x3 = some r → P x1 x2 x3) → ∀ x1 x2 x3, b rec x1 x2 x3 = some r → P x1 x2 x3) : ∀ (n : Nat) (x1 : A1) (x2 : A2) (x3 : A3), qp3 n b x1 x2 x3 = some r → P x1 x2 x3 := by
  intro n
  induction n with
  | zero => intro x1 x2 x3 h; cases h
  | succ n ih => intro x1 x2 x3 h; exact hb _ ih x1 x2 x3 h
theorem qp4_W {A1 A2 A3 A4 ρ : Type} {b : (A1 → A2 → A3 → A4 → Option ρ) → A1 → A2 → A3 → A4 → Option ρ} {r : ρ} {P : A1 → A2 → A3 → A4 → Prop} (hb : ∀ rec : A1 → A2 → A3 → A4 → Option ρ, (∀ x1 x2 x3 x4, rec x1 x2 x3 x4 = some r → P x1 x2 x3 x4) → ∀ x1 x2 x3 x4, b rec x1 x2 x3 x4 = some r → P x1 x2 x3 x4) : ∀ (n : Nat) (x1 : A1) (x2 : A2) (x3 : A3) (x4 : A4), qp4 n b x1 x2 x3 x4 = some r → P x1 x2 x3 x4 := by
  intro n
  induction n with
  | zero => intro x1 x2 x3 x4 h; cases h
  | succ n ih => intro x1 x2 x3 x4 h; exact hb _ ih x1 x2 x3 x4 h
theorem qp5_W {A1 A2 A3 A4 A5 ρ : Type} {b : (A1 → A2 → A3 → A4 → A5 → Option ρ) → A1 → A2 → A3 → A4 → A5 → Option ρ} {r : ρ} {P : A1 → A2 → A3 → A4 → A5 → Prop} (hb : ∀ rec : A1 → A2 → A3 → A4 → A5 → Option ρ, (∀ x1 x2 x3 x4 x5, rec x1 x2 x3 x4 x5 = some r → P x1 x2 x3 x4 x5) → ∀ x1 x2 x3 x4 x5, b rec x1 x2 x3 x4 x5 = some r → P x1 x2 x3 x4 x5) : ∀ (n : Nat) (x1 : A1) (x2 : A2) (x3 : A3) (x4 : A4) (x5 : A5), qp5 n b x1 x2 x3 x4 x5 = some r → P x1 x2 x3 x4 x5 := by
  intro n
  induction n with
  | zero => intro x1 x2 x3 x4 x5 h; cases h
  | succ n ih => intro x1 x2 x3 x4 x5 h; exact hb _ ih x1 x2 x3 x4 x5 h
theorem ik_tout4 {x : Int32} (h0 : ¬ x = 0) (h1 : ¬ x = 1) (h2 : ¬ x = 2) (h3 : ¬ x = 3) : x.toInt < 0 ∨ 3 < x.toInt := by
  have e0 := lv_neT h0 (show (0 : Int32).toInt = 0 from rfl)
  have e1 := lv_neT h1 (show (1 : Int32).toInt = 1 from rfl)
  have e2 := lv_neT h2 (show (2 : Int32).toInt = 2 from rfl)
  have e3 := lv_neT h3 (show (3 : Int32).toInt = 3 from rfl)
  omega
/-- the world of a side, by the state that it holds -/
def ik_P {S : Type} (D : va_G) (ty : List (ClassId × FieldType)) (N : List (String × Nat × MethodName)) (Wd : S → va_W) (A : Nat → Prop) (σ : S) (U : State) : Prop :=
  va_P D vwCl (Wd σ) U.heap ∧ va_K D vwCl ty U ∧ va_D A (Wd σ) ∧ ∀ q ∈ N, va_Nw (.methodLinkNest q.1 q.2.1 q.2.2 "ImageChecker") U
abbrev ik_Qi {S : Type} (D : va_G) (Wd : S → va_W) (A : Nat → Prop) (r9 : Int32) (σ9 : S) : Array Value → State → Outcome → State → Prop := va_Qi (fun (r1 : Int32) (u : S) => r1 = r9 ∧ u = σ9) (fun (u : S) t => va_P D vwCl (Wd u) t.heap ∧ va_D A (Wd u)) A
abbrev ik_Qv {S : Type} (D : va_G) (Wd : S → va_W) (A : Nat → Prop) (σ9 : S) : Array Value → State → Outcome → State → Prop := va_Qv (fun (u : S) => u = σ9) (fun (u : S) t => va_P D vwCl (Wd u) t.heap ∧ va_D A (Wd u)) A
theorem ik_blind {S : Type} {D : va_G} {ty : List (ClassId × FieldType)} {N : List (String × Nat × MethodName)} {Wd : S → va_W} {A : Nat → Prop} {σ : S} {av : List Value} : FrameBlind (va_Pc av (ik_P D ty N Wd A σ)) := by
  intro a U g mk q
  obtain ⟨q0, qP, qK, qD, qN⟩ := q
  exact ⟨q0, qP, va_K.moved (u := U) (U := U.calling g mk a) (Vm.Alike.refl U.vm) qK, qD, fun q h => va_Nw.same rfl rfl (qN q h)⟩
theorem ik_pre {S : Type} {D : va_G} {ty : List (ClassId × FieldType)} {N : List (String × Nat × MethodName)} {Wd : S → va_W} {A : Nat → Prop} {σ : S} {av : List Value} {s : State} {H : Heap} (hP : va_P D vwCl (Wd σ) H) (hK : va_K D vwCl ty s) (hD : va_D A (Wd σ)) (hN : ∀ q ∈ N, va_Nw (.methodLinkNest q.1 q.2.1 q.2.2 "ImageChecker") s) :
    ∀ U : State, U.heap = H → s.WarmedH U.vm → va_Pc av (ik_P D ty N Wd A σ) av.toArray U :=
  fun U hU hW => ⟨rfl, by rw [hU]; exact hP, va_K.moved hW.alike hK, hD, fun q h => va_Nw.warmM hW (hN q h)⟩
section IKR
variable {S : Type} {p : Program} {l : Launch} {e : Env} {R : Room} {s : State} {m : MethodId} {args : Array Value} {below : List Frame} {meth : Method} {c : Code} {H : Heap} {locs : List Loc} {Q : State → Prop} {cc : ByteArray} {pc : Nat} {ls : Array Slot} {rest st0 : List Value}
variable {D : va_G} {ty : List (ClassId × FieldType)} {N : List (String × Nat × MethodName)} {Wd : S → va_W} {A : Nat → Prop} {σ σ1 : S} {own C : String} {y : MethodName} {bytes : ByteArray} {maxL nL n index : Nat} {ret : Option FieldType} {ws Ts : List Cond} {rm : Room} {As : List Value} {b a : Nat} {r : Int32}
theorem ik_nm {x v : Int32} {cells slots : Nat} (he : x = v) (k : W p l e R s m args below meth c H locs cells slots Q (F0 m pc ls (.int v :: rest))) : W p l e R s m args below meth c H locs cells slots Q (F0 m pc ls (.int x :: rest)) := by rw [he]; exact k
theorem ik_tin {x k : Int32} {dflt lo hi : Int} {offs : Array Int} {len : Nat} {off : Int} {tgt : Nat} {cells slots : Nat} (hx : p.tables.exec = Jvm.exec) (hb : c.code = cc) (hdg : decode cc pc = .ok (.tableswitch dflt lo hi offs, len)) (hk : x = k) (h1 : ¬ k.toInt < lo) (h2 : ¬ hi < k.toInt) (ho : offs[(k.toInt - lo).toNat]? = some off) (ht : (pc : Int) + off = (tgt : Int))
    (kk : W p l e R s m args below meth c H locs cells slots Q (F0 m tgt ls rest)) : W p l e R s m args below meth c H locs cells slots Q (F0 m pc ls (.int x :: rest)) := by
  subst hk
  exact lv_tableIn hx hb hdg h1 h2 ho ht kk
theorem ik_ld {cells slots : Nat} (hx : p.tables.exec = Jvm.exec) (hb : c.code = cc) (hK : va_K D vwCl ty s) (hP : va_P D vwCl (Wd σ) H) (q0 t0 : Nat) {cA : ClassId} {k : Nat} {f : Nat → Int32} (ha : (Wd σ)[q0]? = some (a, .inl (cA, k, .inl f))) (ht : ty[t0]? = some (cA, .int)) {i v : Int32} (he : ik_rd f k i = some v) (hdg : decode cc pc = .ok (.iaload, 1))
    (kk : W p l e R s m args below meth c H locs cells slots Q (F0 m (pc + 1) ls (.int v :: rest))) : W p l e R s m args below meth c H locs cells slots Q (F0 m pc ls (.int i :: .ref a :: rest)) := by
  obtain ⟨h1, h2⟩ := ik_rd_e he
  exact va_iald hx hb hK hP q0 t0 ha ht h1 hdg (by rw [h2]; exact kk)
theorem ik_zld {cells slots : Nat} (hx : p.tables.exec = Jvm.exec) (hb : c.code = cc) (hK : va_K D vwCl ty s) (hP : va_P D vwCl (Wd σ) H) (q0 t0 : Nat) {cA : ClassId} {k : Nat} {f : Nat → Int32} (ha : (Wd σ)[q0]? = some (a, .inl (cA, k, .inl f))) (ht : ty[t0]? = some (cA, .boolean)) {i v : Int32} (he : ik_rd f k i = some v) (hdg : decode cc pc = .ok (.baload, 1))
    (kk : W p l e R s m args below meth c H locs cells slots Q (F0 m (pc + 1) ls (.int v :: rest))) : W p l e R s m args below meth c H locs cells slots Q (F0 m pc ls (.int i :: .ref a :: rest)) := by
  obtain ⟨h1, h2⟩ := ik_rd_e he
  exact va_zald hx hb hK hP q0 t0 ha ht h1 hdg (by rw [h2]; exact kk)
theorem ik_st {cells slots : Nat} (hx : p.tables.exec = Jvm.exec) (hb : c.code = cc) (hK : va_K D vwCl ty s) (hP : va_P D vwCl (Wd σ) H) (hD : va_D A (Wd σ)) (hS : va_S A s.heap H locs) (q0 t0 : Nat) {cA : ClassId} {k : Nat} {f : Nat → Int32} {st : (Nat → Int32) → S} (ha : (Wd σ)[q0]? = some (a, .inl (cA, k, .inl f))) (ht : ty[t0]? = some (cA, .int)) (hset : ∀ z, (Wd σ).set q0 (a, .inl (cA, k, .inl z)) = Wd (st z)) {i v : Int32} (he : (ik_wr f k i v).map st = some σ1) (hdg : decode cc pc = .ok (.iastore, 1))
    (kk : ∀ (H1 : Heap) (locs1 : List Loc), va_P D vwCl (Wd σ1) H1 → va_D A (Wd σ1) → va_S A s.heap H1 locs1 → W p l e R s m args below meth c H1 locs1 cells slots Q (F0 m (pc + 1) ls rest)) : W p l e R s m args below meth c H locs cells slots Q (F0 m pc ls (.int v :: .int i :: .ref a :: rest)) := by
  obtain ⟨h1, h2⟩ := ik_wr_e he
  refine va_iast hx hb hK hP hD hS q0 t0 ha ht h1 hdg (fun H1 locs1 g1 g2 g3 => ?_)
  rw [hset, h2] at g1 g2
  exact kk H1 locs1 g1 g2 g3
theorem ik_zst {cells slots : Nat} (hx : p.tables.exec = Jvm.exec) (hb : c.code = cc) (hK : va_K D vwCl ty s) (hP : va_P D vwCl (Wd σ) H) (hD : va_D A (Wd σ)) (hS : va_S A s.heap H locs) (q0 t0 : Nat) {cA : ClassId} {k : Nat} {f : Nat → Int32} {st : (Nat → Int32) → S} (ha : (Wd σ)[q0]? = some (a, .inl (cA, k, .inl f))) (ht : ty[t0]? = some (cA, .boolean)) (hset : ∀ z, (Wd σ).set q0 (a, .inl (cA, k, .inl z)) = Wd (st z)) {i v : Int32} (he : (ik_wr f k i (vp_nar .boolean v)).map st = some σ1) (hdg : decode cc pc = .ok (.bastore, 1))
    (kk : ∀ (H1 : Heap) (locs1 : List Loc), va_P D vwCl (Wd σ1) H1 → va_D A (Wd σ1) → va_S A s.heap H1 locs1 → W p l e R s m args below meth c H1 locs1 cells slots Q (F0 m (pc + 1) ls rest)) : W p l e R s m args below meth c H locs cells slots Q (F0 m pc ls (.int v :: .int i :: .ref a :: rest)) := by
  obtain ⟨h1, h2⟩ := ik_wr_e he
  refine va_zast hx hb hK hP hD hS q0 t0 ha ht h1 hdg (fun H1 locs1 g1 g2 g3 => ?_)
  rw [hset, h2] at g1 g2
  exact kk H1 locs1 g1 g2 g3
theorem ik_Vi (S0 : CallFix p m c cc nL s args Ts own) (hM : Met l y ws rm (va_Pc (.ref b :: As) (ik_P D ty N Wd A σ)) (ik_Qi D Wd A r σ1) 0 0 A) (cw : CallW R s args own C index y bytes maxL ret ws rm 0 0 n) (hrc : ∃ cell : Cell, H[b]? = some cell ∧ cell.vm.isStatics = false ∧ s.vm.findClass C = some cell.cls)
    (hP : va_P D vwCl (Wd σ) H) (hK : va_K D vwCl ty s) (hD : va_D A (Wd σ)) (hN : ∀ q ∈ N, va_Nw (.methodLinkNest q.1 q.2.1 q.2.2 "ImageChecker") s) (hS : va_S A s.heap H locs) (hn : As.length = n) (hsize : ls.size = nL) (hst : st0 = As.reverse ++ .ref b :: rest) (hW : (rest.map fun v => v.category).sum ≤ 8) (hdg : decode cc pc = .ok (.invokevirtual index, 3))
    (kk : ∀ (H1 : Heap) (locs1 : List Loc), va_P D vwCl (Wd σ1) H1 → va_D A (Wd σ1) → va_S A s.heap H1 locs1 → W p l e R s m args below meth c H1 locs1 0 0 Q (F0 m (pc + 3) ls (.int r :: rest))) : W p l e R s m args below meth c H locs 0 0 Q (F0 m pc ls st0) := by
  refine va_calli (va_runV (As := As) (rest := rest) S0 hM cw ⟨ik_blind, hrc, ik_pre hP hK hD hN⟩ rfl hn hsize hst (lv_room hW) hdg ⟨Nat.zero_le _, Nat.zero_le _⟩) hS (fun q _ h => h) (fun q h => h) (fun r1 u t H1 locs1 ht hvm hw hB hz hk hS1 => ?_)
  obtain ⟨rfl, rfl⟩ := hw
  obtain ⟨hP1, hD1⟩ := hB
  rw [ht] at hP1
  exact kk H1 locs1 hP1 hD1 hS1
theorem ik_Vv (S0 : CallFix p m c cc nL s args Ts own) (hM : Met l y ws rm (va_Pc (.ref b :: As) (ik_P D ty N Wd A σ)) (ik_Qv D Wd A σ1) 0 0 A) (cw : CallW R s args own C index y bytes maxL ret ws rm 0 0 n) (hrc : ∃ cell : Cell, H[b]? = some cell ∧ cell.vm.isStatics = false ∧ s.vm.findClass C = some cell.cls)
    (hP : va_P D vwCl (Wd σ) H) (hK : va_K D vwCl ty s) (hD : va_D A (Wd σ)) (hN : ∀ q ∈ N, va_Nw (.methodLinkNest q.1 q.2.1 q.2.2 "ImageChecker") s) (hS : va_S A s.heap H locs) (hn : As.length = n) (hsize : ls.size = nL) (hst : st0 = As.reverse ++ .ref b :: rest) (hW : (rest.map fun v => v.category).sum ≤ 8) (hdg : decode cc pc = .ok (.invokevirtual index, 3))
    (kk : ∀ (H1 : Heap) (locs1 : List Loc), va_P D vwCl (Wd σ1) H1 → va_D A (Wd σ1) → va_S A s.heap H1 locs1 → W p l e R s m args below meth c H1 locs1 0 0 Q (F0 m (pc + 3) ls rest)) : W p l e R s m args below meth c H locs 0 0 Q (F0 m pc ls st0) := by
  refine va_callv (va_runV (As := As) (rest := rest) S0 hM cw ⟨ik_blind, hrc, ik_pre hP hK hD hN⟩ rfl hn hsize hst (lv_room hW) hdg ⟨Nat.zero_le _, Nat.zero_le _⟩) hS (fun q _ h => h) (fun q h => h) (fun u t H1 locs1 ht hvm hw hB hz hk hS1 => ?_)
  subst hw
  obtain ⟨hP1, hD1⟩ := hB
  rw [ht] at hP1
  exact kk H1 locs1 hP1 hD1 hS1
theorem ik_Si (S0 : CallFix p m c cc nL s args Ts own) (hM : Met l y ws rm (va_Pc As (ik_P D ty N Wd A σ)) (ik_Qi D Wd A r σ1) 0 0 A) (cw : CallB R s args own index y bytes maxL ret ws rm 0 0 n ∧ (Cond.static y).before args s = true)
    (hP : va_P D vwCl (Wd σ) H) (hK : va_K D vwCl ty s) (hD : va_D A (Wd σ)) (hN : ∀ q ∈ N, va_Nw (.methodLinkNest q.1 q.2.1 q.2.2 "ImageChecker") s) (hS : va_S A s.heap H locs) (hn : As.length = n) (hsize : ls.size = nL) (hst : st0 = As.reverse ++ rest) (hW : (rest.map fun v => v.category).sum ≤ 8) (hdg : decode cc pc = .ok (.invokestatic index, 3))
    (kk : ∀ (H1 : Heap) (locs1 : List Loc), va_P D vwCl (Wd σ1) H1 → va_D A (Wd σ1) → va_S A s.heap H1 locs1 → W p l e R s m args below meth c H1 locs1 0 0 Q (F0 m (pc + 3) ls (.int r :: rest))) : W p l e R s m args below meth c H locs 0 0 Q (F0 m pc ls st0) := by
  refine va_calli (va_runS (As := As) (rest := rest) S0 hM cw ⟨ik_blind, ik_pre hP hK hD hN⟩ rfl hn hsize hst (lv_room hW) hdg ⟨Nat.zero_le _, Nat.zero_le _⟩) hS (fun q _ h => h) (fun q h => h) (fun r1 u t H1 locs1 ht hvm hw hB hz hk hS1 => ?_)
  obtain ⟨rfl, rfl⟩ := hw
  obtain ⟨hP1, hD1⟩ := hB
  rw [ht] at hP1
  exact kk H1 locs1 hP1 hD1 hS1
theorem ik_Sv (S0 : CallFix p m c cc nL s args Ts own) (hM : Met l y ws rm (va_Pc As (ik_P D ty N Wd A σ)) (ik_Qv D Wd A σ1) 0 0 A) (cw : CallB R s args own index y bytes maxL ret ws rm 0 0 n ∧ (Cond.static y).before args s = true)
    (hP : va_P D vwCl (Wd σ) H) (hK : va_K D vwCl ty s) (hD : va_D A (Wd σ)) (hN : ∀ q ∈ N, va_Nw (.methodLinkNest q.1 q.2.1 q.2.2 "ImageChecker") s) (hS : va_S A s.heap H locs) (hn : As.length = n) (hsize : ls.size = nL) (hst : st0 = As.reverse ++ rest) (hW : (rest.map fun v => v.category).sum ≤ 8) (hdg : decode cc pc = .ok (.invokestatic index, 3))
    (kk : ∀ (H1 : Heap) (locs1 : List Loc), va_P D vwCl (Wd σ1) H1 → va_D A (Wd σ1) → va_S A s.heap H1 locs1 → W p l e R s m args below meth c H1 locs1 0 0 Q (F0 m (pc + 3) ls rest)) : W p l e R s m args below meth c H locs 0 0 Q (F0 m pc ls st0) := by
  refine va_callv (va_runS (As := As) (rest := rest) S0 hM cw ⟨ik_blind, ik_pre hP hK hD hN⟩ rfl hn hsize hst (lv_room hW) hdg ⟨Nat.zero_le _, Nat.zero_le _⟩) hS (fun q _ h => h) (fun q h => h) (fun u t H1 locs1 ht hvm hw hB hz hk hS1 => ?_)
  subst hw
  obtain ⟨hP1, hD1⟩ := hB
  rw [ht] at hP1
  exact kk H1 locs1 hP1 hD1 hS1
theorem ik_Ni {host : String} (S0 : CallFix p m c cc nL s args Ts own) (hM : Met l y ws rm (va_Pc As (ik_P D ty N Wd A σ)) (ik_Qi D Wd A r σ1) 0 0 A) (cw : va_CN R s args own index y host bytes maxL ret ws rm 0 0 n ∧ (Cond.static y).before args s = true ∧ True)
    (hP : va_P D vwCl (Wd σ) H) (hK : va_K D vwCl ty s) (hD : va_D A (Wd σ)) (hN : ∀ q ∈ N, va_Nw (.methodLinkNest q.1 q.2.1 q.2.2 "ImageChecker") s) (hS : va_S A s.heap H locs) (hn : As.length = n) (hsize : ls.size = nL) (hst : st0 = As.reverse ++ rest) (hW : (rest.map fun v => v.category).sum ≤ 8) (hdg : decode cc pc = .ok (.invokestatic index, 3))
    (kk : ∀ (H1 : Heap) (locs1 : List Loc), va_P D vwCl (Wd σ1) H1 → va_D A (Wd σ1) → va_S A s.heap H1 locs1 → W p l e R s m args below meth c H1 locs1 0 0 Q (F0 m (pc + 3) ls (.int r :: rest))) : W p l e R s m args below meth c H locs 0 0 Q (F0 m pc ls st0) := by
  refine va_calli (va_runSN (As := As) (rest := rest) S0 hM cw ⟨ik_blind, ik_pre hP hK hD hN⟩ rfl hn hsize hst (lv_room hW) hdg ⟨Nat.zero_le _, Nat.zero_le _⟩) hS (fun q _ h => h) (fun q h => h) (fun r1 u t H1 locs1 ht hvm hw hB hz hk hS1 => ?_)
  obtain ⟨rfl, rfl⟩ := hw
  obtain ⟨hP1, hD1⟩ := hB
  rw [ht] at hP1
  exact kk H1 locs1 hP1 hD1 hS1
theorem ik_Nv {host : String} (S0 : CallFix p m c cc nL s args Ts own) (hM : Met l y ws rm (va_Pc As (ik_P D ty N Wd A σ)) (ik_Qv D Wd A σ1) 0 0 A) (cw : va_CN R s args own index y host bytes maxL ret ws rm 0 0 n ∧ (Cond.static y).before args s = true ∧ True)
    (hP : va_P D vwCl (Wd σ) H) (hK : va_K D vwCl ty s) (hD : va_D A (Wd σ)) (hN : ∀ q ∈ N, va_Nw (.methodLinkNest q.1 q.2.1 q.2.2 "ImageChecker") s) (hS : va_S A s.heap H locs) (hn : As.length = n) (hsize : ls.size = nL) (hst : st0 = As.reverse ++ rest) (hW : (rest.map fun v => v.category).sum ≤ 8) (hdg : decode cc pc = .ok (.invokestatic index, 3))
    (kk : ∀ (H1 : Heap) (locs1 : List Loc), va_P D vwCl (Wd σ1) H1 → va_D A (Wd σ1) → va_S A s.heap H1 locs1 → W p l e R s m args below meth c H1 locs1 0 0 Q (F0 m (pc + 3) ls rest)) : W p l e R s m args below meth c H locs 0 0 Q (F0 m pc ls st0) := by
  refine va_callv (va_runSN (As := As) (rest := rest) S0 hM cw ⟨ik_blind, ik_pre hP hK hD hN⟩ rfl hn hsize hst (lv_room hW) hdg ⟨Nat.zero_le _, Nat.zero_le _⟩) hS (fun q _ h => h) (fun q h => h) (fun u t H1 locs1 ht hvm hw hB hz hk hS1 => ?_)
  subst hw
  obtain ⟨hP1, hD1⟩ := hB
  rw [ht] at hP1
  exact kk H1 locs1 hP1 hD1 hS1
end IKR
/-- the state of a side: what its arrays and whole numbers hold -/
abbrev ck_S : Type := (Nat → Int32) × (Nat → Int32) × (Nat → Int32) × (Nat → Int32) × (Nat → Int32) × (Nat → Int32) × (Nat → Int32) × Int32 × (Nat → Int32) × (Nat → Int32) × (Nat → Int32) × Int32
def ck_cells (σ : ck_S) : (Nat → Int32) := σ.1
def ck_set_cells (σ : ck_S) (v : (Nat → Int32)) : ck_S := (v, σ.2.1, σ.2.2.1, σ.2.2.2.1, σ.2.2.2.2.1, σ.2.2.2.2.2.1, σ.2.2.2.2.2.2.1, σ.2.2.2.2.2.2.2.1, σ.2.2.2.2.2.2.2.2.1, σ.2.2.2.2.2.2.2.2.2.1, σ.2.2.2.2.2.2.2.2.2.2.1, σ.2.2.2.2.2.2.2.2.2.2.2)
def ck_memory (σ : ck_S) : (Nat → Int32) := σ.2.1
def ck_set_memory (σ : ck_S) (v : (Nat → Int32)) : ck_S := (σ.1, v, σ.2.2.1, σ.2.2.2.1, σ.2.2.2.2.1, σ.2.2.2.2.2.1, σ.2.2.2.2.2.2.1, σ.2.2.2.2.2.2.2.1, σ.2.2.2.2.2.2.2.2.1, σ.2.2.2.2.2.2.2.2.2.1, σ.2.2.2.2.2.2.2.2.2.2.1, σ.2.2.2.2.2.2.2.2.2.2.2)
def ck_held (σ : ck_S) : (Nat → Int32) := σ.2.2.1
def ck_set_held (σ : ck_S) (v : (Nat → Int32)) : ck_S := (σ.1, σ.2.1, v, σ.2.2.2.1, σ.2.2.2.2.1, σ.2.2.2.2.2.1, σ.2.2.2.2.2.2.1, σ.2.2.2.2.2.2.2.1, σ.2.2.2.2.2.2.2.2.1, σ.2.2.2.2.2.2.2.2.2.1, σ.2.2.2.2.2.2.2.2.2.2.1, σ.2.2.2.2.2.2.2.2.2.2.2)
def ck_inRuns (σ : ck_S) : (Nat → Int32) := σ.2.2.2.1
def ck_set_inRuns (σ : ck_S) (v : (Nat → Int32)) : ck_S := (σ.1, σ.2.1, σ.2.2.1, v, σ.2.2.2.2.1, σ.2.2.2.2.2.1, σ.2.2.2.2.2.2.1, σ.2.2.2.2.2.2.2.1, σ.2.2.2.2.2.2.2.2.1, σ.2.2.2.2.2.2.2.2.2.1, σ.2.2.2.2.2.2.2.2.2.2.1, σ.2.2.2.2.2.2.2.2.2.2.2)
def ck_hasEntry (σ : ck_S) : (Nat → Int32) := σ.2.2.2.2.1
def ck_set_hasEntry (σ : ck_S) (v : (Nat → Int32)) : ck_S := (σ.1, σ.2.1, σ.2.2.1, σ.2.2.2.1, v, σ.2.2.2.2.2.1, σ.2.2.2.2.2.2.1, σ.2.2.2.2.2.2.2.1, σ.2.2.2.2.2.2.2.2.1, σ.2.2.2.2.2.2.2.2.2.1, σ.2.2.2.2.2.2.2.2.2.2.1, σ.2.2.2.2.2.2.2.2.2.2.2)
def ck_reached (σ : ck_S) : (Nat → Int32) := σ.2.2.2.2.2.1
def ck_set_reached (σ : ck_S) (v : (Nat → Int32)) : ck_S := (σ.1, σ.2.1, σ.2.2.1, σ.2.2.2.1, σ.2.2.2.2.1, v, σ.2.2.2.2.2.2.1, σ.2.2.2.2.2.2.2.1, σ.2.2.2.2.2.2.2.2.1, σ.2.2.2.2.2.2.2.2.2.1, σ.2.2.2.2.2.2.2.2.2.2.1, σ.2.2.2.2.2.2.2.2.2.2.2)
def ck_queue (σ : ck_S) : (Nat → Int32) := σ.2.2.2.2.2.2.1
def ck_set_queue (σ : ck_S) (v : (Nat → Int32)) : ck_S := (σ.1, σ.2.1, σ.2.2.1, σ.2.2.2.1, σ.2.2.2.2.1, σ.2.2.2.2.2.1, v, σ.2.2.2.2.2.2.2.1, σ.2.2.2.2.2.2.2.2.1, σ.2.2.2.2.2.2.2.2.2.1, σ.2.2.2.2.2.2.2.2.2.2.1, σ.2.2.2.2.2.2.2.2.2.2.2)
def ck_queued (σ : ck_S) : Int32 := σ.2.2.2.2.2.2.2.1
def ck_set_queued (σ : ck_S) (v : Int32) : ck_S := (σ.1, σ.2.1, σ.2.2.1, σ.2.2.2.1, σ.2.2.2.2.1, σ.2.2.2.2.2.1, σ.2.2.2.2.2.2.1, v, σ.2.2.2.2.2.2.2.2.1, σ.2.2.2.2.2.2.2.2.2.1, σ.2.2.2.2.2.2.2.2.2.2.1, σ.2.2.2.2.2.2.2.2.2.2.2)
def ck_came (σ : ck_S) : (Nat → Int32) := σ.2.2.2.2.2.2.2.2.1
def ck_set_came (σ : ck_S) (v : (Nat → Int32)) : ck_S := (σ.1, σ.2.1, σ.2.2.1, σ.2.2.2.1, σ.2.2.2.2.1, σ.2.2.2.2.2.1, σ.2.2.2.2.2.2.1, σ.2.2.2.2.2.2.2.1, v, σ.2.2.2.2.2.2.2.2.2.1, σ.2.2.2.2.2.2.2.2.2.2.1, σ.2.2.2.2.2.2.2.2.2.2.2)
def ck_rightly (σ : ck_S) : (Nat → Int32) := σ.2.2.2.2.2.2.2.2.2.1
def ck_set_rightly (σ : ck_S) (v : (Nat → Int32)) : ck_S := (σ.1, σ.2.1, σ.2.2.1, σ.2.2.2.1, σ.2.2.2.2.1, σ.2.2.2.2.2.1, σ.2.2.2.2.2.2.1, σ.2.2.2.2.2.2.2.1, σ.2.2.2.2.2.2.2.2.1, v, σ.2.2.2.2.2.2.2.2.2.2.1, σ.2.2.2.2.2.2.2.2.2.2.2)
def ck_waitOn (σ : ck_S) : (Nat → Int32) := σ.2.2.2.2.2.2.2.2.2.2.1
def ck_set_waitOn (σ : ck_S) (v : (Nat → Int32)) : ck_S := (σ.1, σ.2.1, σ.2.2.1, σ.2.2.2.1, σ.2.2.2.2.1, σ.2.2.2.2.2.1, σ.2.2.2.2.2.2.1, σ.2.2.2.2.2.2.2.1, σ.2.2.2.2.2.2.2.2.1, σ.2.2.2.2.2.2.2.2.2.1, v, σ.2.2.2.2.2.2.2.2.2.2.2)
def ck_count (σ : ck_S) : Int32 := σ.2.2.2.2.2.2.2.2.2.2.2
def ck_set_count (σ : ck_S) (v : Int32) : ck_S := (σ.1, σ.2.1, σ.2.2.1, σ.2.2.2.1, σ.2.2.2.2.1, σ.2.2.2.2.2.1, σ.2.2.2.2.2.2.1, σ.2.2.2.2.2.2.2.1, σ.2.2.2.2.2.2.2.2.1, σ.2.2.2.2.2.2.2.2.2.1, σ.2.2.2.2.2.2.2.2.2.2.1, v)
/-- its cells -/
def ck_W (cI cZ : ClassId) (a : Nat → Nat) (σ : ck_S) : va_W := [(a 0, .inr (5, [.ref (a 1), .ref (a 4), .ref (a 5), .ref (a 7), .ref (a 9), .ref (a 12)])), (a 1, .inr (3, [.ref (a 2), .ref (a 3)])), (a 2, .inl (cI, 1355, .inl (ck_cells σ))), (a 3, .inl (cI, 1355, .inl (ck_memory σ))), (a 4, .inl (cZ, 25, .inl (ck_held σ))), (a 5, .inr (2, [.ref (a 6)])), (a 6, .inl (cZ, 201, .inl (ck_inRuns σ))), (a 7, .inr (0, [.ref (a 8)])), (a 8, .inl (cZ, 25, .inl (ck_hasEntry σ))), (a 9, .inr (1, [.ref (a 10), .ref (a 11), .int (ck_queued σ)])), (a 10, .inl (cZ, 25, .inl (ck_reached σ))), (a 11, .inl (cI, 24, .inl (ck_queue σ))), (a 12, .inr (4, [.ref (a 13), .ref (a 14), .ref (a 15), .int (ck_count σ)])), (a 13, .inl (cZ, 25, .inl (ck_came σ))), (a 14, .inl (cZ, 25, .inl (ck_rightly σ))), (a 15, .inl (cI, 24, .inl (ck_waitOn σ)))]
abbrev ck_rd_cells (σ : ck_S) (i : Int32) : Option Int32 := ik_rd (ck_cells σ) 1355 i
abbrev ck_wr_cells (σ : ck_S) (i v : Int32) : Option ck_S := (ik_wr (ck_cells σ) 1355 i v).map (ck_set_cells σ)
abbrev ck_rd_memory (σ : ck_S) (i : Int32) : Option Int32 := ik_rd (ck_memory σ) 1355 i
abbrev ck_wr_memory (σ : ck_S) (i v : Int32) : Option ck_S := (ik_wr (ck_memory σ) 1355 i v).map (ck_set_memory σ)
abbrev ck_rd_held (σ : ck_S) (i : Int32) : Option Int32 := ik_rd (ck_held σ) 25 i
abbrev ck_wr_held (σ : ck_S) (i v : Int32) : Option ck_S := (ik_wr (ck_held σ) 25 i (vp_nar .boolean v)).map (ck_set_held σ)
abbrev ck_rd_inRuns (σ : ck_S) (i : Int32) : Option Int32 := ik_rd (ck_inRuns σ) 201 i
abbrev ck_wr_inRuns (σ : ck_S) (i v : Int32) : Option ck_S := (ik_wr (ck_inRuns σ) 201 i (vp_nar .boolean v)).map (ck_set_inRuns σ)
abbrev ck_rd_hasEntry (σ : ck_S) (i : Int32) : Option Int32 := ik_rd (ck_hasEntry σ) 25 i
abbrev ck_wr_hasEntry (σ : ck_S) (i v : Int32) : Option ck_S := (ik_wr (ck_hasEntry σ) 25 i (vp_nar .boolean v)).map (ck_set_hasEntry σ)
abbrev ck_rd_reached (σ : ck_S) (i : Int32) : Option Int32 := ik_rd (ck_reached σ) 25 i
abbrev ck_wr_reached (σ : ck_S) (i v : Int32) : Option ck_S := (ik_wr (ck_reached σ) 25 i (vp_nar .boolean v)).map (ck_set_reached σ)
abbrev ck_rd_queue (σ : ck_S) (i : Int32) : Option Int32 := ik_rd (ck_queue σ) 24 i
abbrev ck_wr_queue (σ : ck_S) (i v : Int32) : Option ck_S := (ik_wr (ck_queue σ) 24 i v).map (ck_set_queue σ)
abbrev ck_rd_came (σ : ck_S) (i : Int32) : Option Int32 := ik_rd (ck_came σ) 25 i
abbrev ck_wr_came (σ : ck_S) (i v : Int32) : Option ck_S := (ik_wr (ck_came σ) 25 i (vp_nar .boolean v)).map (ck_set_came σ)
abbrev ck_rd_rightly (σ : ck_S) (i : Int32) : Option Int32 := ik_rd (ck_rightly σ) 25 i
abbrev ck_wr_rightly (σ : ck_S) (i v : Int32) : Option ck_S := (ik_wr (ck_rightly σ) 25 i (vp_nar .boolean v)).map (ck_set_rightly σ)
abbrev ck_rd_waitOn (σ : ck_S) (i : Int32) : Option Int32 := ik_rd (ck_waitOn σ) 24 i
abbrev ck_wr_waitOn (σ : ck_S) (i v : Int32) : Option ck_S := (ik_wr (ck_waitOn σ) 24 i v).map (ck_set_waitOn σ)
/-- the state of a side: what its arrays and whole numbers hold -/
abbrev mk_S : Type := Int32 × (Nat → Int32) × (Nat → Int32) × (Nat → Int32) × (Nat → Int32) × (Nat → Int32) × (Nat → Int32) × (Nat → Int32) × Int32 × (Nat → Int32)
def mk_code (σ : mk_S) : Int32 := σ.1
def mk_set_code (σ : mk_S) (v : Int32) : mk_S := (v, σ.2.1, σ.2.2.1, σ.2.2.2.1, σ.2.2.2.2.1, σ.2.2.2.2.2.1, σ.2.2.2.2.2.2.1, σ.2.2.2.2.2.2.2.1, σ.2.2.2.2.2.2.2.2.1, σ.2.2.2.2.2.2.2.2.2)
def mk_all (σ : mk_S) : (Nat → Int32) := σ.2.1
def mk_set_all (σ : mk_S) (v : (Nat → Int32)) : mk_S := (σ.1, v, σ.2.2.1, σ.2.2.2.1, σ.2.2.2.2.1, σ.2.2.2.2.2.1, σ.2.2.2.2.2.2.1, σ.2.2.2.2.2.2.2.1, σ.2.2.2.2.2.2.2.2.1, σ.2.2.2.2.2.2.2.2.2)
def mk_before (σ : mk_S) : (Nat → Int32) := σ.2.2.1
def mk_set_before (σ : mk_S) (v : (Nat → Int32)) : mk_S := (σ.1, σ.2.1, v, σ.2.2.2.1, σ.2.2.2.2.1, σ.2.2.2.2.2.1, σ.2.2.2.2.2.2.1, σ.2.2.2.2.2.2.2.1, σ.2.2.2.2.2.2.2.2.1, σ.2.2.2.2.2.2.2.2.2)
def mk_held (σ : mk_S) : (Nat → Int32) := σ.2.2.2.1
def mk_set_held (σ : mk_S) (v : (Nat → Int32)) : mk_S := (σ.1, σ.2.1, σ.2.2.1, v, σ.2.2.2.2.1, σ.2.2.2.2.2.1, σ.2.2.2.2.2.2.1, σ.2.2.2.2.2.2.2.1, σ.2.2.2.2.2.2.2.2.1, σ.2.2.2.2.2.2.2.2.2)
def mk_owner (σ : mk_S) : (Nat → Int32) := σ.2.2.2.2.1
def mk_set_owner (σ : mk_S) (v : (Nat → Int32)) : mk_S := (σ.1, σ.2.1, σ.2.2.1, σ.2.2.2.1, v, σ.2.2.2.2.2.1, σ.2.2.2.2.2.2.1, σ.2.2.2.2.2.2.2.1, σ.2.2.2.2.2.2.2.2.1, σ.2.2.2.2.2.2.2.2.2)
def mk_reached (σ : mk_S) : (Nat → Int32) := σ.2.2.2.2.2.1
def mk_set_reached (σ : mk_S) (v : (Nat → Int32)) : mk_S := (σ.1, σ.2.1, σ.2.2.1, σ.2.2.2.1, σ.2.2.2.2.1, v, σ.2.2.2.2.2.2.1, σ.2.2.2.2.2.2.2.1, σ.2.2.2.2.2.2.2.2.1, σ.2.2.2.2.2.2.2.2.2)
def mk_rightly (σ : mk_S) : (Nat → Int32) := σ.2.2.2.2.2.2.1
def mk_set_rightly (σ : mk_S) (v : (Nat → Int32)) : mk_S := (σ.1, σ.2.1, σ.2.2.1, σ.2.2.2.1, σ.2.2.2.2.1, σ.2.2.2.2.2.1, v, σ.2.2.2.2.2.2.2.1, σ.2.2.2.2.2.2.2.2.1, σ.2.2.2.2.2.2.2.2.2)
def mk_list (σ : mk_S) : (Nat → Int32) := σ.2.2.2.2.2.2.2.1
def mk_set_list (σ : mk_S) (v : (Nat → Int32)) : mk_S := (σ.1, σ.2.1, σ.2.2.1, σ.2.2.2.1, σ.2.2.2.2.1, σ.2.2.2.2.2.1, σ.2.2.2.2.2.2.1, v, σ.2.2.2.2.2.2.2.2.1, σ.2.2.2.2.2.2.2.2.2)
def mk_listSize (σ : mk_S) : Int32 := σ.2.2.2.2.2.2.2.2.1
def mk_set_listSize (σ : mk_S) (v : Int32) : mk_S := (σ.1, σ.2.1, σ.2.2.1, σ.2.2.2.1, σ.2.2.2.2.1, σ.2.2.2.2.2.1, σ.2.2.2.2.2.2.1, σ.2.2.2.2.2.2.2.1, v, σ.2.2.2.2.2.2.2.2.2)
def mk_goesOn (σ : mk_S) : (Nat → Int32) := σ.2.2.2.2.2.2.2.2.2
def mk_set_goesOn (σ : mk_S) (v : (Nat → Int32)) : mk_S := (σ.1, σ.2.1, σ.2.2.1, σ.2.2.2.1, σ.2.2.2.2.1, σ.2.2.2.2.2.1, σ.2.2.2.2.2.2.1, σ.2.2.2.2.2.2.2.1, σ.2.2.2.2.2.2.2.2.1, v)
/-- its cells -/
def mk_W (cI cZ : ClassId) (a : Nat → Nat) (σ : mk_S) : va_W := [(a 0, .inr (6, [.int (mk_code σ), .ref (a 1), .ref (a 2), .ref (a 3), .ref (a 4), .ref (a 5), .ref (a 6), .ref (a 7), .int (mk_listSize σ), .ref (a 8)])), (a 1, .inl (cI, 1429, .inl (mk_all σ))), (a 2, .inl (cI, 1429, .inl (mk_before σ))), (a 3, .inl (cZ, 25, .inl (mk_held σ))), (a 4, .inl (cI, 201, .inl (mk_owner σ))), (a 5, .inl (cZ, 25, .inl (mk_reached σ))), (a 6, .inl (cZ, 25, .inl (mk_rightly σ))), (a 7, .inl (cI, 24, .inl (mk_list σ))), (a 8, .inl (cZ, 25, .inl (mk_goesOn σ)))]
abbrev mk_rd_all (σ : mk_S) (i : Int32) : Option Int32 := ik_rd (mk_all σ) 1429 i
abbrev mk_wr_all (σ : mk_S) (i v : Int32) : Option mk_S := (ik_wr (mk_all σ) 1429 i v).map (mk_set_all σ)
abbrev mk_rd_before (σ : mk_S) (i : Int32) : Option Int32 := ik_rd (mk_before σ) 1429 i
abbrev mk_wr_before (σ : mk_S) (i v : Int32) : Option mk_S := (ik_wr (mk_before σ) 1429 i v).map (mk_set_before σ)
abbrev mk_rd_held (σ : mk_S) (i : Int32) : Option Int32 := ik_rd (mk_held σ) 25 i
abbrev mk_wr_held (σ : mk_S) (i v : Int32) : Option mk_S := (ik_wr (mk_held σ) 25 i (vp_nar .boolean v)).map (mk_set_held σ)
abbrev mk_rd_owner (σ : mk_S) (i : Int32) : Option Int32 := ik_rd (mk_owner σ) 201 i
abbrev mk_wr_owner (σ : mk_S) (i v : Int32) : Option mk_S := (ik_wr (mk_owner σ) 201 i v).map (mk_set_owner σ)
abbrev mk_rd_reached (σ : mk_S) (i : Int32) : Option Int32 := ik_rd (mk_reached σ) 25 i
abbrev mk_wr_reached (σ : mk_S) (i v : Int32) : Option mk_S := (ik_wr (mk_reached σ) 25 i (vp_nar .boolean v)).map (mk_set_reached σ)
abbrev mk_rd_rightly (σ : mk_S) (i : Int32) : Option Int32 := ik_rd (mk_rightly σ) 25 i
abbrev mk_wr_rightly (σ : mk_S) (i v : Int32) : Option mk_S := (ik_wr (mk_rightly σ) 25 i (vp_nar .boolean v)).map (mk_set_rightly σ)
abbrev mk_rd_list (σ : mk_S) (i : Int32) : Option Int32 := ik_rd (mk_list σ) 24 i
abbrev mk_wr_list (σ : mk_S) (i v : Int32) : Option mk_S := (ik_wr (mk_list σ) 24 i v).map (mk_set_list σ)
abbrev mk_rd_goesOn (σ : mk_S) (i : Int32) : Option Int32 := ik_rd (mk_goesOn σ) 25 i
abbrev mk_wr_goesOn (σ : mk_S) (i v : Int32) : Option mk_S := (ik_wr (mk_goesOn σ) 25 i (vp_nar .boolean v)).map (mk_set_goesOn σ)
/-- the nest calls that a class of ours makes -/
abbrev ck_N : List (String × Nat × MethodName) := [(RX1, 15, yX7_unmark), (RX1, 52, yX7_isFile), (RX2, 23, yX7_unmark), (RX2, 71, yX7_isFile), (RX3, 45, yX7_isFile), (RX4, 15, yX7_unmark), (RX6, 26, yX7_unmark), (RX6, 36, yX7_isFile)]
