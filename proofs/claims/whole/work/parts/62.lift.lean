/-! a contract over a world, lifted to a world that holds it and more -/
theorem fr_map {l : Launch} {y : MethodName} {ws : List Cond} {rm : Room} {Pc : Array Value → State → Prop} {Qc : Array Value → State → Outcome → State → Prop} {mc ms : Nat} {free : Addr → Prop}
    (h : ∀ (args : Array Value) (s : State), Pc args s → ∃ (P1 : Array Value → State → Prop) (Q1 : Array Value → State → Outcome → State → Prop) (f1 : Addr → Prop), Met l y ws rm P1 Q1 mc ms f1 ∧ P1 args s ∧ (∀ o t, Q1 args s o t → Qc args s o t) ∧ ∀ q, f1 q → free q) : Met l y ws rm Pc Qc mc ms free := by
  intro p e ha hc hk s m args below hf happ hP _
  obtain ⟨P1, Q1, f1, hM, h1, h2, h3⟩ := h args s hP
  obtain ⟨n, o, g1, g2, g3, g4, L, g5, g6⟩ := hM p e ha hc hk s m args below hf happ h1 trivial
  exact ⟨n, o, g1, g2, g3, h2 _ _ g4, L, g5, fun q hq => h3 _ (g6 q hq)⟩
theorem fr_mapX {l : Launch} {y : MethodName} {ws : List Cond} {rm : Room} {Pc : Array Value → State → Prop} {Qc : Array Value → State → Outcome → State → Prop} {XC : String → State → State → Prop} {mc ms : Nat} {free : Addr → Prop}
    (h : ∀ (args : Array Value) (s : State), Pc args s → ∃ (P1 : Array Value → State → Prop) (Q1 : Array Value → State → Outcome → State → Prop) (X1 : String → State → State → Prop) (f1 : Addr → Prop), vx_Met l y ws rm P1 Q1 X1 mc ms f1 ∧ P1 args s ∧ (∀ o t, Q1 args s o t → Qc args s o t) ∧ (∀ E t, X1 E s t → XC E s t) ∧ ∀ q, f1 q → free q) : vx_Met l y ws rm Pc Qc XC mc ms free := by
  intro p e ha hc hk s m args below hf happ hP _
  obtain ⟨P1, Q1, X1, f1, hM, h1, h2, hx, h3⟩ := h args s hP
  obtain ⟨n, o, g1, g2, g3, g4⟩ := hM p e ha hc hk s m args below hf happ h1 trivial
  refine ⟨n, o, g1, g2, g3, ?_⟩
  rcases g4 with ⟨q1, L, q2, q3⟩ | ⟨q, q1, E, ce, L, q2, q3, q4, q5, q6, q7, q8⟩
  · exact Or.inl ⟨h2 _ _ q1, L, q2, fun q hq => h3 _ (q3 q hq)⟩
  · exact Or.inr ⟨q, q1, E, ce, L, hx _ _ q2, q3, q4, q5, q6, q7, fun z hz => h3 _ (q8 z hz)⟩
def fr_A (w : va_W) : Nat → Prop := fun q => ∃ (k : Nat) (e : va_E), w[k]? = some (q, e)
theorem fr_self {w : va_W} {A : Nat → Prop} (h : va_D A w) : va_D (fr_A w) w := ⟨h.1, fun k q hk => ⟨k, q.2, hk⟩⟩
theorem fr_in {w2 w1 : va_W} {isC : List Nat} (hC : isC.map (fun i => w2[i]?) = w1.map some) {k : Nat} {x : Nat × va_E} (h : w1[k]? = some x) : ∃ i : Nat, w2[i]? = some x := by
  have h1 : (w1.map some)[k]? = some (some x) := by rw [List.getElem?_map, h]; rfl
  rw [← hC, List.getElem?_map] at h1
  cases hi : isC[k]? with
  | none => rw [hi] at h1; cases h1
  | some i => rw [hi] at h1; exact ⟨i, Option.some.inj h1⟩
theorem fr_sub {w2 w1 : va_W} {A : Nat → Prop} {isC : List Nat} (hD : va_D A w2) (hC : isC.map (fun i => w2[i]?) = w1.map some) : ∀ q, fr_A w1 q → A q := by
  rintro q ⟨k, e, h⟩
  obtain ⟨i, hi⟩ := fr_in hC h
  exact hD.2 i _ hi
theorem fr_join {A : Nat → Prop} {D : va_G} {cl : List vw_C} {w2 w1 wr w1' : va_W} {H H1 : Heap} (hP : va_P D cl w2 H) (hD : va_D A w2) (isC isR : List Nat) (hC : isC.map (fun i => w2[i]?) = w1.map some) (hR : isR.map (fun i => w2[i]?) = wr.map some) (hn : va_nd isR = true) (hdis : ∀ i ∈ isR, i ∉ isC)
    (hk : ∀ q : Nat, q < H.size → ¬ fr_A w1 q → H1[q]? = H[q]?) (hP1 : va_P D cl w1' H1) (hD1 : va_D (fr_A w1) w1') : va_P D cl (wr ++ w1') H1 ∧ va_D A (wr ++ w1') := by
  have hDw : va_D (fun q => A q ∨ H.size ≤ q) w2 := hD.weaken (fun _ _ _ h => Or.inl h)
  obtain ⟨a1, a2⟩ := va_join (wr := wr) (w1 := w1') hP hDw isC isR hC hR hn hdis (fun q h1 h2 => hk q h1 (fun ⟨k, e, hq⟩ => h2 (Or.inl ⟨k, e, hq⟩))) (fun q h => by
    rcases h with ⟨k, e, hq⟩ | h
    · exact Or.inl (fr_sub hD hC q ⟨k, e, hq⟩)
    · exact Or.inr h) hP1 (hD1.weaken (fun _ _ _ ⟨k, e, hq⟩ => Or.inl ⟨k, e, hq⟩))
  refine ⟨a1, a2.1, fun k q hq => ?_⟩
  rcases List.mem_append.mp (List.mem_of_getElem? hq) with h | h
  · obtain ⟨j, hj⟩ := List.getElem?_of_mem h
    obtain ⟨i, hi⟩ := fr_in hR hj
    exact hD.2 i _ hi
  · obtain ⟨j, hj⟩ := List.getElem?_of_mem h
    exact fr_sub hD hC _ (hD1.2 j _ hj)
theorem fr_pick {D : va_G} {cl : List vw_C} {w w' : va_W} {H : Heap} {is : List Nat} (h : is.map (fun i => w[i]?) = w'.map some) (hP : va_P D cl w H) : va_P D cl w' H := fun k q hk => by
  obtain ⟨i, hi⟩ := fr_in h hk
  exact hP i q hi
/-- the places by which a small world lies in a large one, ahead and behind -/
def fr_Em {S1 S2 : Type} (Wd1 : S1 → va_W) (Wd2 : S2 → va_W) (σ σ1 : S1) (τ τ1 : S2) (isC isR isB : List Nat) (wr : va_W) : Prop :=
  isC.map (fun i => (Wd2 τ)[i]?) = (Wd1 σ).map some ∧ isR.map (fun i => (Wd2 τ)[i]?) = wr.map some ∧ va_nd isR = true ∧ (∀ i ∈ isR, i ∉ isC) ∧ isB.map (fun i => (wr ++ Wd1 σ1)[i]?) = (Wd2 τ1).map some ∧ va_nd isB = true ∧ va_nd isC = true
section FRL
variable {S1 S2 : Type} {l : Launch} {y : MethodName} {ws : List Cond} {rm : Room} {D : va_G} {ty1 ty2 : List (ClassId × FieldType)} {N1 N2 : List (String × Nat × MethodName)} {Wd1 : S1 → va_W} {Wd2 : S2 → va_W} {σ σ1 : S1} {τ τ1 : S2} {av : List Value} {r : Int32} {mc ms : Nat} {isC isR isB isT : List Nat} {wr : va_W}
theorem fr_post {A : Nat → Prop} {s t : State} (em : fr_Em Wd1 Wd2 σ σ1 τ τ1 isC isR isB wr) (hP : va_P D vwCl (Wd2 τ) s.heap) (hD : va_D A (Wd2 τ)) (hP1 : va_P D vwCl (Wd1 σ1) t.heap) (hD1 : va_D (fr_A (Wd1 σ)) (Wd1 σ1)) (hF : va_F (fr_A (Wd1 σ)) s t) :
    (va_P D vwCl (Wd2 τ1) t.heap ∧ va_D A (Wd2 τ1)) ∧ va_F A s t := by
  obtain ⟨hC, hR, hn, hdis, hB, hnB, -⟩ := em
  obtain ⟨a1, a2⟩ := fr_join hP hD isC isR hC hR hn hdis hF.2 hP1 hD1
  exact ⟨⟨fr_pick hB a1, a2.sub isB hnB hB⟩, hF.1, fun q h1 h2 => hF.2 q h1 (fun h => h2 (fr_sub hD hC q h))⟩
theorem fr_pre {A : Nat → Prop} {s : State} (em : fr_Em Wd1 Wd2 σ σ1 τ τ1 isC isR isB wr) (hT : isT.filterMap (fun i => ty2[i]?) = ty1) (hNN : ∀ q ∈ N1, q ∈ N2) (h : ik_P D ty2 N2 Wd2 A τ s) : ik_P D ty1 N1 Wd1 (fr_A (Wd1 σ)) σ s := by
  obtain ⟨hP, hK, hD, hN⟩ := h
  exact ⟨fr_pick em.1 hP, hK.sub isT hT, fr_self (hD.sub isC em.2.2.2.2.2.2 em.1), fun q hq => hN q (hNN q hq)⟩
theorem fr_i (hM : ∀ A, Met l y ws rm (va_Pc av (ik_P D ty1 N1 Wd1 A σ)) (ik_Qi D Wd1 A r σ1) mc ms A) (em : fr_Em Wd1 Wd2 σ σ1 τ τ1 isC isR isB wr) (hT : isT.filterMap (fun i => ty2[i]?) = ty1) (hNN : ∀ q ∈ N1, q ∈ N2) (A : Nat → Prop) :
    Met l y ws rm (va_Pc av (ik_P D ty2 N2 Wd2 A τ)) (ik_Qi D Wd2 A r τ1) mc ms A := by
  refine fr_map (fun args s h => ⟨_, _, _, hM (fr_A (Wd1 σ)), ⟨h.1, fr_pre em hT hNN h.2⟩, fun o t q => ?_, fr_sub h.2.2.2.1 em.1⟩)
  obtain ⟨⟨r1, u, h1, ⟨rfl, rfl⟩, h2, h3⟩, hF⟩ := q
  obtain ⟨g1, g2⟩ := fr_post em h.2.1 h.2.2.2.1 h2 h3 hF
  exact ⟨⟨r1, τ1, h1, ⟨rfl, rfl⟩, g1⟩, g2⟩
theorem fr_v (hM : ∀ A, Met l y ws rm (va_Pc av (ik_P D ty1 N1 Wd1 A σ)) (ik_Qv D Wd1 A σ1) mc ms A) (em : fr_Em Wd1 Wd2 σ σ1 τ τ1 isC isR isB wr) (hT : isT.filterMap (fun i => ty2[i]?) = ty1) (hNN : ∀ q ∈ N1, q ∈ N2) (A : Nat → Prop) :
    Met l y ws rm (va_Pc av (ik_P D ty2 N2 Wd2 A τ)) (ik_Qv D Wd2 A τ1) mc ms A := by
  refine fr_map (fun args s h => ⟨_, _, _, hM (fr_A (Wd1 σ)), ⟨h.1, fr_pre em hT hNN h.2⟩, fun o t q => ?_, fr_sub h.2.2.2.1 em.1⟩)
  obtain ⟨⟨u, h1, rfl, h2, h3⟩, hF⟩ := q
  obtain ⟨g1, g2⟩ := fr_post em h.2.1 h.2.2.2.1 h2 h3 hF
  exact ⟨⟨τ1, h1, rfl, g1⟩, g2⟩
theorem fr_X {A B : Nat → Prop} {s : State} (hAB : ∀ q, B q → A q) (h : xk_P A s) : xk_P B s := ⟨h.1.narrow hAB, h.2.1.narrow hAB, h.2.2⟩
theorem fr_xv (hM : ∀ A, vx_Met l y ws rm (va_Pc av (fun U => ik_P D ty1 N1 Wd1 A σ U ∧ xk_P A U)) (xk_Qv A) (xk_X D Wd1 A σ) mc ms A) (em : fr_Em Wd1 Wd2 σ σ τ τ isC isR isB wr) (hT : isT.filterMap (fun i => ty2[i]?) = ty1) (hNN : ∀ q ∈ N1, q ∈ N2) (A : Nat → Prop) :
    vx_Met l y ws rm (va_Pc av (fun U => ik_P D ty2 N2 Wd2 A τ U ∧ xk_P A U)) (xk_Qv A) (xk_X D Wd2 A τ) mc ms A := by
  refine fr_mapX (fun args s h => ⟨_, _, _, _, hM (fr_A (Wd1 σ)), ⟨h.1, fr_pre em hT hNN h.2.1, fr_X (fr_sub h.2.1.2.2.1 em.1) h.2.2⟩, fun o t q => ?_, fun E t q => ?_, fr_sub h.2.1.2.2.1 em.1⟩)
  · obtain ⟨⟨u, -, h2, -⟩, -⟩ := q
    exact h2.elim
  · obtain ⟨u, rfl, ⟨h1, h2, h3⟩, hF⟩ := q
    obtain ⟨g1, g2⟩ := fr_post em h.2.1.1 h.2.1.2.2.1 h2 h3 hF
    exact ⟨τ, rfl, ⟨h1, g1⟩, g2⟩
theorem fr_xi (hM : ∀ A, vx_Met l y ws rm (va_Pc av (fun U => ik_P D ty1 N1 Wd1 A σ U ∧ xk_P A U)) (xk_Qi A) (xk_X D Wd1 A σ) mc ms A) (em : fr_Em Wd1 Wd2 σ σ τ τ isC isR isB wr) (hT : isT.filterMap (fun i => ty2[i]?) = ty1) (hNN : ∀ q ∈ N1, q ∈ N2) (A : Nat → Prop) :
    vx_Met l y ws rm (va_Pc av (fun U => ik_P D ty2 N2 Wd2 A τ U ∧ xk_P A U)) (xk_Qi A) (xk_X D Wd2 A τ) mc ms A := by
  refine fr_mapX (fun args s h => ⟨_, _, _, _, hM (fr_A (Wd1 σ)), ⟨h.1, fr_pre em hT hNN h.2.1, fr_X (fr_sub h.2.1.2.2.1 em.1) h.2.2⟩, fun o t q => ?_, fun E t q => ?_, fr_sub h.2.1.2.2.1 em.1⟩)
  · obtain ⟨⟨r, u, -, h2, -⟩, -⟩ := q
    exact h2.elim
  · obtain ⟨u, rfl, ⟨h1, h2, h3⟩, hF⟩ := q
    obtain ⟨g1, g2⟩ := fr_post em h.2.1.1 h.2.1.2.2.1 h2 h3 hF
    exact ⟨τ, rfl, ⟨h1, g1⟩, g2⟩
end FRL
/-- the world of the law: the class, the reference, the row for an answer -/
abbrev lk_S : Type := ck_S × mk_S × (Nat → Int64)
def lk_W (cI cZ cJ : ClassId) (a b : Nat → Nat) (o : Nat) (τ : lk_S) : va_W := ck_W cI cZ a τ.1 ++ (mk_W cI cZ b τ.2.1 ++ [(o, .inl (cJ, 1, .inr (.inl τ.2.2)))])
abbrev lk_T (cI cZ cJ : ClassId) : List (ClassId × FieldType) := [(cI, .int), (cZ, .boolean), (cJ, .long)]
abbrev lk_c : List Nat := [0, 1, 2, 3, 4, 5, 6, 7, 8, 9, 10, 11, 12, 13, 14, 15]
abbrev lk_m : List Nat := [16, 17, 18, 19, 20, 21, 22, 23, 24]
theorem lk_em (cI cZ cJ : ClassId) (a b : Nat → Nat) (o : Nat) (σ σ1 : ck_S) (ρ : mk_S) (f : Nat → Int64) : fr_Em (ck_W cI cZ a) (lk_W cI cZ cJ a b o) σ σ1 (σ, ρ, f) (σ1, ρ, f) lk_c (lk_m ++ [25]) [10, 11, 12, 13, 14, 15, 16, 17, 18, 19, 20, 21, 22, 23, 24, 25, 0, 1, 2, 3, 4, 5, 6, 7, 8, 9] (mk_W cI cZ b ρ ++ [(o, .inl (cJ, 1, .inr (.inl f)))]) :=
  ⟨rfl, rfl, by decide, by decide, rfl, by decide, by decide⟩
theorem lk_emM (cI cZ cJ : ClassId) (a b : Nat → Nat) (o : Nat) (σ : ck_S) (ρ ρ1 : mk_S) (f : Nat → Int64) : fr_Em (mk_W cI cZ b) (lk_W cI cZ cJ a b o) ρ ρ1 (σ, ρ, f) (σ, ρ1, f) lk_m (lk_c ++ [25]) [0, 1, 2, 3, 4, 5, 6, 7, 8, 9, 10, 11, 12, 13, 14, 15, 17, 18, 19, 20, 21, 22, 23, 24, 25, 16] (ck_W cI cZ a σ ++ [(o, .inl (cJ, 1, .inr (.inl f)))]) :=
  ⟨rfl, rfl, by decide, by decide, rfl, by decide, by decide⟩
