-- OUR LAYER over the kit's worlds: one bundle for a method's surroundings, contracts that carry a list of cells
abbrev Gt : Type := va_G × (Nat → ClassId)
abbrev tyG (g : Gt) : List (ClassId × FieldType) := [(g.2 0, .int), (g.2 1, .boolean), (g.2 2, .long), (g.2 3, .object "OilPush$Cylinder"), (g.2 4, .object "OilPush$Sheet")]
abbrev nestL : List (String × Nat × MethodName × String) := [("OilPush", 11, yX4_init, "OilPush"), ("OilPush", 20, yX7_init, "OilPush"), ("OilPush$State", 23, yX8_init, "OilPush"), ("OilPush", 27, yX1_init, "OilPush"), ("OilPush", 34, yX3_init, "OilPush"), ("OilPush", 54, yX5_init, "OilPush"), ("OilPush", 67, yX9_init, "OilPush"), ("OilPush", 72, yX6_init, "OilPush"), ("OilPush$Sheet", 38, yX11_get, "OilPush"), ("OilPush$Sheet", 42, yX11_within, "OilPush"), ("OilPush$Cylinder", 41, yX11_get, "OilPush"), ("OilPush$Cylinder", 55, yX11_set, "OilPush"), ("OilPush$Orders", 37, yX11_get, "OilPush"), ("OilPush$Orders", 28, yX11_set, "OilPush"), ("OilPush$Engine", 106, yX11_get, "OilPush"), ("OilPush$Engine", 37, yX11_set, "OilPush"), ("OilPush$State", 28, yX11_get, "OilPush"), ("OilPush$State", 32, yX11_set, "OilPush"), ("OilPush$Readings", 25, yX11_set, "OilPush"), ("OilPush$Readings", 29, yX11_get, "OilPush"), ("OilPush$Sheet", 46, yX11_set, "OilPush"), ("OilPush$Plant", 46, yX11_get, "OilPush")]
def supL : List Cond := ([.methodLink RX10 7 ⟨"OilPush$Held", "pushAgainst", "(I)I"⟩, .sameMethod "OilPush$Held" "OilPush$Cylinder" "pushAgainst" "(I)I", .superclass RX10 "OilPush$Held", .superclass "OilPush$Held" "OilPush$Cylinder", .instanceMethod yX0_pushAgainst, .initialized RX0] : List Cond) ++ wsX0_pushAgainst
theorem supL_good : GoodIn supL supL := goodIn_of _ (by decide +kernel)
def okN (U : State) : Prop := (∀ q ∈ nestL, va_Nw (.methodLinkNest q.1 q.2.1 q.2.2.1 q.2.2.2) U) ∧ va_AO "OilPush$Cylinder" U ∧ va_AO "OilPush$Sheet" U ∧ va_Nw (.castable "OilPush$Held" "OilPush$Cylinder") U ∧ va_Nw (.castable "OilPush$Twin" "OilPush$Cylinder") U ∧ va_Nw (.castable "OilPush$Twin" "OilPush$Held") U ∧ va_Nc "OilPush$Cylinder" "OilPush$Held" U ∧ va_Nc "OilPush$Cylinder" "OilPush$Twin" U ∧ va_Nc "OilPush$Held" "OilPush$Twin" U ∧ ∀ w ∈ supL, w.before #[] U = true
theorem okN.warm {s U : State} (hW : s.WarmedH U.vm) (h : okN s) : okN U := ⟨fun q hq => va_Nw.warmM hW (h.1 q hq), va_AO.moved hW.alike h.2.1, va_AO.moved hW.alike h.2.2.1, va_Nw.warmC hW h.2.2.2.1, va_Nw.warmC hW h.2.2.2.2.1, va_Nw.warmC hW h.2.2.2.2.2.1, va_Nc.moved hW.alike h.2.2.2.2.2.2.1, va_Nc.moved hW.alike h.2.2.2.2.2.2.2.1, va_Nc.moved hW.alike h.2.2.2.2.2.2.2.2.1, fun w hw => pay_in h.2.2.2.2.2.2.2.2.2 supL_good w hw #[] U hW⟩
theorem okN.same {U V : State} (e : U.vm = V.vm) (h : okN U) : okN V := okN.warm (by rw [← e]; exact State.WarmedH.refl U) h
theorem nst_0 {U : State} (h : okN U) : va_Nw (.methodLinkNest "OilPush" 11 yX4_init "OilPush") U := h.1 ("OilPush", 11, yX4_init, "OilPush") (List.mem_of_getElem? (i := 0) rfl)
theorem nst_1 {U : State} (h : okN U) : va_Nw (.methodLinkNest "OilPush" 20 yX7_init "OilPush") U := h.1 ("OilPush", 20, yX7_init, "OilPush") (List.mem_of_getElem? (i := 1) rfl)
theorem nst_2 {U : State} (h : okN U) : va_Nw (.methodLinkNest "OilPush$State" 23 yX8_init "OilPush") U := h.1 ("OilPush$State", 23, yX8_init, "OilPush") (List.mem_of_getElem? (i := 2) rfl)
theorem nst_3 {U : State} (h : okN U) : va_Nw (.methodLinkNest "OilPush" 27 yX1_init "OilPush") U := h.1 ("OilPush", 27, yX1_init, "OilPush") (List.mem_of_getElem? (i := 3) rfl)
theorem nst_4 {U : State} (h : okN U) : va_Nw (.methodLinkNest "OilPush" 34 yX3_init "OilPush") U := h.1 ("OilPush", 34, yX3_init, "OilPush") (List.mem_of_getElem? (i := 4) rfl)
theorem nst_5 {U : State} (h : okN U) : va_Nw (.methodLinkNest "OilPush" 54 yX5_init "OilPush") U := h.1 ("OilPush", 54, yX5_init, "OilPush") (List.mem_of_getElem? (i := 5) rfl)
theorem nst_6 {U : State} (h : okN U) : va_Nw (.methodLinkNest "OilPush" 67 yX9_init "OilPush") U := h.1 ("OilPush", 67, yX9_init, "OilPush") (List.mem_of_getElem? (i := 6) rfl)
theorem nst_7 {U : State} (h : okN U) : va_Nw (.methodLinkNest "OilPush" 72 yX6_init "OilPush") U := h.1 ("OilPush", 72, yX6_init, "OilPush") (List.mem_of_getElem? (i := 7) rfl)
theorem nst_8 {U : State} (h : okN U) : va_Nw (.methodLinkNest "OilPush$Sheet" 38 yX11_get "OilPush") U := h.1 ("OilPush$Sheet", 38, yX11_get, "OilPush") (List.mem_of_getElem? (i := 8) rfl)
theorem nst_9 {U : State} (h : okN U) : va_Nw (.methodLinkNest "OilPush$Sheet" 42 yX11_within "OilPush") U := h.1 ("OilPush$Sheet", 42, yX11_within, "OilPush") (List.mem_of_getElem? (i := 9) rfl)
theorem nst_10 {U : State} (h : okN U) : va_Nw (.methodLinkNest "OilPush$Cylinder" 41 yX11_get "OilPush") U := h.1 ("OilPush$Cylinder", 41, yX11_get, "OilPush") (List.mem_of_getElem? (i := 10) rfl)
theorem nst_11 {U : State} (h : okN U) : va_Nw (.methodLinkNest "OilPush$Cylinder" 55 yX11_set "OilPush") U := h.1 ("OilPush$Cylinder", 55, yX11_set, "OilPush") (List.mem_of_getElem? (i := 11) rfl)
theorem nst_12 {U : State} (h : okN U) : va_Nw (.methodLinkNest "OilPush$Orders" 37 yX11_get "OilPush") U := h.1 ("OilPush$Orders", 37, yX11_get, "OilPush") (List.mem_of_getElem? (i := 12) rfl)
theorem nst_13 {U : State} (h : okN U) : va_Nw (.methodLinkNest "OilPush$Orders" 28 yX11_set "OilPush") U := h.1 ("OilPush$Orders", 28, yX11_set, "OilPush") (List.mem_of_getElem? (i := 13) rfl)
theorem nst_14 {U : State} (h : okN U) : va_Nw (.methodLinkNest "OilPush$Engine" 106 yX11_get "OilPush") U := h.1 ("OilPush$Engine", 106, yX11_get, "OilPush") (List.mem_of_getElem? (i := 14) rfl)
theorem nst_15 {U : State} (h : okN U) : va_Nw (.methodLinkNest "OilPush$Engine" 37 yX11_set "OilPush") U := h.1 ("OilPush$Engine", 37, yX11_set, "OilPush") (List.mem_of_getElem? (i := 15) rfl)
theorem nst_16 {U : State} (h : okN U) : va_Nw (.methodLinkNest "OilPush$State" 28 yX11_get "OilPush") U := h.1 ("OilPush$State", 28, yX11_get, "OilPush") (List.mem_of_getElem? (i := 16) rfl)
theorem nst_17 {U : State} (h : okN U) : va_Nw (.methodLinkNest "OilPush$State" 32 yX11_set "OilPush") U := h.1 ("OilPush$State", 32, yX11_set, "OilPush") (List.mem_of_getElem? (i := 17) rfl)
theorem nst_18 {U : State} (h : okN U) : va_Nw (.methodLinkNest "OilPush$Readings" 25 yX11_set "OilPush") U := h.1 ("OilPush$Readings", 25, yX11_set, "OilPush") (List.mem_of_getElem? (i := 18) rfl)
theorem nst_19 {U : State} (h : okN U) : va_Nw (.methodLinkNest "OilPush$Readings" 29 yX11_get "OilPush") U := h.1 ("OilPush$Readings", 29, yX11_get, "OilPush") (List.mem_of_getElem? (i := 19) rfl)
theorem nst_20 {U : State} (h : okN U) : va_Nw (.methodLinkNest "OilPush$Sheet" 46 yX11_set "OilPush") U := h.1 ("OilPush$Sheet", 46, yX11_set, "OilPush") (List.mem_of_getElem? (i := 20) rfl)
theorem nst_21 {U : State} (h : okN U) : va_Nw (.methodLinkNest "OilPush$Plant" 46 yX11_get "OilPush") U := h.1 ("OilPush$Plant", 46, yX11_get, "OilPush") (List.mem_of_getElem? (i := 21) rfl)
def Kw (g : Gt) (U : State) : Prop := va_K g.1 vwCl (tyG g) U ∧ okN U
theorem Kw.warm {g : Gt} {s U : State} (hW : s.WarmedH U.vm) (h : Kw g s) : Kw g U := ⟨va_K.moved hW.alike h.1, h.2.warm hW⟩
theorem Kw.same {g : Gt} {U V : State} (e : U.vm = V.vm) (h : Kw g U) : Kw g V := ⟨va_K.moved (by rw [e]; exact Vm.Alike.refl _) h.1, h.2.same e⟩
def PreW (g : Gt) (av : List Value) (ws : va_W) (sz : Nat) : Array Value → State → Prop := va_Pc av (fun U => U.heap.size = sz ∧ va_P g.1 vwCl ws U.heap ∧ va_D (fun _ => True) ws ∧ Kw g U)
theorem PreW.blind {g : Gt} {av : List Value} {ws : va_W} {sz : Nat} : FrameBlind (PreW g av ws sz) := fun a U gf mk q => by
  obtain ⟨q0, q1, qP, qD, qK⟩ := q
  exact ⟨q0, q1, qP, qD, Kw.same (U := U) rfl qK⟩
abbrev BwA (g : Gt) (A : Nat → Prop) {S : Type} (ws' : S → va_W) : S → State → Prop := fun u t => va_P g.1 vwCl (ws' u) t.heap ∧ va_D A (ws' u)
abbrev QI (g : Gt) (A : Nat → Prop) {S : Type} (post : Int32 → S → Prop) (ws' : S → va_W) := va_Qi post (BwA g A ws') A
abbrev QL (g : Gt) (A : Nat → Prop) {S : Type} (post : Int64 → S → Prop) (ws' : S → va_W) := va_Ql post (BwA g A ws') A
abbrev QV (g : Gt) (A : Nat → Prop) {S : Type} (post : S → Prop) (ws' : S → va_W) := va_Qv post (BwA g A ws') A
abbrev QQ (g : Gt) (A : Nat → Prop) {S : Type} (post : Option Nat → S → Prop) (ws' : S → va_W) := va_Qq post (BwA g A ws') A
/-- a contract: any heap that holds the cells ws; what comes back is one of the lists ws' u -/
def Ctr (l : Launch) (g : Gt) (y : MethodName) (wl : List Cond) (rm : Room) (av : List Value) (ws : va_W) (Qc : (Nat → Prop) → Array Value → State → Outcome → State → Prop) : Prop := ∀ sz : Nat, Met l y wl rm (PreW g av ws sz) (Qc (va_A ws sz)) rm.cells rm.slots (va_A ws sz)
def Ctx (g : Gt) (p : Program) (s : State) (m : MethodId) (args : Array Value) (meth : Method) (c : Code) (y : MethodName) (wl : List Cond) (cc : ByteArray) (maxL : Nat) (ret : Option FieldType) : Prop :=
  p.tables.exec = Jvm.exec ∧ c.code = cc ∧ meth.sig.returnType = ret ∧ (∀ w ∈ wl, w.before args s = true) ∧ s.vm.findClass y.cls = some m.cls ∧ meth.locks = false ∧ c.maxLocals = maxL ∧ (y.name = "<init>" → meth.name = "<init>") ∧ Kw g s
theorem Ctr.of {l : Launch} {g : Gt} {y : MethodName} {wl wl' : List Cond} {rm : Room} {av : List Value} {ws : va_W} {Qc : (Nat → Prop) → Array Value → State → Outcome → State → Prop} {cc : ByteArray} {maxL : Nat} {ret : Option FieldType} (hy : plainName y.cls = true) (hw : wl = Cond.code y cc maxL ret :: wl') (hn : (lg_sl av).length ≤ maxL)
    (body : ∀ (p : Program) (e : Env) (s : State) (m : MethodId) (below : List Frame) (meth : Method) (c : Code) (A : Nat → Prop) (ls : Array Slot) (H : Heap), Ctx g p s m av.toArray meth c y wl cc maxL ret → va_P g.1 vwCl ws H → va_D A ws → (∀ q, s.heap.size ≤ q → A q) → va_S A s.heap H [] → lv_has ls maxL (lv_args 0 av) →
      W p l e rm s m av.toArray below meth c H [] 0 0 (MQ below (Qc A) av.toArray s rm.cells rm.slots A) (F0 m 0 ls [])) : Ctr l g y wl rm av ws Qc := by
  intro sz
  refine Met.ofW (cc := cc) (maxL := maxL) (ret := ret) hy hw ?_
  intro p e s m args below meth c s₁ B hml hv
  obtain ⟨rfl, hsz, hP, hD0, hK⟩ := hv
  subst hsz
  have hl := lv_entry av (n := maxL) hn
  rw [lg_entry_eq]
  generalize (lg_sl av ++ List.replicate (maxL - (lg_sl av).length) Slot.unset).toArray = ls at hl ⊢
  exact body p e s m below meth c _ ls _ ⟨B.exec, B.bytes, B.returns, atoms_spec (ws := wl) B.pre, findClass_of_methodNamed B.named, B.notSynchronized, hml, (fun h => (name_of_methodNamed B.named B.method).1.trans h), hK⟩ hP hD0.self (fun q h => Or.inr h) va_S.rf hl
def z0 : Nat → Int32 := fun _ => 0
def zL : Nat → Int64 := fun _ => 0
theorem sw_out {x : Int32} {n : Nat} (hn : n < 100) (h : ∀ j : Nat, j ≤ n → ¬ x = Int32.ofNat j) : x.toInt < 0 ∨ (n : Int) < x.toInt := by
  by_cases h0 : x.toInt < 0
  · exact Or.inl h0
  · refine Or.inr (Int.not_le.mp fun h1 => ?_)
    refine h x.toInt.toNat (by omega) (Int32.toInt_inj.mp ?_)
    have := Int32.toInt_ofNat_of_lt (n := x.toInt.toNat) (by omega)
    rw [this]; omega
theorem sw4 {x : Int32} (h0 : ¬ x = 0) (h1 : ¬ x = 1) (h2 : ¬ x = 2) (h3 : ¬ x = 3) (h4 : ¬ x = 4) : x.toInt < 0 ∨ (4 : Int) < x.toInt := sw_out (n := 4) (by omega) (fun j hj => by rcases (show j = 0 ∨ j = 1 ∨ j = 2 ∨ j = 3 ∨ j = 4 by omega) with rfl | rfl | rfl | rfl | rfl <;> assumption)
theorem sw5 {x : Int32} (h0 : ¬ x = 0) (h1 : ¬ x = 1) (h2 : ¬ x = 2) (h3 : ¬ x = 3) (h4 : ¬ x = 4) (h5 : ¬ x = 5) : x.toInt < 0 ∨ (5 : Int) < x.toInt := sw_out (n := 5) (by omega) (fun j hj => by rcases (show j = 0 ∨ j = 1 ∨ j = 2 ∨ j = 3 ∨ j = 4 ∨ j = 5 by omega) with rfl | rfl | rfl | rfl | rfl | rfl <;> assumption)
theorem inc_toInt {i n : Int32} (h : ¬ n ≤ i) : (i + 1).toInt = i.toInt + 1 := by
  rw [Int32.le_iff_toInt_le] at h
  have h1 := Int32.toInt_lt n
  have h2 := Int32.le_toInt i
  rw [Int32.toInt_add, show (1 : Int32).toInt = 1 from by decide]
  rw [Int.bmod_eq_of_le] <;> omega
theorem inc_le {i n : Int32} (h : ¬ n ≤ i) : (i + 1).toInt ≤ n.toInt := by
  have := inc_toInt h
  rw [Int32.le_iff_toInt_le] at h
  omega
section BASE
variable {p : Program} {l : Launch} {e : Env} {R : Room} {s : State} {m : MethodId} {args : Array Value} {below : List Frame} {meth : Method} {c : Code} {H : Heap} {locs : List Loc} {cells slots : Nat} {Q : State → Prop}
variable {cc : ByteArray} {pc : Nat} {ls : Array Slot} {rest st0 : List Value} {A : Nat → Prop} {g : Gt} {y0 : MethodName} {wl0 : List Cond} {nL : Nat} {ret0 : Option FieldType} {mc ms : Nat}
theorem nx_i {x v : Int32} (h : x = v) (k : W p l e R s m args below meth c H locs cells slots Q (F0 m pc ls (.int v :: rest))) : W p l e R s m args below meth c H locs cells slots Q (F0 m pc ls (.int x :: rest)) := by subst h; exact k
theorem nx_l {x v : Int64} (h : x = v) (k : W p l e R s m args below meth c H locs cells slots Q (F0 m pc ls (.long v :: rest))) : W p l e R s m args below meth c H locs cells slots Q (F0 m pc ls (.long x :: rest)) := by subst h; exact k
theorem nx_v {x v : Value} (h : x = v) (k : W p l e R s m args below meth c H locs cells slots Q (F0 m pc ls (v :: rest))) : W p l e R s m args below meth c H locs cells slots Q (F0 m pc ls (x :: rest)) := by subst h; exact k
theorem W.loop {α : Type} (P : α → Array Slot → Heap → List Loc → Prop) (μ : α → Nat) (x : α) (h : P x ls H locs) (step : ∀ (x : α) (ls : Array Slot) (H : Heap) (locs : List Loc), P x ls H locs → (∀ (x' : α) (ls' : Array Slot) (H' : Heap) (locs' : List Loc), P x' ls' H' locs' → μ x' < μ x → W p l e R s m args below meth c H' locs' cells slots Q (F0 m pc ls' rest)) → W p l e R s m args below meth c H locs cells slots Q (F0 m pc ls rest)) : W p l e R s m args below meth c H locs cells slots Q (F0 m pc ls rest) := by
  have key : ∀ (k : Nat) (x : α) (ls : Array Slot) (H : Heap) (locs : List Loc), μ x < k → P x ls H locs → W p l e R s m args below meth c H locs cells slots Q (F0 m pc ls rest) := by
    intro k
    induction k with
    | zero => intro x ls H locs h1; omega
    | succ k ih => intro x ls H locs h1 h2; exact step x ls H locs h2 (fun x' ls' H' locs' h3 h4 => ih x' ls' H' locs' (by omega) h3)
  exact key (μ x + 1) x ls H locs (by omega) h
theorem retI {S : Type} {post : Int32 → S → Prop} {ws' : S → va_W} {r : Int32} (C : Ctx g p s m args meth c y0 wl0 cc nL (some .int)) (hS : va_S A s.heap H locs) (u : S) (hp : post r u) (hP : va_P g.1 vwCl (ws' u) H) (hD : va_D A (ws' u)) (hc : cells ≤ mc) (hs : slots ≤ ms) (hdg : decode cc pc = .ok (.ireturn, 1)) : W p l e R s m args below meth c H locs cells slots (MQ below (QI g A post ws') args s mc ms A) (F0 m pc ls [.int r]) :=
  W.widen hc hs (W.iret C.1 C.2.1 C.2.2.1 (fun t ht _ => ⟨⟨r, u, rfl, hp, by rw [ht]; exact hP, hD⟩, hS.F ht⟩) hS.2.2 hdg C.2.2.2.2.2.1)
theorem retZ {S : Type} {post : Int32 → S → Prop} {ws' : S → va_W} {r : Int32} (C : Ctx g p s m args meth c y0 wl0 cc nL (some .boolean)) (hn : narrow .boolean (.int r) = .int r) (hS : va_S A s.heap H locs) (u : S) (hp : post r u) (hP : va_P g.1 vwCl (ws' u) H) (hD : va_D A (ws' u)) (hc : cells ≤ mc) (hs : slots ≤ ms) (hdg : decode cc pc = .ok (.ireturn, 1)) : W p l e R s m args below meth c H locs cells slots (MQ below (QI g A post ws') args s mc ms A) (F0 m pc ls [.int r]) :=
  W.widen hc hs (W.zret C.1 C.2.1 C.2.2.1 hn (fun t ht _ => ⟨⟨r, u, rfl, hp, by rw [ht]; exact hP, hD⟩, hS.F ht⟩) hS.2.2 hdg C.2.2.2.2.2.1)
theorem retL {S : Type} {post : Int64 → S → Prop} {ws' : S → va_W} {r : Int64} (C : Ctx g p s m args meth c y0 wl0 cc nL (some .long)) (hS : va_S A s.heap H locs) (u : S) (hp : post r u) (hP : va_P g.1 vwCl (ws' u) H) (hD : va_D A (ws' u)) (hc : cells ≤ mc) (hs : slots ≤ ms) (hdg : decode cc pc = .ok (.lreturn, 1)) : W p l e R s m args below meth c H locs cells slots (MQ below (QL g A post ws') args s mc ms A) (F0 m pc ls [.long r]) :=
  W.widen hc hs (W.lret C.1 C.2.1 C.2.2.1 (fun t ht _ => ⟨⟨r, u, rfl, hp, by rw [ht]; exact hP, hD⟩, hS.F ht⟩) hS.2.2 hdg C.2.2.2.2.2.1)
theorem retV {S : Type} {post : S → Prop} {ws' : S → va_W} (C : Ctx g p s m args meth c y0 wl0 cc nL none) (hS : va_S A s.heap H locs) (u : S) (hp : post u) (hP : va_P g.1 vwCl (ws' u) H) (hD : va_D A (ws' u)) (hc : cells ≤ mc) (hs : slots ≤ ms) (hdg : decode cc pc = .ok (.return_, 1)) : W p l e R s m args below meth c H locs cells slots (MQ below (QV g A post ws') args s mc ms A) (F0 m pc ls []) :=
  W.widen hc hs (W.vret C.1 C.2.1 C.2.2.1 (fun t ht _ => ⟨⟨u, rfl, hp, by rw [ht]; exact hP, hD⟩, hS.F ht⟩) hS.2.2 hdg C.2.2.2.2.2.1)
theorem retQ {S : Type} {post : Option Nat → S → Prop} {ws' : S → va_W} {n : String} {r : Option Nat} (C : Ctx g p s m args meth c y0 wl0 cc nL (some (.object n))) (hS : va_S A s.heap H locs) (u : S) (hp : post r u) (hP : va_P g.1 vwCl (ws' u) H) (hD : va_D A (ws' u)) (hc : cells ≤ mc) (hs : slots ≤ ms) {v : Value} (hv : v = va_rf r) (hdg : decode cc pc = .ok (.areturn, 1)) : W p l e R s m args below meth c H locs cells slots (MQ below (QQ g A post ws') args s mc ms A) (F0 m pc ls [v]) := by
  subst hv
  exact W.widen hc hs (W.aret C.1 C.2.1 C.2.2.1 (Or.inl ⟨_, rfl⟩) (by cases r with | none => exact Or.inl rfl | some a => exact Or.inr ⟨a, rfl⟩) (fun t ht _ => ⟨⟨r, u, rfl, hp, by rw [ht]; exact hP, hD⟩, hS.F ht⟩) hS.2.2 hdg C.2.2.2.2.2.1)
theorem va_P.pick {D : va_G} {cl : List vw_C} {ws wc : va_W} (hP : va_P D cl ws H) (is : List Nat) (hC : is.map (fun i => ws[i]?) = wc.map some) : va_P D cl wc H := by
  intro k q hk
  have h1 : (is.map (fun i => ws[i]?))[k]? = some (some q) := by rw [hC, List.getElem?_map, hk]; rfl
  rw [List.getElem?_map] at h1
  cases hi : is[k]? with
  | none => rw [hi] at h1; cases h1
  | some i => rw [hi] at h1; exact hP i q (Option.some.inj h1)
variable {y : MethodName} {wl wl' : List Cond} {rm : Room} {b index maxL n : Nat} {Cn : String} {bytes : ByteArray} {ret : Option FieldType} {As : List Value} {ws wc wr : va_W}
theorem callIV {S : Type} {post : Int32 → S → Prop} {ws' : S → va_W} (C : Ctx g p s m args meth c y0 wl0 cc nL ret0) (hM : Ctr l g y wl rm (.ref b :: As) wc (fun A => QI g A post ws')) (n : Nat) (hG : GoodIn wl0 (wsV y0.cls index Cn y wl)) (hw : wl = Cond.code y bytes maxL ret :: wl') (hd : y.cls = Cn ∧ y.cls ≠ "java/lang/invoke/MethodHandle" ∧ y.cls ≠ "java/lang/invoke/VarHandle" ∧ (parseMethodDescriptor y.desc).map (fun d => d.parameters.length) = some n) (hRm : rm.frames + 1 ≤ R.frames ∧ 8 + (maxL + 11) + rm.locals ≤ R.locals) (isC isR : List Nat) (hP : va_P g.1 vwCl ws H) (hD : va_D A ws) (hA : ∀ q, s.heap.size ≤ q → A q) (hS : va_S A s.heap H locs) (hC : isC.map (fun i => ws[i]?) = wc.map some) (hR : isR.map (fun i => ws[i]?) = wr.map some) (hnC : va_nd isC = true) (hnR : va_nd isR = true) (hdis : ∀ i ∈ isR, i ∉ isC) {k ci : Nat} {r0 : vw_C} {fs : List Value} (hrec : ws[k]? = some (b, .inr (ci, fs))) (hci : vwCl[ci]? = some r0) (hcn : r0.1 = Cn) (hnA : As.length = n) (hl : ls.size = nL) (hst : st0 = As.reverse ++ .ref b :: rest) (hrm : (rest.map fun v => v.category).sum ≤ 8) (hdg : decode cc pc = .ok (.invokevirtual index, 3)) (hf : cells + rm.cells ≤ R.cells ∧ slots + rm.slots ≤ R.slots)
    (kk : ∀ (r : Int32) (u : S) (H1 : Heap) (locs1 : List Loc), post r u → va_P g.1 vwCl (wr ++ ws' u) H1 → va_D A (wr ++ ws' u) → va_S A s.heap H1 locs1 → W p l e R s m args below meth c H1 locs1 (cells + rm.cells) (slots + rm.slots) Q (F0 m (pc + 3) ls (.int r :: rest))) : W p l e R s m args below meth c H locs cells slots Q (F0 m pc ls st0) := by
  subst hcn
  have hPc := hP.pick isC hC
  have hDc := hD.sub isC hnC hC
  have hFc := va_free hD hS hA isC hC
  refine va_calli (va_runV ⟨C.1, C.2.1, C.2.2.2.2.2.2.1, C.2.2.2.2.1, C.2.2.2.1⟩ (hM H.size) (cwV n C.2.2.2.1 hG hw rfl rfl hd hRm) ⟨PreW.blind, va_recv C.2.2.2.2.2.2.2.2.1 hP hci hrec, fun U hU hW => ⟨rfl, by rw [hU], by rw [hU]; exact hPc, hDc.weaken (fun _ _ _ _ => trivial), C.2.2.2.2.2.2.2.2.warm hW⟩⟩ rfl hnA hl hst (lv_room hrm) hdg hf) hS (fun q _ h => hFc q h) hFc (fun r u t H1 locs1 ht hvm hw hB hz1 hk1 hS1 => ?_)
  obtain ⟨hP1, hD1⟩ := hB
  rw [ht] at hP1
  obtain ⟨hP2, hD2⟩ := va_join hP hD isC isR hC hR hnR hdis hk1 hFc hP1 hD1
  exact kk r u H1 locs1 hw hP2 hD2 hS1
theorem callVV {S : Type} {post : S → Prop} {ws' : S → va_W} (C : Ctx g p s m args meth c y0 wl0 cc nL ret0) (hM : Ctr l g y wl rm (.ref b :: As) wc (fun A => QV g A post ws')) (n : Nat) (hG : GoodIn wl0 (wsV y0.cls index Cn y wl)) (hw : wl = Cond.code y bytes maxL ret :: wl') (hd : y.cls = Cn ∧ y.cls ≠ "java/lang/invoke/MethodHandle" ∧ y.cls ≠ "java/lang/invoke/VarHandle" ∧ (parseMethodDescriptor y.desc).map (fun d => d.parameters.length) = some n) (hRm : rm.frames + 1 ≤ R.frames ∧ 8 + (maxL + 11) + rm.locals ≤ R.locals) (isC isR : List Nat) (hP : va_P g.1 vwCl ws H) (hD : va_D A ws) (hA : ∀ q, s.heap.size ≤ q → A q) (hS : va_S A s.heap H locs) (hC : isC.map (fun i => ws[i]?) = wc.map some) (hR : isR.map (fun i => ws[i]?) = wr.map some) (hnC : va_nd isC = true) (hnR : va_nd isR = true) (hdis : ∀ i ∈ isR, i ∉ isC) {k ci : Nat} {r0 : vw_C} {fs : List Value} (hrec : ws[k]? = some (b, .inr (ci, fs))) (hci : vwCl[ci]? = some r0) (hcn : r0.1 = Cn) (hnA : As.length = n) (hl : ls.size = nL) (hst : st0 = As.reverse ++ .ref b :: rest) (hrm : (rest.map fun v => v.category).sum ≤ 8) (hdg : decode cc pc = .ok (.invokevirtual index, 3)) (hf : cells + rm.cells ≤ R.cells ∧ slots + rm.slots ≤ R.slots)
    (kk : ∀ (u : S) (H1 : Heap) (locs1 : List Loc), post u → va_P g.1 vwCl (wr ++ ws' u) H1 → va_D A (wr ++ ws' u) → va_S A s.heap H1 locs1 → W p l e R s m args below meth c H1 locs1 (cells + rm.cells) (slots + rm.slots) Q (F0 m (pc + 3) ls (rest))) : W p l e R s m args below meth c H locs cells slots Q (F0 m pc ls st0) := by
  subst hcn
  have hPc := hP.pick isC hC
  have hDc := hD.sub isC hnC hC
  have hFc := va_free hD hS hA isC hC
  refine va_callv (va_runV ⟨C.1, C.2.1, C.2.2.2.2.2.2.1, C.2.2.2.2.1, C.2.2.2.1⟩ (hM H.size) (cwV n C.2.2.2.1 hG hw rfl rfl hd hRm) ⟨PreW.blind, va_recv C.2.2.2.2.2.2.2.2.1 hP hci hrec, fun U hU hW => ⟨rfl, by rw [hU], by rw [hU]; exact hPc, hDc.weaken (fun _ _ _ _ => trivial), C.2.2.2.2.2.2.2.2.warm hW⟩⟩ rfl hnA hl hst (lv_room hrm) hdg hf) hS (fun q _ h => hFc q h) hFc (fun u t H1 locs1 ht hvm hw hB hz1 hk1 hS1 => ?_)
  obtain ⟨hP1, hD1⟩ := hB
  rw [ht] at hP1
  obtain ⟨hP2, hD2⟩ := va_join hP hD isC isR hC hR hnR hdis hk1 hFc hP1 hD1
  exact kk u H1 locs1 hw hP2 hD2 hS1
theorem callVI {S : Type} {post : S → Prop} {ws' : S → va_W} (C : Ctx g p s m args meth c y0 wl0 cc nL ret0) (hM : Ctr l g y wl rm (.ref b :: As) wc (fun A => QV g A post ws')) (n : Nat) (hG : GoodIn wl0 wl) (hw : wl = Cond.code y bytes maxL none :: wl') (hini : Cond.initialized y.cls ∈ wl0) (hlk : Cond.methodLink y0.cls index y ∈ wl0) (hins : Cond.instanceMethod y ∈ wl0) (hnm : y.name = "<init>") (hd : y.cls ≠ "java/lang/invoke/MethodHandle" ∧ y.cls ≠ "java/lang/invoke/VarHandle" ∧ (parseMethodDescriptor y.desc).map (fun d => d.parameters.length) = some n) (hRm : rm.frames + 1 ≤ R.frames ∧ 8 + (maxL + 11) + rm.locals ≤ R.locals) (isC isR : List Nat) (hP : va_P g.1 vwCl ws H) (hD : va_D A ws) (hA : ∀ q, s.heap.size ≤ q → A q) (hS : va_S A s.heap H locs) (hC : isC.map (fun i => ws[i]?) = wc.map some) (hR : isR.map (fun i => ws[i]?) = wr.map some) (hnC : va_nd isC = true) (hnR : va_nd isR = true) (hdis : ∀ i ∈ isR, i ∉ isC) (hnA : As.length = n) (hl : ls.size = nL) (hst : st0 = As.reverse ++ .ref b :: rest) (hrm : (rest.map fun v => v.category).sum ≤ 8) (hdg : decode cc pc = .ok (.invokespecial index, 3)) (hf : cells + rm.cells ≤ R.cells ∧ slots + rm.slots ≤ R.slots)
    (kk : ∀ (u : S) (H1 : Heap) (locs1 : List Loc), post u → va_P g.1 vwCl (wr ++ ws' u) H1 → va_D A (wr ++ ws' u) → va_S A s.heap H1 locs1 → W p l e R s m args below meth c H1 locs1 (cells + rm.cells) (slots + rm.slots) Q (F0 m (pc + 3) ls (rest))) : W p l e R s m args below meth c H locs cells slots Q (F0 m pc ls st0) := by
  have hPc := hP.pick isC hC
  have hDc := hD.sub isC hnC hC
  have hFc := va_free hD hS hA isC hC
  refine va_callv (va_runI ⟨C.1, C.2.1, C.2.2.2.2.2.2.1, C.2.2.2.2.1, C.2.2.2.1⟩ (hM H.size) (cwI n C.2.2.2.1 hG hw rfl rfl (C.2.2.2.1 _ hini) (C.2.2.2.1 _ hlk) (C.2.2.2.1 _ hins) hnm hd hRm) ⟨PreW.blind, fun U hU hW => ⟨rfl, by rw [hU], by rw [hU]; exact hPc, hDc.weaken (fun _ _ _ _ => trivial), C.2.2.2.2.2.2.2.2.warm hW⟩⟩ rfl hnA hl hst (lv_room hrm) hdg hf) hS (fun q _ h => hFc q h) hFc (fun u t H1 locs1 ht hvm hw hB hz1 hk1 hS1 => ?_)
  obtain ⟨hP1, hD1⟩ := hB
  rw [ht] at hP1
  obtain ⟨hP2, hD2⟩ := va_join hP hD isC isR hC hR hnR hdis hk1 hFc hP1 hD1
  exact kk u H1 locs1 hw hP2 hD2 hS1
theorem callVIN {S : Type} {post : S → Prop} {ws' : S → va_W} (C : Ctx g p s m args meth c y0 wl0 cc nL ret0) {host : String} (hM : Ctr l g y wl rm (.ref b :: As) wc (fun A => QV g A post ws')) (n : Nat) (hG : GoodIn wl0 wl) (hw : wl = Cond.code y bytes maxL none :: wl') (hl0 : va_Nw (.methodLinkNest y0.cls index y host) s) (hini : Cond.initialized y.cls ∈ wl0) (hins : Cond.instanceMethod y ∈ wl0) (hnm : y.name = "<init>") (hd : y.cls ≠ "java/lang/invoke/MethodHandle" ∧ y.cls ≠ "java/lang/invoke/VarHandle" ∧ (parseMethodDescriptor y.desc).map (fun d => d.parameters.length) = some n) (hRm : rm.frames + 1 ≤ R.frames ∧ 8 + (maxL + 11) + rm.locals ≤ R.locals) (isC isR : List Nat) (hP : va_P g.1 vwCl ws H) (hD : va_D A ws) (hA : ∀ q, s.heap.size ≤ q → A q) (hS : va_S A s.heap H locs) (hC : isC.map (fun i => ws[i]?) = wc.map some) (hR : isR.map (fun i => ws[i]?) = wr.map some) (hnC : va_nd isC = true) (hnR : va_nd isR = true) (hdis : ∀ i ∈ isR, i ∉ isC) (hnA : As.length = n) (hl : ls.size = nL) (hst : st0 = As.reverse ++ .ref b :: rest) (hrm : (rest.map fun v => v.category).sum ≤ 8) (hdg : decode cc pc = .ok (.invokespecial index, 3)) (hf : cells + rm.cells ≤ R.cells ∧ slots + rm.slots ≤ R.slots)
    (kk : ∀ (u : S) (H1 : Heap) (locs1 : List Loc), post u → va_P g.1 vwCl (wr ++ ws' u) H1 → va_D A (wr ++ ws' u) → va_S A s.heap H1 locs1 → W p l e R s m args below meth c H1 locs1 (cells + rm.cells) (slots + rm.slots) Q (F0 m (pc + 3) ls (rest))) : W p l e R s m args below meth c H locs cells slots Q (F0 m pc ls st0) := by
  have hPc := hP.pick isC hC
  have hDc := hD.sub isC hnC hC
  have hFc := va_free hD hS hA isC hC
  refine va_callv (va_runIN (host := host) ⟨C.1, C.2.1, C.2.2.2.2.2.2.1, C.2.2.2.2.1, C.2.2.2.1⟩ (hM H.size) ⟨va_cnB n C.2.2.2.1 hG hw rfl rfl hl0 (C.2.2.2.1 _ hini) hd hRm, hnm, C.2.2.2.1 _ hins⟩ ⟨PreW.blind, fun U hU hW => ⟨rfl, by rw [hU], by rw [hU]; exact hPc, hDc.weaken (fun _ _ _ _ => trivial), C.2.2.2.2.2.2.2.2.warm hW⟩⟩ rfl hnA hl hst (lv_room hrm) hdg hf) hS (fun q _ h => hFc q h) hFc (fun u t H1 locs1 ht hvm hw hB hz1 hk1 hS1 => ?_)
  obtain ⟨hP1, hD1⟩ := hB
  rw [ht] at hP1
  obtain ⟨hP2, hD2⟩ := va_join hP hD isC isR hC hR hnR hdis hk1 hFc hP1 hD1
  exact kk u H1 locs1 hw hP2 hD2 hS1
def PureI (l : Launch) (y : MethodName) (wl : List Cond) (rm : Room) (av : List Value) (r : Int32) : Prop := Met l y wl rm (fun v _ => v = av.toArray) (vp_Si (fun x => x = r)) 0 0 (fun _ => False)
def PureL (l : Launch) (y : MethodName) (wl : List Cond) (rm : Room) (av : List Value) (r : Int64) : Prop := Met l y wl rm (fun v _ => v = av.toArray) (vp_Sl (fun x => x = r)) 0 0 (fun _ => False)
theorem pureIS {r : Int32} (F : CallFix p m c cc nL s args wl0 y0.cls) (hM : PureI l y wl rm As r) (n : Nat) (hG : GoodIn wl0 (va_wsS y0.cls index y wl)) (hw : wl = Cond.code y bytes maxL ret :: wl') (hd : y.cls ≠ "java/lang/invoke/MethodHandle" ∧ y.cls ≠ "java/lang/invoke/VarHandle" ∧ (parseMethodDescriptor y.desc).map (fun d => d.parameters.length) = some n) (hrc : rm.cells = 0) (hrs : rm.slots = 0) (hRm : rm.frames + 1 ≤ R.frames ∧ 8 + (maxL + 11) + rm.locals ≤ R.locals) (hcl : cells ≤ R.cells) (hsl : slots ≤ R.slots) (hnA : As.length = n) (hl : ls.size = nL) (hst : st0 = As.reverse ++ rest) (hrm : (rest.map fun v => v.category).sum ≤ 8) (hdg : decode cc pc = .ok (.invokestatic index, 3)) (kk : W p l e R s m args below meth c H locs cells slots Q (F0 m (pc + 3) ls (.int r :: rest))) : W p l e R s m args below meth c H locs cells slots Q (F0 m pc ls st0) :=
  vp_callSi (W.runS F hM (va_cwS n F.2.2.2.2 hG hw hrc hrs hd hRm) preEq rfl hnA hl hst (lv_room hrm) hdg ⟨hcl, hsl⟩) (fun r1 h1 => by subst h1; exact kk)
theorem pureIN {r : Int32} {host : String} (F : CallFix p m c cc nL s args wl0 y0.cls) (hM : PureI l y wl rm As r) (n : Nat) (hG : GoodIn wl0 wl) (hl0 : va_Nw (.methodLinkNest y0.cls index y host) s) (hini : Cond.initialized y.cls ∈ wl0) (hst2 : Cond.static y ∈ wl0) (hw : wl = Cond.code y bytes maxL ret :: wl') (hd : y.cls ≠ "java/lang/invoke/MethodHandle" ∧ y.cls ≠ "java/lang/invoke/VarHandle" ∧ (parseMethodDescriptor y.desc).map (fun d => d.parameters.length) = some n) (hrc : rm.cells = 0) (hrs : rm.slots = 0) (hRm : rm.frames + 1 ≤ R.frames ∧ 8 + (maxL + 11) + rm.locals ≤ R.locals) (hcl : cells ≤ R.cells) (hsl : slots ≤ R.slots) (hnA : As.length = n) (hl : ls.size = nL) (hst : st0 = As.reverse ++ rest) (hrm : (rest.map fun v => v.category).sum ≤ 8) (hdg : decode cc pc = .ok (.invokestatic index, 3)) (kk : W p l e R s m args below meth c H locs cells slots Q (F0 m (pc + 3) ls (.int r :: rest))) : W p l e R s m args below meth c H locs cells slots Q (F0 m pc ls st0) :=
  vp_callSi (va_Run.run (va_runSN (host := host) F hM ⟨va_cnB n F.2.2.2.2 hG hw hrc hrs hl0 (F.2.2.2.2 _ hini) hd hRm, F.2.2.2.2 _ hst2, trivial⟩ preEq rfl hnA hl hst (lv_room hrm) hdg ⟨hcl, hsl⟩)) (fun r1 h1 => by subst h1; exact kk)
theorem pureLS {r : Int64} (F : CallFix p m c cc nL s args wl0 y0.cls) (hM : PureL l y wl rm As r) (n : Nat) (hG : GoodIn wl0 (va_wsS y0.cls index y wl)) (hw : wl = Cond.code y bytes maxL ret :: wl') (hd : y.cls ≠ "java/lang/invoke/MethodHandle" ∧ y.cls ≠ "java/lang/invoke/VarHandle" ∧ (parseMethodDescriptor y.desc).map (fun d => d.parameters.length) = some n) (hrc : rm.cells = 0) (hrs : rm.slots = 0) (hRm : rm.frames + 1 ≤ R.frames ∧ 8 + (maxL + 11) + rm.locals ≤ R.locals) (hcl : cells ≤ R.cells) (hsl : slots ≤ R.slots) (hnA : As.length = n) (hl : ls.size = nL) (hst : st0 = As.reverse ++ rest) (hrm : (rest.map fun v => v.category).sum ≤ 8) (hdg : decode cc pc = .ok (.invokestatic index, 3)) (kk : W p l e R s m args below meth c H locs cells slots Q (F0 m (pc + 3) ls (.long r :: rest))) : W p l e R s m args below meth c H locs cells slots Q (F0 m pc ls st0) :=
  vp_callSl (W.runS F hM (va_cwS n F.2.2.2.2 hG hw hrc hrs hd hRm) preEq rfl hnA hl hst (lv_room hrm) hdg ⟨hcl, hsl⟩) (fun r1 h1 => by subst h1; exact kk)
theorem PureI.of {r : Int32} {av : List Value} (hy : plainName y.cls = true) (hw : wl = Cond.code y cc maxL ret :: wl') (hn : (lg_sl av).length ≤ maxL)
    (body : ∀ (p : Program) (e : Env) (s : State) (m : MethodId) (below : List Frame) (meth : Method) (c : Code) (ls : Array Slot), p.tables.exec = Jvm.exec → c.code = cc → meth.sig.returnType = ret → (∀ w ∈ wl, w.before av.toArray s = true) → s.vm.findClass y.cls = some m.cls → meth.locks = false → c.maxLocals = maxL → lv_has ls maxL (lv_args 0 av) →
      W p l e rm s m av.toArray below meth c s.heap [] 0 0 (MQ below (vp_Si (fun x => x = r)) av.toArray s 0 0 (fun _ => False)) (F0 m 0 ls [])) : PureI l y wl rm av r := by
  refine Met.ofW (cc := cc) (maxL := maxL) (ret := ret) hy hw ?_
  intro p e s m args below meth c s₁ B hml hv
  have hv : args = av.toArray := hv
  subst hv
  have hl := lv_entry av (n := maxL) hn
  rw [lg_entry_eq]
  generalize (lg_sl av ++ List.replicate (maxL - (lg_sl av).length) Slot.unset).toArray = ls at hl ⊢
  exact body p e s m below meth c ls B.exec B.bytes B.returns (atoms_spec (ws := wl) B.pre) (findClass_of_methodNamed B.named) B.notSynchronized hml hl
theorem PureL.of {r : Int64} {av : List Value} (hy : plainName y.cls = true) (hw : wl = Cond.code y cc maxL ret :: wl') (hn : (lg_sl av).length ≤ maxL)
    (body : ∀ (p : Program) (e : Env) (s : State) (m : MethodId) (below : List Frame) (meth : Method) (c : Code) (ls : Array Slot), p.tables.exec = Jvm.exec → c.code = cc → meth.sig.returnType = ret → (∀ w ∈ wl, w.before av.toArray s = true) → s.vm.findClass y.cls = some m.cls → meth.locks = false → c.maxLocals = maxL → lv_has ls maxL (lv_args 0 av) →
      W p l e rm s m av.toArray below meth c s.heap [] 0 0 (MQ below (vp_Sl (fun x => x = r)) av.toArray s 0 0 (fun _ => False)) (F0 m 0 ls [])) : PureL l y wl rm av r := by
  refine Met.ofW (cc := cc) (maxL := maxL) (ret := ret) hy hw ?_
  intro p e s m args below meth c s₁ B hml hv
  have hv : args = av.toArray := hv
  subst hv
  have hl := lv_entry av (n := maxL) hn
  rw [lg_entry_eq]
  generalize (lg_sl av ++ List.replicate (maxL - (lg_sl av).length) Slot.unset).toArray = ls at hl ⊢
  exact body p e s m below meth c ls B.exec B.bytes B.returns (atoms_spec (ws := wl) B.pre) (findClass_of_methodNamed B.named) B.notSynchronized hml hl
theorem pretI {r v : Int32} (hx : p.tables.exec = Jvm.exec) (hb : c.code = cc) (hr : meth.sig.returnType = some .int) (hlocks : meth.locks = false) (hv : v = r) (hdg : decode cc pc = .ok (.ireturn, 1)) : W p l e R s m args below meth c s.heap [] 0 0 (MQ below (vp_Si (fun x => x = r)) args s 0 0 (fun _ => False)) (F0 m pc ls [.int v]) :=
  W.iret hx hb hr (fun t ht _ => ⟨v, rfl, hv, ht⟩) (fun q h => by cases h) hdg hlocks
theorem pretZ {r v : Int32} (hx : p.tables.exec = Jvm.exec) (hb : c.code = cc) (hr : meth.sig.returnType = some .boolean) (hlocks : meth.locks = false) (hn : narrow .boolean (.int v) = .int v) (hv : v = r) (hdg : decode cc pc = .ok (.ireturn, 1)) : W p l e R s m args below meth c s.heap [] 0 0 (MQ below (vp_Si (fun x => x = r)) args s 0 0 (fun _ => False)) (F0 m pc ls [.int v]) :=
  W.zret hx hb hr hn (fun t ht _ => ⟨v, rfl, hv, ht⟩) (fun q h => by cases h) hdg hlocks
theorem pretL {r v : Int64} (hx : p.tables.exec = Jvm.exec) (hb : c.code = cc) (hr : meth.sig.returnType = some .long) (hlocks : meth.locks = false) (hv : v = r) (hdg : decode cc pc = .ok (.lreturn, 1)) : W p l e R s m args below meth c s.heap [] 0 0 (MQ below (vp_Sl (fun x => x = r)) args s 0 0 (fun _ => False)) (F0 m pc ls [.long v]) :=
  W.lret hx hb hr (fun t ht _ => ⟨v, rfl, hv, ht⟩) (fun q h => by cases h) hdg hlocks
/-- new arrays: their class is the one of our list -/
theorem newG {atype : ArrayType} {ty : FieldType} (k : Nat) (hk : (tyG g)[k]? = some (g.2 k, ty)) (hra : ∀ cA : ClassId, va_RA s cA ty → s.vm.findClass ("[" ++ ty.toString) = some cA) (C : Ctx g p s m args meth c y0 wl0 cc nL ret0) (harr : Cond.arrayClass ty ∈ wl0) (hty : newarray.typeOf atype = ty) (hP : va_P g.1 vwCl ws H) (hD : va_D A ws) (hS : va_S A s.heap H locs) (hA : ∀ q, s.heap.size ≤ q → A q)
    {n : Int32} {N' : Nat} {a0 : vp_A} (ha : ∀ cA : ClassId, vp_cell cA a0 = arrV cA N' (fun _ => defaultValue ty)) (hn : ¬ n < 0) (hN : n.toNatClampNeg = N') (hbytes : N' * componentBytes ty ≤ 536870912) (hcells : cells + 1 ≤ R.cells) (hslots : slots + N' ≤ R.slots) (hdg : decode cc pc = .ok (.newarray atype, 2))
    (kk : ∀ (q : Nat) (H1 : Heap), va_P g.1 vwCl (ws ++ [(q, .inl (g.2 k, a0))]) H1 → va_D A (ws ++ [(q, .inl (g.2 k, a0))]) → va_S A s.heap H1 locs →
      W p l e R s m args below meth c H1 locs (cells + 1) (slots + N') Q (F0 m (pc + 2) ls (.ref q :: rest))) : W p l e R s m args below meth c H locs cells slots Q (F0 m pc ls (.int n :: rest)) := by
  subst hty
  refine va_newa C.1 C.2.1 (C.2.2.2.1 _ harr) rfl C.2.2.2.2.2.2.2.2.1 hP hD hS hA ha hn hN hbytes hcells hslots hdg (fun q cA H1 hK1 hP1 hD1 hS1 => ?_)
  have e1 := hra _ (hK1.2 5 (cA, _) rfl).2
  have e2 := hra _ (C.2.2.2.2.2.2.2.2.1.2 k _ hk).2
  have e3 : cA = g.2 k := Option.some.inj (e1.symm.trans e2)
  subst e3
  exact kk q H1 hP1 hD1 hS1
theorem newQ {Cn : String} (k : Nat) (hk : (tyG g)[k]? = some (g.2 k, .object Cn)) (C : Ctx g p s m args meth c y0 wl0 cc nL ret0) (hlk : Cond.classLink y0.cls index Cn ∈ wl0) (hov : va_AO Cn s) (hP : va_P g.1 vwCl ws H) (hD : va_D A ws) (hS : va_S A s.heap H locs) (hA : ∀ q, s.heap.size ≤ q → A q)
    {n : Int32} {N' : Nat} (hn : ¬ n < 0) (hN : n.toNatClampNeg = N') (hbytes : N' * 4 ≤ 536870912) (hcells : cells + 1 ≤ R.cells) (hslots : slots + N' ≤ R.slots) (hdg : decode cc pc = .ok (.anewarray index, 3))
    (kk : ∀ (q : Nat) (H1 : Heap), va_P g.1 vwCl (ws ++ [(q, .inl (g.2 k, N', .inr (.inr (.inr (.inr (fun _ => none))))))]) H1 → va_D A (ws ++ [(q, .inl (g.2 k, N', .inr (.inr (.inr (.inr (fun _ => none))))))]) → va_S A s.heap H1 locs →
      W p l e R s m args below meth c H1 locs (cells + 1) (slots + N') Q (F0 m (pc + 3) ls (.ref q :: rest))) : W p l e R s m args below meth c H locs cells slots Q (F0 m pc ls (.int n :: rest)) := by
  refine va_newq C.1 C.2.1 C.2.2.2.2.1 (C.2.2.2.1 _ hlk) hov C.2.2.2.2.2.2.2.2.1 hP hD hS hA hn hN hbytes hcells hslots hdg (fun q cA H1 hK1 hP1 hD1 hS1 => ?_)
  obtain ⟨kA, comp, -, -, -, e1⟩ := (hK1.2 5 (cA, _) rfl).2
  obtain ⟨kA2, comp2, -, -, -, e2⟩ := (C.2.2.2.2.2.2.2.2.1.2 k _ hk).2
  have e3 : cA = g.2 k := Option.some.inj (e1.symm.trans e2)
  subst e3
  exact kk q H1 hP1 hD1 hS1
end BASE
theorem nwX0 : ∀ j, j < 7 → defaultValue (tyX0 j) = vp_V [.int 0, .int 0, .int 0, .null, .int 0, .int 0, .int 0] j := by decide +kernel
theorem nwX1 : ∀ j, j < 13 → defaultValue (tyX1 j) = vp_V [.null, .null, .int 0, .null, .null, .null, .int 0, .int 0, .int 0, .int 0, .long 0, .long 0, .long 0] j := by decide +kernel
theorem nwX2 : ∀ j, j < 7 → defaultValue (tyX2 j) = vp_V [.int 0, .int 0, .int 0, .null, .int 0, .int 0, .int 0] j := by decide +kernel
theorem nwX3 : ∀ j, j < 5 → defaultValue (tyX3 j) = vp_V [.null, .null, .null, .null, .int 0] j := by decide +kernel
theorem nwX4 : ∀ j, j < 5 → defaultValue (tyX4 j) = vp_V [.int 0, .int 0, .null, .int 0, .null] j := by decide +kernel
theorem nwX5 : ∀ j, j < 4 → defaultValue (tyX5 j) = vp_V [.null, .null, .null, .int 0] j := by decide +kernel
theorem nwX6 : ∀ j, j < 4 → defaultValue (tyX6 j) = vp_V [.null, .int 0, .int 0, .int 0] j := by decide +kernel
theorem nwX7 : ∀ j, j < 5 → defaultValue (tyX7 j) = vp_V [.null, .null, .null, .null, .int 0] j := by decide +kernel
theorem nwX8 : ∀ j, j < 4 → defaultValue (tyX8 j) = vp_V [.int 0, .int 0, .int 0, .int 0] j := by decide +kernel
theorem nwX9 : ∀ j, j < 1 → defaultValue (tyX9 j) = vp_V [.int 0] j := by decide +kernel
theorem nwX10 : ∀ j, j < 7 → defaultValue (tyX10 j) = vp_V [.int 0, .int 0, .int 0, .null, .int 0, .int 0, .int 0] j := by decide +kernel
theorem nwX11 : ∀ j, j < 15 → defaultValue (tyX11 j) = vp_V [.null, .null, .null, .null, .null, .null, .null, .null, .null, .null, .null, .int 0, .int 0, .int 0, .int 0] j := by decide +kernel
theorem nwX12 : ∀ j, j < 66 → defaultValue (tyX12 j) = vp_V [.int 0, .null, .null, .null, .null, .int 0, .int 0, .int 0, .null, .null, .null, .null, .null, .null, .null, .null, .null, .null, .null, .null, .int 0, .int 0, .int 0, .int 0, .int 0, .null, .null, .null, .null, .int 0, .int 0, .int 0, .int 0, .int 0, .int 0, .int 0, .null, .long 0, .long 0, .long 0, .int 0, .null, .null, .null, .null, .int 0, .int 0, .null, .null, .null, .int 0, .int 0, .int 0, .null, .null, .null, .null, .null, .null, .null, .null, .null, .null, .null, .int 0, .int 0] j := by decide +kernel
