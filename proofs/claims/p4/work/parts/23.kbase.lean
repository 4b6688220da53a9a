/-- a call's cut: what the callee gets, and what the world is behind it -/
def Sp (g : Gt) (A : Nat → Prop) (H : Heap) (wc : va_W) (wn : va_W → va_W) : Prop := va_P g.1 vwCl wc H ∧ va_D A wc ∧ ∀ (H1 : Heap) (w1 : va_W), (∀ q : Nat, q < H.size → ¬ va_A wc H.size q → H1[q]? = H[q]?) → (∀ q, va_A wc H.size q → A q) → va_P g.1 vwCl w1 H1 → va_D (va_A wc H.size) w1 → va_P g.1 vwCl (wn w1) H1 ∧ va_D A (wn w1)
theorem va_P.mem {D : va_G} {cl : List vw_C} {ws : va_W} {H : Heap} (h : va_P D cl ws H) {q : Nat × va_E} (hq : q ∈ ws) : va_at D cl q H := by
  obtain ⟨k, hk⟩ := List.mem_iff_getElem?.mp hq
  exact h k q hk
theorem va_P.sub' {D : va_G} {cl : List vw_C} {ws ws' : va_W} {H : Heap} (h : va_P D cl ws H) (hs : ∀ q ∈ ws', q ∈ ws) : va_P D cl ws' H := fun k q hk => h.mem (hs q (List.mem_of_getElem? hk))
theorem va_D.nodup {A : Nat → Prop} {ws : va_W} (h : va_D A ws) : (ws.map (fun q => q.1)).Nodup := by
  show List.Pairwise _ _
  rw [List.pairwise_iff_getElem]
  intro i j hi hj hij e
  rw [List.length_map] at hi hj
  rw [List.getElem_map, List.getElem_map] at e
  have := h.1 i j _ _ (List.getElem?_eq_getElem hi) (List.getElem?_eq_getElem hj) e
  omega
theorem va_D.ofN {A : Nat → Prop} {ws : va_W} (h : (ws.map (fun q => q.1)).Nodup) (hA : ∀ q ∈ ws, A q.1) : va_D A ws := by
  refine ⟨fun i j p q hi hj e => ?_, fun k q hk => hA q (List.mem_of_getElem? hk)⟩
  have h : List.Pairwise (fun a b => a ≠ b) (ws.map (fun q => q.1)) := h
  rw [List.pairwise_iff_getElem] at h
  obtain ⟨li, ei⟩ := List.getElem?_eq_some_iff.mp hi
  obtain ⟨lj, ej⟩ := List.getElem?_eq_some_iff.mp hj
  rcases Nat.lt_trichotomy i j with h1 | h1 | h1
  · exact absurd (by rw [List.getElem_map, List.getElem_map, ei, ej]; exact e) (h i j (by rw [List.length_map]; exact li) (by rw [List.length_map]; exact lj) h1)
  · exact h1
  · exact absurd (by rw [List.getElem_map, List.getElem_map, ei, ej]; exact e.symm) (h j i (by rw [List.length_map]; exact lj) (by rw [List.length_map]; exact li) h1)
theorem va_P.perm {D : va_G} {cl : List vw_C} {ws ws' : va_W} {H : Heap} (hp : List.Perm ws ws') (h : va_P D cl ws H) : va_P D cl ws' H := h.sub' (fun q hq => hp.mem_iff.mpr hq)
theorem va_D.perm {A : Nat → Prop} {ws ws' : va_W} (hp : List.Perm ws ws') (h : va_D A ws) : va_D A ws' := va_D.ofN ((hp.map _).nodup_iff.mp h.nodup) (fun q hq => by
  obtain ⟨k, hk⟩ := List.mem_iff_getElem?.mp (hp.mem_iff.mpr hq)
  exact h.2 k q hk)
theorem spA {g : Gt} {A : Nat → Prop} {H : Heap} {ws wc wr : va_W} (hP : va_P g.1 vwCl ws H) (hD : va_D A ws) (isC isR : List Nat) (hC : isC.map (fun i => ws[i]?) = wc.map some) (hR : isR.map (fun i => ws[i]?) = wr.map some) (hnC : va_nd isC = true) (hnR : va_nd isR = true) (hdis : ∀ i ∈ isR, i ∉ isC) : Sp g A H wc (fun w1 => wr ++ w1) :=
  ⟨hP.pick isC hC, hD.sub isC hnC hC, fun H1 w1 hk hF h1 h2 => va_join hP hD isC isR hC hR hnR hdis hk hF h1 h2⟩
/-- the callee without the pool -/
theorem spB {g : Gt} {A : Nat → Prop} {H : Heap} {X cx wr pl : va_W} (hP : va_P g.1 vwCl (X ++ pl) H) (hD : va_D A (X ++ pl)) (isC isR : List Nat) (hC : isC.map (fun i => X[i]?) = cx.map some) (hR : isR.map (fun i => X[i]?) = wr.map some) (hnC : va_nd isC = true) (hnR : va_nd isR = true) (hdis : ∀ i ∈ isR, i ∉ isC) : Sp g A H cx (fun w1 => (wr ++ w1) ++ pl) := by
  have h1 := hP.part isC hC
  have h2 := hD.part isC hnC hC
  refine ⟨h1.sub' (fun q hq => List.mem_append_left _ hq), ?_, fun H1 w1 hk hF h1 h2 => va_joinQ hP hD isC isR hC hR hnR hdis hk hF h1 h2⟩
  exact h2.by id (fun k q hq => by show (cx ++ pl)[k]? = some q; rw [List.getElem?_append_left (List.getElem?_eq_some_iff.mp hq).1]; exact hq) (fun i j _ _ e => e)
/-- the callee with the pool -/
theorem spC {g : Gt} {A : Nat → Prop} {H : Heap} {X cx wr pl : va_W} (hP : va_P g.1 vwCl (X ++ pl) H) (hD : va_D A (X ++ pl)) (isC isR : List Nat) (hC : isC.map (fun i => X[i]?) = cx.map some) (hR : isR.map (fun i => X[i]?) = wr.map some) (hnC : va_nd isC = true) (hnR : va_nd isR = true) (hdis : ∀ i ∈ isR, i ∉ isC) : Sp g A H (cx ++ pl) (fun w1 => wr ++ w1) :=
  ⟨hP.part isC hC, hD.part isC hnC hC, fun H1 w1 hk hF h1 h2 => by
    have := va_joinP hP hD isC isR hC hR hnR hdis hk hF (rx := w1) (pl1 := []) (by rw [List.append_nil]; exact h1) (by rw [List.append_nil]; exact h2)
    rw [List.append_nil] at this
    exact this⟩
section KB
variable {p : Program} {l : Launch} {e : Env} {R : Room} {s : State} {m : MethodId} {args : Array Value} {below : List Frame} {meth : Method} {c : Code} {H : Heap} {locs : List Loc} {cells slots : Nat} {Q : State → Prop}
variable {cc : ByteArray} {pc : Nat} {ls : Array Slot} {rest st0 : List Value} {A : Nat → Prop} {g : Gt} {y0 : MethodName} {wl0 : List Cond} {nL : Nat} {ret0 : Option FieldType} {mc ms : Nat}
variable {y x : MethodName} {wl wl' : List Cond} {rm : Room} {b index maxL n : Nat} {Cn : String} {bytes : ByteArray} {ret : Option FieldType} {As : List Value} {ws wc wr : va_W}
theorem hF_of {wc : va_W} (hD : va_D A wc) (hA : ∀ q, s.heap.size ≤ q → A q) (hS : va_S A s.heap H locs) : ∀ q, va_A wc H.size q → A q := fun q h => h.elim (fun ⟨k, e, h⟩ => hD.2 k _ h) (fun h => hA q (Nat.le_trans hS.1 h))
theorem PreW.at {av : List Value} (C : Ctx g p s m args meth c y0 wl0 cc nL ret0) (hPc : va_P g.1 vwCl wc H) (hDc : va_D A wc) (U : State) (hU : U.heap = H) (hW : s.WarmedH U.vm) : PreW g av wc H.size av.toArray U := ⟨rfl, by rw [hU], by rw [hU]; exact hPc, hDc.weaken (fun _ _ _ _ => trivial), C.2.2.2.2.2.2.2.2.warm hW⟩
def KR (p : Program) (l : Launch) (e : Env) (R : Room) (s : State) (m : MethodId) (args : Array Value) (below : List Frame) (meth : Method) (c : Code) (H : Heap) (locs : List Loc) (cells slots rc rs : Nat) (pc : Nat) (ls : Array Slot) (st0 rest : List Value) (g : Gt) (A : Nat → Prop) (wc : va_W) (Qc : (Nat → Prop) → Array Value → State → Outcome → State → Prop) : Prop := va_P g.1 vwCl wc H → va_D A wc → ∃ av : Array Value, va_Run p l e R s m args below meth c H locs cells slots rc rs (F0 m pc ls st0) rest (Qc (va_A wc H.size) av) (va_A wc H.size)
theorem rnV {Qc : (Nat → Prop) → Array Value → State → Outcome → State → Prop} (C : Ctx g p s m args meth c y0 wl0 cc nL ret0) (hM : Ctr l g y wl rm (.ref b :: As) wc Qc) (n : Nat) (hG : GoodIn wl0 (wsV y0.cls index Cn y wl)) (hw : wl = Cond.code y bytes maxL ret :: wl') (hd : y.cls = Cn ∧ y.cls ≠ "java/lang/invoke/MethodHandle" ∧ y.cls ≠ "java/lang/invoke/VarHandle" ∧ (parseMethodDescriptor y.desc).map (fun d => d.parameters.length) = some n) (hRm : rm.frames + 1 ≤ R.frames ∧ 8 + (maxL + 11) + rm.locals ≤ R.locals) (hP : va_P g.1 vwCl ws H) {k ci : Nat} {r0 : vw_C} {fs : List Value} (hrec : ws[k]? = some (b, .inr (ci, fs))) (hci : vwCl[ci]? = some r0) (hcn : r0.1 = Cn) (hnA : As.length = n) (hl : ls.size = nL) (hst : st0 = As.reverse ++ .ref b :: rest) (hrm : (rest.map fun v => v.category).sum ≤ 8) (hdg : decode cc pc = .ok (.invokevirtual index, 3)) (hf : cells + rm.cells ≤ R.cells ∧ slots + rm.slots ≤ R.slots) : KR p l e R s m args below meth c H locs cells slots rm.cells rm.slots pc ls st0 rest g A wc Qc := by
  subst hcn
  exact fun hPc hDc => ⟨_, va_runV ⟨C.1, C.2.1, C.2.2.2.2.2.2.1, C.2.2.2.2.1, C.2.2.2.1⟩ (hM H.size) (cwV n C.2.2.2.1 hG hw rfl rfl hd hRm) ⟨PreW.blind, va_recv C.2.2.2.2.2.2.2.2.1 hP hci hrec, PreW.at C hPc hDc⟩ rfl hnA hl hst (lv_room hrm) hdg hf⟩
theorem rnU {owner : String} {Qc : (Nat → Prop) → Array Value → State → Outcome → State → Prop} (C : Ctx g p s m args meth c y0 wl0 cc nL ret0) (hM : Ctr l g y wl rm (.ref b :: As) wc Qc) (n : Nat) (hG : GoodIn wl0 (va_wsU y0.cls index Cn owner x y wl)) (hw : wl = Cond.code y bytes maxL ret :: wl') (hyx : y = ⟨owner, x.name, x.desc⟩) (hd : owner ≠ "java/lang/invoke/MethodHandle" ∧ owner ≠ "java/lang/invoke/VarHandle" ∧ (parseMethodDescriptor x.desc).map (fun d => d.parameters.length) = some n) (hRm : rm.frames + 1 ≤ R.frames ∧ 8 + (maxL + 11) + rm.locals ≤ R.locals) (hP : va_P g.1 vwCl ws H) {k ci : Nat} {r0 : vw_C} {fs : List Value} (hrec : ws[k]? = some (b, .inr (ci, fs))) (hci : vwCl[ci]? = some r0) (hcn : r0.1 = Cn) (hnA : As.length = n) (hl : ls.size = nL) (hst : st0 = As.reverse ++ .ref b :: rest) (hrm : (rest.map fun v => v.category).sum ≤ 8) (hdg : decode cc pc = .ok (.invokevirtual index, 3)) (hf : cells + rm.cells ≤ R.cells ∧ slots + rm.slots ≤ R.slots) : KR p l e R s m args below meth c H locs cells slots rm.cells rm.slots pc ls st0 rest g A wc Qc := by
  subst hcn
  exact fun hPc hDc => ⟨_, va_runU ⟨C.1, C.2.1, C.2.2.2.2.2.2.1, C.2.2.2.2.1, C.2.2.2.1⟩ (hM H.size) (va_cwU n C.2.2.2.1 hG hw rfl rfl hyx hd hRm) ⟨PreW.blind, va_recv C.2.2.2.2.2.2.2.2.1 hP hci hrec, PreW.at C hPc hDc⟩ rfl hnA hl hst (lv_room hrm) hdg hf⟩
theorem rnO {owner : String} {Qc : (Nat → Prop) → Array Value → State → Outcome → State → Prop} (C : Ctx g p s m args meth c y0 wl0 cc nL ret0) (hM : Ctr l g y wl rm (.ref b :: As) wc Qc) (n : Nat) (hG : GoodIn wl0 (va_wsO y0.cls index Cn owner x y wl)) (hw : wl = Cond.code y bytes maxL ret :: wl') {b0 : ByteArray} {m0 : Nat} {r1 : Option FieldType} (h0 : Cond.code ⟨owner, x.name, x.desc⟩ b0 m0 r1 ∈ wl0) (hd : owner ≠ "java/lang/invoke/MethodHandle" ∧ owner ≠ "java/lang/invoke/VarHandle" ∧ (parseMethodDescriptor x.desc).map (fun d => d.parameters.length) = some n) (hRm : rm.frames + 1 ≤ R.frames ∧ 8 + (maxL + 11) + rm.locals ≤ R.locals) (hP : va_P g.1 vwCl ws H) {k ci : Nat} {r0 : vw_C} {fs : List Value} (hrec : ws[k]? = some (b, .inr (ci, fs))) (hci : vwCl[ci]? = some r0) (hcn : r0.1 = Cn) (hnA : As.length = n) (hl : ls.size = nL) (hst : st0 = As.reverse ++ .ref b :: rest) (hrm : (rest.map fun v => v.category).sum ≤ 8) (hdg : decode cc pc = .ok (.invokevirtual index, 3)) (hf : cells + rm.cells ≤ R.cells ∧ slots + rm.slots ≤ R.slots) : KR p l e R s m args below meth c H locs cells slots rm.cells rm.slots pc ls st0 rest g A wc Qc := by
  subst hcn
  exact fun hPc hDc => ⟨_, va_runU ⟨C.1, C.2.1, C.2.2.2.2.2.2.1, C.2.2.2.2.1, C.2.2.2.1⟩ (hM H.size) (va_cwO n C.2.2.2.1 hG hw rfl rfl h0 hd hRm) ⟨PreW.blind, va_recv C.2.2.2.2.2.2.2.2.1 hP hci hrec, PreW.at C hPc hDc⟩ rfl hnA hl hst (lv_room hrm) hdg hf⟩
theorem rnS {Qc : (Nat → Prop) → Array Value → State → Outcome → State → Prop} (C : Ctx g p s m args meth c y0 wl0 cc nL ret0) (hM : Ctr l g y wl rm As wc Qc) (n : Nat) (hG : GoodIn wl0 (va_wsS y0.cls index y wl)) (hw : wl = Cond.code y bytes maxL ret :: wl') (hd : y.cls ≠ "java/lang/invoke/MethodHandle" ∧ y.cls ≠ "java/lang/invoke/VarHandle" ∧ (parseMethodDescriptor y.desc).map (fun d => d.parameters.length) = some n) (hRm : rm.frames + 1 ≤ R.frames ∧ 8 + (maxL + 11) + rm.locals ≤ R.locals) (hnA : As.length = n) (hl : ls.size = nL) (hst : st0 = As.reverse ++ rest) (hrm : (rest.map fun v => v.category).sum ≤ 8) (hdg : decode cc pc = .ok (.invokestatic index, 3)) (hf : cells + rm.cells ≤ R.cells ∧ slots + rm.slots ≤ R.slots) : KR p l e R s m args below meth c H locs cells slots rm.cells rm.slots pc ls st0 rest g A wc Qc :=
  fun hPc hDc => ⟨_, va_runS ⟨C.1, C.2.1, C.2.2.2.2.2.2.1, C.2.2.2.2.1, C.2.2.2.1⟩ (hM H.size) (va_cwS n C.2.2.2.1 hG hw rfl rfl hd hRm) ⟨PreW.blind, PreW.at C hPc hDc⟩ rfl hnA hl hst (lv_room hrm) hdg hf⟩
theorem rnN {host : String} {Qc : (Nat → Prop) → Array Value → State → Outcome → State → Prop} (C : Ctx g p s m args meth c y0 wl0 cc nL ret0) (hM : Ctr l g y wl rm As wc Qc) (n : Nat) (hG : GoodIn wl0 wl) (hw : wl = Cond.code y bytes maxL ret :: wl') (hl0 : va_Nw (.methodLinkNest y0.cls index y host) s) (hini : Cond.initialized y.cls ∈ wl0) (hst2 : Cond.static y ∈ wl0) (hd : y.cls ≠ "java/lang/invoke/MethodHandle" ∧ y.cls ≠ "java/lang/invoke/VarHandle" ∧ (parseMethodDescriptor y.desc).map (fun d => d.parameters.length) = some n) (hRm : rm.frames + 1 ≤ R.frames ∧ 8 + (maxL + 11) + rm.locals ≤ R.locals) (hnA : As.length = n) (hl : ls.size = nL) (hst : st0 = As.reverse ++ rest) (hrm : (rest.map fun v => v.category).sum ≤ 8) (hdg : decode cc pc = .ok (.invokestatic index, 3)) (hf : cells + rm.cells ≤ R.cells ∧ slots + rm.slots ≤ R.slots) : KR p l e R s m args below meth c H locs cells slots rm.cells rm.slots pc ls st0 rest g A wc Qc :=
  fun hPc hDc => ⟨_, va_runSN (host := host) ⟨C.1, C.2.1, C.2.2.2.2.2.2.1, C.2.2.2.2.1, C.2.2.2.1⟩ (hM H.size) ⟨va_cnB n C.2.2.2.1 hG hw rfl rfl hl0 (C.2.2.2.1 _ hini) hd hRm, C.2.2.2.1 _ hst2, trivial⟩ ⟨PreW.blind, PreW.at C hPc hDc⟩ rfl hnA hl hst (lv_room hrm) hdg hf⟩
variable {S : Type} {ws' : S → va_W} {wn : va_W → va_W} {rc rs : Nat}
theorem kI {post : Int32 → S → Prop} (run : KR p l e R s m args below meth c H locs cells slots rc rs pc ls st0 rest g A wc (fun A => QI g A post ws')) (sp : Sp g A H wc wn) (hA : ∀ q, s.heap.size ≤ q → A q) (hS : va_S A s.heap H locs)
    (kk : ∀ (r : Int32) (u : S) (H1 : Heap) (locs1 : List Loc), post r u → va_P g.1 vwCl (wn (ws' u)) H1 → va_D A (wn (ws' u)) → va_S A s.heap H1 locs1 → W p l e R s m args below meth c H1 locs1 (cells + rc) (slots + rs) Q (F0 m (pc + 3) ls (.int r :: rest))) : W p l e R s m args below meth c H locs cells slots Q (F0 m pc ls st0) := by
  have hFc := hF_of sp.2.1 hA hS
  obtain ⟨av, hr⟩ := run sp.1 sp.2.1
  refine va_calli hr hS (fun q _ h => hFc q h) hFc (fun r u t H1 locs1 ht hvm hw hB hz1 hk1 hS1 => ?_)
  obtain ⟨hP1, hD1⟩ := hB
  rw [ht] at hP1
  obtain ⟨hP2, hD2⟩ := sp.2.2 H1 _ hk1 hFc hP1 hD1
  exact kk r u H1 locs1 hw hP2 hD2 hS1
theorem kL {post : Int64 → S → Prop} (run : KR p l e R s m args below meth c H locs cells slots rc rs pc ls st0 rest g A wc (fun A => QL g A post ws')) (sp : Sp g A H wc wn) (hA : ∀ q, s.heap.size ≤ q → A q) (hS : va_S A s.heap H locs)
    (kk : ∀ (r : Int64) (u : S) (H1 : Heap) (locs1 : List Loc), post r u → va_P g.1 vwCl (wn (ws' u)) H1 → va_D A (wn (ws' u)) → va_S A s.heap H1 locs1 → W p l e R s m args below meth c H1 locs1 (cells + rc) (slots + rs) Q (F0 m (pc + 3) ls (.long r :: rest))) : W p l e R s m args below meth c H locs cells slots Q (F0 m pc ls st0) := by
  have hFc := hF_of sp.2.1 hA hS
  obtain ⟨av, hr⟩ := run sp.1 sp.2.1
  refine va_calll hr hS (fun q _ h => hFc q h) hFc (fun r u t H1 locs1 ht hvm hw hB hz1 hk1 hS1 => ?_)
  obtain ⟨hP1, hD1⟩ := hB
  rw [ht] at hP1
  obtain ⟨hP2, hD2⟩ := sp.2.2 H1 _ hk1 hFc hP1 hD1
  exact kk r u H1 locs1 hw hP2 hD2 hS1
theorem kV {post : S → Prop} (run : KR p l e R s m args below meth c H locs cells slots rc rs pc ls st0 rest g A wc (fun A => QV g A post ws')) (sp : Sp g A H wc wn) (hA : ∀ q, s.heap.size ≤ q → A q) (hS : va_S A s.heap H locs)
    (kk : ∀ (u : S) (H1 : Heap) (locs1 : List Loc), post u → va_P g.1 vwCl (wn (ws' u)) H1 → va_D A (wn (ws' u)) → va_S A s.heap H1 locs1 → W p l e R s m args below meth c H1 locs1 (cells + rc) (slots + rs) Q (F0 m (pc + 3) ls rest)) : W p l e R s m args below meth c H locs cells slots Q (F0 m pc ls st0) := by
  have hFc := hF_of sp.2.1 hA hS
  obtain ⟨av, hr⟩ := run sp.1 sp.2.1
  refine va_callv hr hS (fun q _ h => hFc q h) hFc (fun u t H1 locs1 ht hvm hw hB hz1 hk1 hS1 => ?_)
  obtain ⟨hP1, hD1⟩ := hB
  rw [ht] at hP1
  obtain ⟨hP2, hD2⟩ := sp.2.2 H1 _ hk1 hFc hP1 hD1
  exact kk u H1 locs1 hw hP2 hD2 hS1
theorem kQ {post : Option Nat → S → Prop} (run : KR p l e R s m args below meth c H locs cells slots rc rs pc ls st0 rest g A wc (fun A => QQ g A post ws')) (sp : Sp g A H wc wn) (hA : ∀ q, s.heap.size ≤ q → A q) (hS : va_S A s.heap H locs)
    (kk : ∀ (r : Option Nat) (u : S) (H1 : Heap) (locs1 : List Loc), post r u → va_P g.1 vwCl (wn (ws' u)) H1 → va_D A (wn (ws' u)) → va_S A s.heap H1 locs1 → W p l e R s m args below meth c H1 locs1 (cells + rc) (slots + rs) Q (F0 m (pc + 3) ls (va_rf r :: rest))) : W p l e R s m args below meth c H locs cells slots Q (F0 m pc ls st0) := by
  have hFc := hF_of sp.2.1 hA hS
  obtain ⟨av, hr⟩ := run sp.1 sp.2.1
  refine va_callq hr hS (fun q _ h => hFc q h) hFc (fun r u t H1 locs1 ht hvm hw hB hz1 hk1 hS1 => ?_)
  obtain ⟨hP1, hD1⟩ := hB
  rw [ht] at hP1
  obtain ⟨hP2, hD2⟩ := sp.2.2 H1 _ hk1 hFc hP1 hD1
  exact kk r u H1 locs1 hw hP2 hD2 hS1
theorem KR.monoI {post post' : Int32 → S → Prop} (h : ∀ r u, post r u → post' r u) (run : KR p l e R s m args below meth c H locs cells slots rc rs pc ls st0 rest g A wc (fun A => QI g A post ws')) : KR p l e R s m args below meth c H locs cells slots rc rs pc ls st0 rest g A wc (fun A => QI g A post' ws') := by
  intro hPc hDc
  obtain ⟨av, hr⟩ := run hPc hDc
  refine ⟨av, fun T hT X => ?_⟩
  obtain ⟨v, st₀, t, T', L, h0, X', hL, e1, e2, ⟨⟨r, u, hv, hp, hb⟩, hz⟩, st⟩ := hr T hT X
  exact ⟨v, st₀, t, T', L, h0, X', hL, e1, e2, ⟨⟨r, u, hv, h r u hp, hb⟩, hz⟩, st⟩
theorem stepJ {pc' : Nat} {v : Value} (f : W p l e R s m args below meth c H locs cells slots Q (F0 m pc' ls (v :: rest)) → W p l e R s m args below meth c H locs cells slots Q (F0 m pc ls st0)) (k : W p l e R s m args below meth c H locs cells slots Q (F0 m pc' ls (v :: rest))) : W p l e R s m args below meth c H locs cells slots Q (F0 m pc ls st0) := f k
end KB
/-- the three kinds of cylinder: none, some false (HELD), some true (TWIN) -/
abbrev CK : Type := Option Bool
def ckI : CK → Nat | none => 0 | some false => 2 | some true => 10
def ckH : CK → Int32 | none => 0 | some _ => 1
def ckT : CK → Int32 | none => 0 | some false => 0 | some true => 1
abbrev Cy : Type := Nat × Nat × CK × Int32 × Int32 × Int32 × Int32 × Int32 × Int32 × (Nat → Int32)
def cyW (g : Gt) : Cy → va_W := fun (b, r, k, num, ar, sk, lc, cr, fl, row) => [(b, .inr (ckI k, [.int num, .int ar, .int sk, .ref r, .int lc, .int cr, .int fl])), (r, .inl (g.2 0, 10, .inl row))]
def cysW (g : Gt) (cs : List Cy) : va_W := cs.flatMap (cyW g)
def cysF (cs : List Cy) : Nat → Option Nat := fun j => (cs[j]?).map (fun y => y.1)
theorem cysW_app (g : Gt) (a b : List Cy) : cysW g (a ++ b) = cysW g a ++ cysW g b := List.flatMap_append
theorem cysW_cons (g : Gt) (y : Cy) (b : List Cy) : cysW g (y :: b) = cyW g y ++ cysW g b := List.flatMap_cons
theorem cys_perm (g : Gt) (X : va_W) (l1 l2 : List Cy) (y : Cy) : List.Perm (X ++ cysW g (l1 ++ y :: l2)) ((X ++ cyW g y) ++ (cysW g l1 ++ cysW g l2)) := by
  rw [cysW_app, cysW_cons, List.append_assoc]
  refine List.Perm.append_left X ?_
  rw [← List.append_assoc, ← List.append_assoc]
  exact List.Perm.append_right _ List.perm_append_comm
theorem cys_splitP {g : Gt} {X : va_W} {l1 l2 : List Cy} {y : Cy} {H : Heap} (h : va_P g.1 vwCl (X ++ cysW g (l1 ++ y :: l2)) H) : va_P g.1 vwCl ((X ++ cyW g y) ++ (cysW g l1 ++ cysW g l2)) H := h.perm (cys_perm g X l1 l2 y)
theorem cys_splitD {g : Gt} {A : Nat → Prop} {X : va_W} {l1 l2 : List Cy} {y : Cy} (h : va_D A (X ++ cysW g (l1 ++ y :: l2))) : va_D A ((X ++ cyW g y) ++ (cysW g l1 ++ cysW g l2)) := h.perm (cys_perm g X l1 l2 y)
theorem cys_joinP {g : Gt} {X : va_W} {l1 l2 : List Cy} {y : Cy} {H : Heap} (h : va_P g.1 vwCl ((X ++ cyW g y) ++ (cysW g l1 ++ cysW g l2)) H) : va_P g.1 vwCl (X ++ cysW g (l1 ++ y :: l2)) H := h.perm (cys_perm g X l1 l2 y).symm
theorem cys_joinD {g : Gt} {A : Nat → Prop} {X : va_W} {l1 l2 : List Cy} {y : Cy} (h : va_D A ((X ++ cyW g y) ++ (cysW g l1 ++ cysW g l2))) : va_D A (X ++ cysW g (l1 ++ y :: l2)) := h.perm (cys_perm g X l1 l2 y).symm
theorem cysF_same (l1 l2 : List Cy) (y y' : Cy) (h : y'.1 = y.1) : cysF (l1 ++ y' :: l2) = cysF (l1 ++ y :: l2) := by
  funext j
  unfold cysF
  rcases Nat.lt_trichotomy j l1.length with h1 | h1 | h1
  · rw [List.getElem?_append_left h1, List.getElem?_append_left h1]
  · subst h1; rw [List.getElem?_append_right (Nat.le_refl _), List.getElem?_append_right (Nat.le_refl _), Nat.sub_self]; exact congrArg some h
  · rw [List.getElem?_append_right (by omega), List.getElem?_append_right (by omega)]
    obtain ⟨d, hd⟩ : ∃ d, j - l1.length = d + 1 := ⟨j - l1.length - 1, by omega⟩
    rw [hd]; rfl
theorem ck_elim {P : CK → Prop} (h0 : P none) (h1 : P (some false)) (h2 : P (some true)) (k : CK) : P k := by rcases k with _ | _ | _ <;> assumption
theorem inc_mu2 {i n : Int32} (h : ¬ n ≤ i) : (n.toInt - (i + 1).toInt).toNat < (n.toInt - i.toInt).toNat := by
  have := inc_toInt h
  rw [Int32.le_iff_toInt_le] at h
  omega
