section KSU
variable {p : Program} {l : Launch} {e : Env} {R : Room} {s : State} {m : MethodId} {args : Array Value} {below : List Frame} {meth : Method} {c : Code} {H : Heap} {locs : List Loc} {cells slots : Nat}
variable {cc : ByteArray} {pc : Nat} {ls : Array Slot} {rest st0 : List Value} {A : Nat → Prop} {g : Gt} {wl0 : List Cond} {nL : Nat} {ret0 : Option FieldType} {rm : Room} {b : Nat} {As : List Value} {ws wc : va_W}
theorem sub_two {vm : Vm} {a b : ClassId} {k : Class} (h1 : vm.classes[a]? = some k) (h2 : k.super = some b) : vm.isSubclass a b = true := by
  obtain ⟨n, hn⟩ : ∃ n, vm.classes.size = n + 1 := ⟨vm.classes.size - 1, by have := (Array.getElem?_eq_some_iff.mp h1).1; omega⟩
  show vm.isSubclassAux (vm.classes.size + 1) a b = true
  rw [hn]
  simp [Vm.isSubclassAux, h1, h2]
theorem rnSU2 {Qc : (Nat → Prop) → Array Value → State → Outcome → State → Prop} (C : Ctx g p s m args meth c yX10_pushAgainst wl0 cc nL ret0) (hM : Ctr l g yX0_pushAgainst wsX0_pushAgainst rm (.ref b :: As) wc Qc) (hRm : rm.frames + 1 ≤ R.frames ∧ 8 + (2 + 11) + rm.locals ≤ R.locals) (hP : va_P g.1 vwCl ws H) {k : Nat} {fs : List Value} (hrec : ws[k]? = some (b, .inr (10, fs))) (hnA : As.length = 1) (hl : ls.size = nL) (hst : st0 = As.reverse ++ .ref b :: rest) (hrm : (rest.map fun v => v.category).sum ≤ 8) (hdg : decode cc pc = .ok (.invokespecial 7, 3)) (hf : cells + rm.cells ≤ R.cells ∧ slots + rm.slots ≤ R.slots) : KR p l e R s m args below meth c H locs cells slots rm.cells rm.slots pc ls st0 rest g A wc Qc := by
  intro hPc hDc
  obtain ⟨hx, hb, hr, hts, hown, hlocks, hml, hin, hK, hN⟩ := id C
  have hsw : ∀ (w : Cond), w ∈ supL → ∀ (a' : Array Value) (U : State), s.WarmedH U.vm → w.before a' U = true := fun w hw a' U hW => pay_in hN.2.2.2.2.2.2.2.2.2 supL_good w hw a' U hW
  have hs0 : ∀ w ∈ supL, w.before args s = true := fun w hw => hsw w hw args s (State.WarmedH.refl s)
  have hini : (Cond.initialized RX0).before args s = true := hs0 _ (by simp [supL])
  have hcode : (Cond.code yX0_pushAgainst cX0_pushAgainst 2 (some .int)).before args s = true := hs0 _ (List.mem_append_right _ List.mem_cons_self)
  have hinst : (Cond.instanceMethod yX0_pushAgainst).before args s = true := hs0 _ (by simp [supL])
  have hlink : (Cond.methodLink RX10 7 ⟨"OilPush$Held", "pushAgainst", "(I)I"⟩).before args s = true := hs0 _ (by simp [supL])
  have hsame : (Cond.sameMethod "OilPush$Held" "OilPush$Cylinder" "pushAgainst" "(I)I").before args s = true := hs0 _ (by simp [supL])
  have hsup : (Cond.superclass RX10 "OilPush$Held").before args s = true := hs0 _ (by simp [supL])
  have hsup2 : (Cond.superclass "OilPush$Held" "OilPush$Cylinder").before args s = true := hs0 _ (by simp [supL])
  have hKB : Back l R p e below s args yX0_pushAgainst 3 8 (PreOf R rm.cells rm.slots (PreW g (.ref b :: As) wc H.size)) (PostOf (Qc (va_A wc H.size)) rm.cells rm.slots (va_A wc H.size)) := back_of (bytes := cX0_pushAgainst) (maxL := 2) (ret := some .int) (hM H.size) PreW.blind rfl rfl hRm.1 hRm.2 (fun w hw => hsw w (List.mem_append_right _ hw)) List.mem_cons_self (fun a' U hW => word_at hW (Or.inl (by first | rfl | simp [Cond.onTables, Cond.keeps, Cond.steady])) hini)
  obtain ⟨cellB, hcB, hoB, hclB⟩ := va_recv hK hP (ci := 10) rfl hrec
  obtain ⟨mk, methM, hnamed, hmethM, hstM, habM⟩ := Cond.instanceMethod_spec hinst
  obtain ⟨methM', cM, hmethM', -, -, -, -, -, -, hsigM⟩ := Cond.code_spec hnamed hcode
  cases hmethM.symm.trans hmethM'
  obtain ⟨ps, dk, kp, hps, hdk, hkp, hsuper, -, -, hnid⟩ := Cond.superclass_spec hown hsup
  obtain ⟨ps2, dk2, kp2, hps2, hdk2, hkp2, hsuper2, -, -, hnid2⟩ := Cond.superclass_spec hps hsup2
  have hpm : ps2 = mk.cls := Option.some.inj (hps2.symm.trans (findClass_of_methodNamed hnamed))
  subst hpm
  have hsub : s.vm.isSubclass ps mk.cls = true := sub_two hdk2 hsuper2
  obtain ⟨kB, hkB, -⟩ := Vm.findClass_spec hclB
  have hlen9 : As.length = methM.sig.parameters.length := by
    have h7 : (parseMethodDescriptor "(I)I").map (fun d => d.parameters.length) = some 1 := by decide +kernel
    have h8 : parseMethodDescriptor "(I)I" = some methM.sig := hsigM
    rw [h8] at h7
    rw [hnA]
    exact (Option.some.inj h7).symm
  refine ⟨(Value.ref b :: As).toArray, fun T hT X => ?_⟩
  obtain ⟨vm₁, X₁, hstep₁⟩ := X.invokespecialUp hx (owner := "OilPush$Cylinder") (x := ⟨"OilPush$Held", "pushAgainst", "(I)I"⟩) hown hlink hsame hnamed hmethM hstM habM (by decide) hdk hnid hps hsuper hsub (a := b) (cell := cellB) (by rw [hT]; exact hcB)
    (fun z h => by rw [h] at hoB; cases hoB) hkB (g := F0 m pc ls st0) rfl (argsL := As) (rest := rest) hlen9 hst (by rw [hb]; exact hdg)
  obtain ⟨v, ⟨U', l2, c2, s2⟩, X', ⟨g', mk', t, L, e1, e2, hq, h1, hL, h2, h3⟩, st⟩ := hKB m meth c ⟨T.setVm vm₁, locs, cells, slots⟩ { F0 m pc ls st0 with stack := rest } (.invokespecial 7) mk (Value.ref b :: As).toArray X₁ rfl (hl.trans hml.symm) (by rw [hb]; exact hdg) (lv_room hrm) (X₁.named hnamed) ⟨hf.1, hf.2, PreW.at C hPc hDc (T.setVm vm₁) hT X₁.warmed⟩
  dsimp only [Pt.U, Pt.locs, Pt.cells, Pt.slots] at X' e1 e2 h1 h2 h3 st
  subst h1; subst h2; subst h3
  exact ⟨v, (T.setVm vm₁).calling g' mk' (Value.ref b :: As).toArray, t, U', L, hT, X', hL, e1, e2, hq, fun target h => hstep₁ _ (by rw [doInvoke_state]; exact st.trans h)⟩
end KSU
theorem ck01 (k : CK) : (ckH k = 0 ∨ ckH k = 1) ∧ (ckT k = 0 ∨ ckT k = 1) := by rcases k with _ | _ | _ <;> decide
/-- the cylinders: how many, and where the row of them points -/
def CS (cs : List Cy) (cnt : Int32) (fc : Nat → Option Nat) : Prop := cnt = nI cs.length ∧ cs.length ≤ 6 ∧ fc = cysF cs
theorem lt0_ne {x : Int32} (h : 0 < x) : ¬ x = 0 := fun e => by rw [e] at h; exact absurd h (by decide)
