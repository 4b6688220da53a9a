section KI2
variable {p : Program} {l : Launch} {e : Env} {R : Room} {s : State} {m : MethodId} {args : Array Value} {below : List Frame} {meth : Method} {c : Code} {H : Heap} {locs : List Loc} {cells slots : Nat}
variable {cc : ByteArray} {pc : Nat} {ls : Array Slot} {rest st0 : List Value} {A : Nat → Prop} {g : Gt} {y0 : MethodName} {wl0 : List Cond} {nL : Nat} {ret0 : Option FieldType}
variable {y : MethodName} {wl wl' : List Cond} {rm : Room} {b index maxL n : Nat} {bytes : ByteArray} {As : List Value} {wc : va_W}
theorem rnI {Qc : (Nat → Prop) → Array Value → State → Outcome → State → Prop} (C : Ctx g p s m args meth c y0 wl0 cc nL ret0) (hM : Ctr l g y wl rm (.ref b :: As) wc Qc) (n : Nat) (hG : GoodIn wl0 wl) (hw : wl = Cond.code y bytes maxL none :: wl') (hini : Cond.initialized y.cls ∈ wl0) (hlk : Cond.methodLink y0.cls index y ∈ wl0) (hins : Cond.instanceMethod y ∈ wl0) (hnm : y.name = "<init>") (hd : y.cls ≠ "java/lang/invoke/MethodHandle" ∧ y.cls ≠ "java/lang/invoke/VarHandle" ∧ (parseMethodDescriptor y.desc).map (fun d => d.parameters.length) = some n) (hRm : rm.frames + 1 ≤ R.frames ∧ 8 + (maxL + 11) + rm.locals ≤ R.locals) (hnA : As.length = n) (hl : ls.size = nL) (hst : st0 = As.reverse ++ .ref b :: rest) (hrm : (rest.map fun v => v.category).sum ≤ 8) (hdg : decode cc pc = .ok (.invokespecial index, 3)) (hf : cells + rm.cells ≤ R.cells ∧ slots + rm.slots ≤ R.slots) : KR p l e R s m args below meth c H locs cells slots rm.cells rm.slots pc ls st0 rest g A wc Qc :=
  fun hPc hDc => ⟨_, va_runI ⟨C.1, C.2.1, C.2.2.2.2.2.2.1, C.2.2.2.2.1, C.2.2.2.1⟩ (hM H.size) (cwI n C.2.2.2.1 hG hw rfl rfl (C.2.2.2.1 _ hini) (C.2.2.2.1 _ hlk) (C.2.2.2.1 _ hins) hnm hd hRm) ⟨PreW.blind, PreW.at C hPc hDc⟩ rfl hnA hl hst (lv_room hrm) hdg hf⟩
end KI2
theorem cys_push_perm (g : Gt) (X : va_W) (cs : List Cy) (y : Cy) : List.Perm ((X ++ cyW g y) ++ cysW g cs) (X ++ cysW g (cs ++ [y])) := by
  rw [cysW_app, List.append_assoc]
  refine List.Perm.append_left X ?_
  have e : cysW g [y] = cyW g y := by rw [cysW_cons]; exact List.append_nil _
  rw [e]
  exact List.perm_append_comm
theorem cys_pushP {g : Gt} {X : va_W} {cs : List Cy} {y : Cy} {H : Heap} (h : va_P g.1 vwCl ((X ++ cyW g y) ++ cysW g cs) H) : va_P g.1 vwCl (X ++ cysW g (cs ++ [y])) H := h.perm (cys_push_perm g X cs y)
theorem cys_pushD {g : Gt} {A : Nat → Prop} {X : va_W} {cs : List Cy} {y : Cy} (h : va_D A ((X ++ cyW g y) ++ cysW g cs)) : va_D A (X ++ cysW g (cs ++ [y])) := h.perm (cys_push_perm g X cs y)
theorem in_lt6 {x : Int32} (h1 : ¬ x < 0) (h2 : x < 6) : vp_in x 6 := by
  rw [Int32.lt_iff_toInt_lt, Int32.toInt_zero] at h1
  rw [Int32.lt_iff_toInt_lt, show (6 : Int32).toInt = 6 from by decide] at h2
  rw [vp_in_iff]
  omega
theorem CS_push {cs : List Cy} {cnt : Int32} {fc : Nat → Option Nat} {y : Cy} (h : CS cs cnt fc) (h6 : cnt < 6) : CS (cs ++ [y]) (cnt + 1) (va_up fc cnt.toNatClampNeg (some y.1)) := by
  obtain ⟨h1, h2, h3⟩ := h
  have e1 : cnt.toInt = cs.length := by rw [h1, nI_toInt (by omega)]
  rw [Int32.lt_iff_toInt_lt, show (6 : Int32).toInt = 6 from by decide] at h6
  have ec : cnt.toNatClampNeg = cs.length := by show cnt.toInt.toNat = _; omega
  refine ⟨?_, by rw [List.length_append]; show cs.length + 1 ≤ 6; omega, ?_⟩
  · rw [List.length_append, h1]; exact (nI_1 cs.length)
  · rw [ec, h3]
    funext j
    unfold va_up cysF
    rcases Nat.lt_trichotomy j cs.length with h | h | h
    · rw [if_neg (by omega), List.getElem?_append_left h]
    · subst h; rw [if_pos rfl, List.getElem?_append_right (Nat.le_refl _), Nat.sub_self]; rfl
    · rw [if_neg (by omega), List.getElem?_append_right (by omega), List.getElem?_eq_none (by omega)]
      obtain ⟨d, hd⟩ : ∃ d, j - cs.length = d + 1 := ⟨j - cs.length - 1, by omega⟩
      rw [hd]; rfl
def ckOf (kd : Int32) : CK := if kd = 0 then none else if kd = 1 then some false else some true
def PADD (cs : List Cy) (cnt kd ar sk r : Int32) (cs' : List Cy) (cnt' : Int32) : Prop := (r = 0 ∧ cs' = cs ∧ cnt' = cnt ∧ (cnt < 0 ∨ ¬ cnt < 6)) ∨ (r = 1 ∧ cnt < 6 ∧ cnt' = cnt + 1 ∧ ∃ b rr, cs' = cs ++ [(b, rr, ckOf kd, cnt, ar, sk, 1, 0, 1000, z0)])
