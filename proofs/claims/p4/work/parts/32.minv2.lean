theorem pump_step {row mt o0 oil pd : Nat → Int32} {x mv left : Int32} (hx : 0 ≤ x.toInt) (hlt : ¬ mv ≤ x) (hmv : mv.toInt ≤ 6) (hl : 0 ≤ left.toInt ∧ left.toInt ≤ 1000) (hG : RG mv.toInt row mt o0 10000) (hB : OB o0) (hP : PB pd) (hS : OS o0 oil 10000 x.toInt) :
    (0 ≤ (left - (upd pd (row x.toNatClampNeg).toNatClampNeg (r_c_lesser (mt (row x.toNatClampNeg).toNatClampNeg) left)) (row x.toNatClampNeg).toNatClampNeg).toInt ∧ (left - (upd pd (row x.toNatClampNeg).toNatClampNeg (r_c_lesser (mt (row x.toNatClampNeg).toNatClampNeg) left)) (row x.toNatClampNeg).toNatClampNeg).toInt ≤ 1000) ∧ PB (upd pd (row x.toNatClampNeg).toNatClampNeg (r_c_lesser (mt (row x.toNatClampNeg).toNatClampNeg) left)) ∧ OS o0 (upd oil (row x.toNatClampNeg).toNatClampNeg (oil (row x.toNatClampNeg).toNatClampNeg + (upd pd (row x.toNatClampNeg).toNatClampNeg (r_c_lesser (mt (row x.toNatClampNeg).toNatClampNeg) left)) (row x.toNatClampNeg).toNatClampNeg)) 10000 (x + 1).toInt := by
  have hxi := inc_toInt hlt
  have hlx := lt_of_nle hlt
  have hj := hG x.toNatClampNeg (by rw [cl_of hx]; exact hlx)
  generalize (row x.toNatClampNeg).toNatClampNeg = ci at hj ⊢
  have h2 := lesser2 (mt ci) left
  generalize r_c_lesser (mt ci) left = v at h2 ⊢
  rw [pk_us]
  have hv : 0 ≤ v.toInt ∧ v.toInt ≤ 1000 := by omega
  refine ⟨?_, PB_upd hP hv, ?_⟩
  · have e : (left - v).toInt = left.toInt - v.toInt := by rw [Int32.toInt_sub, Int.bmod_eq_of_le] <;> omega
    rw [e]; omega
  · intro c
    have hc := hS c
    have hb := hB c
    by_cases e : c = ci
    · subst e
      rw [pk_us]
      have hoc : (oil c).toInt ≤ 16000 := by
        rcases hc.2 with h | h
        · rw [h]; omega
        · omega
      have e2 : (oil c + v).toInt = (oil c).toInt + v.toInt := by rw [Int32.toInt_add, Int.bmod_eq_of_le] <;> omega
      rw [e2, hxi]
      refine ⟨by omega, Or.inr ⟨hj.2, ?_⟩⟩
      rcases hc.2 with h | h
      · rw [h]; omega
      · omega
    · rw [pk_un e]
      refine ⟨hc.1, hc.2.elim Or.inl (fun h => Or.inr ⟨h.1, by rw [hxi]; omega⟩)⟩
theorem os_refl {o : Nat → Int32} {B : Int} (h : OB o) : OS o o B (0 : Int32).toInt := fun c => ⟨(h c).1, Or.inl rfl⟩
theorem os_ob {o0 o : Nat → Int32} {B k : Int} (h0 : OB o0) (h : OS o0 o B k) (hk : k ≤ 6) (hB : B ≤ 20000) : OB o := by
  intro c
  have h1 := h0 c
  have h2 := h c
  rcases h2.2 with h | h
  · rw [h]; exact h1
  · omega
theorem rg_next {row mt o0 o : Nat → Int32} {mm k : Int} (hG : RG mm row mt o0 10000) (h : OS o0 o 10000 k) (hk : k ≤ 6) : RG mm row mt o 16000 := by
  intro j hj
  have h1 := hG j hj
  have h2 := h (row j).toNatClampNeg
  refine ⟨h1.1, ?_⟩
  rcases h2.2 with h | h
  · rw [h]; omega
  · omega
theorem store_take {left cap kept : Int32} (hl : 0 ≤ left.toInt ∧ left.toInt ≤ 1000) (hc : 0 ≤ cap.toInt ∧ cap.toInt ≤ 5000) (hk : 0 ≤ kept.toInt ∧ kept.toInt ≤ 5000) (h : ¬ cap ≤ kept) : 0 ≤ (r_c_lesser left (cap - kept)).toInt ∧ kept.toInt + (r_c_lesser left (cap - kept)).toInt ≤ 5000 := by
  rw [Int32.le_iff_toInt_le] at h
  have e : (cap - kept).toInt = cap.toInt - kept.toInt := by rw [Int32.toInt_sub, Int.bmod_eq_of_le] <;> omega
  have h2 := lesser2 left (cap - kept)
  rw [e] at h2
  omega
theorem kept_add {kept v : Int32} (hk : 0 ≤ kept.toInt ∧ kept.toInt ≤ 5000) (hv : 0 ≤ v.toInt ∧ kept.toInt + v.toInt ≤ 5000) : 0 ≤ (kept + v).toInt ∧ (kept + v).toInt ≤ 5000 := by
  have e : (kept + v).toInt = kept.toInt + v.toInt := by rw [Int32.toInt_add, Int.bmod_eq_of_le] <;> omega
  omega
theorem kept_zero {kept : Int32} (hk : 0 ≤ kept.toInt ∧ kept.toInt ≤ 5000) : 0 ≤ (0 : Int32).toInt ∧ kept.toInt + (0 : Int32).toInt ≤ 5000 := by
  have : (0 : Int32).toInt = 0 := by decide
  omega
theorem store_step {row mt o1 oil pd : Nat → Int32} {x mv kept : Int32} (hx : 0 ≤ x.toInt) (hlt : ¬ mv ≤ x) (hmv : mv.toInt ≤ 6) (hk : 0 ≤ kept.toInt ∧ kept.toInt ≤ 5000) (hG : RG mv.toInt row mt o1 16000) (hB : OB o1) (hP : PB pd) (hS : OS o1 oil 16000 x.toInt) (hlt2 : ¬ mt (row x.toNatClampNeg).toNatClampNeg ≤ pd (row x.toNatClampNeg).toNatClampNeg) :
    (0 ≤ (kept - (r_c_lesser (mt (row x.toNatClampNeg).toNatClampNeg - pd (row x.toNatClampNeg).toNatClampNeg) kept)).toInt ∧ (kept - (r_c_lesser (mt (row x.toNatClampNeg).toNatClampNeg - pd (row x.toNatClampNeg).toNatClampNeg) kept)).toInt ≤ 5000) ∧ OS o1 (upd oil (row x.toNatClampNeg).toNatClampNeg (oil (row x.toNatClampNeg).toNatClampNeg + (r_c_lesser (mt (row x.toNatClampNeg).toNatClampNeg - pd (row x.toNatClampNeg).toNatClampNeg) kept))) 16000 (x + 1).toInt := by
  have hxi := inc_toInt hlt
  have hlx := lt_of_nle hlt
  have hj := hG x.toNatClampNeg (by rw [cl_of hx]; exact hlx)
  generalize (row x.toNatClampNeg).toNatClampNeg = ci at hj hlt2 ⊢
  have hp := hP ci
  rw [Int32.le_iff_toInt_le] at hlt2
  have e0 : (mt ci - pd ci).toInt = (mt ci).toInt - (pd ci).toInt := by rw [Int32.toInt_sub, Int.bmod_eq_of_le] <;> omega
  have h2 := lesser2 (mt ci - pd ci) kept
  rw [e0] at h2
  generalize r_c_lesser (mt ci - pd ci) kept = v at h2 ⊢
  have e : (kept - v).toInt = kept.toInt - v.toInt := by rw [Int32.toInt_sub, Int.bmod_eq_of_le] <;> omega
  refine ⟨by rw [e]; omega, ?_⟩
  intro c
  have hc := hS c
  have hb := hB c
  by_cases e : c = ci
  · subst e
    rw [pk_us]
    have hoc : (oil c).toInt ≤ 22000 := by
      rcases hc.2 with h | h
      · rw [h]; omega
      · omega
    have e2 : (oil c + v).toInt = (oil c).toInt + v.toInt := by rw [Int32.toInt_add, Int.bmod_eq_of_le] <;> omega
    rw [e2, hxi]
    refine ⟨by omega, Or.inr ⟨hj.2, ?_⟩⟩
    rcases hc.2 with h | h
    · rw [h]; omega
    · omega
  · rw [pk_un e]
    exact ⟨hc.1, hc.2.elim Or.inl (fun h => Or.inr ⟨h.1, by rw [hxi]; omega⟩)⟩
theorem os_up {o0 o : Nat → Int32} {B : Int} {x : Int32} (hx : (x + 1).toInt = x.toInt + 1) (h : OS o0 o B x.toInt) : OS o0 o B (x + 1).toInt := fun c => ⟨(h c).1, (h c).2.elim Or.inl (fun h => Or.inr ⟨h.1, by rw [hx]; omega⟩)⟩
