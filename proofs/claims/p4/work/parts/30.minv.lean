def OB (o : Nat → Int32) : Prop := ∀ c : Nat, 0 ≤ (o c).toInt ∧ (o c).toInt ≤ 30000
def FB (fl lk : Nat → Int32) : Prop := ∀ c : Nat, (0 ≤ (fl c).toInt ∧ (fl c).toInt ≤ 1000) ∧ 0 ≤ (lk c).toInt
def PB (pd : Nat → Int32) : Prop := ∀ c : Nat, 0 ≤ (pd c).toInt ∧ (pd c).toInt ≤ 1000
def FG (x : Int32) (mm hole : Int) (row mt o : Nat → Int32) : Prop := ∀ j : Nat, (j : Int) < mm → (j : Int) ≠ hole → (row j).toInt < x.toInt ∧ (0 ≤ (mt (row j).toNatClampNeg).toInt ∧ (mt (row j).toNatClampNeg).toInt ≤ 1000) ∧ (o (row j).toNatClampNeg).toInt ≤ 10000
def RG (mm : Int) (row mt o : Nat → Int32) (B : Int) : Prop := ∀ j : Nat, (j : Int) < mm → (0 ≤ (mt (row j).toNatClampNeg).toInt ∧ (mt (row j).toNatClampNeg).toInt ≤ 1000) ∧ (o (row j).toNatClampNeg).toInt ≤ B
def OS (o0 o : Nat → Int32) (B k : Int) : Prop := ∀ c : Nat, 0 ≤ (o c).toInt ∧ (o c = o0 c ∨ ((o0 c).toInt ≤ B ∧ (o c).toInt ≤ (o0 c).toInt + 1000 * k))
theorem lt_in {x b : Int32} {n : Nat} (h0 : 0 ≤ x.toInt) (h : ¬ b ≤ x) (hb : b.toInt ≤ n) : vp_in x n := by
  rw [vp_in_iff]
  rw [Int32.le_iff_toInt_le] at h
  omega
theorem lt_of_nle {x b : Int32} (h : ¬ b ≤ x) : x.toInt < b.toInt := by
  rw [Int32.le_iff_toInt_le] at h
  omega
theorem z_ge : (0 : Int) ≤ (0 : Int32).toInt := by decide
theorem cl_of {r : Int32} (h : 0 ≤ r.toInt) : ((r.toNatClampNeg : Nat) : Int) = r.toInt := by
  show ((r.toInt.toNat : Nat) : Int) = r.toInt
  omega
theorem load_in2 {i a9 a10 a11 a12 : Nat → Int32} {cy : Int32} (hM : MCI i a9 a10 a12) (hO : OB a11) (hc : vp_in cy 6) (hlt : cy.toInt < (i 7).toInt) : vp_in (10 * cy + r_c_lesser (a11 (cy.toNatClampNeg) * a12 (cy.toNatClampNeg) / (a9 (cy.toNatClampNeg) * a10 (cy.toNatClampNeg))) (a12 (cy.toNatClampNeg) - 1)) 60 := by
  have h := hM cy.toNatClampNeg (by rw [cl_nat hc]; exact hlt)
  have ho := hO cy.toNatClampNeg
  have h2 := mul_toInt h.1 h.2.1
  have hcy := vp_in_iff.mp hc
  generalize a9 (cy.toNatClampNeg) = x9 at h h2 ⊢
  generalize a10 (cy.toNatClampNeg) = x10 at h h2 ⊢
  generalize a11 (cy.toNatClampNeg) = x11 at ho ⊢
  generalize a12 (cy.toNatClampNeg) = x12 at h ⊢
  have h3 : x11.toInt * x12.toInt ≤ 30000 * 10 := Int.mul_le_mul (by omega) (by omega) (by omega) (by omega)
  have h4 : 0 ≤ x11.toInt * x12.toInt := Int.mul_nonneg ho.1 (by omega)
  have e1 : (x11 * x12).toInt = x11.toInt * x12.toInt := by
    rw [Int32.toInt_mul, Int.bmod_eq_of_le] <;> omega
  have e2 : (x12 - 1).toInt = x12.toInt - 1 := by
    rw [Int32.toInt_sub, show (1 : Int32).toInt = 1 from by decide, Int.bmod_eq_of_le] <;> omega
  have e3 : 0 ≤ (x11 * x12 / (x9 * x10)).toInt := by
    rw [Int32.toInt_div, e1, h2.1]
    have := Int.tdiv_nonneg h4 (show 0 ≤ x9.toInt * x10.toInt by omega)
    have h5 : (x11.toInt * x12.toInt).tdiv (x9.toInt * x10.toInt) ≤ x11.toInt * x12.toInt := Int.tdiv_le_self _ h4
    rw [Int.bmod_eq_of_le] <;> omega
  have e4 : 0 ≤ (r_c_lesser (x11 * x12 / (x9 * x10)) (x12 - 1)).toInt ∧ (r_c_lesser (x11 * x12 / (x9 * x10)) (x12 - 1)).toInt ≤ 9 := by
    unfold r_c_lesser
    by_cases hh : x12 - 1 ≤ x11 * x12 / (x9 * x10)
    · rw [if_pos hh, e2]; omega
    · rw [if_neg hh]
      rw [Int32.le_iff_toInt_le, e2] at hh
      omega
  generalize r_c_lesser (x11 * x12 / (x9 * x10)) (x12 - 1) = y at e4 ⊢
  have e5 : (10 * cy).toInt = 10 * cy.toInt := by
    rw [Int32.toInt_mul, show (10 : Int32).toInt = 10 from by decide, Int.bmod_eq_of_le] <;> omega
  rw [vp_in_iff, Int32.toInt_add, e5, Int.bmod_eq_of_le] <;> omega
theorem OB_lose {o : Nat → Int32} {cy n : Int32} (h : OB o) (hn : 0 ≤ n.toInt) : OB (o_g_loseFrom_q11 o cy n) := by
  intro c
  have hc := h c
  unfold o_g_loseFrom_q11
  by_cases e : c = cy.toNatClampNeg
  · subst e
    rw [pk_us]
    have hl := lesser_le hn hc.1
    have e2 : (o cy.toNatClampNeg - r_c_lesser n (o cy.toNatClampNeg)).toInt = (o cy.toNatClampNeg).toInt - (r_c_lesser n (o cy.toNatClampNeg)).toInt := by
      rw [Int32.toInt_sub, Int.bmod_eq_of_le] <;> omega
    rw [e2]
    omega
  · rw [pk_un e]; exact hc
theorem lesser2 (a b : Int32) : (r_c_lesser a b).toInt ≤ a.toInt ∧ (r_c_lesser a b).toInt ≤ b.toInt ∧ ((r_c_lesser a b).toInt = a.toInt ∨ (r_c_lesser a b).toInt = b.toInt) := by
  unfold r_c_lesser
  by_cases h : b ≤ a
  · rw [if_pos h]; rw [Int32.le_iff_toInt_le] at h; omega
  · rw [if_neg h]; rw [Int32.le_iff_toInt_le] at h; omega
theorem inc7 {x : Int32} {n : Int} (h0 : 0 ≤ x.toInt) (h : x.toInt ≤ n) (hn : n ≤ 1000) : (x + 1).toInt = x.toInt + 1 := by
  rw [Int32.toInt_add, show (1 : Int32).toInt = 1 from by decide, Int.bmod_eq_of_le] <;> omega
theorem PB_upd {pd : Nat → Int32} (h : PB pd) {k : Nat} {v : Int32} (hv : 0 ≤ v.toInt ∧ v.toInt ≤ 1000) : PB (upd pd k v) := by
  intro c
  by_cases e : c = k
  · subst e; rw [pk_us]; exact hv
  · rw [pk_un e]; exact h c
theorem fg_zero {x : Int32} {row mt o : Nat → Int32} : FG x 0 (-1) row mt o := fun j hj _ => by omega
theorem fg_mt {x : Int32} {mm h : Int} {row mt o : Nat → Int32} {v : Int32} (hR : RI row) (hx : 0 ≤ x.toInt) (H : FG x mm h row mt o) : FG x mm h row (upd mt x.toNatClampNeg v) o := by
  intro j h1 h2
  have h3 := H j h1 h2
  have h4 := (vp_in_iff.mp (hR j)).1
  have e : (row j).toNatClampNeg ≠ x.toNatClampNeg := by
    intro e
    have e1 := cl_of h4
    have e2 := cl_of hx
    rw [e] at e1
    omega
  rw [pk_un e]
  exact h3
theorem fg_up {x : Int32} {mm h : Int} {row mt o : Nat → Int32} (hx : (x + 1).toInt = x.toInt + 1) (H : FG x mm h row mt o) : FG (x + 1) mm h row mt o := by
  intro j h1 h2
  have h3 := H j h1 h2
  rw [hx]
  exact ⟨by omega, h3.2⟩
theorem fg_open {x : Int32} {mm : Int} {row mt o : Nat → Int32} (H : FG x mm (-1) row mt o) : FG x (mm + 1) mm row mt o := fun j h1 h2 => H j (by omega) (by omega)
theorem fg_shift {x at_ a1 : Int32} {mm : Int} {row mt o : Nat → Int32} (H : FG x mm at_.toInt row mt o) (h0 : 0 < at_.toInt) (h1 : at_.toInt < mm) (ha : a1.toInt = at_.toInt - 1) : FG x mm a1.toInt (upd row at_.toNatClampNeg (row a1.toNatClampNeg)) mt o := by
  intro j h2 h3
  have e1 := cl_of (r := at_) (by omega)
  have e2 := cl_of (r := a1) (by omega)
  by_cases e : j = at_.toNatClampNeg
  · subst e
    rw [pk_us]
    exact H a1.toNatClampNeg (by omega) (by omega)
  · rw [pk_un e]
    exact H j h2 (by omega)
theorem fg_close {x at_ : Int32} {mm : Int} {row mt o : Nat → Int32} (H : FG x mm at_.toInt row mt o) (hx0 : 0 ≤ x.toInt) (hx : (x + 1).toInt = x.toInt + 1) (h0 : 0 ≤ at_.toInt) (hm : 0 ≤ (mt x.toNatClampNeg).toInt ∧ (mt x.toNatClampNeg).toInt ≤ 1000) (ho : (o x.toNatClampNeg).toInt ≤ 10000) : FG (x + 1) mm (-1) (upd row at_.toNatClampNeg x) mt o := by
  intro j h2 h3
  have e1 := cl_of h0
  by_cases e : j = at_.toNatClampNeg
  · subst e
    rw [pk_us]
    exact ⟨by omega, hm, ho⟩
  · rw [pk_un e]
    have h4 := H j h2 (by omega)
    exact ⟨by omega, h4.2⟩
theorem fg_rg {x : Int32} {mm : Int} {row mt o : Nat → Int32} (H : FG x mm (-1) row mt o) : RG mm row mt o 10000 := fun j h => (H j h (by omega)).2
theorem may_take {i a9 a10 a12 a11 a15 a16 : Nat → Int32} {cy : Int32} (hM : MCI i a9 a10 a12) (hO : OB a11) (hF : FB a15 a16) (hc : vp_in cy 6) (hlt : cy.toInt < (i 7).toInt) (h : ¬ (a9 (cy.toNatClampNeg) * a10 (cy.toNatClampNeg)) ≤ a11 (cy.toNatClampNeg)) : (0 ≤ (r_c_lesser (a15 (cy.toNatClampNeg)) (a9 (cy.toNatClampNeg) * a10 (cy.toNatClampNeg) - a11 (cy.toNatClampNeg))).toInt ∧ (r_c_lesser (a15 (cy.toNatClampNeg)) (a9 (cy.toNatClampNeg) * a10 (cy.toNatClampNeg) - a11 (cy.toNatClampNeg))).toInt ≤ 1000) ∧ (a11 (cy.toNatClampNeg)).toInt ≤ 10000 := by
  have h1 := hM cy.toNatClampNeg (by rw [cl_nat hc]; exact hlt)
  have ho := hO cy.toNatClampNeg
  have hf := (hF cy.toNatClampNeg).1
  have h2 := mul_toInt h1.1 h1.2.1
  rw [Int32.le_iff_toInt_le, h2.1] at h
  have e1 : (a9 cy.toNatClampNeg * a10 cy.toNatClampNeg - a11 cy.toNatClampNeg).toInt = (a9 cy.toNatClampNeg).toInt * (a10 cy.toNatClampNeg).toInt - (a11 cy.toNatClampNeg).toInt := by
    rw [Int32.toInt_sub, h2.1, Int.bmod_eq_of_le] <;> omega
  have h3 := lesser2 (a15 cy.toNatClampNeg) (a9 cy.toNatClampNeg * a10 cy.toNatClampNeg - a11 cy.toNatClampNeg)
  rw [e1] at h3
  omega
