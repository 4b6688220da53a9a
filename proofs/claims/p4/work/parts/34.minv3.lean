def LB (lk : Nat → Int32) : Prop := ∀ c : Nat, 0 ≤ (lk c).toInt
def EQn (n : Int) (a b : Nat → Int32) : Prop := ∀ c : Nat, (c : Int) < n → a c = b c
theorem FB.lk {fl lk lk' : Nat → Int32} (h : FB fl lk) (h2 : LB lk') : FB fl lk' := fun c => ⟨(h c).1, h2 c⟩
theorem FB.lb {fl lk : Nat → Int32} (h : FB fl lk) : LB lk := fun c => (h c).2
theorem LB_upd {pd : Nat → Int32} (h : LB pd) {k : Nat} {v : Int32} (hv : 0 ≤ v.toInt) : LB (upd pd k v) := by
  intro c
  by_cases e : c = k
  · subst e; rw [pk_us]; exact hv
  · rw [pk_un e]; exact h c
theorem OB_upd {pd : Nat → Int32} (h : OB pd) {k : Nat} {v : Int32} (hv : 0 ≤ v.toInt ∧ v.toInt ≤ 30000) : OB (upd pd k v) := by
  intro c
  by_cases e : c = k
  · subst e; rw [pk_us]; exact hv
  · rw [pk_un e]; exact h c
theorem EQn_zero {a b : Nat → Int32} : EQn (0 : Int32).toInt a b := fun c h => by rw [Int32.toInt_zero] at h; omega
theorem EQn_step {a b : Nat → Int32} {x : Int32} (hx : 0 ≤ x.toInt) (hi : (x + 1).toInt = x.toInt + 1) (h : EQn x.toInt a b) : EQn (x + 1).toInt (upd a x.toNatClampNeg (b x.toNatClampNeg)) b := by
  intro c hc
  rw [hi] at hc
  have e1 := cl_of hx
  by_cases e : c = x.toNatClampNeg
  · subst e; rw [pk_us]
  · rw [pk_un e]; exact h c (by omega)
theorem EQn.le {n m : Int} {a b : Nat → Int32} (h : EQn n a b) (hm : m ≤ n) : EQn m a b := fun c hc => h c (by omega)
theorem EQn.trans {n : Int} {a b c : Nat → Int32} (h1 : EQn n a b) (h2 : EQn n b c) : EQn n a c := fun k hk => (h1 k hk).trans (h2 k hk)
theorem six_le {x : Int32} (h : (6 : Int32) ≤ x) : (6 : Int) ≤ x.toInt := by
  rw [Int32.le_iff_toInt_le] at h
  exact h
theorem le200 {x : Int32} (h : ¬ (200 : Int32) < x) : x.toInt ≤ 200 := by
  rw [Int32.lt_iff_toInt_lt, show (200 : Int32).toInt = 200 from by decide] at h
  omega
theorem inc_le2 {t b : Int32} (h : ¬ b < t) (hb : b.toInt ≤ 1000) : (t + 1).toInt = t.toInt + 1 := by
  have h1 := Int32.le_toInt t
  rw [Int32.lt_iff_toInt_lt] at h
  rw [Int32.toInt_add, show (1 : Int32).toInt = 1 from by decide, Int.bmod_eq_of_le] <;> omega
theorem inc_mu3 {t b : Int32} (h : ¬ b < t) (hb : b.toInt ≤ 1000) : (b.toInt + 1 - (t + 1).toInt).toNat < (b.toInt + 1 - t.toInt).toNat := by
  have h1 := inc_le2 h hb
  rw [Int32.lt_iff_toInt_lt] at h
  omega
def TKR (s n r s' : Int32) : Prop := (r_c_within n 0 200 = 0 ∧ r = -2 ∧ s' = s) ∨ (¬ r_c_within n 0 200 = 0 ∧ ¬ s + n ≤ 100000 ∧ r = -3 ∧ s' = s) ∨ (¬ r_c_within n 0 200 = 0 ∧ s + n ≤ 100000 ∧ r = s + n ∧ s' = s + n)
theorem in200 (n : Int32) : r_c_in n.toInt64 0 200 = r_c_within n 0 200 := in_within n 0 200
theorem ge_dec {t b : Int32} (h : ¬ b < t) (hb : b.toInt ≤ 1000) (h0 : 0 ≤ t.toInt) : 0 ≤ (t + 1).toInt := by
  have := inc_le2 h hb
  omega
theorem one_ge : (0 : Int) ≤ (1 : Int32).toInt := by decide
