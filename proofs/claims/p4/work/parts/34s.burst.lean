def B6 (b : Nat → Int32) : Prop := ∀ c : Nat, (c : Int) < 6 → b c = 0 ∨ b c = 1
theorem nar01 {x : Int32} (h : x = 0 ∨ x = 1) : vp_nar .boolean x = x := by
  rcases h with h | h <;> subst h <;> decide
theorem EQn_stepB {a b : Nat → Int32} {x : Int32} (hb : B6 b) (hn : ¬ 6 ≤ x) (hx : 0 ≤ x.toInt) (hi : (x + 1).toInt = x.toInt + 1) (h : EQn x.toInt a b) : EQn (x + 1).toInt (upd a x.toNatClampNeg (vp_nar .boolean (b x.toNatClampNeg))) b := by
  intro c hc
  rw [hi] at hc
  have e1 := cl_of hx
  have e6 : (6 : Int32).toInt = 6 := by decide
  rw [Int32.le_iff_toInt_le, e6] at hn
  by_cases e : c = x.toNatClampNeg
  · subst e; rw [pk_us]; exact nar01 (hb _ (by omega))
  · rw [pk_un e]; exact h c (by omega)
theorem B6_of {a b : Nat → Int32} (hb : B6 b) (h : EQn 6 a b) : B6 a := fun c hc => by rw [h c hc]; exact hb c hc
theorem B6_upd {b : Nat → Int32} (hb : B6 b) {k : Nat} {v : Int32} (hv : v = 0 ∨ v = 1) : B6 (upd b k v) := by
  intro c hc
  by_cases e : c = k
  · subst e; rw [pk_us]; exact hv
  · rw [pk_un e]; exact hb c hc
