def SZ (sz : Nat → Int32) : Prop := ∀ k : Nat, -1 ≤ (sz k).toInt ∧ (sz k).toInt ≤ 20
theorem SZ_upd {sz : Nat → Int32} (h : SZ sz) {k : Nat} {v : Int32} (hv : -1 ≤ v.toInt ∧ v.toInt ≤ 20) : SZ (upd sz k v) := by
  intro c
  by_cases e : c = k
  · subst e; rw [pk_us]; exact hv
  · rw [pk_un e]; exact h c
theorem mul20 {k : Int32} {n : Nat} (hk : vp_in k n) (hn : n ≤ 100) : (20 * k).toInt = 20 * k.toInt := by
  have h := vp_in_iff.mp hk
  rw [Int32.toInt_mul, show (20 : Int32).toInt = 20 from by decide, Int.bmod_eq_of_le] <;> omega
theorem mul10 {k : Int32} {n : Nat} (hk : vp_in k n) (hn : n ≤ 100) : (10 * k).toInt = 10 * k.toInt := by
  have h := vp_in_iff.mp hk
  rw [Int32.toInt_mul, show (10 : Int32).toInt = 10 from by decide, Int.bmod_eq_of_le] <;> omega
theorem add_in {a b : Int32} {x y : Int} {n : Nat} (ha : a.toInt = x) (hb : b.toInt = y) (h0 : 0 ≤ x + y) (hn : x + y < n) (h2 : n ≤ 1000) (h3 : -1000 ≤ x ∧ x ≤ 1000) : vp_in (a + b) n := by
  rw [vp_in_iff, Int32.toInt_add, ha, hb, Int.bmod_eq_of_le] <;> omega
theorem in_32 {v lo hi : Int32} (h : ¬ r_c_in v.toInt64 lo.toInt64 hi.toInt64 = 0) : lo.toInt ≤ v.toInt ∧ v.toInt ≤ hi.toInt := by
  rw [in_within, within_eq] at h
  by_cases h2 : lo.toInt ≤ v.toInt ∧ v.toInt ≤ hi.toInt
  · exact h2
  · rw [if_neg h2] at h; exact absurd rfl h
theorem cell_in {a1 : Nat → Int32} {k ii : Int32} (hS : SZ a1) (hk : vp_in k 4) (h : r_g_noCell a1 k ii ≤ 0) : vp_in (20 * k + ii) 80 := by
  have hs := hS k.toNatClampNeg
  have hkk := vp_in_iff.mp hk
  unfold r_g_noCell at h
  by_cases h0 : 0 ≤ a1 k.toNatClampNeg
  · rw [if_pos h0] at h
    by_cases h1 : r_c_in ii.toInt64 0 ((a1 k.toNatClampNeg).toInt64 - 1) = 0
    · rw [if_pos h1] at h; exact absurd h (by decide)
    · rw [Int32.le_iff_toInt_le, Int32.toInt_zero] at h0
      have h2 := vp_in_iff.mp (in_lt (n := 20) ⟨h0, hs.2⟩ h1)
      exact add_in (mul20 hk (by decide)) rfl (by omega) (by omega) (by omega) (by omega)
  · rw [if_neg h0] at h; exact absurd h (by decide)
theorem beyond_of {i n all : Int32} (h : r_c_isBeyond i n all = 0) (ha : all.toInt ≤ 20) : 0 ≤ i.toInt ∧ 0 ≤ n.toInt ∧ i.toInt + n.toInt ≤ all.toInt := by
  unfold r_c_isBeyond at h
  by_cases h1 : i < 0
  · rw [if_pos h1] at h; exact absurd h (by decide)
  · rw [if_neg h1] at h
    by_cases h2 : n < 0
    · rw [if_pos h2] at h; exact absurd h (by decide)
    · rw [if_neg h2] at h
      by_cases h3 : lg_cmp (i.toInt64 + n.toInt64) all.toInt64 ≤ 0
      · have h4 : ¬ all.toInt64 < i.toInt64 + n.toInt64 := fun q => by
          have := (lg_gt _ _).mpr q
          rw [Int32.lt_iff_toInt_lt] at this
          rw [Int32.le_iff_toInt_le] at h3
          omega
        rw [Int64.lt_iff_toInt_lt, Int64.toInt_add, Int32.toInt_toInt64, Int32.toInt_toInt64, Int32.toInt_toInt64] at h4
        have b1 := Int32.toInt_lt i
        have b2 := Int32.toInt_lt n
        have b3 := Int32.le_toInt i
        have b4 := Int32.le_toInt n
        rw [Int.bmod_eq_of_le (by omega) (by omega)] at h4
        rw [Int32.lt_iff_toInt_lt, Int32.toInt_zero] at h1 h2
        omega
      · rw [if_neg h3] at h; exact absurd h (by decide)
theorem row_in {k i x n : Int32} (hk : vp_in k 4) (hi : 0 ≤ i.toInt) (hb : i.toInt + n.toInt ≤ 20) (hx : 0 ≤ x.toInt) (hlt : ¬ n ≤ x) : vp_in (20 * k + i + x) 80 := by
  have h1 := vp_in_iff.mp hk
  have h2 := lt_of_nle hlt
  have e : (20 * k + i).toInt = 20 * k.toInt + i.toInt := by
    rw [Int32.toInt_add, mul20 hk (by decide), Int.bmod_eq_of_le] <;> omega
  exact add_in e rfl (by omega) (by omega) (by omega) (by omega)
theorem row_in0 {k x n : Int32} (hk : vp_in k 4) (hb : n.toInt ≤ 20) (hx : 0 ≤ x.toInt) (hlt : ¬ n ≤ x) : vp_in (20 * k + x) 80 := by
  have h1 := vp_in_iff.mp hk
  have h2 := lt_of_nle hlt
  exact add_in (mul20 hk (by decide)) rfl (by omega) (by omega) (by omega) (by omega)
theorem ld_in {c x n : Int32} (hc : vp_in c 6) (hb : n.toInt ≤ 10) (hx : 0 ≤ x.toInt) (hlt : ¬ n ≤ x) : vp_in (10 * c + x) 60 := by
  have h1 := vp_in_iff.mp hc
  have h2 := lt_of_nle hlt
  exact add_in (mul10 hc (by decide)) rfl (by omega) (by omega) (by omega) (by omega)
theorem le20 {n : Int32} (h : n ≤ 20) : n.toInt ≤ 20 := by
  rw [Int32.le_iff_toInt_le] at h
  exact h
theorem ge0 {n : Int32} (h : 0 ≤ n) : 0 ≤ n.toInt := by
  rw [Int32.le_iff_toInt_le] at h
  exact h
theorem MCI_ld {i a9 a10 a12 : Nat → Int32} {k : Nat} {v : Int32} (h : MCI i a9 a10 a12) (hv : 1 ≤ v.toInt ∧ v.toInt ≤ 10) : MCI i a9 a10 (upd a12 k v) := by
  intro c hc
  have h1 := h c hc
  by_cases e : c = k
  · subst e; rw [pk_us]; exact ⟨h1.1, h1.2.1, hv⟩
  · rw [pk_un e]; exact h1
