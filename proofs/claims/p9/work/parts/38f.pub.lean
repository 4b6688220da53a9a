-- the public answers that hang on ticks
def vl_r (cnt : Int32) (f : FnI) (cy v : Int32) : Int32 := if NC cnt cy then -1 else if r_c_within v 0 2 = 0 then -2 else r_c_get 6 f cy
def vl_f (cnt : Int32) (f : FnI) (cy v : Int32) : FnI := if NC cnt cy then f else if r_c_within v 0 2 = 0 then f else r_c_set 6 f cy v
def fi_r (cnt : Int32) (rm f : FnI) (cy v : Int32) : Int32 := if NC cnt cy then -1 else if r_c_within v 0 (rm cy.toNatClampNeg) = 0 then -2 else r_c_get 6 f cy
def fi_f (cnt : Int32) (rm f : FnI) (cy v : Int32) : FnI := if NC cnt cy then f else if r_c_within v 0 (rm cy.toNatClampNeg) = 0 then f else r_c_set 6 f cy v
def sx_r (sol x1 x2 x3 : Int32) : Int32 := if r_c_within x1 0 5000 = 0 then -2 else if r_c_within x2 0 1000 = 0 then -2 else if r_c_within x3 1 100 = 0 then -2 else if x1 < sol then -3 else 1
def sx_u (sol x1 x2 x3 old new : Int32) : Int32 := if r_c_within x1 0 5000 = 0 then old else if r_c_within x2 0 1000 = 0 then old else if r_c_within x3 1 100 = 0 then old else if x1 < sol then old else new
def ab_r (cnt : Int32) (kd ar sk lc o v b t : FnI) (ld nd : Nat → Int32 → Int32) (cy what : Int32) : Int32 := if NC cnt cy then -1 else if what = 0 then kd cy.toNatClampNeg else if what = 1 then ar cy.toNatClampNeg else if what = 2 then sk cy.toNatClampNeg else if what = 3 then r_c_get 6 o cy else if what = 4 then ld cy.toNatClampNeg (r_c_get 6 o cy) else if what = 5 then nd cy.toNatClampNeg (r_c_get 6 o cy) else if what = 6 then r_c_get 6 v cy else if what = 7 then lc cy.toNatClampNeg else if what = 8 then r_c_get 6 b cy else if what = 9 then r_c_get 6 t cy else -2
def ga_r (td prs ovr stk tks what : Int32) : Int32 := if r_c_within what 0 3 = 0 then -2 else if td = 0 then -3 else if what = 0 then prs else if what = 1 then ovr else if what = 2 then stk else tks
def mo_r (tks : Int32) (fk : FnI) (ii : Int32) : Int32 := if r_c_within ii 0 (tks - 1) = 0 then -1 else r_c_get 6 fk ii
theorem EQn30_get {f a : FnI} (h : EQn 30 f a) : r_c_get 30 f = r_c_get 30 a := by
  funext x
  unfold r_c_get
  by_cases h1 : x < 0
  · rw [if_pos h1, if_pos h1]
  · rw [if_neg h1, if_neg h1]
    by_cases h2 : Int32.ofNat 30 ≤ x
    · rw [if_pos h2, if_pos h2]
    · rw [if_neg h2, if_neg h2]
      rw [Int32.lt_iff_toInt_lt, Int32.toInt_zero] at h1
      rw [Int32.le_iff_toInt_le, show (Int32.ofNat 30).toInt = 30 from by decide] at h2
      exact h _ (by show ((x.toInt.toNat : Nat) : Int) < 30; omega)
theorem EQn6_n6 {f a : FnI} (h : EQn 6 f a) : n6 f = n6 a := by
  funext c
  unfold n6
  by_cases h1 : c < 6
  · rw [if_pos h1, if_pos h1]; exact h c (by omega)
  · rw [if_neg h1, if_neg h1]
theorem n6_EQn6 {f a : FnI} (h : n6 f = n6 a) : EQn 6 f a := by
  intro c hc
  have e := congrFun h c
  rw [n6_at f (by omega), n6_at a (by omega)] at e
  exact e
theorem EQn6_set {f a : FnI} (h : EQn 6 f a) (x v : Int32) : EQn 6 (r_c_set 6 f x v) (r_c_set 6 a x v) := n6_EQn6 (by rw [n6_setx, n6_setx, EQn6_n6 h])
theorem vl_eqn {cnt : Int32} {f a : FnI} (h : EQn 6 f a) (cy v : Int32) : EQn 6 (vl_f cnt f cy v) (vl_f cnt a cy v) := by
  unfold vl_f
  (repeat' split) <;> first | exact h | exact EQn6_set h _ _
theorem fi_eqn {cnt : Int32} {rm f a : FnI} (h : EQn 6 f a) (cy v : Int32) : EQn 6 (fi_f cnt rm f cy v) (fi_f cnt rm a cy v) := by
  unfold fi_f
  (repeat' split) <;> first | exact h | exact EQn6_set h _ _
def hmF (cnt : Int32) (rm o : FnI) (en x n : Int32) : Int32 := if NC cnt x then n else if ISs (rm x.toNatClampNeg) en (r_c_get 6 o x) = 0 then n else n + 1
def hmN (cnt : Int32) (rm o : FnI) (en : Int32) : Int32 := forX cnt (hmF cnt rm o en) 0 0
def to_r (cnt oc rc tck : Int32) (rm o : FnI) (what : Int32) : Int32 := if what = 0 then cnt else if what = 1 then oc else if what = 2 then rc else if what = 3 then tck else if what = 4 then hmN cnt rm o 1 else if what = 5 then hmN cnt rm o 2 else -2
def su_r (ht wk gn : Int64) (sol fst stf what : Int32) : Int64 := if what = 0 then ht else if what = 1 then wk else if what = 2 then gn else if what = 3 then sol.toInt64 else if what = 4 then (prS fst stf sol).toInt64 else -9223372036854775808
def htV (what o rm : Int32) : Int32 := if what = 4 then (if o = rm then 1 else (if what = 5 then (if o = 0 then 1 else 0) else 0)) else (if what = 5 then (if o = 0 then 1 else 0) else 0)
def htF (what : Int32) (rm o : FnI) (x n : Int32) : Int32 := n + htV what (o x.toNatClampNeg) (rm x.toNatClampNeg)
theorem forN_congr {S : Type} {f g : Nat → S → S} {n : Nat} (h : ∀ k s, k < n → f k s = g k s) (st : S) : ∀ k, k ≤ n → forN f k st = forN g k st
  | 0, _ => rfl
  | k + 1, hk => by
    show f k (forN f k st) = g k (forN g k st)
    rw [forN_congr h st k (by omega), h k _ (by omega)]
theorem ht_eq {n7 what en : Int32} {rm o : FnI} (h7 : 0 ≤ n7.toInt ∧ n7.toInt ≤ 6) (h : (what = 4 ∧ en = 1) ∨ (what = 5 ∧ en = 2)) : forX n7 (htF what rm o) 0 0 = hmN n7 rm o en := by
  have e : n7 = nI n7.toInt.toNat := Int32.toInt_inj.mp (by rw [nI_toInt (by omega)]; omega)
  have h6 : n7.toInt.toNat ≤ 6 := by omega
  unfold hmN
  generalize n7.toInt.toNat = m at e h6
  subst e
  rw [forX_0 (by omega), forX_0 (by omega)]
  refine forN_congr (fun k s hk => ?_) 0 m (Nat.le_refl _)
  have hn : ¬ NC (nI m) (nI k) := fun e => by have := (nc_nI h6 (by omega)).mp e; omega
  unfold htF hmF
  rw [if_neg hn, get_nI o (by omega) (by decide), nI_clamp (by omega)]
  rcases h with ⟨h1, h2⟩ | ⟨h1, h2⟩ <;> subst h1 <;> subst h2
  · by_cases ho : o k = rm k
    · rw [show htV 4 (o k) (rm k) = 1 from by unfold htV; rw [if_pos rfl, if_pos ho], show ISs (rm k) 1 (o k) = 1 from by unfold ISs; rw [if_neg (by decide), if_pos rfl, if_pos ho], if_neg (by decide)]
    · rw [show htV 4 (o k) (rm k) = 0 from by unfold htV; rw [if_pos rfl, if_neg ho, if_neg (by decide)], show ISs (rm k) 1 (o k) = 0 from by unfold ISs; rw [if_neg (by decide), if_pos rfl, if_neg ho], if_pos rfl, Int32.add_zero]
  · by_cases ho : o k = 0
    · rw [show htV 5 (o k) (rm k) = 1 from by unfold htV; rw [if_neg (by decide), if_pos rfl, if_pos ho], show ISs (rm k) 2 (o k) = 1 from by unfold ISs; rw [if_neg (by decide), if_neg (by decide), if_pos ho], if_neg (by decide)]
    · rw [show htV 5 (o k) (rm k) = 0 from by unfold htV; rw [if_neg (by decide), if_pos rfl, if_neg ho], show ISs (rm k) 2 (o k) = 0 from by unfold ISs; rw [if_neg (by decide), if_neg (by decide), if_neg ho], if_pos rfl, Int32.add_zero]
def oaU (oc : Int32) (row : FnI) (x : Int32) : FnI := if oc < 30 then r_c_set 30 row oc x else row
def or_u (cnt oc cy en d v : Int32) (row : FnI) (x : Int32) : FnI := if NC cnt cy then row else if NC cnt d then row else if r_c_within en 0 2 = 0 then row else if r_c_within v 0 2 = 0 then row else if oc < 30 then r_c_set 30 row oc x else row
theorem EQn30_set {f a : FnI} (h : EQn 30 f a) (x v : Int32) : EQn 30 (r_c_set 30 f x v) (r_c_set 30 a x v) := by
  unfold r_c_set
  intro c hc
  (repeat' split)
  · exact h c hc
  · exact h c hc
  · by_cases e : c = x.toNatClampNeg
    · subst e; rw [pk_us, pk_us]
    · rw [pk_un e, pk_un e]; exact h c hc
theorem or_eqn {cnt oc cy en d v x : Int32} {f a : FnI} (h : EQn 30 f a) : EQn 30 (or_u cnt oc cy en d v f x) (or_u cnt oc cy en d v a x) := by
  unfold or_u
  (repeat' split) <;> first | exact h | exact EQn30_set h _ _
