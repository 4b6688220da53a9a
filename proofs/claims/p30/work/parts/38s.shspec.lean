abbrev NS (k : Int32) : Prop := k < 0 ∨ 4 ≤ k
abbrev HOLD (len i n : Int32) : Prop := 0 ≤ i.toInt ∧ 0 ≤ n.toInt ∧ i.toInt + n.toInt ≤ len.toInt
def w4 (a b c d : Int32) : Nat → Int32 := fun k => if k = 0 then a else if k = 1 then b else if k = 2 then c else if k = 3 then d else 0
def w4f (a b c d : Nat → Int32) : Nat → Nat → Int32 := fun k => if k = 0 then a else if k = 1 then b else if k = 2 then c else if k = 3 then d else z0
theorem w4_0 (a b c d : Int32) : w4 a b c d 0 = a := rfl
theorem w4_1 (a b c d : Int32) : w4 a b c d 1 = b := rfl
theorem w4_2 (a b c d : Int32) : w4 a b c d 2 = c := rfl
theorem w4_3 (a b c d : Int32) : w4 a b c d 3 = d := rfl
theorem w4f_0 (a b c d : Nat → Int32) : w4f a b c d 0 = a := rfl
theorem w4f_1 (a b c d : Nat → Int32) : w4f a b c d 1 = b := rfl
theorem w4f_2 (a b c d : Nat → Int32) : w4f a b c d 2 = c := rfl
theorem w4f_3 (a b c d : Nat → Int32) : w4f a b c d 3 = d := rfl
theorem u4_0 (a b c d x : Int32) : upd (w4 a b c d) 0 x = w4 x b c d := by
  funext j
  by_cases e : j = 0
  · subst e; rw [pk_us]; rfl
  · rw [pk_un e]; unfold w4; rw [if_neg e, if_neg e]
theorem u4_1 (a b c d x : Int32) : upd (w4 a b c d) 1 x = w4 a x c d := by
  funext j
  by_cases e : j = 1
  · subst e; rw [pk_us]; rfl
  · rw [pk_un e]; unfold w4; rw [if_neg e, if_neg e]
theorem u4_2 (a b c d x : Int32) : upd (w4 a b c d) 2 x = w4 a b x d := by
  funext j
  by_cases e : j = 2
  · subst e; rw [pk_us]; rfl
  · rw [pk_un e]; unfold w4; rw [if_neg e, if_neg e]
theorem u4_3 (a b c d x : Int32) : upd (w4 a b c d) 3 x = w4 a b c x := by
  funext j
  by_cases e : j = 3
  · subst e; rw [pk_us]; rfl
  · rw [pk_un e]; unfold w4; rw [if_neg e, if_neg e]
def upF (f : Nat → Nat → Int32) (k : Nat) (r : Nat → Int32) : Nat → Nat → Int32 := fun j => if j = k then r else f j
theorem u4f_0 (a b c d x : Nat → Int32) : upF (w4f a b c d) 0 x = w4f x b c d := by
  funext j; unfold upF w4f
  by_cases e : j = 0
  · subst e; rfl
  · rw [if_neg e, if_neg e, if_neg e]
theorem u4f_1 (a b c d x : Nat → Int32) : upF (w4f a b c d) 1 x = w4f a x c d := by
  funext j; unfold upF w4f
  by_cases e : j = 1
  · subst e; rfl
  · rw [if_neg e, if_neg e, if_neg e]
theorem u4f_2 (a b c d x : Nat → Int32) : upF (w4f a b c d) 2 x = w4f a b x d := by
  funext j; unfold upF w4f
  by_cases e : j = 2
  · subst e; rfl
  · rw [if_neg e, if_neg e, if_neg e]
theorem u4f_3 (a b c d x : Nat → Int32) : upF (w4f a b c d) 3 x = w4f a b c x := by
  funext j; unfold upF w4f
  by_cases e : j = 3
  · subst e; rfl
  · rw [if_neg e, if_neg e, if_neg e]
def ss_r (k lane n : Int32) : Int32 := if NS k then -1 else if r_c_within lane 0 2 = 0 then -2 else if 20 < n then -2 else if n < 0 then -14 else 1
def ss_l (k lane n : Int32) : Int32 := if NS k then 0 else if r_c_within lane 0 2 = 0 then 0 else if 20 < n then 0 else if n < 0 then 4 else 0
def ss_u (k lane n : Int32) (f : Nat → Int32) (x : Int32) : Nat → Int32 := if NS k then f else if r_c_within lane 0 2 = 0 then f else if 20 < n then f else if n < 0 then f else upd f k.toNatClampNeg x
abbrev SOK (k lane n : Int32) : Prop := ¬ NS k ∧ ¬ r_c_within lane 0 2 = 0 ∧ ¬ 20 < n ∧ ¬ n < 0
def SSC (k lane n : Int32) (C C' : Nat → Nat → Int32) : Prop := (SOK k lane n → (∀ j : Nat, j ≠ k.toNatClampNeg → C' j = C j) ∧ ∀ x : Nat, (x : Int) < 20 → C' k.toNatClampNeg x = 0) ∧ (¬ SOK k lane n → C' = C)
def SSM (k lane n : Int32) (a3 b3 : Nat → Int32) : Prop := (SOK k lane n → ∀ c : Nat, b3 c = if 20 * k.toInt ≤ (c : Int) ∧ (c : Int) < 20 * k.toInt + n.toInt then 0 else a3 c) ∧ (¬ SOK k lane n → b3 = a3)
def hasM (a1 : Nat → Int32) : Nat → Int32 := fun k => if 0 ≤ a1 k then 1 else 0
def sl_r (k h : Int32) : Int32 := if NS k then -1 else if h = 0 then 0 else 1
def sl_h (k : Int32) (H : Nat → Int32) (x : Int32) : Nat → Int32 := if NS k then H else upd H k.toNatClampNeg x
def sp_r (k h n ii : Int32) : Int32 := if NS k then -1 else if h = 0 then -11 else if HOLD n ii 1 then 1 else -13
def sp_l (k h n ii : Int32) : Int32 := if NS k then 0 else if h = 0 then 1 else if HOLD n ii 1 then 0 else 3
def wr (wl : Int32) (wf : Nat → Int32) (ii v : Int32) : Nat → Int32 := if wl = 0 then r_c_set 20 wf ii v.toInt8.toInt32 else if wl = 1 then r_c_set 20 wf ii v.toInt16.toInt32 else r_c_set 20 wf ii v
def narL (wl v : Int32) : Int32 := if wl = 0 then v.toInt8.toInt32 else if wl = 1 then v.toInt16.toInt32 else v
def sp_c (k h l n : Int32) (C : Nat → Nat → Int32) (ii v : Int32) : Nat → Nat → Int32 := if NS k then C else if h = 0 then C else if HOLD n ii 1 then upF C k.toNatClampNeg (wr l (C k.toNatClampNeg) ii v) else C
def sp_m (k h l n : Int32) (a3 : Nat → Int32) (ii v : Int32) : Nat → Int32 := if NS k then a3 else if h = 0 then a3 else if HOLD n ii 1 then upd a3 (20 * k + ii).toNatClampNeg (narL l v) else a3
def se_r (k h l n ii lane : Int32) (c : Int64) : Int64 := if NS k then -9223372036854775808 else if r_c_within lane 0 2 = 0 then -9223372036854775808 else if h = 0 then -9223372036854775808 else if l = lane then (if HOLD n ii 1 then c else -9223372036854775808) else -9223372036854775808
def se_l (k h l n ii lane : Int32) : Int32 := if NS k then 0 else if r_c_within lane 0 2 = 0 then 0 else if h = 0 then 1 else if l = lane then (if HOLD n ii 1 then 0 else 3) else 2
def sy_r (k h l n ii ot h2 l2 n2 jj m : Int32) : Int32 := if NS k then -1 else if NS ot then -1 else if h = 0 then -11 else if h2 = 0 then -11 else if l = l2 then (if HOLD n ii m then (if HOLD n2 jj m then m else -13) else -13) else -12
def sy_l (k h l n ii ot h2 l2 n2 jj m : Int32) : Int32 := if NS k then 0 else if NS ot then 0 else if h = 0 then 1 else if h2 = 0 then 1 else if l = l2 then (if HOLD n ii m then (if HOLD n2 jj m then 0 else 3) else 3) else 2
abbrev YOK (k h l n ii ot h2 l2 n2 jj m : Int32) : Prop := ¬ NS k ∧ ¬ NS ot ∧ ¬ h = 0 ∧ ¬ h2 = 0 ∧ l = l2 ∧ HOLD n ii m ∧ HOLD n2 jj m
def sy_c (k h l n ii ot h2 l2 n2 jj m : Int32) (C : Nat → Nat → Int32) : Nat → Nat → Int32 := if NS k then C else if NS ot then C else if h = 0 then C else if h2 = 0 then C else if l = l2 then (if HOLD n ii m then (if HOLD n2 jj m then upF C ot.toNatClampNeg (va_cpy (C k.toNatClampNeg) (C ot.toNatClampNeg) ii.toNatClampNeg jj.toNatClampNeg m.toNatClampNeg) else C) else C) else C
def AWX (g : Nat → Int32) (n mst : Int32) : Prop := ∀ x : Nat, (x : Int) < n.toInt → ¬ r_c_within (g x) 0 mst = 0
def AWR (r : Int32) (g : Nat → Int32) (n mst : Int32) : Prop := (r = 1 ∧ AWX g n mst) ∨ (r = 0 ∧ ¬ AWX g n mst)
noncomputable def sd_r (cnt cy k h l n ii lane m : Int32) (aw : Prop) : Int32 := if NC cnt cy then -1 else if NS k then -1 else if r_c_within lane 0 2 = 0 then -2 else if h = 0 then -11 else if l = lane then (if m < 0 then -14 else if HOLD n ii m then (if r_c_within m 1 10 = 0 then -2 else @ite Int32 aw (Classical.propDecidable aw) m (-2)) else -13) else -12
def sd_l (cnt cy k h l n ii lane m : Int32) : Int32 := if NC cnt cy then 0 else if NS k then 0 else if r_c_within lane 0 2 = 0 then 0 else if h = 0 then 1 else if l = lane then (if m < 0 then 4 else if HOLD n ii m then 0 else 3) else 2
theorem awr_t {r : Int32} {g : Nat → Int32} {n mst : Int32} (h : AWR r g n mst) (hr : ¬ r = 0) : AWX g n mst := by
  rcases h with ⟨-, h⟩ | ⟨h, -⟩
  · exact h
  · exact absurd h hr
theorem awr_f {r : Int32} {g : Nat → Int32} {n mst : Int32} (h : AWR r g n mst) (hr : r = 0) : ¬ AWX g n mst := by
  rcases h with ⟨h, -⟩ | ⟨-, h⟩
  · rw [hr] at h; exact absurd h (by decide)
  · exact h
theorem nI_cl {x : Int32} (h : 0 ≤ x.toInt) : nI x.toNatClampNeg = x := by
  apply Int32.toInt_inj.mp
  have e : ((x.toNatClampNeg : Nat) : Int) = x.toInt := cl_of h
  have := Int32.toInt_lt x
  rw [nI_toInt (by omega)]
  exact e
theorem awx_step {g : Nat → Int32} {x mst : Int32} (hi : (x + 1).toInt = x.toInt + 1) (h0 : 0 ≤ x.toInt) (h : AWX g x mst) (hx : ¬ r_c_within (g x.toNatClampNeg) 0 mst = 0) : AWX g (x + 1) mst := by
  intro c hc
  rw [hi] at hc
  have e := cl_of h0
  by_cases e2 : c = x.toNatClampNeg
  · subst e2; exact hx
  · exact h c (by omega)
theorem awx_zero {g : Nat → Int32} {mst : Int32} : AWX g 0 mst := fun c h => by rw [Int32.toInt_zero] at h; omega
theorem awx_bad {g : Nat → Int32} {x n mst : Int32} (h0 : 0 ≤ x.toInt) (hn : ¬ n ≤ x) (hx : r_c_within (g x.toNatClampNeg) 0 mst = 0) : ¬ AWX g n mst := by
  intro h
  rw [Int32.le_iff_toInt_le] at hn
  have e := cl_of h0
  exact h x.toNatClampNeg (by omega) hx
theorem awx_le {g : Nat → Int32} {x n mst : Int32} (h : AWX g x mst) (hn : n ≤ x) : AWX g n mst := by
  intro c hc
  rw [Int32.le_iff_toInt_le] at hn
  exact h c (by omega)
theorem lg_hold (i n len : Int32) : 0 < lg_cmp (i.toInt64 + n.toInt64) len.toInt64 ↔ len.toInt < i.toInt + n.toInt := by
  rw [lg_gt, Int64.lt_iff_toInt_lt, Int64.toInt_add, Int32.toInt_toInt64, Int32.toInt_toInt64, Int32.toInt_toInt64]
  have b1 := Int32.toInt_lt i
  have b2 := Int32.toInt_lt n
  have b3 := Int32.le_toInt i
  have b4 := Int32.le_toInt n
  rw [Int.bmod_eq_of_le (by omega) (by omega)]
theorem beyond_n {i n all : Int32} (h : ¬ r_c_isBeyond i n all = 0) : ¬ HOLD all i n := by
  unfold r_c_isBeyond at h
  intro ⟨h1, h2, h3⟩
  have c1 : ¬ i < 0 := by rw [Int32.lt_iff_toInt_lt, Int32.toInt_zero]; omega
  have c2 : ¬ n < 0 := by rw [Int32.lt_iff_toInt_lt, Int32.toInt_zero]; omega
  rw [if_neg c1, if_neg c2] at h
  have c3 : lg_cmp (i.toInt64 + n.toInt64) all.toInt64 ≤ 0 := by
    rw [← Int32.not_lt, lg_hold]; omega
  rw [if_pos c3] at h
  exact h rfl
theorem beyond_y {i n all : Int32} (h : r_c_isBeyond i n all = 0) : HOLD all i n := by
  unfold r_c_isBeyond at h
  by_cases c1 : i < 0
  · rw [if_pos c1] at h; exact absurd h (by decide)
  · rw [if_neg c1] at h
    by_cases c2 : n < 0
    · rw [if_pos c2] at h; exact absurd h (by decide)
    · rw [if_neg c2] at h
      by_cases c3 : lg_cmp (i.toInt64 + n.toInt64) all.toInt64 ≤ 0
      · rw [← Int32.not_lt, lg_hold] at c3
        rw [Int32.lt_iff_toInt_lt, Int32.toInt_zero] at c1 c2
        exact ⟨by omega, by omega, by omega⟩
      · rw [if_neg c3] at h; exact absurd h (by decide)
theorem ns_y {k : Int32} (h : ¬ r_c_noSheet k = 0) : NS k := by
  unfold r_c_noSheet at h
  have h2 : r_c_in k.toInt64 0 3 = 0 := by
    by_cases h3 : r_c_in k.toInt64 0 3 = 0
    · exact h3
    · rw [if_neg h3] at h; exact absurd rfl h
  rw [show r_c_in k.toInt64 0 3 = r_c_within k 0 3 from in_within k 0 3, within_eq] at h2
  show k < 0 ∨ 4 ≤ k
  rw [Int32.lt_iff_toInt_lt, Int32.le_iff_toInt_le, Int32.toInt_zero, show (4 : Int32).toInt = 4 from by decide]
  rw [show (3 : Int32).toInt = 3 from by decide, Int32.toInt_zero] at h2
  by_cases h4 : 0 ≤ k.toInt ∧ k.toInt ≤ 3
  · rw [if_pos h4] at h2; exact absurd h2 (by decide)
  · omega
theorem ns_n {k : Int32} (h : r_c_noSheet k = 0) : ¬ NS k := by
  have h2 := noSheet_in h
  rw [vp_in_iff] at h2
  show ¬ (k < 0 ∨ 4 ≤ k)
  rw [Int32.lt_iff_toInt_lt, Int32.le_iff_toInt_le, Int32.toInt_zero, show (4 : Int32).toInt = 4 from by decide]
  omega
theorem has_1 {a1 : Nat → Int32} {j : Nat} (h : 0 ≤ a1 j) : ¬ hasM a1 j = 0 := by unfold hasM; rw [if_pos h]; decide
theorem has_0 {a1 : Nat → Int32} {j : Nat} (h : ¬ 0 ≤ a1 j) : hasM a1 j = 0 := by unfold hasM; rw [if_neg h]
theorem noCell_eq {a1 : Nat → Int32} {k ii : Int32} (hS : SZ a1) : r_g_noCell a1 k ii = if hasM a1 k.toNatClampNeg = 0 then 1 else if HOLD (a1 k.toNatClampNeg) ii 1 then 0 else 3 := by
  unfold r_g_noCell
  by_cases h : 0 ≤ a1 k.toNatClampNeg
  · rw [if_pos h, if_neg (has_1 h)]
    have hs := hS k.toNatClampNeg
    rw [in_eq, Int32.toInt_toInt64, Int64.toInt_sub, Int32.toInt_toInt64, show (1 : Int64).toInt = 1 from by decide, show (0 : Int64).toInt = 0 from by decide, Int.bmod_eq_of_le (by omega) (by omega)]
    have e1 : (1 : Int32).toInt = 1 := by decide
    by_cases h2 : 0 ≤ ii.toInt ∧ ii.toInt ≤ (a1 k.toNatClampNeg).toInt - 1
    · rw [if_pos h2, if_neg (by decide), if_pos (show HOLD _ _ _ from ⟨h2.1, by omega, by omega⟩)]
    · rw [if_neg h2, if_pos rfl, if_neg (show ¬ HOLD _ _ _ from fun ⟨g1, g2, g3⟩ => h2 ⟨g1, by omega⟩)]
  · rw [if_neg h, if_pos (has_0 h)]
theorem cell_ok {a1 : Nat → Int32} {k ii : Int32} (hS : SZ a1) (h : r_g_noCell a1 k ii ≤ 0) : ¬ hasM a1 k.toNatClampNeg = 0 ∧ HOLD (a1 k.toNatClampNeg) ii 1 := by
  rw [noCell_eq hS] at h
  by_cases h1 : hasM a1 k.toNatClampNeg = 0
  · rw [if_pos h1] at h; exact absurd h (by decide)
  · rw [if_neg h1] at h
    by_cases h2 : HOLD (a1 k.toNatClampNeg) ii 1
    · exact ⟨h1, h2⟩
    · rw [if_neg h2] at h; exact absurd h (by decide)
theorem cell_no {a1 : Nat → Int32} {k ii : Int32} (hS : SZ a1) (h : ¬ r_g_noCell a1 k ii ≤ 0) : (hasM a1 k.toNatClampNeg = 0 ∧ r_g_noCell a1 k ii = 1) ∨ (¬ hasM a1 k.toNatClampNeg = 0 ∧ ¬ HOLD (a1 k.toNatClampNeg) ii 1 ∧ r_g_noCell a1 k ii = 3) := by
  rw [noCell_eq hS] at h ⊢
  by_cases h1 : hasM a1 k.toNatClampNeg = 0
  · rw [if_pos h1]; exact Or.inl ⟨h1, rfl⟩
  · rw [if_neg h1] at h ⊢
    by_cases h2 : HOLD (a1 k.toNatClampNeg) ii 1
    · rw [if_pos h2] at h; exact absurd (by decide) h
    · rw [if_neg h2]; exact Or.inr ⟨h1, h2, rfl⟩
theorem ten_1 : (-10 : Int32) - 1 = -11 := by decide
theorem ten_3 : (-10 : Int32) - 3 = -13 := by decide
theorem ten_4 : (-10 : Int32) - 4 = -14 := by decide
theorem twenty_le {x : Int32} (h : (20 : Int32) ≤ x) : (20 : Int) ≤ x.toInt := by
  rw [Int32.le_iff_toInt_le] at h
  exact h
theorem nlt_of {n : Int32} (h : n ≤ 20) : ¬ 20 < n := Int32.not_lt.mpr h
theorem nlt0_of {n : Int32} (h : 0 ≤ n) : ¬ n < 0 := Int32.not_lt.mpr h
theorem ssc_n {k lane n : Int32} {C : Nat → Nat → Int32} (h : ¬ SOK k lane n) : SSC k lane n C C := ⟨fun e => absurd e h, fun _ => rfl⟩
theorem ssc_k {k lane n : Int32} {C : Nat → Nat → Int32} {r : Nat → Int32} {j : Nat} (hj : k.toNatClampNeg = j) (hn : ¬ NS k) (hl : ¬ r_c_within lane 0 2 = 0) (h1 : ¬ 20 < n) (h2 : ¬ n < 0) (hz : EQn 20 r (fun _ => 0)) : SSC k lane n C (upF C j r) := by
  refine ⟨fun _ => ⟨fun i hi => ?_, fun x hx => ?_⟩, fun e => absurd ⟨hn, hl, h1, h2⟩ e⟩
  · unfold upF; rw [if_neg (by rw [← hj]; exact hi)]
  · unfold upF; rw [if_pos hj]; exact hz x hx
theorem ssc_0 {k lane n : Int32} {a b c d r : Nat → Int32} (hk : k = 0) (hl : ¬ r_c_within lane 0 2 = 0) (h1 : ¬ 20 < n) (h2 : ¬ n < 0) (hz : EQn 20 r (fun _ => 0)) : SSC k lane n (w4f a b c d) (w4f r b c d) := by
  rw [← u4f_0 a b c d r]; exact ssc_k (by rw [hk]; rfl) (by rw [hk]; decide) hl h1 h2 hz
theorem ssc_1 {k lane n : Int32} {a b c d r : Nat → Int32} (hk : k = 1) (hl : ¬ r_c_within lane 0 2 = 0) (h1 : ¬ 20 < n) (h2 : ¬ n < 0) (hz : EQn 20 r (fun _ => 0)) : SSC k lane n (w4f a b c d) (w4f a r c d) := by
  rw [← u4f_1 a b c d r]; exact ssc_k (by rw [hk]; rfl) (by rw [hk]; decide) hl h1 h2 hz
theorem ssc_2 {k lane n : Int32} {a b c d r : Nat → Int32} (hk : k = 2) (hl : ¬ r_c_within lane 0 2 = 0) (h1 : ¬ 20 < n) (h2 : ¬ n < 0) (hz : EQn 20 r (fun _ => 0)) : SSC k lane n (w4f a b c d) (w4f a b r d) := by
  rw [← u4f_2 a b c d r]; exact ssc_k (by rw [hk]; rfl) (by rw [hk]; decide) hl h1 h2 hz
theorem ssc_3 {k lane n : Int32} {a b c d r : Nat → Int32} (hk : k = 3) (hl : ¬ r_c_within lane 0 2 = 0) (h1 : ¬ 20 < n) (h2 : ¬ n < 0) (hz : EQn 20 r (fun _ => 0)) : SSC k lane n (w4f a b c d) (w4f a b c r) := by
  rw [← u4f_3 a b c d r]; exact ssc_k (by rw [hk]; rfl) (by rw [hk]; decide) hl h1 h2 hz
theorem has_lt1 {a1 : Nat → Int32} {j : Nat} (h : ¬ a1 j < 0) : ¬ hasM a1 j = 0 := has_1 (Int32.not_lt.mp h)
theorem has_lt0 {a1 : Nat → Int32} {j : Nat} (h : a1 j < 0) : hasM a1 j = 0 := has_0 (Int32.not_le.mpr h)
def ZR (k x : Int) (b3 a3 : Nat → Int32) : Prop := ∀ c : Nat, b3 c = if 20 * k ≤ (c : Int) ∧ (c : Int) < 20 * k + x then 0 else a3 c
theorem zr_zero {k : Int} {a3 : Nat → Int32} : ZR k (0 : Int32).toInt a3 a3 := fun c => by rw [Int32.toInt_zero, if_neg (by omega)]
theorem row_cl {k x n : Int32} (hk : vp_in k 4) (hb : n.toInt ≤ 20) (hx : 0 ≤ x.toInt) (hlt : ¬ n ≤ x) : (((20 * k + x).toNatClampNeg : Nat) : Int) = 20 * k.toInt + x.toInt := by
  have hv := row_in0 hk hb hx hlt
  rw [vp_in_iff] at hv
  rw [cl_of hv.1]
  have h1 := mul20 hk (by omega)
  rw [vp_in_iff] at hk
  rw [Int32.le_iff_toInt_le] at hlt
  rw [Int32.toInt_add, h1, Int.bmod_eq_of_le] <;> omega
theorem zr_step {k x n : Int32} {b3 a3 : Nat → Int32} (hk : vp_in k 4) (hb : n.toInt ≤ 20) (hx : 0 ≤ x.toInt) (hlt : ¬ n ≤ x) (hi : (x + 1).toInt = x.toInt + 1) (h : ZR k.toInt x.toInt b3 a3) : ZR k.toInt (x + 1).toInt (upd b3 (20 * k + x).toNatClampNeg 0) a3 := by
  intro c
  have e := row_cl hk hb hx hlt
  rw [hi]
  by_cases ec : c = (20 * k + x).toNatClampNeg
  · subst ec; rw [pk_us, if_pos (by omega)]
  · rw [pk_un ec, h c]
    by_cases h1 : 20 * k.toInt ≤ (c : Int) ∧ (c : Int) < 20 * k.toInt + x.toInt
    · rw [if_pos h1, if_pos (by omega)]
    · rw [if_neg h1, if_neg (by omega)]
theorem ssm_y {k lane n : Int32} {a3 b3 : Nat → Int32} {x : Int32} (hs : SOK k lane n) (h : ZR k.toInt x.toInt b3 a3) (hx : x.toInt = n.toInt) : SSM k lane n a3 b3 := ⟨fun _ c => by rw [h c, hx], fun e => absurd hs e⟩
theorem ssm_n {k lane n : Int32} {a3 : Nat → Int32} (hs : ¬ SOK k lane n) : SSM k lane n a3 a3 := ⟨fun e => absurd e hs, fun _ => rfl⟩
def HD (k i x : Int) (hd a3 : Nat → Int32) : Prop := ∀ c : Nat, (c : Int) < x → hd c = a3 (20 * k + i + (c : Int)).toNat
theorem row2_cl {k i x n : Int32} (hk : vp_in k 4) (hi : 0 ≤ i.toInt) (hb : i.toInt + n.toInt ≤ 20) (hx : 0 ≤ x.toInt) (hlt : ¬ n ≤ x) : (((20 * k + i + x).toNatClampNeg : Nat) : Int) = 20 * k.toInt + i.toInt + x.toInt := by
  have hv := row_in hk hi hb hx hlt
  rw [vp_in_iff] at hv
  rw [cl_of hv.1]
  have h1 := mul20 hk (by omega)
  rw [vp_in_iff] at hk
  rw [Int32.le_iff_toInt_le] at hlt
  have h2 : (20 * k + i).toInt = 20 * k.toInt + i.toInt := by rw [Int32.toInt_add, h1, Int.bmod_eq_of_le] <;> omega
  rw [Int32.toInt_add, h2, Int.bmod_eq_of_le] <;> omega
theorem hd_zero {k i : Int} {hd a3 : Nat → Int32} : HD k i (0 : Int32).toInt hd a3 := fun c h => by rw [Int32.toInt_zero] at h; omega
theorem hd_step {k i x n : Int32} {hd a3 : Nat → Int32} (hk : vp_in k 4) (h0 : 0 ≤ i.toInt) (hb : i.toInt + n.toInt ≤ 20) (hx : 0 ≤ x.toInt) (hlt : ¬ n ≤ x) (hi : (x + 1).toInt = x.toInt + 1) (h : HD k.toInt i.toInt x.toInt hd a3) : HD k.toInt i.toInt (x + 1).toInt (upd hd x.toNatClampNeg (a3 (20 * k + i + x).toNatClampNeg)) a3 := by
  intro c hc
  rw [hi] at hc
  have e := row2_cl hk h0 hb hx hlt
  have e1 := cl_of hx
  by_cases ec : c = x.toNatClampNeg
  · subst ec
    rw [pk_us]
    congr 1
    omega
  · rw [pk_un ec]; exact h c (by omega)
def CPR (k i o j x : Int) (b3 a3 : Nat → Int32) : Prop := ∀ c : Nat, b3 c = if 20 * o + j ≤ (c : Int) ∧ (c : Int) < 20 * o + j + x then a3 (20 * k + i + ((c : Int) - (20 * o + j))).toNat else a3 c
theorem cpr_zero {k i o j : Int} {a3 : Nat → Int32} : CPR k i o j (0 : Int32).toInt a3 a3 := fun c => by rw [Int32.toInt_zero, if_neg (by omega)]
theorem cpr_step {k i ot j x n : Int32} {hd b3 a3 : Nat → Int32} (hk : vp_in ot 4) (h0 : 0 ≤ j.toInt) (hb : j.toInt + n.toInt ≤ 20) (hx : 0 ≤ x.toInt) (hlt : ¬ n ≤ x) (hi : (x + 1).toInt = x.toInt + 1) (hh : HD k.toInt i.toInt n.toInt hd a3) (h : CPR k.toInt i.toInt ot.toInt j.toInt x.toInt b3 a3) : CPR k.toInt i.toInt ot.toInt j.toInt (x + 1).toInt (upd b3 (20 * ot + j + x).toNatClampNeg (hd x.toNatClampNeg)) a3 := by
  intro c
  have e := row2_cl hk h0 hb hx hlt
  have e1 := cl_of hx
  rw [hi]
  by_cases ec : c = (20 * ot + j + x).toNatClampNeg
  · subst ec
    rw [pk_us, if_pos (by omega), hh _ (by rw [Int32.le_iff_toInt_le] at hlt; omega)]
    congr 1
    omega
  · rw [pk_un ec, h c]
    by_cases h1 : 20 * ot.toInt + j.toInt ≤ (c : Int) ∧ (c : Int) < 20 * ot.toInt + j.toInt + x.toInt
    · rw [if_pos h1, if_pos (by omega)]
    · rw [if_neg h1, if_neg (by omega)]
theorem hd_le {k i x n : Int} {hd a3 : Nat → Int32} (h : HD k i x hd a3) (hn : n ≤ x) : HD k i n hd a3 := fun c hc => h c (by omega)
def CPM (ok : Prop) (k ii ot jj n : Int32) (a3 b3 : Nat → Int32) : Prop := (ok → CPR k.toInt ii.toInt ot.toInt jj.toInt n.toInt b3 a3) ∧ (¬ ok → b3 = a3)
theorem cpm_y {ok : Prop} {k ii ot jj n x : Int32} {a3 b3 : Nat → Int32} (ho : ok) (h : CPR k.toInt ii.toInt ot.toInt jj.toInt x.toInt b3 a3) (hx : x.toInt = n.toInt) : CPM ok k ii ot jj n a3 b3 := ⟨fun _ => by rw [hx] at h; exact h, fun e => absurd ho e⟩
theorem cpm_n {ok : Prop} {k ii ot jj n : Int32} {a3 : Nat → Int32} (ho : ¬ ok) : CPM ok k ii ot jj n a3 a3 := ⟨fun e => absurd e ho, fun _ => rfl⟩
theorem le_end {x n : Int32} (h : n ≤ x) (h2 : x.toInt ≤ n.toInt) : x.toInt = n.toInt := by
  rw [Int32.le_iff_toInt_le] at h; omega
theorem z_le {n : Int32} (h : 0 ≤ n) : (0 : Int32).toInt ≤ n.toInt := Int32.le_iff_toInt_le.mp h
theorem zi_le {n : Int32} (h : 0 ≤ n.toInt) : (0 : Int32).toInt ≤ n.toInt := by rw [Int32.toInt_zero]; exact h
theorem lt_inc {x n : Int32} (h : ¬ n ≤ x) : (x + 1).toInt ≤ n.toInt := by
  have h9 := inc_toInt h
  rw [Int32.le_iff_toInt_le] at h
  omega
