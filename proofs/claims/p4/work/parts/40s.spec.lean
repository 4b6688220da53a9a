abbrev NC (cnt cy : Int32) : Prop := cy < 0 ∨ cnt ≤ cy
def FCs (cnt : Int32) (fc : Nat → Option Nat) : Prop := ∀ cy : Int32, PA cnt fc cy none → NC cnt cy
theorem CS_fcs {cs : List Cy} {cnt : Int32} {fc : Nat → Option Nat} (h : CS cs cnt fc) : FCs cnt fc := by
  intro cy hp
  obtain ⟨hc, h6, hf⟩ := h
  have e1 : cnt.toInt = cs.length := by rw [hc, nI_toInt (by omega)]
  have e6 : (6 : Int32).toInt = 6 := by decide
  have e0 : (0 : Int32).toInt = 0 := by decide
  rcases hp with ⟨h1, -⟩ | ⟨h1, h2, h3, h4⟩
  · rcases h1 with h1 | h1 | h1
    · exact Or.inl h1
    · exact Or.inr h1
    · refine Or.inr ?_
      rw [Int32.le_iff_toInt_le, e6] at h1
      rw [Int32.le_iff_toInt_le, e1]
      omega
  · exfalso
    rw [Int32.lt_iff_toInt_lt, e0] at h1
    rw [Int32.le_iff_toInt_le, e1] at h2
    rw [hf] at h4
    have hj : cy.toNatClampNeg < cs.length := by
      show cy.toInt.toNat < _
      omega
    have h5 : (cs[cy.toNatClampNeg]?).map (fun y => y.1) = none := h4.symm
    rw [List.getElem?_eq_getElem hj] at h5
    cases h5
theorem pa_null {cs : List Cy} {cnt cy : Int32} {fc : Nat → Option Nat} (h : CS cs cnt fc) (hp : PA cnt fc cy none) : NC cnt cy := CS_fcs h cy hp
theorem pa_some {cnt cy : Int32} {fc : Nat → Option Nat} {b : Nat} (hp : PA cnt fc cy (some b)) : ¬ NC cnt cy := by
  rcases hp with ⟨-, h⟩ | ⟨h1, h2, -, -⟩
  · cases h
  · intro h; rcases h with h | h
    · exact h1 h
    · exact h2 h
def fF (φ : Cy → Int32) (cs : List Cy) : Nat → Int32 := fun j => match cs[j]? with | some y => φ y | none => 0
theorem fF_mid (φ : Cy → Int32) (l1 l2 : List Cy) (y : Cy) (j : Nat) : fF φ (l1 ++ y :: l2) j = if j = l1.length then φ y else fF φ (l1 ++ l2) (if j < l1.length then j else j - 1) := by
  unfold fF
  by_cases h1 : j < l1.length
  · rw [if_neg (by omega), if_pos h1, List.getElem?_append_left h1, List.getElem?_append_left h1]
  · by_cases h2 : j = l1.length
    · subst h2; rw [if_pos rfl, List.getElem?_append_right (by omega), Nat.sub_self]; rfl
    · rw [if_neg h2, if_neg h1, List.getElem?_append_right (by omega), List.getElem?_append_right (by omega)]
      have e : j - l1.length = (j - 1 - l1.length) + 1 := by omega
      rw [e]; rfl
theorem fF_at (φ : Cy → Int32) (l1 l2 : List Cy) (y : Cy) : fF φ (l1 ++ y :: l2) l1.length = φ y := by rw [fF_mid, if_pos rfl]
theorem fF_set (φ : Cy → Int32) (l1 l2 : List Cy) (y y' : Cy) : fF φ (l1 ++ y' :: l2) = upd (fF φ (l1 ++ y :: l2)) l1.length (φ y') := by
  funext j
  by_cases h : j = l1.length
  · subst h; rw [fF_at, pk_us]
  · rw [pk_un h, fF_mid, fF_mid, if_neg h, if_neg h]
theorem fF_same {φ : Cy → Int32} (l1 l2 : List Cy) {y y' : Cy} (h : φ y' = φ y) : fF φ (l1 ++ y' :: l2) = fF φ (l1 ++ y :: l2) := by
  funext j
  rw [fF_mid, fF_mid, h]
theorem fF_push (φ : Cy → Int32) (cs : List Cy) (y : Cy) : fF φ (cs ++ [y]) = upd (fF φ cs) cs.length (φ y) := by
  funext j
  by_cases h : j = cs.length
  · subst h; rw [fF_at φ cs [] y, pk_us]
  · rw [pk_un h]
    unfold fF
    by_cases h2 : j < cs.length
    · rw [List.getElem?_append_left h2]
    · rw [List.getElem?_eq_none (by simp; omega), List.getElem?_eq_none (by omega)]
theorem fF_out (φ : Cy → Int32) (cs : List Cy) (j : Nat) (h : cs.length ≤ j) : fF φ cs j = 0 := by
  unfold fF; rw [List.getElem?_eq_none h]
def ckNm : CK → Int32 | none => 0 | some false => 1 | some true => 2
def ckSel (k : CK) (a b c : Int32) : Int32 := match k with | none => a | some false => b | some true => c
def yK (y : Cy) : Int32 := ckNm y.2.2.1
def yA (y : Cy) : Int32 := y.2.2.2.2.1
def yS (y : Cy) : Int32 := y.2.2.2.2.2.1
def yL (y : Cy) : Int32 := y.2.2.2.2.2.2.1
def yC (y : Cy) : Int32 := y.2.2.2.2.2.2.2.1
def yF (y : Cy) : Int32 := y.2.2.2.2.2.2.2.2.1
def NUM (cs : List Cy) : Prop := ∀ (l1 l2 : List Cy) (y : Cy), cs = l1 ++ y :: l2 → y.2.2.2.1 = nI l1.length
theorem CS_at {cs l1 l2 : List Cy} {y : Cy} {cnt cy : Int32} {fc : Nat → Option Nat} (h : CS cs cnt fc) (e : cs = l1 ++ y :: l2) (hc : cy = nI l1.length) : cy.toNatClampNeg = l1.length := by
  obtain ⟨-, h6, -⟩ := h
  rw [e] at h6
  simp at h6
  rw [hc, nI_clamp (by omega)]
theorem fF_cy {cs l1 l2 : List Cy} {y : Cy} {cnt cy : Int32} {fc : Nat → Option Nat} (φ : Cy → Int32) (h : CS cs cnt fc) (e : cs = l1 ++ y :: l2) (hc : cy = nI l1.length) : fF φ cs cy.toNatClampNeg = φ y := by
  rw [CS_at h e hc, e, fF_at]
def OADD (oc r n : Int32) : Prop := (oc < 30 ∧ r = 1 ∧ n = oc + 1) ∨ (¬ oc < 30 ∧ r = 0 ∧ n = oc)
theorem oadd_t {oc r n : Int32} (h : OADD oc r n) (hr : ¬ r = 0) : oc < 30 ∧ n = oc + 1 := by
  rcases h with ⟨h1, -, h2⟩ | ⟨-, h1, -⟩
  · exact ⟨h1, h2⟩
  · exact absurd h1 hr
theorem oadd_f {oc r n : Int32} (h : OADD oc r n) (hr : r = 0) : ¬ oc < 30 ∧ n = oc := by
  rcases h with ⟨-, h1, -⟩ | ⟨h1, -, h2⟩
  · rw [hr] at h1; exact absurd h1 (by decide)
  · exact ⟨h1, h2⟩
def RADD (oc r n : Int32) : Prop := (oc < 20 ∧ r = 1 ∧ n = oc + 1) ∨ (¬ oc < 20 ∧ r = 0 ∧ n = oc)
theorem radd_t {oc r n : Int32} (h : RADD oc r n) (hr : ¬ r = 0) : oc < 20 ∧ n = oc + 1 := by
  rcases h with ⟨h1, -, h2⟩ | ⟨-, h1, -⟩
  · exact ⟨h1, h2⟩
  · exact absurd h1 hr
theorem radd_f {oc r n : Int32} (h : RADD oc r n) (hr : r = 0) : ¬ oc < 20 ∧ n = oc := by
  rcases h with ⟨-, h1, -⟩ | ⟨h1, -, h2⟩
  · rw [hr] at h1; exact absurd h1 (by decide)
  · exact ⟨h1, h2⟩
def so_r (cnt oc cy en d v : Int32) : Int32 := if NC cnt cy then -1 else if NC cnt d then -1 else if r_c_within en 0 2 = 0 then -2 else if r_c_within v 0 2 = 0 then -2 else if oc < 30 then oc + 1 else -4
def so_n (cnt oc cy en d v : Int32) : Int32 := if NC cnt cy then oc else if NC cnt d then oc else if r_c_within en 0 2 = 0 then oc else if r_c_within v 0 2 = 0 then oc else if oc < 30 then oc + 1 else oc
def sr_r (cnt rc rm tt cy xx : Int32) : Int32 := if NC cnt cy then -1 else if r_c_within tt 0 200 = 0 then -2 else if r_c_within xx 0 rm = 0 then -2 else if rc < 20 then rc + 1 else -4
def sr_n (cnt rc rm tt cy xx : Int32) : Int32 := if NC cnt cy then rc else if r_c_within tt 0 200 = 0 then rc else if r_c_within xx 0 rm = 0 then rc else if rc < 20 then rc + 1 else rc
def sb_r (cnt : Int32) (fb : Nat → Int32) (cy v : Int32) : Int32 := if NC cnt cy then -1 else if v = 0 then (if r_c_get 6 fb cy = 0 then 0 else 1) else (if r_c_get 6 fb cy = 1 then 0 else 1)
def sb_f (cnt : Int32) (fb : Nat → Int32) (cy v : Int32) : Nat → Int32 := if NC cnt cy then fb else if v = 0 then r_c_set 6 fb cy 0 else r_c_set 6 fb cy 1
def sk_r (cnt : Int32) (kf : Nat → Int32) (cy : Int32) : Int32 := if NC cnt cy then -1 else if kf cy.toNatClampNeg = 2 then 88 else cy
def sk_t (cnt : Int32) (kf : Nat → Int32) (tv cy : Int32) : Int32 := if NC cnt cy then tv else if kf cy.toNatClampNeg = 2 then 31 * tv + 5 else 31 * tv + 4
def st_t (cnt : Int32) (kf : Nat → Int32) (tv cy : Int32) : Int32 := if NC cnt cy then tv else if kf cy.toNatClampNeg = 0 then 31 * tv + 1 else if kf cy.toNatClampNeg = 1 then 31 * (31 * tv + 2) + 1 else 31 * (31 * tv + 3) + 1
def st_r (cnt : Int32) (kf fo : Nat → Int32) (cy : Int32) : Int32 := if NC cnt cy then -1 else if kf cy.toNatClampNeg = 0 then r_c_get 6 fo cy else if kf cy.toNatClampNeg = 1 then r_c_get 6 fo cy + 1000000 else 2 * r_c_get 6 fo cy
def sa_r (cnt : Int32) (kf : Nat → Int32) (cy kd : Int32) : Int32 := if NC cnt cy then -1 else if r_c_within kd 0 2 = 0 then -2 else if kf cy.toNatClampNeg < kd then -12 else 1
def sa_l (cnt : Int32) (kf : Nat → Int32) (cy kd : Int32) : Int32 := if NC cnt cy then 0 else if r_c_within kd 0 2 = 0 then 0 else if kf cy.toNatClampNeg < kd then 2 else 0
theorem sel_r (k : CK) (n : Int32) : ckSel k n n 88 = if ckNm k = 2 then 88 else n := by rcases k with _ | (_ | _) <;> rfl
theorem sel_t (k : CK) (t : Int32) : ckSel k (31 * t + 4) (31 * t + 4) (31 * t + 5) = if ckNm k = 2 then 31 * t + 5 else 31 * t + 4 := by rcases k with _ | (_ | _) <;> rfl
theorem sel_3 (k : CK) (a b c : Int32) : ckSel k a b c = if ckNm k = 0 then a else if ckNm k = 1 then b else c := by rcases k with _ | (_ | _) <;> rfl
theorem kd_012 {kd : Int32} (h : ¬ r_c_within kd 0 2 = 0) (h0 : ¬ kd = 0) (h1 : ¬ kd = 1) : kd = 2 := by
  rw [within_eq] at h
  have a0 : (0 : Int32).toInt = 0 := by decide
  have a1 : (1 : Int32).toInt = 1 := by decide
  have a2 : (2 : Int32).toInt = 2 := by decide
  rw [a0, a2] at h
  have h2 : 0 ≤ kd.toInt ∧ kd.toInt ≤ 2 := by
    by_cases h3 : 0 ≤ kd.toInt ∧ kd.toInt ≤ 2
    · exact h3
    · rw [if_neg h3] at h; exact absurd rfl h
  rcases (show kd.toInt = 0 ∨ kd.toInt = 1 ∨ kd.toInt = 2 by omega) with h3 | h3 | h3
  · exact absurd (Int32.toInt_inj.mp (by rw [h3, a0])) h0
  · exact absurd (Int32.toInt_inj.mp (by rw [h3, a1])) h1
  · exact Int32.toInt_inj.mp (by rw [h3, a2])
theorem as_0 (k : CK) : ¬ ckNm k < 0 := by rcases k with _ | (_ | _) <;> decide
theorem as_1y {k : CK} (h : ¬ ckH k = 0) : ¬ ckNm k < 1 := by rcases k with _ | (_ | _) <;> first | exact absurd rfl h | decide
theorem as_1n {k : CK} (h : ckH k = 0) : ckNm k < 1 := by rcases k with _ | (_ | _) <;> first | decide | exact absurd h (by decide)
theorem as_2y {k : CK} (h : ¬ ckT k = 0) : ¬ ckNm k < 2 := by rcases k with _ | (_ | _) <;> first | exact absurd rfl h | decide
theorem as_2n {k : CK} (h : ckT k = 0) : ckNm k < 2 := by rcases k with _ | (_ | _) <;> first | decide | exact absurd h (by decide)
theorem NUM_same {l1 l2 : List Cy} {y y' : Cy} (h : NUM (l1 ++ y :: l2)) (hy : y'.2.2.2.1 = y.2.2.2.1) : NUM (l1 ++ y' :: l2) := by
  intro k1 k2 z e
  have e0 := h l1 l2 y rfl
  by_cases hl : k1.length = l1.length
  · obtain ⟨e1, e2⟩ := List.append_inj e.symm hl
    cases e2; rw [hy, e0, hl]
  · have hz : (l1 ++ y' :: l2)[k1.length]? = some z := by rw [e]; simp
    have hz2 : (l1 ++ y :: l2)[k1.length]? = some z := by
      by_cases h1 : k1.length < l1.length
      · rw [List.getElem?_append_left h1] at hz ⊢; exact hz
      · rw [List.getElem?_append_right (by omega)] at hz ⊢
        have e3 : k1.length - l1.length = (k1.length - l1.length - 1) + 1 := by omega
        rw [e3] at hz ⊢; exact hz
    obtain ⟨hlt, hg⟩ := List.getElem?_eq_some_iff.mp hz2
    have := h ((l1 ++ y :: l2).take k1.length) ((l1 ++ y :: l2).drop (k1.length + 1)) z (by rw [← hg, ← List.drop_eq_getElem_cons hlt, List.take_append_drop])
    rw [this, List.length_take, Nat.min_eq_left (by omega)]
def SAMES (cs cs' : List Cy) : Prop := fF yK cs' = fF yK cs ∧ fF yA cs' = fF yA cs ∧ fF yS cs' = fF yS cs ∧ (NUM cs → NUM cs')
theorem sames_rfl {cs : List Cy} : SAMES cs cs := ⟨rfl, rfl, rfl, fun h => h⟩
theorem sames_set {cs l1 l2 : List Cy} {y y' : Cy} (e : cs = l1 ++ y :: l2) (h1 : yK y' = yK y) (h2 : yA y' = yA y) (h3 : yS y' = yS y) (h4 : y'.2.2.2.1 = y.2.2.2.1) : SAMES cs (l1 ++ y' :: l2) := by
  subst e
  exact ⟨fF_same l1 l2 h1, fF_same l1 l2 h2, fF_same l1 l2 h3, fun h => NUM_same h h4⟩
theorem num_at {cs l1 l2 : List Cy} {y : Cy} {cy : Int32} (h : NUM cs) (e : cs = l1 ++ y :: l2) (hc : cy = nI l1.length) : y.2.2.2.1 = cy := by rw [h l1 l2 y e, hc]
theorem nc_y {i : Nat → Int32} {cy : Int32} (h7 : 0 ≤ (i 7).toInt ∧ (i 7).toInt ≤ 6) (h : ¬ r_g_noCylinder i cy = 0) : NC (i 7) cy := by
  unfold r_g_noCylinder at h
  have h2 : r_c_in cy.toInt64 0 ((i 7).toInt64 - 1) = 0 := by
    by_cases h3 : r_c_in cy.toInt64 0 ((i 7).toInt64 - 1) = 0
    · exact h3
    · rw [if_neg h3] at h; exact absurd rfl h
  rw [in_eq, Int32.toInt_toInt64, Int64.toInt_sub, Int32.toInt_toInt64, show (1 : Int64).toInt = 1 from by decide, show (0 : Int64).toInt = 0 from by decide, Int.bmod_eq_of_le (by omega) (by omega)] at h2
  show cy < 0 ∨ i 7 ≤ cy
  rw [Int32.lt_iff_toInt_lt, Int32.le_iff_toInt_le, Int32.toInt_zero]
  by_cases h4 : 0 ≤ cy.toInt ∧ cy.toInt ≤ (i 7).toInt - 1
  · rw [if_pos h4] at h2; exact absurd h2 (by decide)
  · omega
theorem nc_n {i : Nat → Int32} {cy : Int32} (h7 : 0 ≤ (i 7).toInt ∧ (i 7).toInt ≤ 6) (h : r_g_noCylinder i cy = 0) : ¬ NC (i 7) cy := by
  have h2 := noCyl_in h7 h
  show ¬ (cy < 0 ∨ i 7 ≤ cy)
  have h3 := h2.1
  rw [vp_in_iff] at h3
  rw [Int32.lt_iff_toInt_lt, Int32.le_iff_toInt_le, Int32.toInt_zero]
  omega
theorem lt_full {x y : Int32} (h : x.toInt ≤ y.toInt) (hx : ¬ x = y) : x < y := by
  rw [Int32.lt_iff_toInt_lt]
  have : ¬ x.toInt = y.toInt := fun e => hx (Int32.toInt_inj.mp e)
  omega
theorem nlt_full {x y : Int32} (hx : x = y) : ¬ x < y := by
  rw [hx, Int32.lt_iff_toInt_lt]; omega
def ru_r (cnt : Int32) (fcr ffl fla : Nat → Int32) (cy what v : Int32) : Int32 := if NC cnt cy then -1 else if r_c_within what 0 2 = 0 then -1 else if what = 0 then (if r_c_within v 0 500 = 0 then -2 else fcr cy.toNatClampNeg) else if what = 1 then (if r_c_within v 1 1000 = 0 then -2 else ffl cy.toNatClampNeg) else (if r_c_within v 0 100 = 0 then -2 else r_c_get 6 fla cy)
def ru_k (cnt : Int32) (fla : Nat → Int32) (cy what v : Int32) : Nat → Int32 := if NC cnt cy then fla else if r_c_within what 0 2 = 0 then fla else if what = 0 then fla else if what = 1 then fla else (if r_c_within v 0 100 = 0 then fla else r_c_set 6 fla cy v)
def ru_c (cnt : Int32) (fcr : Nat → Int32) (cy what v : Int32) : Nat → Int32 := if NC cnt cy then fcr else if r_c_within what 0 2 = 0 then fcr else if what = 0 then (if r_c_within v 0 500 = 0 then fcr else upd fcr cy.toNatClampNeg v) else fcr
def ru_f (cnt : Int32) (ffl : Nat → Int32) (cy what v : Int32) : Nat → Int32 := if NC cnt cy then ffl else if r_c_within what 0 2 = 0 then ffl else if what = 0 then ffl else if what = 1 then (if r_c_within v 1 1000 = 0 then ffl else upd ffl cy.toNatClampNeg v) else ffl
theorem fF_setc {cs l1 l2 : List Cy} {y y' : Cy} {cnt cy : Int32} {fc : Nat → Option Nat} (φ : Cy → Int32) (h : CS cs cnt fc) (e : cs = l1 ++ y :: l2) (hc : cy = nI l1.length) : fF φ (l1 ++ y' :: l2) = upd (fF φ cs) cy.toNatClampNeg (φ y') := by
  rw [CS_at h e hc, fF_set φ l1 l2 y y', e]
theorem fF_samec {cs l1 l2 : List Cy} {y y' : Cy} (φ : Cy → Int32) (e : cs = l1 ++ y :: l2) (h : φ y' = φ y) : fF φ (l1 ++ y' :: l2) = fF φ cs := by
  rw [fF_same l1 l2 h, e]
theorem ten_2 : (-10 : Int32) - 2 = -12 := by decide
theorem upd_self (f : Nat → Int32) (k : Nat) : upd f k (f k) = f := by
  funext j
  by_cases e : j = k
  · subst e; rw [pk_us]
  · rw [pk_un e]
def rm_r (cnt : Int32) (fcr ffl fla : Nat → Int32) (cy what v : Int32) : Int32 := if NC cnt cy then -1 else if r_c_within what 0 2 = 0 then -1 else if what = 0 then (if r_c_within v 0 500 = 0 then -2 else fcr cy.toNatClampNeg) else if what = 1 then (if r_c_within v 1 1000 = 0 then -2 else ffl cy.toNatClampNeg) else (if r_c_within v 0 100 = 0 then -2 else fla cy.toNatClampNeg)
def rm_k (cnt : Int32) (fla : Nat → Int32) (cy what v : Int32) : Nat → Int32 := if NC cnt cy then fla else if r_c_within what 0 2 = 0 then fla else if what = 0 then fla else if what = 1 then fla else (if r_c_within v 0 100 = 0 then fla else upd fla cy.toNatClampNeg v)
theorem ne10 {x : Int32} (h : x = 1) : ¬ x = 0 := by rw [h]; decide
theorem ne01 {x : Int32} (h : x = 0) : ¬ x = 1 := by rw [h]; decide
