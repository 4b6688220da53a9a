theorem ckNm_of (kd : Int32) (h : ¬ r_c_within kd 0 2 = 0) : ckNm (ckOf kd) = kd := by
  rw [within_eq] at h
  have a0 : (0 : Int32).toInt = 0 := by decide
  have a1 : (1 : Int32).toInt = 1 := by decide
  have a2 : (2 : Int32).toInt = 2 := by decide
  rw [a0, a2] at h
  have h2 : 0 ≤ kd.toInt ∧ kd.toInt ≤ 2 := by
    by_cases h3 : 0 ≤ kd.toInt ∧ kd.toInt ≤ 2
    · exact h3
    · rw [if_neg h3] at h; exact absurd rfl h
  unfold ckOf
  rcases (show kd.toInt = 0 ∨ kd.toInt = 1 ∨ kd.toInt = 2 by omega) with h3 | h3 | h3
  · have e : kd = 0 := Int32.toInt_inj.mp (by rw [h3, a0])
    subst e; rfl
  · have e : kd = 1 := Int32.toInt_inj.mp (by rw [h3, a1])
    subst e; rfl
  · have e : kd = 2 := Int32.toInt_inj.mp (by rw [h3, a2])
    subst e; rfl
abbrev BADC (kd ar sk : Int32) : Prop := r_c_within kd 0 2 = 0 ∨ r_c_within ar 1 100 = 0 ∨ r_c_within sk 1 100 = 0
def sc_r (cnt kd ar sk : Int32) : Int32 := if BADC kd ar sk then -2 else if cnt = 6 then -4 else cnt
def sc_n (cnt kd ar sk : Int32) : Int32 := if BADC kd ar sk then cnt else if cnt = 6 then cnt else cnt + 1
def sc_u (cnt : Int32) (f : Nat → Int32) (kd ar sk x : Int32) : Nat → Int32 := if BADC kd ar sk then f else if cnt = 6 then f else upd f cnt.toNatClampNeg x
def SCYL (cs : List Cy) (cnt kd ar sk r : Int32) (cs' : List Cy) (cnt' : Int32) : Prop := r = sc_r cnt kd ar sk ∧ cnt' = sc_n cnt kd ar sk ∧ fF yK cs' = sc_u cnt (fF yK cs) kd ar sk kd ∧ fF yA cs' = sc_u cnt (fF yA cs) kd ar sk ar ∧ fF yS cs' = sc_u cnt (fF yS cs) kd ar sk sk ∧ fF yC cs' = fF yC cs ∧ fF yF cs' = sc_u cnt (fF yF cs) kd ar sk 1000 ∧ fF yL cs' = sc_u cnt (fF yL cs) kd ar sk 1 ∧ (NUM cs → NUM cs')
theorem scyl_bad {cs : List Cy} {cnt kd ar sk : Int32} (h : BADC kd ar sk) : SCYL cs cnt kd ar sk (-2) cs cnt := by
  unfold SCYL sc_r sc_n sc_u
  simp only [if_pos h]
  exact ⟨trivial, trivial, trivial, trivial, trivial, trivial, trivial, trivial, fun h => h⟩
theorem cnt6 {cs : List Cy} {cnt : Int32} {fc : Nat → Option Nat} (h : CS cs cnt fc) : (cnt < 0 ∨ ¬ cnt < 6) ↔ cnt = 6 := by
  obtain ⟨hc, h6, -⟩ := h
  have e1 : cnt.toInt = cs.length := by rw [hc, nI_toInt (by omega)]
  have e6 : (6 : Int32).toInt = 6 := by decide
  rw [Int32.lt_iff_toInt_lt, Int32.lt_iff_toInt_lt, e1, e6, Int32.toInt_zero, ← Int32.toInt_inj, e1, e6]
  omega
theorem NUM_push {cs : List Cy} {y : Cy} (h : NUM cs) (hy : y.2.2.2.1 = nI cs.length) : NUM (cs ++ [y]) := by
  intro l1 l2 z e
  rcases List.eq_nil_or_concat l2 with h2 | ⟨l3, w, h2⟩
  · subst h2
    obtain ⟨e1, e2⟩ := List.append_inj' e rfl
    cases e2; subst e1; exact hy
  · subst h2
    have e' : cs ++ [y] = (l1 ++ z :: l3) ++ [w] := by simpa using e
    obtain ⟨e1, e2⟩ := List.append_inj' e' rfl
    exact h l1 l3 z e1
theorem scyl_full {cs cs' : List Cy} {cnt kd ar sk r1 cnt' : Int32} {fc : Nat → Option Nat} (hb : ¬ BADC kd ar sk) (hcs : CS cs cnt fc) (h : PADD cs cnt kd ar sk r1 cs' cnt') (h1 : r1 = 0) : SCYL cs cnt kd ar sk (-4) cs' cnt' := by
  rcases h with ⟨-, e1, e2, h2⟩ | ⟨h2, -⟩
  · have h6 := (cnt6 hcs).mp h2
    subst e1 e2
    unfold SCYL sc_r sc_n sc_u
    simp only [if_neg hb, if_pos h6]
    exact ⟨trivial, trivial, trivial, trivial, trivial, trivial, trivial, trivial, fun h => h⟩
  · rw [h1] at h2; exact absurd h2 (by decide)
theorem scyl_add {cs cs' : List Cy} {cnt kd ar sk r1 cnt' : Int32} {fc : Nat → Option Nat} (hb : ¬ BADC kd ar sk) (hcs : CS cs cnt fc) (h : PADD cs cnt kd ar sk r1 cs' cnt') (h1 : ¬ r1 = 0) : SCYL cs cnt kd ar sk (cnt' - 1) cs' cnt' := by
  rcases h with ⟨h2, -⟩ | ⟨-, h2, e2, b, rr, e1⟩
  · exact absurd h2 h1
  · have h6 : ¬ cnt = 6 := fun e => by rw [e] at h2; exact absurd h2 (by decide)
    have hk : ckNm (ckOf kd) = kd := ckNm_of kd (fun e => hb (Or.inl e))
    have hl : cnt.toNatClampNeg = cs.length := by
      obtain ⟨hc, h7, -⟩ := hcs
      rw [hc, nI_clamp (by omega)]
    subst e1 e2
    unfold SCYL sc_r sc_n sc_u
    simp only [if_neg hb, if_neg h6]
    rw [hl, fF_push, fF_push, fF_push, fF_push, fF_push, fF_push]
    refine ⟨by rw [Int32.add_sub_cancel], trivial, ?_, rfl, rfl, ?_, rfl, rfl, fun h => NUM_push h hcs.1⟩
    · show upd _ _ (ckNm (ckOf kd)) = _; rw [hk]
    · funext j
      by_cases e : j = cs.length
      · subst e; rw [pk_us, fF_out _ _ _ (Nat.le_refl _)]; rfl
      · rw [pk_un e]
