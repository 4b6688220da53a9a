-- the ORDERS, and ticks one behind another
def ISs (rm en oil : Int32) : Int32 := if en = 0 then 1 else if en = 1 then (if oil = rm then 1 else 0) else (if oil = 0 then 1 else 0)
abbrev GnI : Type := Int32 → Int32
def obK (cnt oc : Int32) (rm : FnI) (W E D V : GnI) (o : FnI) : Nat → Int32 → FnI → Int32 × FnI
  | 0, i, v => (i, v)
  | k + 1, i, v => if oc ≤ i then (i, v) else if NC cnt (W i) then (i, v) else if ISs (rm (W i).toNatClampNeg) (E i) (r_c_get 6 o (W i)) = 0 then (i, v) else obK cnt oc rm W E D V o k (i + 1) (r_c_set 6 v (D i) (V i))
def obX (cnt oc : Int32) (rm : FnI) (W E D V : GnI) (o : FnI) (i : Int32) (v : FnI) : Int32 × FnI := obK cnt oc rm W E D V o (oc.toInt - i.toInt).toNat i v
section OB
variable {cnt oc i : Int32} {rm o v : FnI} {W E D V : GnI}
theorem ob_end (h : oc ≤ i) : obX cnt oc rm W E D V o i v = (i, v) := by
  unfold obX
  rw [Int32.le_iff_toInt_le] at h
  rw [show (oc.toInt - i.toInt).toNat = 0 by omega]
  rfl
theorem ob_fuel (h : ¬ oc ≤ i) : (oc.toInt - i.toInt).toNat = (oc.toInt - (i + 1).toInt).toNat + 1 := by
  have h1 := inc_toInt h
  rw [Int32.le_iff_toInt_le] at h
  omega
theorem ob_nc (h : ¬ oc ≤ i) (h1 : NC cnt (W i)) : obX cnt oc rm W E D V o i v = (i, v) := by
  unfold obX
  rw [ob_fuel h]
  show (if oc ≤ i then _ else _) = _
  rw [if_neg h, if_pos h1]
theorem ob_no (h : ¬ oc ≤ i) (h1 : ¬ NC cnt (W i)) (h2 : ISs (rm (W i).toNatClampNeg) (E i) (r_c_get 6 o (W i)) = 0) : obX cnt oc rm W E D V o i v = (i, v) := by
  unfold obX
  rw [ob_fuel h]
  show (if oc ≤ i then _ else _) = _
  rw [if_neg h, if_neg h1, if_pos h2]
theorem ob_step (h : ¬ oc ≤ i) (h1 : ¬ NC cnt (W i)) (h2 : ¬ ISs (rm (W i).toNatClampNeg) (E i) (r_c_get 6 o (W i)) = 0) : obX cnt oc rm W E D V o i v = obX cnt oc rm W E D V o (i + 1) (r_c_set 6 v (D i) (V i)) := by
  unfold obX
  rw [ob_fuel h]
  show (if oc ≤ i then _ else _) = _
  rw [if_neg h, if_neg h1, if_neg h2]
end OB
theorem n6_getx (f : FnI) (x : Int32) : r_c_get 6 (n6 f) x = r_c_get 6 f x := by
  unfold r_c_get
  by_cases h1 : x < 0
  · rw [if_pos h1, if_pos h1]
  · rw [if_neg h1, if_neg h1]
    by_cases h2 : Int32.ofNat 6 ≤ x
    · rw [if_pos h2, if_pos h2]
    · rw [if_neg h2, if_neg h2]
      rw [Int32.lt_iff_toInt_lt, Int32.toInt_zero] at h1
      rw [Int32.le_iff_toInt_le, show (Int32.ofNat 6).toInt = 6 from by decide] at h2
      exact n6_at f (by show x.toInt.toNat < 6; omega)
theorem n6_setx (f : FnI) (x w : Int32) : n6 (r_c_set 6 f x w) = r_c_set 6 (n6 f) x w := by
  unfold r_c_set
  by_cases h1 : x < 0
  · rw [if_pos h1, if_pos h1]
  · rw [if_neg h1, if_neg h1]
    by_cases h2 : Int32.ofNat 6 ≤ x
    · rw [if_pos h2, if_pos h2]
    · rw [if_neg h2, if_neg h2]
      rw [Int32.lt_iff_toInt_lt, Int32.toInt_zero] at h1
      rw [Int32.le_iff_toInt_le, show (Int32.ofNat 6).toInt = 6 from by decide] at h2
      exact n6_upd f w (by show x.toInt.toNat < 6; omega)
theorem ob_n6 {cnt oc : Int32} {rm o : FnI} {W E D V : GnI} : ∀ (k : Nat) (i : Int32) (v : FnI), obK cnt oc rm W E D V (n6 o) k i (n6 v) = ((obK cnt oc rm W E D V o k i v).1, n6 (obK cnt oc rm W E D V o k i v).2)
  | 0, i, v => rfl
  | k + 1, i, v => by
    show (if oc ≤ i then (i, n6 v) else if NC cnt (W i) then (i, n6 v) else if ISs (rm (W i).toNatClampNeg) (E i) (r_c_get 6 (n6 o) (W i)) = 0 then (i, n6 v) else obK cnt oc rm W E D V (n6 o) k (i + 1) (r_c_set 6 (n6 v) (D i) (V i))) = ((if oc ≤ i then (i, v) else if NC cnt (W i) then (i, v) else if ISs (rm (W i).toNatClampNeg) (E i) (r_c_get 6 o (W i)) = 0 then (i, v) else obK cnt oc rm W E D V o k (i + 1) (r_c_set 6 v (D i) (V i))).1, n6 (if oc ≤ i then (i, v) else if NC cnt (W i) then (i, v) else if ISs (rm (W i).toNatClampNeg) (E i) (r_c_get 6 o (W i)) = 0 then (i, v) else obK cnt oc rm W E D V o k (i + 1) (r_c_set 6 v (D i) (V i))).2)
    rw [n6_getx]
    by_cases h1 : oc ≤ i
    · simp only [if_pos h1]
    · simp only [if_neg h1]
      by_cases h2 : NC cnt (W i)
      · simp only [if_pos h2]
      · simp only [if_neg h2]
        by_cases h3 : ISs (rm (W i).toNatClampNeg) (E i) (r_c_get 6 o (W i)) = 0
        · simp only [if_pos h3]
        · simp only [if_neg h3]
          rw [← n6_setx]
          exact ob_n6 k (i + 1) _
abbrev TST : Type := Int32 × FnI × XO × List Nat
abbrev OZ : Type := Int32 × Int32 × GnI × GnI × GnI × GnI
def obZ (w : OZ) (rm o : FnI) (i : Int32) (v : FnI) : Int32 × FnI := obX w.1 w.2.1 rm w.2.2.1 w.2.2.2.1 w.2.2.2.2.1 w.2.2.2.2.2 o i v
def kTK2 (z : PZ) (b : FnI) (x : XO) (p : Int32 × FnI) : TST := (p.1, p.2, kRUN z p.2 b x.1 x.2.2.1 x.2.2.2.2.2.2.1 x.2.2.2.2.2.2.2.1 x.2.2.2.2.2.2.2.2)
def kTK (z : PZ) (w : OZ) (b : FnI) (s : TST) : TST := kTK2 z b s.2.2.1 (obZ w z.2.2.1 s.2.2.1.1 s.1 s.2.1)
def TKI (G : TST → TST) (nn i : Int32) (s0 : TST) (w : Int32) (v o t : FnI) (sol prs ovr stk : Int32) (ht wk gn : Int64) (tks : Int32) (fk : FnI) : Prop := ∃ T, TKL tks fk T ∧ forX nn (fun _ => G) i (w, n6 v, (n6 o, n6 t, sol, prs, ovr, stk, ht, wk, gn), T) = forX nn (fun _ => G) 0 s0
theorem tki_step {z : PZ} {wz : OZ} {nn i : Int32} {s0 : TST} {w w' sol prs ovr stk sol' prs' ovr' stk' tks tks' : Int32} {v v' b o o' t t' fk fk' : FnI} {ht wk gn ht' wk' gn' : Int64} (c : ¬ nn ≤ i) (h : TKI (kTK z wz (n6 b)) nn i s0 w v o t sol prs ovr stk ht wk gn tks fk) (hob : (w', v') = obZ wz z.2.2.1 o w v) (kr : (n6 o', n6 t', sol', prs', ovr', stk', ht', wk', gn') = (kRUN z (n6 v') (n6 b) (n6 o) sol ht wk gn).1) (kt : TKL tks' fk' (kRUN z (n6 v') (n6 b) (n6 o) sol ht wk gn).2) : TKI (kTK z wz (n6 b)) nn (i + 1) s0 w' v' o' t' sol' prs' ovr' stk' ht' wk' gn' tks' fk' := by
  obtain ⟨T, -, h2⟩ := h
  refine ⟨_, kt, forX_back c ?_ h2⟩
  have e : obZ wz z.2.2.1 (n6 o) w (n6 v) = (w', n6 v') := by
    unfold obZ obX at hob ⊢
    rw [ob_n6, ← hob]
  show _ = kTK2 z (n6 b) (n6 o, n6 t, sol, prs, ovr, stk, ht, wk, gn) (obZ wz z.2.2.1 (n6 o) w (n6 v))
  rw [e, kr]
  rfl
def kTN (G : TST → TST) (tck nn : Int32) (s0 : TST) : TST := if r_c_within nn 0 200 = 0 then s0 else if tck + nn ≤ 100000 then forX nn (fun _ => G) 0 s0 else s0
def TKN (G : TST → TST) (tck nn : Int32) (s0 : TST) (w : Int32) (v o t : FnI) (sol prs ovr stk : Int32) (ht wk gn : Int64) (tks : Int32) (fk : FnI) : Prop := ∃ T, TKL tks fk T ∧ (w, n6 v, (n6 o, n6 t, sol, prs, ovr, stk, ht, wk, gn), T) = kTN G tck nn s0
theorem tkn_a {G : TST → TST} {tck nn w sol prs ovr stk tks : Int32} {v o t fk : FnI} {ht wk gn : Int64} {T0 : List Nat} (h : TKL tks fk T0) (c : r_c_within nn 0 200 = 0) : TKN G tck nn (w, n6 v, (n6 o, n6 t, sol, prs, ovr, stk, ht, wk, gn), T0) w v o t sol prs ovr stk ht wk gn tks fk := ⟨T0, h, by unfold kTN; rw [if_pos c]⟩
theorem tkn_b {G : TST → TST} {tck nn w sol prs ovr stk tks : Int32} {v o t fk : FnI} {ht wk gn : Int64} {T0 : List Nat} (h : TKL tks fk T0) (c : ¬ r_c_within nn 0 200 = 0) (c2 : ¬ tck + nn ≤ 100000) : TKN G tck nn (w, n6 v, (n6 o, n6 t, sol, prs, ovr, stk, ht, wk, gn), T0) w v o t sol prs ovr stk ht wk gn tks fk := ⟨T0, h, by unfold kTN; rw [if_neg c, if_neg c2]⟩
theorem tkn_c {G : TST → TST} {tck nn i w sol prs ovr stk tks : Int32} {v o t fk : FnI} {ht wk gn : Int64} {s0 : TST} (c : ¬ r_c_within nn 0 200 = 0) (c2 : tck + nn ≤ 100000) (ci : nn ≤ i) (h : TKI G nn i s0 w v o t sol prs ovr stk ht wk gn tks fk) : TKN G tck nn s0 w v o t sol prs ovr stk ht wk gn tks fk := by
  obtain ⟨T, h1, h2⟩ := h
  refine ⟨T, h1, ?_⟩
  unfold kTN
  rw [if_neg c, if_pos c2]
  exact forX_out ci h2
def tdF (td nn : Int32) (tck : Int32) : Int32 := if r_c_within nn 0 200 = 0 then td else if tck + nn ≤ 100000 then (if td = 0 then (if nn ≤ 0 then 0 else 1) else 1) else td
