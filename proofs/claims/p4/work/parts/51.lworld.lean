def wXM (g : Gt) (ho : Nat) (ux : Nat → Nat) (xi : Nat → Int32) (xl : Nat → Int64) (xa : Nat → Nat → Int32) (fc : Nat → Option Nat) (hm : Nat) (q : Nat → Nat) (i : Nat → Int32) (L : Nat → Int64) (a : Nat → Nat → Int32) (aL : Nat → Int64) : va_W := [(ho, .inr (11, [.ref (ux 0), .ref (ux 3), .ref (ux 8), .ref (ux 14), .ref (ux 19), .ref (ux 24), .ref (ux 29), .ref (ux 35), .ref (ux 36), .ref (ux 40), .ref (ux 41), .int (xi 0), .int (xi 1), .int (xi 2), .int (xi 3)])), ((ux 0), .inr (4, [.int (xi 4), .int (xi 5), .ref (ux 1), .int (xi 6), .ref (ux 2)])), ((ux 1), .inl (g.2 3, 6, .inr (.inr (.inr (.inr fc))))), ((ux 2), .inl (g.2 0, 6, .inl (xa 0))), ((ux 3), .inr (7, [.ref (ux 4), .ref (ux 5), .ref (ux 6), .ref (ux 7), .int (xi 7)])), ((ux 4), .inl (g.2 0, 6, .inl (xa 1))), ((ux 5), .inl (g.2 0, 6, .inl (xa 2))), ((ux 6), .inl (g.2 0, 6, .inl (xa 3))), ((ux 7), .inr (8, [.int (xi 8), .int (xi 9), .int (xi 10), .int (xi 11)])), ((ux 8), .inr (1, [.ref (ux 9), .ref (ux 10), .int (xi 12), .ref (ux 11), .ref (ux 12), .ref (ux 13), .int (xi 13), .int (xi 14), .int (xi 15), .int (xi 16), .long (xl 0), .long (xl 1), .long (xl 2)])), ((ux 9), .inl (g.2 0, 6, .inl (xa 4))), ((ux 10), .inl (g.2 0, 6, .inl (xa 5))), ((ux 11), .inl (g.2 0, 6, .inl (xa 6))), ((ux 12), .inl (g.2 0, 6, .inl (xa 7))), ((ux 13), .inl (g.2 0, 6, .inl (xa 8))), ((ux 14), .inr (3, [.ref (ux 15), .ref (ux 16), .ref (ux 17), .ref (ux 18), .int (xi 17)])), ((ux 15), .inl (g.2 0, 30, .inl (xa 9))), ((ux 16), .inl (g.2 0, 30, .inl (xa 10))), ((ux 17), .inl (g.2 0, 30, .inl (xa 11))), ((ux 18), .inl (g.2 0, 30, .inl (xa 12))), ((ux 19), .inr (7, [.ref (ux 20), .ref (ux 21), .ref (ux 22), .ref (ux 23), .int (xi 18)])), ((ux 20), .inl (g.2 0, 6, .inl (xa 13))), ((ux 21), .inl (g.2 0, 6, .inl (xa 14))), ((ux 22), .inl (g.2 0, 6, .inl (xa 15))), ((ux 23), .inr (8, [.int (xi 19), .int (xi 20), .int (xi 21), .int (xi 22)])), ((ux 24), .inr (7, [.ref (ux 25), .ref (ux 26), .ref (ux 27), .ref (ux 28), .int (xi 23)])), ((ux 25), .inl (g.2 0, 6, .inl (xa 16))), ((ux 26), .inl (g.2 0, 6, .inl (xa 17))), ((ux 27), .inl (g.2 0, 6, .inl (xa 18))), ((ux 28), .inr (8, [.int (xi 24), .int (xi 25), .int (xi 26), .int (xi 27)])), ((ux 29), .inr (1, [.ref (ux 30), .ref (ux 31), .int (xi 28), .ref (ux 32), .ref (ux 33), .ref (ux 34), .int (xi 29), .int (xi 30), .int (xi 31), .int (xi 32), .long (xl 3), .long (xl 4), .long (xl 5)])), ((ux 30), .inl (g.2 0, 6, .inl (xa 19))), ((ux 31), .inl (g.2 0, 6, .inl (xa 20))), ((ux 32), .inl (g.2 0, 6, .inl (xa 21))), ((ux 33), .inl (g.2 0, 6, .inl (xa 22))), ((ux 34), .inl (g.2 0, 6, .inl (xa 23))), ((ux 35), .inl (g.2 0, 6, .inl (xa 24))), ((ux 36), .inr (5, [.ref (ux 37), .ref (ux 38), .ref (ux 39), .int (xi 33)])), ((ux 37), .inl (g.2 0, 20, .inl (xa 25))), ((ux 38), .inl (g.2 0, 20, .inl (xa 26))), ((ux 39), .inl (g.2 0, 20, .inl (xa 27))), ((ux 40), .inl (g.2 4, 4, .inr (.inr (.inr (.inr (shF (ux 42) (ux 44) (ux 46) (ux 48))))))), ((ux 41), .inr (9, [.int (xi 34)])), ((ux 42), .inr (6, [.ref (ux 43), .int (xi 35), .int (xi 36), .int (xi 37)])), ((ux 43), .inl (g.2 0, 20, .inl (xa 28))), ((ux 44), .inr (6, [.ref (ux 45), .int (xi 38), .int (xi 39), .int (xi 40)])), ((ux 45), .inl (g.2 0, 20, .inl (xa 29))), ((ux 46), .inr (6, [.ref (ux 47), .int (xi 41), .int (xi 42), .int (xi 43)])), ((ux 47), .inl (g.2 0, 20, .inl (xa 30))), ((ux 48), .inr (6, [.ref (ux 49), .int (xi 44), .int (xi 45), .int (xi 46)])), ((ux 49), .inl (g.2 0, 20, .inl (xa 31))), (hm, .inr (12, mO q i L)), ((q 1), .inl (g.2 0, 4, .inl (a 1))), ((q 2), .inl (g.2 0, 4, .inl (a 2))), ((q 3), .inl (g.2 0, 80, .inl (a 3))), ((q 4), .inl (g.2 0, 20, .inl (a 4))), ((q 8), .inl (g.2 0, 6, .inl (a 8))), ((q 9), .inl (g.2 0, 6, .inl (a 9))), ((q 10), .inl (g.2 0, 6, .inl (a 10))), ((q 11), .inl (g.2 0, 6, .inl (a 11))), ((q 12), .inl (g.2 0, 6, .inl (a 12))), ((q 13), .inl (g.2 0, 60, .inl (a 13))), ((q 14), .inl (g.2 0, 6, .inl (a 14))), ((q 15), .inl (g.2 0, 6, .inl (a 15))), ((q 16), .inl (g.2 0, 6, .inl (a 16))), ((q 17), .inl (g.2 0, 6, .inl (a 17))), ((q 18), .inl (g.2 1, 6, .inl (a 18))), ((q 19), .inl (g.2 0, 6, .inl (a 19))), ((q 25), .inl (g.2 0, 30, .inl (a 25))), ((q 26), .inl (g.2 0, 30, .inl (a 26))), ((q 27), .inl (g.2 0, 30, .inl (a 27))), ((q 28), .inl (g.2 0, 30, .inl (a 28))), ((q 36), .inl (g.2 0, 6, .inl (a 36))), ((q 41), .inl (g.2 0, 6, .inl (a 41))), ((q 42), .inl (g.2 0, 6, .inl (a 42))), ((q 43), .inl (g.2 0, 6, .inl (a 43))), ((q 44), .inl (g.2 0, 6, .inl (a 44))), ((q 47), .inl (g.2 0, 6, .inl (a 47))), ((q 48), .inl (g.2 0, 6, .inl (a 48))), ((q 49), .inl (g.2 1, 6, .inl (a 49))), ((q 53), .inl (g.2 0, 20, .inl (a 53))), ((q 54), .inl (g.2 0, 20, .inl (a 54))), ((q 55), .inl (g.2 0, 20, .inl (a 55))), ((q 56), .inl (g.2 0, 6, .inl (a 56))), ((q 57), .inl (g.2 0, 6, .inl (a 57))), ((q 58), .inl (g.2 0, 6, .inl (a 58))), ((q 59), .inl (g.2 0, 6, .inl (a 59))), ((q 60), .inl (g.2 0, 6, .inl (a 60))), ((q 61), .inl (g.2 1, 6, .inl (a 61))), ((q 62), .inl (g.2 0, 6, .inl (a 62))), ((q 63), .inl (g.2 2, 3, .inr (.inl aL)))]
def INV (xi : Nat → Int32) (xa : Nat → Nat → Int32) (fc : Nat → Option Nat) (cs : List Cy) (i : Nat → Int32) (a : Nat → Nat → Int32) : Prop := (CS cs (xi 6) fc) ∧ (TB (xa 25)) ∧ (0 ≤ ((xi 37)).toInt ∧ ((xi 37)).toInt ≤ 20) ∧ (0 ≤ ((xi 40)).toInt ∧ ((xi 40)).toInt ≤ 20) ∧ (0 ≤ ((xi 43)).toInt ∧ ((xi 43)).toInt ≤ 20) ∧ (0 ≤ ((xi 46)).toInt ∧ ((xi 46)).toInt ≤ 20) ∧ (0 ≤ ((i 7)).toInt ∧ ((i 7)).toInt ≤ 6) ∧ (MCI i (a 9) (a 10) (a 12)) ∧ (OB (a 11)) ∧ (FB (a 15) (a 16)) ∧ (PB (a 44)) ∧ (RI (a 41)) ∧ (¬ ((i 22)) = 0) ∧ (0 ≤ ((i 24)).toInt ∧ ((i 24)).toInt ≤ 30) ∧ (0 ≤ ((i 29)).toInt) ∧ (0 ≤ ((i 5)).toInt ∧ ((i 5)).toInt ≤ 1000) ∧ (0 ≤ ((i 23)).toInt ∧ ((i 23)).toInt ≤ 5000) ∧ (0 ≤ ((i 20)).toInt ∧ ((i 20)).toInt ≤ 5000) ∧ (RI (a 25)) ∧ (RI (a 27)) ∧ (0 ≤ ((i 50)).toInt ∧ ((i 50)).toInt ≤ 5000) ∧ (0 ≤ ((i 51)).toInt) ∧ (OB (a 47)) ∧ (0 ≤ ((i 52)).toInt ∧ ((i 52)).toInt ≤ 20) ∧ (RI (a 54)) ∧ (0 ≤ ((i 35)).toInt ∧ ((i 35)).toInt ≤ 6) ∧ ((i 31) = 0 ∨ (i 31) = 1) ∧ ((i 64) = 0 ∨ (i 64) = 1) ∧ (OB (a 56)) ∧ (LB (a 58)) ∧ (SZ (a 1)) ∧ (B6 (a 18)) ∧ (NUM cs) ∧ ((xi 6) = (i 7)) ∧ (fF yC cs = (a 14)) ∧ (fF yF cs = (a 15)) ∧ (EQn 6 (xa 0) (a 16))
def LAt (p : Program) (l : Launch) (e : Env) (s : State) (m : MethodId) (below : List Frame) (meth : Method) (c : Code) (g : Gt) (b ho hm : Nat) (ux q : Nat → Nat) (n k pc : Nat) : Prop := ∀ (ls : Array Slot) (H : Heap) (locs : List Loc) (cells slots : Nat) (xi : Nat → Int32) (xl : Nat → Int64) (xa : Nat → Nat → Int32) (fc : Nat → Option Nat) (cs : List Cy) (i : Nat → Int32) (L : Nat → Int64) (a : Nat → Nat → Int32) (aL : Nat → Int64), cells + 2 * n ≤ 600000 → slots + 17 * n ≤ 7302250 → INV xi xa fc cs i a → lv_has ls 4 [(3, .int (nI (6 * k))), (2, .ref hm), (1, .ref ho), (0, .ref b)] → va_P g.1 vwCl (wXM g ho ux xi xl xa fc hm q i L a aL ++ cysW g cs) H → va_D (fun q : Nat => s.heap.size ≤ q) (wXM g ho ux xi xl xa fc hm q i L a aL ++ cysW g cs) → va_S (fun q : Nat => s.heap.size ≤ q) s.heap H locs → W p l e room_1 s m #[Value.ref b] below meth c H locs cells slots (lw_Z below #[Value.ref b] s) (F0 m pc ls [])
theorem sc_in0 {k N : Nat} (hk : 6 * k + 6 ≤ N) (hL : N ≤ 3072) : vp_in (nI (6 * k)) N := vp_in_nI (by omega) (by omega)
theorem sc_in {k N : Nat} {j : Int32} (h0 : 0 ≤ j.toInt) (h6 : j.toInt < 6) (hk : 6 * k + 6 ≤ N) (hL : N ≤ 3072) : vp_in (nI (6 * k) + j) N := by
  have e := nI_toInt (n := 6 * k) (by omega)
  rw [vp_in_iff, Int32.toInt_add, e, Int.bmod_eq_of_le] <;> omega
theorem sc_ix {k N : Nat} {xs : Nat → Int32} {j : Int32} (h0 : 0 ≤ j.toInt) (h6 : j.toInt < 6) (hk : 6 * k + 6 ≤ N) (hL : N ≤ 3072) : xs (nI (6 * k) + j).toNatClampNeg = xs (6 * k + j.toNatClampNeg) := by
  have e := nI_toInt (n := 6 * k) (by omega)
  have e2 : (nI (6 * k) + j).toInt = (6 * k : Int) + j.toInt := by rw [Int32.toInt_add, e, Int.bmod_eq_of_le] <;> omega
  have e3 : (nI (6 * k) + j).toNatClampNeg = 6 * k + j.toNatClampNeg := by
    show (nI (6 * k) + j).toInt.toNat = 6 * k + j.toInt.toNat
    omega
  rw [e3]
theorem sc_next (k : Nat) : nI (6 * k) + 6 = nI (6 * (k + 1)) := by
  show nI (6 * k) + nI 6 = _
  rw [show 6 * (k + 1) = 6 * k + 6 by omega]
  exact (Int32.ofNat_add _ _).symm
theorem pump_rng {i : Nat → Int32} (what v : Int32) (h : 0 ≤ (i 5).toInt ∧ (i 5).toInt ≤ 1000) : 0 ≤ (o_g_pump_5 i what v).toInt ∧ (o_g_pump_5 i what v).toInt ≤ 1000 := by
  unfold o_g_pump_5
  by_cases h1 : r_c_in what.toInt64 0 1 = 0
  · rw [if_pos h1]; exact h
  · rw [if_neg h1]
    by_cases h2 : r_c_in v.toInt64 what.toInt64 1000 = 0
    · rw [if_pos h2]; exact h
    · rw [if_neg h2]
      have h3 := in_l h1
      have h4 := in_l h2
      rw [show (0 : Int64).toInt = 0 from by decide] at h3
      rw [Int32.toInt_toInt64, show (1000 : Int64).toInt = 1000 from by decide] at h4
      (repeat' split) <;> first | exact h | omega
theorem NUM_nil : NUM [] := fun l1 l2 y e => by cases l1 <;> cases e
theorem fF_nil (φ : Cy → Int32) : fF φ [] = z0 := by funext j; rfl
theorem EQn_symm {n : Int} {a b : Nat → Int32} (h : EQn n a b) : EQn n b a := fun c hc => (h c hc).symm
theorem nc_if {α : Type} {i : Nat → Int32} {cy : Int32} (h7 : 0 ≤ (i 7).toInt ∧ (i 7).toInt ≤ 6) (x y : α) : (if r_g_noCylinder i cy = 0 then x else y) = if NC (i 7) cy then y else x := by
  by_cases h : r_g_noCylinder i cy = 0
  · rw [if_pos h, if_neg (nc_n h7 h)]
  · rw [if_neg h, if_pos (nc_y h7 h)]
theorem look_r {i : Nat → Int32} (h7 : 0 ≤ (i 7).toInt ∧ (i 7).toInt ≤ 6) (a8 : Nat → Int32) (cy : Int32) : r_g_look i a8 cy = sk_r (i 7) a8 cy := by
  unfold r_g_look sk_r; exact nc_if h7 _ _
theorem look_t {i : Nat → Int32} (h7 : 0 ≤ (i 7).toInt ∧ (i 7).toInt ≤ 6) (a8 : Nat → Int32) (cy : Int32) : o_g_look_65 i a8 cy = sk_t (i 7) a8 (i 65) cy := by
  unfold o_g_look_65 sk_t; exact nc_if h7 _ _
theorem as_r {i : Nat → Int32} (h7 : 0 ≤ (i 7).toInt ∧ (i 7).toInt ≤ 6) (a8 : Nat → Int32) (cy k : Int32) : r_g_as i a8 cy k = sa_r (i 7) a8 cy k := by
  unfold r_g_as sa_r; rw [show r_c_in k.toInt64 0 2 = r_c_within k 0 2 from in_within k 0 2, ten_2]; exact nc_if h7 _ _
theorem as_l {i : Nat → Int32} (h7 : 0 ≤ (i 7).toInt ∧ (i 7).toInt ≤ 6) (a8 : Nat → Int32) (cy k : Int32) : o_g_as_0 i a8 cy k = sa_l (i 7) a8 cy k := by
  unfold o_g_as_0 sa_l; rw [show r_c_in k.toInt64 0 2 = r_c_within k 0 2 from in_within k 0 2]; exact nc_if h7 _ _
theorem burst_b6 {i a18 : Nat → Int32} {cy v : Int32} (h : B6 a18) (hv : v = 0 ∨ v = 1) : B6 (o_g_burst_q18 i a18 cy v) := by
  unfold o_g_burst_q18
  have h2 : vp_nar .boolean v = 0 ∨ vp_nar .boolean v = 1 := by rw [nar01 hv]; exact hv
  (repeat' split) <;> first | exact h | exact B6_upd h h2
theorem get6 {i f a : Nat → Int32} {cnt cy : Int32} (h7 : 0 ≤ (i 7).toInt ∧ (i 7).toInt ≤ 6) (kc : cnt = i 7) (k : EQn 6 f a) (h : ¬ NC cnt cy) : r_c_get 6 f cy = a cy.toNatClampNeg ∧ (∀ v : Int32, EQn 6 (r_c_set 6 f cy v) (upd a cy.toNatClampNeg v)) := by
  subst kc
  have h' : ¬ (cy < 0 ∨ i 7 ≤ cy) := h
  have h1 : ¬ cy < 0 := fun e => h' (Or.inl e)
  have h2 : ¬ i 7 ≤ cy := fun e => h' (Or.inr e)
  have e6 : (Int32.ofNat 6).toInt = 6 := by decide
  have h3 : ¬ Int32.ofNat 6 ≤ cy := by
    rw [Int32.le_iff_toInt_le] at h2 ⊢
    omega
  have h4 : ((cy.toNatClampNeg : Nat) : Int) < 6 := by
    rw [Int32.lt_iff_toInt_lt, Int32.toInt_zero] at h1
    rw [Int32.le_iff_toInt_le] at h2
    rw [cl_of (by omega)]
    omega
  unfold r_c_get r_c_set
  rw [if_neg h1, if_neg h3]
  refine ⟨k _ h4, fun v => ?_⟩
  rw [if_neg h1, if_neg h3]
  intro c hc
  by_cases e : c = cy.toNatClampNeg
  · subst e; rw [pk_us, pk_us]
  · rw [pk_un e, pk_un e]; exact k c hc
theorem rule_r {i fcr ffl fla a16 : Nat → Int32} {cnt cy what v : Int32} (h7 : 0 ≤ (i 7).toInt ∧ (i 7).toInt ≤ 6) (kc : cnt = i 7) (k : EQn 6 fla a16) : ru_r cnt fcr ffl fla cy what v = rm_r cnt fcr ffl a16 cy what v := by
  unfold ru_r rm_r
  by_cases hn : NC cnt cy
  · rw [if_pos hn, if_pos hn]
  · rw [if_neg hn, if_neg hn, (get6 h7 kc k hn).1]
theorem rule_eqn {i fla a16 : Nat → Int32} {cnt cy what v : Int32} (h7 : 0 ≤ (i 7).toInt ∧ (i 7).toInt ≤ 6) (kc : cnt = i 7) (k : EQn 6 fla a16) : EQn 6 (ru_k cnt fla cy what v) (rm_k (i 7) a16 cy what v) := by
  unfold ru_k rm_k
  rw [← kc]
  by_cases hn : NC cnt cy
  · rw [if_pos hn, if_pos hn]; exact k
  · rw [if_neg hn, if_neg hn]
    have g := (get6 h7 kc k hn).2
    (repeat' split) <;> first | exact k | exact g _
theorem r0_20 : 0 ≤ (0 : Int32).toInt ∧ (0 : Int32).toInt ≤ 20 := by decide
theorem pump_rng2 {i : Nat → Int32} {what v y : Int32} (h : o_g_pump_5 i what v = y) (h5 : 0 ≤ (i 5).toInt ∧ (i 5).toInt ≤ 1000) : 0 ≤ y.toInt ∧ y.toInt ≤ 1000 := by rw [← h]; exact pump_rng what v h5
