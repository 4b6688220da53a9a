-- the reference's list form, and that it is the class's
theorem mn_lesser (a b : Int32) : mnI a b = r_c_lesser a b := by
  unfold mnI r_c_lesser
  by_cases h : b < a
  · rw [if_pos h, if_pos (Int32.le_of_lt h)]
  · rw [if_neg h]
    by_cases h2 : b ≤ a
    · rw [if_pos h2]
      rw [Int32.lt_iff_toInt_lt] at h
      rw [Int32.le_iff_toInt_le] at h2
      exact Int32.toInt_inj.mp (by omega)
    · rw [if_neg h2]
theorem mn_toInt (a b : Int32) : (mnI a b).toInt ≤ a.toInt ∧ (mnI a b).toInt ≤ b.toInt ∧ ((mnI a b).toInt = a.toInt ∨ (mnI a b).toInt = b.toInt) := by
  unfold mnI
  by_cases h : b < a
  · rw [if_pos h]; rw [Int32.lt_iff_toInt_lt] at h; omega
  · rw [if_neg h]; rw [Int32.lt_iff_toInt_lt] at h; omega
theorem mx_alt (p n : Int32) : (if n ≤ p then p else n) = mxI p n := by
  unfold mxI
  by_cases h : p < n
  · rw [if_pos h, if_neg (Int32.not_le.mpr h)]
  · rw [if_neg h, if_pos (Int32.not_lt.mp h)]
abbrev MSt : Type := Int32 × List Nat × Int32 × FnI × FnI × FnI
def mG (nd : FnI) (x : Int32) (st : MSt) (c : Nat) : MSt := (st.1 - x, (if x ≤ 0 then st.2.1 else st.2.1 ++ [c]), (if x ≤ 0 then st.2.2.1 else (if nd c ≤ st.2.2.1 then st.2.2.1 else nd c)), upd st.2.2.2.1 c x, upd st.2.2.2.2.1 c x, upd st.2.2.2.2.2 c (st.2.2.2.2.2 c + x))
def mS (mt nd : FnI) (st : MSt) (c : Nat) : MSt := mG nd (r_c_lesser (mt c) st.1) st c
def PMR (L : List Nat) (mt : FnI) (r : MSt) (s s0 : PSt) (pm0 : FnI) : Prop := r.1 = s.1 ∧ r.2.1 = s.2.1 ∧ r.2.2.1 = s.2.2.1 ∧ r.2.2.2.2.1 = s.2.2.2.1 ∧ r.2.2.2.2.2 = s.2.2.2.2 ∧ (∀ c ∈ L, r.2.2.2.1 c = s.2.2.2.1 c ∧ 0 ≤ (s.2.2.2.1 c).toInt ∧ (s.2.2.2.1 c).toInt ≤ (mt c).toInt) ∧ (∀ c, ¬ c ∈ L → r.2.2.2.1 c = pm0 c ∧ s.2.2.2.1 c = s0.2.2.2.1 c) ∧ 0 ≤ s.1.toInt
theorem z_upd0 {f : FnI} {c : Nat} (h : f c = 0) : upd f c 0 = f := by
  funext j
  by_cases e : j = c
  · subst e; rw [pk_us, h]
  · rw [pk_un e]
theorem upd_selfT (f : FnI) (k : Nat) : upd f k (f k) = f := by
  funext j
  by_cases e : j = k
  · subst e; rw [pk_us]
  · rw [pk_un e]
theorem pm_eq {mt nd : FnI} : ∀ (L : List Nat) (s : PSt) (pm : FnI), L.Nodup → (∀ c ∈ L, s.2.2.2.1 c = 0) → (∀ c ∈ L, 0 ≤ (mt c).toInt) → 0 ≤ s.1.toInt → PMR L mt (L.foldl (mS mt nd) (s.1, s.2.1, s.2.2.1, pm, s.2.2.2.1, s.2.2.2.2)) (L.foldl (pS mt nd) s) s pm
  | [], s, pm, _, _, _, h0 => ⟨rfl, rfl, rfl, rfl, rfl, fun c hc => by simp at hc, fun c _ => ⟨rfl, rfl⟩, h0⟩
  | x :: xs, s, pm, hn, ht, hm, h0 => by
    have hn2 := List.nodup_cons.mp hn
    have t0 : s.2.2.2.1 x = 0 := ht x (by simp)
    have m0 := hm x (by simp)
    have hv := mn_toInt (mt x) s.1
    rw [List.foldl_cons, List.foldl_cons]
    have eS : mS mt nd (s.1, s.2.1, s.2.2.1, pm, s.2.2.2.1, s.2.2.2.2) x = ((pS mt nd s x).1, (pS mt nd s x).2.1, (pS mt nd s x).2.2.1, upd pm x (mnI (mt x) s.1), (pS mt nd s x).2.2.2.1, (pS mt nd s x).2.2.2.2) ∧ (pS mt nd s x).2.2.2.1 x = mnI (mt x) s.1 ∧ (∀ c, c ≠ x → (pS mt nd s x).2.2.2.1 c = s.2.2.2.1 c) ∧ (pS mt nd s x).1 = s.1 - mnI (mt x) s.1 := by
      unfold mS mG pS
      dsimp only
      rw [← mn_lesser]
      generalize mnI (mt x) s.1 = v at hv ⊢
      unfold pG
      by_cases hx : v ≤ 0
      · have e : v = 0 := by
          rw [Int32.le_iff_toInt_le, Int32.toInt_zero] at hx
          exact Int32.toInt_inj.mp (by rw [Int32.toInt_zero]; omega)
        subst e
        rw [if_pos hx, if_pos hx, if_pos hx, z_upd0 t0, Int32.sub_zero, Int32.add_zero, upd_selfT]
        exact ⟨rfl, t0, fun c _ => rfl, rfl⟩
      · rw [if_neg hx, if_neg hx, if_neg hx, mx_alt, t0, Int32.zero_add]
        exact ⟨rfl, pk_us, fun c hc => pk_un hc, rfl⟩
    obtain ⟨e1, e2, e3, e4⟩ := eS
    rw [e1]
    have ih := pm_eq (nd := nd) xs (pS mt nd s x) (upd pm x (mnI (mt x) s.1)) hn2.2 (fun c hc => by
      have hcx : c ≠ x := fun e => hn2.1 (e ▸ hc)
      rw [e3 c hcx]; exact ht c (List.mem_cons_of_mem _ hc)) (fun c hc => hm c (List.mem_cons_of_mem _ hc)) (by
      rw [e4, Int32.toInt_sub, Int.bmod_eq_of_le] <;> (have := Int32.toInt_lt s.1; omega))
    obtain ⟨i1, i2, i3, i4, i5, i6, i7, i8⟩ := ih
    refine ⟨i1, i2, i3, i4, i5, fun c hc => ?_, fun c hc => ?_, i8⟩
    · rcases List.mem_cons.mp hc with e | e
      · subst e
        have := i7 c hn2.1
        rw [pk_us] at this
        rw [this.1, this.2, e2]
        exact ⟨rfl, by omega, by omega⟩
      · exact i6 c e
    · have hc1 : ¬ c = x := fun e => hc (by rw [e]; simp)
      have hc2 : ¬ c ∈ xs := fun e => hc (List.mem_cons_of_mem _ e)
      have := i7 c hc2
      rw [pk_un hc1, e3 c hc1] at this
      exact this
-- the sums: over the whole line, with zeros between
theorem mul0_64 (x : Int64) : (0 : Int32).toInt64 * x = 0 := by
  rw [show (0 : Int32).toInt64 = 0 from by decide, Int64.zero_mul]
theorem as_zero {t nd : FnI} {p : Int32} {st : Int64 × Int64} {c : Nat} (h : t c = 0) : aS t nd p st c = st := by
  unfold aS
  rw [h, mul0_64, mul0_64, Int64.add_zero, Int64.add_zero]
theorem tk_list {mt nd : FnI} : ∀ (L : List Nat) (s : PSt), L.Nodup → (∀ c ∈ L, s.2.2.2.1 c = 0) → (∀ c ∈ L, 0 ≤ (mt c).toInt) → 0 ≤ s.1.toInt → ∃ T1 : List Nat, (L.foldl (pS mt nd) s).2.1 = s.2.1 ++ T1 ∧ ∀ (t : FnI), (∀ c ∈ L, t c = (L.foldl (pS mt nd) s).2.2.2.1 c) → ∀ (p : Int32) (st : Int64 × Int64), T1.foldl (aS t nd p) st = L.foldl (aS t nd p) st
  | [], s, _, _, _, _ => ⟨[], by simp, fun _ _ _ _ => rfl⟩
  | x :: xs, s, hn, ht, hm, h0 => by
    have hn2 := List.nodup_cons.mp hn
    have t0 : s.2.2.2.1 x = 0 := ht x (by simp)
    have m0 := hm x (by simp)
    have hv := mn_toInt (mt x) s.1
    have hS : (pS mt nd s x).2.2.2.1 x = mnI (mt x) s.1 ∧ (∀ c, c ≠ x → (pS mt nd s x).2.2.2.1 c = s.2.2.2.1 c) ∧ 0 ≤ (pS mt nd s x).1.toInt ∧ (pS mt nd s x).2.1 = (if mnI (mt x) s.1 ≤ 0 then s.2.1 else s.2.1 ++ [x]) ∧ (mnI (mt x) s.1 ≤ 0 → mnI (mt x) s.1 = 0) := by
      unfold pS
      generalize mnI (mt x) s.1 = v at hv ⊢
      unfold pG
      by_cases hx : v ≤ 0
      · have e : v = 0 := by
          rw [Int32.le_iff_toInt_le, Int32.toInt_zero] at hx
          exact Int32.toInt_inj.mp (by rw [Int32.toInt_zero]; omega)
        subst e
        rw [if_pos hx, if_pos hx]
        exact ⟨t0, fun c _ => rfl, h0, rfl, fun _ => rfl⟩
      · rw [if_neg hx, if_neg hx, t0, Int32.zero_add]
        refine ⟨pk_us, fun c hc => pk_un hc, ?_, rfl, fun h => absurd h hx⟩
        show 0 ≤ (s.1 - v).toInt
        have := Int32.toInt_lt s.1
        rw [Int32.toInt_sub, Int.bmod_eq_of_le] <;> omega
    obtain ⟨e2, e3, e4, e5, e6⟩ := hS
    obtain ⟨T1, q1, q2⟩ := tk_list (nd := nd) xs (pS mt nd s x) hn2.2 (fun c hc => by
      have hcx : c ≠ x := fun e => hn2.1 (e ▸ hc)
      rw [e3 c hcx]; exact ht c (List.mem_cons_of_mem _ hc)) (fun c hc => hm c (List.mem_cons_of_mem _ hc)) e4
    have ih := pm_eq (nd := nd) xs (pS mt nd s x) z0 hn2.2 (fun c hc => by
      have hcx : c ≠ x := fun e => hn2.1 (e ▸ hc)
      rw [e3 c hcx]; exact ht c (List.mem_cons_of_mem _ hc)) (fun c hc => hm c (List.mem_cons_of_mem _ hc)) e4
    have hx7 := (ih.2.2.2.2.2.2.1 x hn2.1).2
    by_cases hx : mnI (mt x) s.1 ≤ 0
    · refine ⟨T1, by rw [List.foldl_cons, q1, e5, if_pos hx], fun t htt p st => ?_⟩
      have htx : t x = 0 := by
        have := htt x (by simp)
        rw [List.foldl_cons, hx7, e2, e6 hx] at this; exact this
      rw [List.foldl_cons, as_zero htx]
      exact q2 t (fun c hc => by have := htt c (List.mem_cons_of_mem _ hc); rw [List.foldl_cons] at this; exact this) p st
    · refine ⟨x :: T1, by rw [List.foldl_cons, q1, e5, if_neg hx, List.append_assoc]; rfl, fun t htt p st => ?_⟩
      rw [List.foldl_cons, List.foldl_cons]
      exact q2 t (fun c hc => by have := htt c (List.mem_cons_of_mem _ hc); rw [List.foldl_cons] at this; exact this) p _
-- the store's giving
def mT (mt nd pm : FnI) (fst stf : Int32) (st : SSt) (c : Nat) : SSt := if mt c ≤ pm c then st else if prS fst stf st.1 < nd c then st else sG (r_c_lesser (mt c - pm c) st.1) st c
theorem sG_zero {st : SSt} {c : Nat} : sG 0 st c = st := by
  unfold sG
  rw [Int32.sub_zero, Int32.sub_zero, Int32.add_zero, Int32.add_zero, upd_selfT, upd_selfT]
theorem sub_le {a b : Int32} (h0 : 0 ≤ b.toInt) (h1 : b.toInt ≤ a.toInt) : (a - b).toInt = a.toInt - b.toInt := by
  have := Int32.toInt_lt a
  rw [Int32.toInt_sub, Int.bmod_eq_of_le] <;> omega
theorem mn_sub {a b k : Int32} (h0 : 0 ≤ b.toInt) (h1 : b.toInt ≤ a.toInt) (hk : 0 ≤ k.toInt) : 0 ≤ (mnI (a - b) k).toInt ∧ 0 ≤ (k - mnI (a - b) k).toInt := by
  have hd := sub_le h0 h1
  have hv := mn_toInt (a - b) k
  have h2 : 0 ≤ (mnI (a - b) k).toInt := by omega
  exact ⟨h2, by rw [sub_le h2 hv.2.1]; omega⟩
theorem mn_sub0 {a b k : Int32} (h0 : 0 ≤ b.toInt) (h1 : b.toInt ≤ a.toInt) (hk : 0 ≤ k.toInt) (h : a ≤ b) : mnI (a - b) k = 0 := by
  have hd := sub_le h0 h1
  have hv := mn_toInt (a - b) k
  rw [Int32.le_iff_toInt_le] at h
  exact Int32.toInt_inj.mp (by rw [Int32.toInt_zero]; omega)
theorem mT_eq {mt nd pm : FnI} {fst stf : Int32} {s : SSt} {x : Nat} (t0 : s.2.2.1 x = pm x) (p0 : 0 ≤ (pm x).toInt) (p1 : (pm x).toInt ≤ (mt x).toInt) (h0 : 0 ≤ s.1.toInt) : mT mt nd pm fst stf s x = sS mt nd fst stf s x ∧ (∀ c, c ≠ x → (sS mt nd fst stf s x).2.2.1 c = s.2.2.1 c) ∧ 0 ≤ (sS mt nd fst stf s x).1.toInt := by
  unfold mT sS
  rw [t0, ← mn_lesser]
  by_cases h2 : prS fst stf s.1 < nd x
  · rw [if_pos h2]
    refine ⟨?_, fun _ _ => rfl, h0⟩
    by_cases h1 : mt x ≤ pm x
    · rw [if_pos h1]
    · rw [if_neg h1]
  · rw [if_neg h2]
    refine ⟨?_, fun c hc => pk_un hc, (mn_sub p0 p1 h0).2⟩
    by_cases h1 : mt x ≤ pm x
    · rw [if_pos h1, mn_sub0 p0 p1 h0 h1, sG_zero]
    · rw [if_neg h1]
theorem st_eq {mt nd pm : FnI} {fst stf : Int32} (L : List Nat) : ∀ (s : SSt), L.Nodup → (∀ c ∈ L, s.2.2.1 c = pm c ∧ 0 ≤ (pm c).toInt ∧ (pm c).toInt ≤ (mt c).toInt) → 0 ≤ s.1.toInt → L.foldl (mT mt nd pm fst stf) s = L.foldl (sS mt nd fst stf) s := by
  induction L with
  | nil => intro s _ _ _; rw [List.foldl_nil, List.foldl_nil]
  | cons x xs ih =>
    intro s hn ht h0
    have hn2 := List.nodup_cons.mp hn
    obtain ⟨t0, p0, p1⟩ := ht x (by simp)
    obtain ⟨e1, e3, e4⟩ := mT_eq (nd := nd) (fst := fst) (stf := stf) t0 p0 p1 h0
    rw [List.foldl_cons, List.foldl_cons, e1]
    refine ih _ hn2.2 (fun c hc => ?_) e4
    have hcx : c ≠ x := fun e => hn2.1 (e ▸ hc)
    rw [e3 c hcx]
    exact ht c (List.mem_cons_of_mem _ hc)
-- (2) of the reference
def rlG (n : Int32) (c : Nat) (st : FnI × FnI) : FnI × FnI := (upd (upd st.1 c 0) c (-(r_c_lesser n (st.2 c))), upd st.2 c (st.2 c - r_c_lesser n (st.2 c)))
def rlF (kd fl lk : FnI) (ld : Nat → Int32 → Int32) (v b : FnI) (x : Int32) (st : FnI × FnI) : FnI × FnI := if b x.toNatClampNeg = 0 then (if v x.toNatClampNeg = 2 then rlG (fl x.toNatClampNeg) x.toNatClampNeg st else if v x.toNatClampNeg = 0 then (if kd x.toNatClampNeg = 0 then (if ld x.toNatClampNeg (st.2 x.toNatClampNeg) ≤ 0 then (upd st.1 x.toNatClampNeg 0, st.2) else rlG (lk x.toNatClampNeg) x.toNatClampNeg st) else (upd st.1 x.toNatClampNeg 0, st.2)) else (upd st.1 x.toNatClampNeg 0, st.2)) else (if kd x.toNatClampNeg = 0 then rlG (fl x.toNatClampNeg) x.toNatClampNeg st else rlG 0 x.toNatClampNeg st)
theorem upd_upd (f : FnI) (c : Nat) (x y : Int32) : upd (upd f c x) c y = upd f c y := by
  funext j
  by_cases e : j = c
  · subst e; rw [pk_us, pk_us]
  · rw [pk_un e, pk_un e, pk_un e]
theorem mn_nonneg0 {o : Int32} (h : 0 ≤ o.toInt) : mnI o 0 = 0 := by
  have := mn_toInt o 0
  rw [Int32.toInt_zero] at this
  exact Int32.toInt_inj.mp (by rw [Int32.toInt_zero]; omega)
theorem mn_comm (a b : Int32) : mnI a b = r_c_lesser b a := by
  unfold mnI r_c_lesser
  by_cases h : b < a
  · rw [if_pos h, if_neg (Int32.not_le.mpr h)]
  · rw [if_neg h, if_pos (Int32.not_lt.mp h)]
theorem rlF_eq {kd fl lk v b : FnI} {ld : Nat → Int32 → Int32} {c : Nat} {st : FnI × FnI} (hc : c < 6) (hb : b c = 0 ∨ b c = 1) (ho : 0 ≤ (st.2 c).toInt) : rlF kd fl lk ld v b (nI c) st = (upd st.1 c (-(mnI (st.2 c) (mlX (kd c) (fl c) (lk c) (ld c (st.2 c)) (v c) (b c)))), upd st.2 c (st.2 c - mnI (st.2 c) (mlX (kd c) (fl c) (lk c) (ld c (st.2 c)) (v c) (b c)))) := by
  have hz : ((upd st.1 c 0, st.2) : FnI × FnI) = (upd st.1 c (-(mnI (st.2 c) 0)), upd st.2 c (st.2 c - mnI (st.2 c) 0)) := by
    rw [mn_nonneg0 ho, Int32.sub_zero, upd_selfT, Int32.neg_zero]
  have hg : ∀ n, rlG n c st = (upd st.1 c (-(mnI (st.2 c) n)), upd st.2 c (st.2 c - mnI (st.2 c) n)) := fun n => by
    unfold rlG; rw [upd_upd, mn_comm]
  unfold rlF mlX
  rw [nI_clamp (by omega)]
  rcases hb with hb | hb
  · rw [if_pos hb, if_neg (show ¬ b c = 1 by rw [hb]; decide)]
    by_cases h2 : v c = 2
    · rw [if_pos h2, if_pos h2, hg]
    · rw [if_neg h2, if_neg h2]
      by_cases h0 : v c = 0
      · rw [if_pos h0, if_pos h0]
        by_cases hk : kd c = 0
        · rw [if_pos hk, if_pos hk]
          by_cases hl : ld c (st.2 c) ≤ 0
          · rw [if_pos hl, if_neg (Int32.not_lt.mpr hl), hz]
          · rw [if_neg hl, if_pos (Int32.not_le.mp hl), hg]
        · rw [if_neg hk, if_neg hk, hz]
      · rw [if_neg h0, if_neg h0, hz]
  · rw [if_neg (show ¬ b c = 0 by rw [hb]; decide), if_pos hb]
    by_cases hk : kd c = 0
    · rw [if_pos hk, if_pos hk, hg]
    · rw [if_neg hk, if_neg hk, hg]
theorem rl_k {nn : Nat} (hnn : nn ≤ 6) {kd fl lk v b t o t1 o1 : FnI} {ld : Nat → Int32 → Int32} (hb : ∀ c, c < 6 → b c = 0 ∨ b c = 1) (ho : ∀ c, 0 ≤ (o c).toInt) (htz : ∀ c, nn ≤ c → n6 t c = 0) (h : (t1, o1) = forX (nI nn) (rlF kd fl lk ld v b) 0 (t, o)) : n6 o1 = kO1 nn kd fl (n6 lk) ld (n6 v) (n6 b) (n6 o) ∧ n6 t1 = kT1 nn kd fl (n6 lk) ld (n6 v) (n6 b) (n6 o) := by
  rw [forX_0 (by omega)] at h
  have hi := forN_inv (f := fun j => rlF kd fl lk ld v b (nI j)) (n := nn) (st := (t, o)) (P := fun k st => (∀ c, n6 st.1 c = if c < k then -lsS kd fl (n6 lk) ld (n6 v) (n6 b) (n6 o) c else n6 t c) ∧ (∀ c, n6 st.2 c = if c < k then n6 o c - lsS kd fl (n6 lk) ld (n6 v) (n6 b) (n6 o) c else n6 o c)) ⟨fun c => by rw [if_neg (by omega)], fun c => by rw [if_neg (by omega)]⟩ (fun k st hk hp => ?_) nn (Nat.le_refl _)
  · rw [← h] at hi
    obtain ⟨h1, h2⟩ := hi
    refine ⟨funext fun c => h2 c, funext fun c => ?_⟩
    rw [h1 c]; unfold kT1
    by_cases hc : c < nn
    · rw [if_pos hc, if_pos hc]
    · rw [if_neg hc, if_neg hc, htz c (by omega)]
  · obtain ⟨h1, h2⟩ := hp
    have hk6 : k < 6 := by omega
    have e2 : st.2 k = n6 o k := by rw [← n6_at st.2 hk6, h2 k, if_neg (by omega)]
    have e3 : n6 o k = o k := n6_at o hk6
    have hr := rlF_eq (kd := kd) (fl := fl) (lk := lk) (v := v) (b := b) (ld := ld) (c := k) (st := st) hk6 (hb k hk6) (by rw [e2, e3]; exact ho k)
    rw [e2, ← n6_at lk hk6, ← n6_at v hk6, ← n6_at b hk6] at hr
    show (∀ c, n6 (rlF kd fl lk ld v b (nI k) st).1 c = _) ∧ (∀ c, n6 (rlF kd fl lk ld v b (nI k) st).2 c = _)
    rw [hr]
    refine ⟨fun c => ?_, fun c => ?_⟩
    · show n6 (upd st.1 k (-lsS kd fl (n6 lk) ld (n6 v) (n6 b) (n6 o) k)) c = _
      rw [n6_upd _ _ hk6]
      by_cases e : c = k
      · subst e; rw [pk_us, if_pos (by omega)]
      · rw [pk_un e, h1 c]
        by_cases hc : c < k
        · rw [if_pos hc, if_pos (show c < k + 1 by omega)]
        · rw [if_neg hc, if_neg (show ¬ c < k + 1 by omega)]
    · show n6 (upd st.2 k (n6 o k - lsS kd fl (n6 lk) ld (n6 v) (n6 b) (n6 o) k)) c = _
      rw [n6_upd _ _ hk6]
      by_cases e : c = k
      · subst e; rw [pk_us, if_pos (by omega)]
      · rw [pk_un e, h2 c]
        by_cases hc : c < k
        · rw [if_pos hc, if_pos (show c < k + 1 by omega)]
        · rw [if_neg hc, if_neg (show ¬ c < k + 1 by omega)]
-- (3) of the reference: the line
def rQX (nd : FnI) (cy x : Int32) (row : FnI) : FnI := gQU (fun y => nd y.toNatClampNeg) cy x.toNatClampNeg row
theorem rQX_0 {nd row : FnI} {cy x : Int32} (h0 : 0 ≤ x.toInt) (h : x ≤ 0) : rQX nd cy x row = upd row x.toNatClampNeg cy := by
  have e : x.toNatClampNeg = 0 := by
    rw [Int32.le_iff_toInt_le, Int32.toInt_zero] at h
    show x.toInt.toNat = 0; omega
  unfold rQX
  rw [e]; rfl
theorem rQX_le {nd row : FnI} {cy x : Int32} (h : ¬ x ≤ 0) (h2 : nd (row (x - 1).toNatClampNeg).toNatClampNeg ≤ nd cy.toNatClampNeg) : rQX nd cy x row = upd row x.toNatClampNeg cy := by
  obtain ⟨k, hk, e1, e2, e3, -⟩ := x_succ h
  rw [e3, nI_clamp (by omega)] at h2
  unfold rQX
  rw [e2]
  show (if nd (row k).toNatClampNeg ≤ nd cy.toNatClampNeg then upd row (k + 1) cy else _) = _
  rw [if_pos h2]
theorem rQX_gt {nd row : FnI} {cy x : Int32} (h : ¬ x ≤ 0) (h2 : ¬ nd (row (x - 1).toNatClampNeg).toNatClampNeg ≤ nd cy.toNatClampNeg) : rQX nd cy x row = rQX nd cy (x + -1) (upd row x.toNatClampNeg (row (x - 1).toNatClampNeg)) := by
  obtain ⟨k, hk, e1, e2, e3, e4⟩ := x_succ h
  rw [e3, nI_clamp (by omega)] at h2 ⊢
  unfold rQX
  rw [e2, e4, nI_clamp (by omega)]
  show (if nd (row k).toNatClampNeg ≤ nd cy.toNatClampNeg then upd row (k + 1) cy else gQU (fun y => nd y.toNatClampNeg) cy k (upd row (k + 1) (row k))) = _
  rw [if_neg h2]
abbrev FMt : Type := Int32 × FnI × FnI × FnI × FnI
def fmG (lim ndx x : Int32) (rmx ox vx bx : Int32) (fn fm fp : FnI) (st : FMt) : FMt := if vx = 1 then (if bx = 0 then (if rmx ≤ ox then (st.1, st.2.1, fn, fm, fp) else (if lim < ndx then (st.1, st.2.1, fn, fm, fp) else (st.1 + 1, rQX fn x st.1 st.2.1, fn, fm, fp))) else (st.1, st.2.1, fn, fm, fp)) else (st.1, st.2.1, fn, fm, fp)
def fmF (lim : Int32) (rm fl : FnI) (nd : Nat → Int32 → Int32) (v b o : FnI) (x : Int32) (st : FMt) : FMt := fmG lim (nd x.toNatClampNeg (o x.toNatClampNeg)) x (rm x.toNatClampNeg) (o x.toNatClampNeg) (v x.toNatClampNeg) (b x.toNatClampNeg) (upd st.2.2.1 x.toNatClampNeg (nd x.toNatClampNeg (o x.toNatClampNeg))) (upd st.2.2.2.1 x.toNatClampNeg (r_c_lesser (fl x.toNatClampNeg) (rm x.toNatClampNeg - o x.toNatClampNeg))) (upd st.2.2.2.2 x.toNatClampNeg 0) st
def FMP (lim : Int32) (rm fl : FnI) (nd : Nat → Int32 → Int32) (v b o : FnI) (k : Nat) (st : FMt) : Prop := st.1 = nI (lnR v b o rm (kND nd o) lim k).length ∧ RPR st.2.1 (lnR v b o rm (kND nd o) lim k) ∧ ∀ c, c < k → st.2.2.1 c = kND nd o c ∧ st.2.2.2.1 c = kMT fl rm o c ∧ st.2.2.2.2 c = 0
theorem fm_step {nn k : Nat} (hnn : nn ≤ 6) (hk : k < nn) {lim : Int32} {rm fl v b o : FnI} {nd : Nat → Int32 → Int32} {st : FMt} (hb : ∀ c, c < 6 → b c = 0 ∨ b c = 1) (hp : FMP lim rm fl nd (n6 v) (n6 b) (n6 o) k st) : FMP lim rm fl nd (n6 v) (n6 b) (n6 o) (k + 1) (fmF lim rm fl nd v b o (nI k) st) := by
  have hk6 : k < 6 := by omega
  obtain ⟨h1, h2, h3⟩ := hp
  have hlt : ∀ c ∈ lnR (n6 v) (n6 b) (n6 o) rm (kND nd (n6 o)) lim k, c < k := fun c hc => (lnR_mem k hc).1
  have hlen := lnR_len (v := n6 v) (b := n6 b) (o := n6 o) (rm := rm) (nd := kND nd (n6 o)) (lim := lim) k
  unfold fmF
  rw [nI_clamp (by omega), ← n6_at v hk6, ← n6_at o hk6]
  have hN : ∀ c, c < k + 1 → upd st.2.2.1 k (nd k (n6 o k)) c = kND nd (n6 o) c ∧ upd st.2.2.2.1 k (r_c_lesser (fl k) (rm k - n6 o k)) c = kMT fl rm (n6 o) c ∧ upd st.2.2.2.2 k 0 c = 0 := by
    intro c hc
    by_cases e : c = k
    · subst e; rw [pk_us, pk_us, pk_us, ← mn_lesser]; exact ⟨rfl, rfl, rfl⟩
    · rw [pk_un e, pk_un e, pk_un e]; exact h3 c (by omega)
  generalize upd st.2.2.1 k (nd k (n6 o k)) = fn at hN ⊢
  generalize upd st.2.2.2.1 k (r_c_lesser (fl k) (rm k - n6 o k)) = fm at hN ⊢
  generalize upd st.2.2.2.2 k 0 = fp at hN ⊢
  have hno : ¬ cdS (n6 v) (n6 b) (n6 o) rm (kND nd (n6 o)) lim k → FMP lim rm fl nd (n6 v) (n6 b) (n6 o) (k + 1) (st.1, st.2.1, fn, fm, fp) := by
    intro hc
    unfold FMP lnR
    rw [if_neg hc]
    exact ⟨h1, h2, hN⟩
  unfold fmG
  by_cases hv : n6 v k = 1
  · rw [if_pos hv]
    by_cases hbz : b k = 0
    · rw [if_pos hbz]
      have hb1 : ¬ n6 b k = 1 := by rw [n6_at b hk6, hbz]; decide
      by_cases hr : rm k ≤ n6 o k
      · rw [if_pos hr]; exact hno (fun hc => hc.2.2.1 hr)
      · rw [if_neg hr]
        by_cases hl : lim < nd k (n6 o k)
        · rw [if_pos hl]; exact hno (fun hc => absurd hc.2.2.2 (Int32.not_le.mpr hl))
        · rw [if_neg hl]
          have hc : cdS (n6 v) (n6 b) (n6 o) rm (kND nd (n6 o)) lim k := ⟨hv, hb1, hr, Int32.not_lt.mp hl⟩
          unfold FMP lnR
          rw [if_pos hc]
          refine ⟨?_, ?_, hN⟩
          · show st.1 + 1 = _
            rw [h1, insR_len, nI_1]
          · show RPR (rQX fn (nI k) st.1 st.2.1) _
            unfold rQX
            rw [h1, nI_clamp (by omega)]
            refine gQU_rpr ?_ _ _ (fun x hx => ?_) h2
            · show fn (nI k).toNatClampNeg = _
              rw [nI_clamp (by omega)]; exact (hN k (by omega)).1
            · have := hlt x hx
              show fn (nI x).toNatClampNeg = _
              rw [nI_clamp (by omega)]; exact (hN x (by omega)).1
    · rw [if_neg hbz]
      have hb1 : n6 b k = 1 := by rw [n6_at b hk6]; exact (hb k hk6).resolve_left hbz
      exact hno (fun hc => hc.2.1 hb1)
  · rw [if_neg hv]; exact hno (fun hc => hv hc.1)
theorem fm_k {nn : Nat} (hnn : nn ≤ 6) {lim : Int32} {rm fl v b o : FnI} {nd : Nat → Int32 → Int32} {r : FMt} {l0 fn0 fm0 fp0 : FnI} (hb : ∀ c, c < 6 → b c = 0 ∨ b c = 1) (h : r = forX (nI nn) (fmF lim rm fl nd v b o) 0 (0, l0, fn0, fm0, fp0)) : FMP lim rm fl nd (n6 v) (n6 b) (n6 o) nn r := by
  rw [forX_0 (by omega)] at h
  rw [h]
  exact forN_inv (P := fun k st => FMP lim rm fl nd (n6 v) (n6 b) (n6 o) k st) ⟨by rw [← nI_0]; rfl, trivial, fun c hc => by omega⟩ (fun k s hk hp => fm_step hnn hk hb hp) nn (Nat.le_refl _)
-- (3) of the reference: the pump
abbrev RPt : Type := Int32 × Int32 × Int32 × FnI × FnI × FnI × FnI
def rpG (nd : FnI) (c v : Int32) (st : RPt) : RPt := (st.1 - v, (if v ≤ 0 then st.2.1 else (if nd c.toNatClampNeg ≤ st.2.1 then st.2.1 else nd c.toNatClampNeg)), (if v ≤ 0 then st.2.2.1 else st.2.2.1 + 1), upd st.2.2.2.1 c.toNatClampNeg v, upd st.2.2.2.2.1 c.toNatClampNeg (st.2.2.2.2.1 c.toNatClampNeg + v), upd st.2.2.2.2.2.1 c.toNatClampNeg v, (if v ≤ 0 then st.2.2.2.2.2.2 else upd st.2.2.2.2.2.2 st.2.2.1.toNatClampNeg c))
def rpF (row mt nd : FnI) (x : Int32) (st : RPt) : RPt := rpG nd (row x.toNatClampNeg) (r_c_lesser (mt (row x.toNatClampNeg).toNatClampNeg) st.1) st
def ONM (L : List Nat) (fn fm nd mt : FnI) : Prop := ∀ c ∈ L, c < 6 ∧ fn c = nd c ∧ fm c = mt c
def RPP (L : List Nat) (k : Nat) (s : RPt) (s' : MSt) : Prop := s.1 = s'.1 ∧ s.2.1 = s'.2.2.1 ∧ s.2.2.1 = nI s'.2.1.length ∧ n6 s.2.2.2.1 = s'.2.2.2.1 ∧ n6 s.2.2.2.2.1 = s'.2.2.2.2.2 ∧ n6 s.2.2.2.2.2.1 = s'.2.2.2.2.1 ∧ REP s.2.2.2.2.2.2 s'.2.1 ∧ s'.2.1.length ≤ k
theorem rp_k {L : List Nat} (hL : L.length ≤ 6) {row fn fm nd mt pm o t mv : FnI} {gv : Int32} (hr : REP row L) (ho : ONM L fn fm nd mt) : RPP L L.length (forX (nI L.length) (rpF row fm fn) 0 (gv, 0, 0, pm, o, t, mv)) (L.foldl (mS mt nd) (gv, [], 0, n6 pm, n6 t, n6 o)) := by
  refine forX_list (Rel := RPP L) (by omega) ⟨rfl, rfl, by rw [← nI_0]; rfl, rfl, rfl, rfl, fun j x h => by simp at h, Nat.le_refl _⟩ (fun k c s s' hk hp => ?_)
  obtain ⟨h1, h2, h3, h4, h5, h6, h7, h8⟩ := hp
  have hc : c ∈ L := List.mem_of_getElem? hk
  obtain ⟨c6, n1, n2⟩ := ho c hc
  have hk6 : k < 6 := by have := (List.getElem?_eq_some_iff.mp hk).1; omega
  have e : row (nI k).toNatClampNeg = nI c := by rw [nI_clamp (by omega)]; exact hr k c hk
  have ec : (nI c).toNatClampNeg = c := nI_clamp (by omega)
  unfold rpF mS
  rw [e, ec, n2, h1]
  generalize r_c_lesser (mt c) s'.1 = v
  unfold rpG mG
  rw [ec, n1]
  refine ⟨?_, ?_, ?_, ?_, ?_, ?_, ?_, ?_⟩
  · show s.1 - v = s'.1 - v; rw [h1]
  · show (if v ≤ 0 then s.2.1 else _) = _; rw [h2]
  · show (if v ≤ 0 then s.2.2.1 else s.2.2.1 + 1) = nI (if v ≤ 0 then s'.2.1 else s'.2.1 ++ [c]).length
    by_cases hv : v ≤ 0
    · rw [if_pos hv, if_pos hv, h3]
    · rw [if_neg hv, if_neg hv, h3, nI_1, List.length_append]; rfl
  · show n6 (upd s.2.2.2.1 c v) = _; rw [n6_upd _ _ c6, h4]
  · show n6 (upd s.2.2.2.2.1 c (s.2.2.2.2.1 c + v)) = _; rw [n6_upd _ _ c6, ← n6_at s.2.2.2.2.1 c6, h5]
  · show n6 (upd s.2.2.2.2.2.1 c v) = _; rw [n6_upd _ _ c6, h6]
  · show REP (if v ≤ 0 then s.2.2.2.2.2.2 else upd s.2.2.2.2.2.2 s.2.2.1.toNatClampNeg (nI c)) (if v ≤ 0 then s'.2.1 else s'.2.1 ++ [c])
    by_cases hv : v ≤ 0
    · rw [if_pos hv, if_pos hv]; exact h7
    · rw [if_neg hv, if_neg hv, h3, nI_clamp (by omega)]; exact REP_push h7
  · show (if v ≤ 0 then s'.2.1 else s'.2.1 ++ [c]).length ≤ k + 1
    by_cases hv : v ≤ 0
    · rw [if_pos hv]; omega
    · rw [if_neg hv, List.length_append]; show s'.2.1.length + 1 ≤ k + 1; omega
-- the reference's sums, the store
def rhF (row pm fn : FnI) (p x : Int32) (st : Int64 × Int64) : Int64 × Int64 := (st.1 + (pm (row x.toNatClampNeg).toNatClampNeg).toInt64 * (p - fn (row x.toNatClampNeg).toNatClampNeg).toInt64, st.2 + (pm (row x.toNatClampNeg).toNatClampNeg).toInt64 * (fn (row x.toNatClampNeg).toNatClampNeg).toInt64)
theorem rh_k {L : List Nat} (hL : L.length ≤ 6) {row pm fn fm nd mt : FnI} {p : Int32} (hr : REP row L) (ho : ONM L fn fm nd mt) (st : Int64 × Int64) : forX (nI L.length) (rhF row pm fn p) 0 st = L.foldl (aS (n6 pm) nd p) st := by
  refine forX_list (Rel := fun _ s s' => s = s') (by omega) rfl (fun k c s s' hk hp => ?_)
  obtain ⟨c6, n1, -⟩ := ho c (List.mem_of_getElem? hk)
  have hk6 : k < 6 := by have := (List.getElem?_eq_some_iff.mp hk).1; omega
  have e : row (nI k).toNatClampNeg = nI c := by rw [nI_clamp (by omega)]; exact hr k c hk
  show rhF row pm fn p (nI k) s = aS (n6 pm) nd p s' c
  unfold rhF aS
  rw [e, nI_clamp (by omega), n1, ← n6_at pm c6, hp]
def rsG (c : Nat) (v : Int32) (st : SSt) : SSt := (st.1 - v, st.2.1 - v, upd st.2.2.1 c (st.2.2.1 c + v), upd st.2.2.2 c (st.2.2.2 c + v))
def rsF (row fm fn pm : FnI) (fst stf x : Int32) (st : SSt) : SSt := if fm (row x.toNatClampNeg).toNatClampNeg ≤ pm (row x.toNatClampNeg).toNatClampNeg then st else if fst + st.1 / stf < fn (row x.toNatClampNeg).toNatClampNeg then st else rsG (row x.toNatClampNeg).toNatClampNeg (r_c_lesser (fm (row x.toNatClampNeg).toNatClampNeg - pm (row x.toNatClampNeg).toNatClampNeg) st.1) st
theorem rs_k {L : List Nat} (hL : L.length ≤ 6) {row fn fm pm nd mt t o : FnI} {fst stf k0 s0 : Int32} (hs : 0 < stf) (hr : REP row L) (ho : ONM L fn fm nd mt) : TSR L.length (forX (nI L.length) (rsF row fm fn pm fst stf) 0 (k0, s0, t, o)) (L.foldl (mT mt nd (n6 pm) fst stf) (k0, s0, n6 t, n6 o)) := by
  refine forX_list (Rel := TSR) (by omega) ⟨rfl, rfl, rfl, rfl⟩ (fun k c s s' hk hp => ?_)
  obtain ⟨h1, h2, h3, h4⟩ := hp
  obtain ⟨c6, n1, n2⟩ := ho c (List.mem_of_getElem? hk)
  have hk6 : k < 6 := by have := (List.getElem?_eq_some_iff.mp hk).1; omega
  have e : row (nI k).toNatClampNeg = nI c := by rw [nI_clamp (by omega)]; exact hr k c hk
  unfold rsF mT
  rw [e, nI_clamp (by omega), n1, n2, h1, ← n6_at pm c6, show prS fst stf s'.1 = fst + s'.1 / stf from if_pos hs]
  by_cases hm : mt c ≤ n6 pm c
  · rw [if_pos hm, if_pos hm]; exact ⟨h1, h2, h3, h4⟩
  · rw [if_neg hm, if_neg hm]
    by_cases hv : fst + s'.1 / stf < nd c
    · rw [if_pos hv, if_pos hv]; exact ⟨h1, h2, h3, h4⟩
    · rw [if_neg hv, if_neg hv]
      generalize r_c_lesser (mt c - n6 pm c) s'.1 = v
      unfold rsG sG
      refine ⟨?_, ?_, ?_, ?_⟩
      · show s.1 - v = s'.1 - v; rw [h1]
      · show s.2.1 - v = s'.2.1 - v; rw [h2]
      · show n6 (upd s.2.2.1 c (s.2.2.1 c + v)) = _; rw [n6_upd _ _ c6, ← n6_at s.2.2.1 c6, h3]
      · show n6 (upd s.2.2.2 c (s.2.2.2 c + v)) = _; rw [n6_upd _ _ c6, ← n6_at s.2.2.2 c6, h4]
