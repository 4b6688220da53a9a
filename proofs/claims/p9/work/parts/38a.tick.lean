-- THE TICK in plain words: loops as functions, the line as a list, rows of six as functions that are 0 beyond
abbrev NC (cnt cy : Int32) : Prop := cy < 0 ∨ cnt ≤ cy
abbrev FnI : Type := Nat → Int32
def forI {S : Type} (b : Int32) (f : Int32 → S → S) : Nat → Int32 → S → S
  | 0, _, st => st
  | k + 1, x, st => if b ≤ x then st else forI b f k (x + 1) (f x st)
def forX {S : Type} (b : Int32) (f : Int32 → S → S) (x : Int32) (st : S) : S := forI b f (b.toInt - x.toInt).toNat x st
theorem forX_end {S : Type} {b x : Int32} {f : Int32 → S → S} {st : S} (h : b ≤ x) : forX b f x st = st := by
  unfold forX
  rw [Int32.le_iff_toInt_le] at h
  have e : (b.toInt - x.toInt).toNat = 0 := by omega
  rw [e]; rfl
theorem forX_step {S : Type} {b x : Int32} {f : Int32 → S → S} {st : S} (h : ¬ b ≤ x) : forX b f x st = forX b f (x + 1) (f x st) := by
  have h1 := inc_toInt h
  have h2 : x.toInt < b.toInt := by rw [Int32.le_iff_toInt_le] at h; omega
  unfold forX
  have e : (b.toInt - x.toInt).toNat = (b.toInt - (x + 1).toInt).toNat + 1 := by omega
  rw [e]
  show (if b ≤ x then st else forI b f (b.toInt - (x + 1).toInt).toNat (x + 1) (f x st)) = _
  rw [if_neg h]
theorem forX_back {S : Type} {b x : Int32} {f : Int32 → S → S} {st st' R : S} (h : ¬ b ≤ x) (e : st' = f x st) (hr : forX b f x st = R) : forX b f (x + 1) st' = R := by
  rw [e, ← forX_step h]; exact hr
theorem forX_out {S : Type} {b x : Int32} {f : Int32 → S → S} {st R : S} (h : b ≤ x) (hr : forX b f x st = R) : st = R := by
  rw [forX_end h] at hr; exact hr
def forN {S : Type} (f : Nat → S → S) : Nat → S → S
  | 0, st => st
  | k + 1, st => f k (forN f k st)
theorem forX_fwd {S : Type} {f : Int32 → S → S} {n : Nat} (hn : n < 2 ^ 31) (st : S) : ∀ d k : Nat, k + d = n → forX (nI n) f (nI k) (forN (fun j => f (nI j)) k st) = forN (fun j => f (nI j)) n st
  | 0, k, h => by
    have e : k = n := by omega
    subst e
    exact forX_end (nI_le (Nat.le_refl _) hn)
  | d + 1, k, h => by
    rw [forX_step (nI_ge (by omega) hn), nI_1]
    exact forX_fwd hn st d (k + 1) (by omega)
theorem forX_0 {S : Type} {f : Int32 → S → S} {n : Nat} (hn : n < 2 ^ 31) (st : S) : forX (nI n) f 0 st = forN (fun j => f (nI j)) n st := by
  have h := forX_fwd (f := f) hn st n 0 (by omega)
  rw [nI_0] at h; exact h
theorem forN_inv {S : Type} {f : Nat → S → S} {P : Nat → S → Prop} {n : Nat} {st : S} (h0 : P 0 st) (hs : ∀ k s, k < n → P k s → P (k + 1) (f k s)) : ∀ k, k ≤ n → P k (forN f k st)
  | 0, _ => h0
  | k + 1, h => hs k _ (by omega) (forN_inv h0 hs k (by omega))
theorem get_nI {n j : Nat} (f : FnI) (h : j < n) (hn : n < 2 ^ 31) : r_c_get n f (nI j) = f j := by
  unfold r_c_get
  rw [if_neg (nI_pos (by omega)), if_neg (show ¬ (Int32.ofNat n ≤ nI j) from nI_ge h hn), nI_clamp (by omega)]
theorem set_nI {n j : Nat} (f : FnI) (v : Int32) (h : j < n) (hn : n < 2 ^ 31) : r_c_set n f (nI j) v = upd f j v := by
  unfold r_c_set
  rw [if_neg (nI_pos (by omega)), if_neg (show ¬ (Int32.ofNat n ≤ nI j) from nI_ge h hn), nI_clamp (by omega)]
theorem in_nI {x : Int32} {n : Nat} (h : vp_in x n) : ∃ j : Nat, j < n ∧ x = nI j ∧ x.toNatClampNeg = j := by
  rw [vp_in_iff] at h
  have h1 := Int32.toInt_lt x
  refine ⟨x.toInt.toNat, by omega, ?_, rfl⟩
  exact Int32.toInt_inj.mp (by rw [nI_toInt (by omega)]; omega)
theorem get_in {n : Nat} {f : FnI} {x : Int32} (h : vp_in x n) (hn : n < 2 ^ 31) : r_c_get n f x = f x.toNatClampNeg := by
  obtain ⟨j, h1, h2, h3⟩ := in_nI h
  rw [h3, h2, get_nI f h1 hn]
theorem set_in {n : Nat} {f : FnI} {x v : Int32} (h : vp_in x n) (hn : n < 2 ^ 31) : r_c_set n f x v = upd f x.toNatClampNeg v := by
  obtain ⟨j, h1, h2, h3⟩ := in_nI h
  rw [h3, h2, set_nI f v h1 hn]
def n6 (f : FnI) : FnI := fun c => if c < 6 then f c else 0
theorem n6_at (f : FnI) {c : Nat} (h : c < 6) : n6 f c = f c := if_pos h
theorem n6_out (f : FnI) {c : Nat} (h : ¬ c < 6) : n6 f c = 0 := if_neg h
theorem n6_get (f : FnI) {c : Nat} (h : c < 6) : r_c_get 6 f (nI c) = n6 f c := by rw [get_nI f h (by decide), n6_at f h]
theorem n6_upd (f : FnI) {c : Nat} (v : Int32) (h : c < 6) : n6 (upd f c v) = upd (n6 f) c v := by
  funext j
  by_cases e : j = c
  · subst e; rw [n6_at _ h, pk_us, pk_us]
  · rw [pk_un e]
    by_cases h6 : j < 6
    · rw [n6_at _ h6, n6_at _ h6, pk_un e]
    · rw [n6_out _ h6, n6_out _ h6]
theorem n6_set (f : FnI) {c : Nat} (v : Int32) (h : c < 6) : n6 (r_c_set 6 f (nI c) v) = upd (n6 f) c v := by rw [set_nI f v h (by decide), n6_upd f v h]
def mnI (x y : Int32) : Int32 := if y < x then y else x
def mxI (x y : Int32) : Int32 := if x < y then y else x
def prS (fst stf k : Int32) : Int32 := if 0 < stf then fst + k / stf else fst
-- the line: last first
def insR (nd : FnI) (c : Nat) : List Nat → List Nat
  | [] => [c]
  | x :: xs => if nd x ≤ nd c then c :: x :: xs else x :: insR nd c xs
theorem insR_mem {nd : FnI} {c x : Nat} : ∀ R : List Nat, x ∈ insR nd c R ↔ x = c ∨ x ∈ R
  | [] => by simp [insR]
  | y :: ys => by
    unfold insR
    by_cases h : nd y ≤ nd c
    · rw [if_pos h, List.mem_cons]
    · rw [if_neg h, List.mem_cons, insR_mem ys, List.mem_cons]
      constructor
      · intro g; rcases g with g | g | g
        · exact Or.inr (Or.inl g)
        · exact Or.inl g
        · exact Or.inr (Or.inr g)
      · intro g; rcases g with g | g | g
        · exact Or.inr (Or.inl g)
        · exact Or.inl g
        · exact Or.inr (Or.inr g)
theorem insR_len {nd : FnI} {c : Nat} : ∀ R : List Nat, (insR nd c R).length = R.length + 1
  | [] => rfl
  | y :: ys => by
    unfold insR
    by_cases h : nd y ≤ nd c
    · rw [if_pos h]; rfl
    · rw [if_neg h, List.length_cons, insR_len ys, List.length_cons]
theorem insR_nodup {nd : FnI} {c : Nat} : ∀ R : List Nat, R.Nodup → ¬ c ∈ R → (insR nd c R).Nodup
  | [], _, _ => by simp [insR]
  | y :: ys, hn, hc => by
    unfold insR
    have hn2 := List.nodup_cons.mp hn
    have hc1 : ¬ c = y := fun e => hc (by rw [e]; simp)
    have hc2 : ¬ c ∈ ys := fun e => hc (List.mem_cons_of_mem _ e)
    by_cases h : nd y ≤ nd c
    · rw [if_pos h]; exact List.nodup_cons.mpr ⟨hc, hn⟩
    · rw [if_neg h]
      refine List.nodup_cons.mpr ⟨fun e => ?_, insR_nodup ys hn2.2 hc2⟩
      rcases (insR_mem ys).mp e with e | e
      · exact hc1 e.symm
      · exact hn2.1 e
abbrev cdS (v b o rm nd : FnI) (lim : Int32) (c : Nat) : Prop := v c = 1 ∧ ¬ b c = 1 ∧ ¬ rm c ≤ o c ∧ nd c ≤ lim
def lnR (v b o rm nd : FnI) (lim : Int32) : Nat → List Nat
  | 0 => []
  | k + 1 => if cdS v b o rm nd lim k then insR nd k (lnR v b o rm nd lim k) else lnR v b o rm nd lim k
theorem lnR_mem {v b o rm nd : FnI} {lim : Int32} {x : Nat} : ∀ k : Nat, x ∈ lnR v b o rm nd lim k → x < k ∧ cdS v b o rm nd lim x
  | 0, h => by simp [lnR] at h
  | k + 1, h => by
    unfold lnR at h
    by_cases hc : cdS v b o rm nd lim k
    · rw [if_pos hc] at h
      rcases (insR_mem _).mp h with e | e
      · subst e; exact ⟨by omega, hc⟩
      · have := lnR_mem k e; exact ⟨by omega, this.2⟩
    · rw [if_neg hc] at h
      have := lnR_mem k h; exact ⟨by omega, this.2⟩
theorem lnR_nodup {v b o rm nd : FnI} {lim : Int32} : ∀ k : Nat, (lnR v b o rm nd lim k).Nodup
  | 0 => by simp [lnR]
  | k + 1 => by
    unfold lnR
    by_cases hc : cdS v b o rm nd lim k
    · rw [if_pos hc]
      exact insR_nodup _ (lnR_nodup k) (fun e => by have := (lnR_mem k e).1; omega)
    · rw [if_neg hc]; exact lnR_nodup k
theorem lnR_len {v b o rm nd : FnI} {lim : Int32} : ∀ k : Nat, (lnR v b o rm nd lim k).length ≤ k
  | 0 => by simp [lnR]
  | k + 1 => by
    unfold lnR
    have := lnR_len (v := v) (b := b) (o := o) (rm := rm) (nd := nd) (lim := lim) k
    by_cases hc : cdS v b o rm nd lim k
    · rw [if_pos hc, insR_len]; omega
    · rw [if_neg hc]; omega
-- a row holds a list, last first
def RPR (row : FnI) : List Nat → Prop
  | [] => True
  | x :: xs => row xs.length = nI x ∧ RPR row xs
theorem RPR_upd {row : FnI} {k : Nat} {v : Int32} : ∀ R : List Nat, R.length ≤ k → RPR row R → RPR (upd row k v) R
  | [], _, _ => trivial
  | x :: xs, h, hr => by
    have h2 : xs.length + 1 ≤ k := h
    exact ⟨by rw [pk_un (by omega)]; exact hr.1, RPR_upd xs (by omega) hr.2⟩
def REP (row : FnI) (T : List Nat) : Prop := ∀ j x, T[j]? = some x → row j = nI x
theorem RPR_rep {row : FnI} : ∀ R : List Nat, RPR row R → REP row R.reverse
  | [], _ => fun j x h => by simp at h
  | y :: ys, hr => fun j x h => by
    rw [List.reverse_cons] at h
    by_cases hj : j < ys.length
    · rw [List.getElem?_append_left (by rw [List.length_reverse]; exact hj)] at h
      exact RPR_rep ys hr.2 j x h
    · rw [List.getElem?_append_right (by rw [List.length_reverse]; omega), List.length_reverse] at h
      by_cases e : j = ys.length
      · subst e
        rw [Nat.sub_self] at h
        have h2 : y = x := Option.some.inj h
        rw [← h2]; exact hr.1
      · obtain ⟨d, hd⟩ : ∃ d, j - ys.length = d + 1 := ⟨j - ys.length - 1, by omega⟩
        rw [hd] at h; simp at h
theorem REP_push {row : FnI} {T : List Nat} {c : Nat} (h : REP row T) : REP (upd row T.length (nI c)) (T ++ [c]) := by
  intro j x hj
  by_cases h1 : j < T.length
  · rw [List.getElem?_append_left h1] at hj
    rw [pk_un (by omega)]; exact h j x hj
  · rw [List.getElem?_append_right (by omega)] at hj
    by_cases e : j = T.length
    · subst e
      rw [Nat.sub_self] at hj
      have h2 : c = x := Option.some.inj hj
      rw [pk_us, h2]
    · obtain ⟨d, hd⟩ : ∃ d, j - T.length = d + 1 := ⟨j - T.length - 1, by omega⟩
      rw [hd] at hj; simp at hj
-- the queue
def gQU (ng : Int32 → Int32) (cy : Int32) : Nat → FnI → FnI
  | 0, row => upd row 0 cy
  | i + 1, row => if ng (row i) ≤ ng cy then upd row (i + 1) cy else gQU ng cy i (upd row (i + 1) (row i))
theorem gQU_hi {ng : Int32 → Int32} {cy : Int32} {j : Nat} : ∀ (i : Nat) (row : FnI), i < j → gQU ng cy i row j = row j
  | 0, row, h => pk_un (by omega)
  | i + 1, row, h => by
    show (if ng (row i) ≤ ng cy then upd row (i + 1) cy else gQU ng cy i (upd row (i + 1) (row i))) j = row j
    by_cases hc : ng (row i) ≤ ng cy
    · rw [if_pos hc, pk_un (by omega)]
    · rw [if_neg hc, gQU_hi i _ (by omega), pk_un (by omega)]
theorem gQU_rpr {ng : Int32 → Int32} {nd : FnI} {c : Nat} (hc : ng (nI c) = nd c) : ∀ (R : List Nat) (row : FnI), (∀ x ∈ R, ng (nI x) = nd x) → RPR row R → RPR (gQU ng (nI c) R.length row) (insR nd c R)
  | [], row, _, _ => ⟨pk_us, trivial⟩
  | x :: xs, row, hx, hr => by
    have e1 : row xs.length = nI x := hr.1
    have e2 : ng (nI x) = nd x := hx x (by simp)
    show RPR (if ng (row xs.length) ≤ ng (nI c) then upd row (xs.length + 1) (nI c) else gQU ng (nI c) xs.length (upd row (xs.length + 1) (row xs.length))) (if nd x ≤ nd c then c :: x :: xs else x :: insR nd c xs)
    rw [e1, e2, hc]
    by_cases h : nd x ≤ nd c
    · rw [if_pos h, if_pos h]
      exact ⟨pk_us, RPR_upd (x :: xs) (Nat.le_refl _) hr⟩
    · rw [if_neg h, if_neg h]
      refine ⟨?_, gQU_rpr hc xs _ (fun y hy => hx y (List.mem_cons_of_mem _ hy)) (RPR_upd xs (by omega) hr.2)⟩
      rw [insR_len, gQU_hi _ _ (by omega), pk_us]
def cQU (fn : FnI) (cy : Int32) : Nat → FnI → FnI
  | 0, row => r_c_set 6 row 0 cy
  | i + 1, row => if r_c_get 6 fn (r_c_get 6 row (nI i)) ≤ r_c_get 6 fn cy then r_c_set 6 row (nI (i + 1)) cy else cQU fn cy i (r_c_set 6 row (nI (i + 1)) (r_c_get 6 row (nI i)))
theorem cQU_g {fn : FnI} {cy : Int32} : ∀ (i : Nat) (row : FnI), i < 6 → cQU fn cy i row = gQU (r_c_get 6 fn) cy i row
  | 0, row, _ => by
    show r_c_set 6 row 0 cy = upd row 0 cy
    rw [← nI_0, set_nI row cy (by omega) (by decide)]
  | i + 1, row, h => by
    show (if r_c_get 6 fn (r_c_get 6 row (nI i)) ≤ r_c_get 6 fn cy then r_c_set 6 row (nI (i + 1)) cy else cQU fn cy i (r_c_set 6 row (nI (i + 1)) (r_c_get 6 row (nI i)))) = (if r_c_get 6 fn (row i) ≤ r_c_get 6 fn cy then upd row (i + 1) cy else gQU (r_c_get 6 fn) cy i (upd row (i + 1) (row i)))
    rw [get_nI row (by omega) (by decide), set_nI row _ h (by decide), set_nI row _ h (by decide), cQU_g i _ (by omega)]
def cQX (fn : FnI) (cy x : Int32) (row : FnI) : FnI := cQU fn cy x.toNatClampNeg row
theorem x_succ {x : Int32} (h : ¬ x ≤ 0) : ∃ k : Nat, k + 1 < 2 ^ 31 ∧ x = nI (k + 1) ∧ x.toNatClampNeg = k + 1 ∧ x - 1 = nI k ∧ x + -1 = nI k := by
  rw [Int32.le_iff_toInt_le, Int32.toInt_zero] at h
  have h1 := Int32.toInt_lt x
  have e : x = nI (x.toInt.toNat - 1 + 1) := Int32.toInt_inj.mp (by rw [nI_toInt (by omega)]; omega)
  have e2 : x - 1 = nI (x.toInt.toNat - 1) := by
    have := nI_pred (x.toInt.toNat - 1)
    rw [← e] at this; exact this
  refine ⟨x.toInt.toNat - 1, by omega, e, ?_, e2, ?_⟩
  · show x.toInt.toNat = _; omega
  · rw [← e2, Int32.sub_eq_add_neg]
theorem cQX_0 {fn row : FnI} {cy x : Int32} (h0 : 0 ≤ x.toInt) (h : x ≤ 0) : cQX fn cy x row = r_c_set 6 row x cy := by
  have e : x = 0 := by
    rw [Int32.le_iff_toInt_le, Int32.toInt_zero] at h
    exact Int32.toInt_inj.mp (by rw [Int32.toInt_zero]; omega)
  subst e
  unfold cQX
  rw [show (0 : Int32).toNatClampNeg = 0 from by decide]
  rfl
theorem cQX_le {fn row : FnI} {cy x : Int32} (h : ¬ x ≤ 0) (h2 : r_c_get 6 fn (r_c_get 6 row (x - 1)) ≤ r_c_get 6 fn cy) : cQX fn cy x row = r_c_set 6 row x cy := by
  obtain ⟨k, -, e1, e2, e3, -⟩ := x_succ h
  unfold cQX
  rw [e2]
  show (if r_c_get 6 fn (r_c_get 6 row (nI k)) ≤ r_c_get 6 fn cy then r_c_set 6 row (nI (k + 1)) cy else _) = _
  rw [← e3, if_pos h2, ← e1]
theorem cQX_gt {fn row : FnI} {cy x : Int32} (h : ¬ x ≤ 0) (h2 : ¬ r_c_get 6 fn (r_c_get 6 row (x - 1)) ≤ r_c_get 6 fn cy) : cQX fn cy x row = cQX fn cy (x + -1) (r_c_set 6 row x (r_c_get 6 row (x - 1))) := by
  obtain ⟨k, hk, e1, e2, e3, e4⟩ := x_succ h
  unfold cQX
  rw [e2, e4, nI_clamp (by omega)]
  show (if r_c_get 6 fn (r_c_get 6 row (nI k)) ≤ r_c_get 6 fn cy then r_c_set 6 row (nI (k + 1)) cy else cQU fn cy k (r_c_set 6 row (nI (k + 1)) (r_c_get 6 row (nI k)))) = _
  rw [← e3, if_neg h2, ← e1]
