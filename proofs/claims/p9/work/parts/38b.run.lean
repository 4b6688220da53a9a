-- a cylinder's numbers
def LDs (ar sk lc : Int32) (row : FnI) (o : Int32) : Int32 := if 0 < ar * sk then r_c_get 10 row (if lc - 1 < o * lc / (ar * sk) then lc - 1 else o * lc / (ar * sk)) else 0
def PUs (ar load : Int32) : Int32 := if 0 < ar then (load + ar - 1) / ar else 0
def NDs (kd ar sk lc cr : Int32) (row : FnI) (o : Int32) : Int32 := (if kd = 2 then (PUs ar (LDs ar sk lc row o) + 1) / 2 else PUs ar (LDs ar sk lc row o)) + cr
def pLD (ar sk lc : FnI) (rw_ : Nat → FnI) : Nat → Int32 → Int32 := fun c o => LDs (ar c) (sk c) (lc c) (rw_ c) o
def pND (kd ar sk lc cr : FnI) (rw_ : Nat → FnI) : Nat → Int32 → Int32 := fun c o => NDs (kd c) (ar c) (sk c) (lc c) (cr c) (rw_ c) o
-- loops over a list that a row holds
theorem forX_list {S S' : Type} {f : Int32 → S → S} {g : S' → Nat → S'} {Rel : Nat → S → S' → Prop} {L : List Nat} (hL : L.length < 2 ^ 31) {st : S} {st' : S'} (h0 : Rel 0 st st') (hs : ∀ k c s s', L[k]? = some c → Rel k s s' → Rel (k + 1) (f (nI k) s) (g s' c)) : Rel L.length (forX (nI L.length) f 0 st) (L.foldl g st') := by
  rw [forX_0 hL]
  have h : ∀ k, k ≤ L.length → Rel k (forN (fun j => f (nI j)) k st) ((L.take k).foldl g st') := by
    intro k
    induction k with
    | zero => intro _; exact h0
    | succ k ih =>
      intro hk
      have hk2 : k < L.length := by omega
      have e : L[k]? = some L[k] := List.getElem?_eq_getElem hk2
      have e2 : L.take (k + 1) = L.take k ++ [L[k]] := by rw [List.take_succ, e]; rfl
      rw [e2, List.foldl_append]
      exact hs k L[k] _ _ e (ih (by omega))
  have h2 := h L.length (Nat.le_refl _)
  rw [List.take_length] at h2
  exact h2
-- (2): what is lost
def mlX (kd fl lk ld v b : Int32) : Int32 := if b = 1 then (if kd = 0 then fl else 0) else if v = 2 then fl else if v = 0 then (if kd = 0 then (if 0 < ld then lk else 0) else 0) else 0
def lsS (kd fl lk : FnI) (ld : Nat → Int32 → Int32) (v b o : FnI) (c : Nat) : Int32 := mnI (o c) (mlX (kd c) (fl c) (lk c) (ld c (o c)) (v c) (b c))
def kO1 (nn : Nat) (kd fl lk : FnI) (ld : Nat → Int32 → Int32) (v b o : FnI) : FnI := fun c => if c < nn then o c - lsS kd fl lk ld v b o c else o c
def kT1 (nn : Nat) (kd fl lk : FnI) (ld : Nat → Int32 → Int32) (v b o : FnI) : FnI := fun c => if c < nn then -lsS kd fl lk ld v b o c else 0
def drG (ls x : Int32) (st : FnI × FnI) : FnI × FnI := (r_c_set 6 st.1 x (-ls), r_c_set 6 st.2 x (r_c_get 6 st.2 x - ls))
def drF (cnt : Int32) (kd fl : FnI) (ld : Nat → Int32 → Int32) (fv fb flk : FnI) (x : Int32) (st : FnI × FnI) : FnI × FnI := if NC cnt x then (r_c_set 6 st.1 x 0, st.2) else drG (mnI (r_c_get 6 st.2 x) (mlX (kd x.toNatClampNeg) (fl x.toNatClampNeg) (r_c_get 6 flk x) (ld x.toNatClampNeg (r_c_get 6 st.2 x)) (r_c_get 6 fv x) (r_c_get 6 fb x))) x st
theorem nc_nI {n k : Nat} (hn : n ≤ 6) (hk : k < 6) : NC (nI n) (nI k) ↔ n ≤ k := by
  constructor
  · intro h
    rcases h with h | h
    · exact absurd h (nI_pos (by omega))
    · rw [nI_leI (by omega) (by omega)] at h; exact h
  · intro h; exact Or.inr (nI_le h (by omega))
theorem dr_k {nn : Nat} (hnn : nn ≤ 6) {kd fl fv fb flk ft fo t1 o1 : FnI} {ld : Nat → Int32 → Int32} (h : (t1, o1) = forX 6 (drF (nI nn) kd fl ld fv fb flk) 0 (ft, fo)) : n6 o1 = kO1 nn kd fl (n6 flk) ld (n6 fv) (n6 fb) (n6 fo) ∧ n6 t1 = kT1 nn kd fl (n6 flk) ld (n6 fv) (n6 fb) (n6 fo) := by
  rw [show (6 : Int32) = nI 6 from by decide, forX_0 (by decide)] at h
  have hi := forN_inv (f := fun j => drF (nI nn) kd fl ld fv fb flk (nI j)) (n := 6) (st := (ft, fo)) (P := fun k st => (∀ c, n6 st.1 c = if c < k then (if c < nn then -lsS kd fl (n6 flk) ld (n6 fv) (n6 fb) (n6 fo) c else 0) else n6 ft c) ∧ (∀ c, n6 st.2 c = if c < k then kO1 nn kd fl (n6 flk) ld (n6 fv) (n6 fb) (n6 fo) c else n6 fo c)) ⟨fun c => by rw [if_neg (by omega)], fun c => by rw [if_neg (by omega)]⟩ (fun k st hk hp => ?_) 6 (Nat.le_refl _)
  · rw [← h] at hi
    obtain ⟨h1, h2⟩ := hi
    refine ⟨funext fun c => ?_, funext fun c => ?_⟩
    · rw [h2 c]
      by_cases hc : c < 6
      · rw [if_pos hc]
      · rw [if_neg hc]; unfold kO1; rw [if_neg (by omega)]
    · rw [h1 c]; unfold kT1
      by_cases hc : c < 6
      · rw [if_pos hc]
      · rw [if_neg hc, n6_out _ hc, if_neg (by omega)]
  · obtain ⟨h1, h2⟩ := hp
    have e2 : n6 st.2 k = n6 fo k := by rw [h2 k, if_neg (by omega)]
    show (∀ c, n6 (drF (nI nn) kd fl ld fv fb flk (nI k) st).1 c = _) ∧ (∀ c, n6 (drF (nI nn) kd fl ld fv fb flk (nI k) st).2 c = _)
    unfold drF
    by_cases hn : NC (nI nn) (nI k)
    · have hn2 := (nc_nI hnn hk).mp hn
      rw [if_pos hn]
      refine ⟨fun c => ?_, fun c => ?_⟩
      · show n6 (r_c_set 6 st.1 (nI k) 0) c = _
        rw [n6_set _ _ hk]
        by_cases e : c = k
        · subst e; rw [pk_us, if_pos (by omega), if_neg (by omega)]
        · rw [pk_un e, h1 c]
          by_cases hc : c < k
          · rw [if_pos hc, if_pos (show c < k + 1 by omega)]
          · rw [if_neg hc, if_neg (by omega)]
      · show n6 st.2 c = _
        rw [h2 c]
        by_cases hc : c < k
        · rw [if_pos hc, if_pos (by omega)]
        · rw [if_neg hc]
          by_cases e : c = k
          · subst e; rw [if_pos (by omega)]; unfold kO1; rw [if_neg (by omega)]
          · rw [if_neg (by omega)]
    · have hn2 : k < nn := by
        have := mt (nc_nI hnn hk).mpr hn
        omega
      rw [if_neg hn, n6_get _ hk, n6_get _ hk, n6_get _ hk, n6_get _ hk, e2, nI_clamp (by omega)]
      show (∀ c, n6 (r_c_set 6 st.1 (nI k) (-lsS kd fl (n6 flk) ld (n6 fv) (n6 fb) (n6 fo) k)) c = _) ∧ (∀ c, n6 (r_c_set 6 st.2 (nI k) (r_c_get 6 st.2 (nI k) - lsS kd fl (n6 flk) ld (n6 fv) (n6 fb) (n6 fo) k)) c = _)
      rw [n6_get _ hk, n6_set _ _ hk, n6_set _ _ hk, e2]
      refine ⟨fun c => ?_, fun c => ?_⟩
      · by_cases e : c = k
        · subst e; rw [pk_us, if_pos (by omega), if_pos hn2]
        · rw [pk_un e, h1 c]
          by_cases hc : c < k
          · rw [if_pos hc, if_pos (show c < k + 1 by omega)]
          · rw [if_neg hc, if_neg (by omega)]
      · by_cases e : c = k
        · subst e; rw [pk_us, if_pos (by omega)]; unfold kO1; rw [if_pos hn2]
        · rw [pk_un e, h2 c]
          by_cases hc : c < k
          · rw [if_pos hc, if_pos (by omega)]
          · rw [if_neg hc, if_neg (by omega)]
-- (3): the line
def luG (lim x rmx ox : Int32) (fn fm : FnI) (st : Int32 × FnI × FnI × FnI) : Int32 × FnI × FnI × FnI := if rmx ≤ ox then (st.1, st.2.1, fn, fm) else if lim < r_c_get 6 fn x then (st.1, st.2.1, fn, fm) else (st.1 + 1, cQX fn x st.1 st.2.1, fn, fm)
def luF (cnt lim : Int32) (rm fl : FnI) (nd : Nat → Int32 → Int32) (fv fb fo : FnI) (x : Int32) (st : Int32 × FnI × FnI × FnI) : Int32 × FnI × FnI × FnI := if NC cnt x then st else if r_c_get 6 fv x = 1 then (if r_c_get 6 fb x = 1 then st else luG lim x (rm x.toNatClampNeg) (r_c_get 6 fo x) (r_c_set 6 st.2.2.1 x (nd x.toNatClampNeg (r_c_get 6 fo x))) (r_c_set 6 st.2.2.2 x (mnI (fl x.toNatClampNeg) (rm x.toNatClampNeg - r_c_get 6 fo x))) st) else st
def kND (nd : Nat → Int32 → Int32) (o : FnI) : FnI := fun c => nd c (o c)
def kMT (fl rm o : FnI) : FnI := fun c => mnI (fl c) (rm c - o c)
def LUP (lim : Int32) (rm fl : FnI) (nd : Nat → Int32 → Int32) (v b o : FnI) (k : Nat) (st : Int32 × FnI × FnI × FnI) : Prop := st.1 = nI (lnR v b o rm (kND nd o) lim k).length ∧ RPR st.2.1 (lnR v b o rm (kND nd o) lim k) ∧ ∀ c ∈ lnR v b o rm (kND nd o) lim k, n6 st.2.2.1 c = kND nd o c ∧ n6 st.2.2.2 c = kMT fl rm o c
theorem lu_step {nn k : Nat} (hnn : nn ≤ 6) (hk : k < nn) {lim : Int32} {rm fl fv fb fo : FnI} {nd : Nat → Int32 → Int32} {st : Int32 × FnI × FnI × FnI} (hp : LUP lim rm fl nd (n6 fv) (n6 fb) (n6 fo) k st) : LUP lim rm fl nd (n6 fv) (n6 fb) (n6 fo) (k + 1) (luF (nI nn) lim rm fl nd fv fb fo (nI k) st) := by
  have hk6 : k < 6 := by omega
  obtain ⟨h1, h2, h3⟩ := hp
  have hlt : ∀ c ∈ lnR (n6 fv) (n6 fb) (n6 fo) rm (kND nd (n6 fo)) lim k, c < k := fun c hc => (lnR_mem k hc).1
  have hlen := lnR_len (v := n6 fv) (b := n6 fb) (o := n6 fo) (rm := rm) (nd := kND nd (n6 fo)) (lim := lim) k
  have hno : ∀ {st' : Int32 × FnI × FnI × FnI}, ¬ cdS (n6 fv) (n6 fb) (n6 fo) rm (kND nd (n6 fo)) lim k → st'.1 = st.1 → st'.2.1 = st.2.1 → (∀ c, c < k → n6 st'.2.2.1 c = n6 st.2.2.1 c) → (∀ c, c < k → n6 st'.2.2.2 c = n6 st.2.2.2 c) → LUP lim rm fl nd (n6 fv) (n6 fb) (n6 fo) (k + 1) st' := by
    intro st' hc e1 e2 e3 e4
    unfold LUP lnR
    rw [if_neg hc, e1, e2]
    exact ⟨h1, h2, fun c hm => by rw [e3 c (hlt c hm), e4 c (hlt c hm)]; exact h3 c hm⟩
  unfold luF
  rw [if_neg (fun h => by have := (nc_nI hnn hk6).mp h; omega), n6_get _ hk6, n6_get _ hk6, n6_get _ hk6, nI_clamp (by omega)]
  by_cases hv : n6 fv k = 1
  · rw [if_pos hv]
    by_cases hb : n6 fb k = 1
    · rw [if_pos hb]
      exact hno (fun hc => hc.2.1 hb) rfl rfl (fun _ _ => rfl) (fun _ _ => rfl)
    · rw [if_neg hb]
      unfold luG
      have u1 : ∀ (f : FnI) (w : Int32) (c : Nat), c < k → n6 (r_c_set 6 f (nI k) w) c = n6 f c := fun f w c hc => by rw [n6_set f w hk6, pk_un (by omega)]
      have u2 : ∀ (f : FnI) (w : Int32), n6 (r_c_set 6 f (nI k) w) k = w := fun f w => by rw [n6_set f w hk6, pk_us]
      by_cases hr : rm k ≤ n6 fo k
      · rw [if_pos hr]
        exact hno (fun hc => hc.2.2.1 hr) rfl rfl (u1 _ _) (u1 _ _)
      · rw [if_neg hr, n6_get _ hk6, u2]
        by_cases hl : lim < nd k (n6 fo k)
        · rw [if_pos hl]
          exact hno (fun hc => absurd hc.2.2.2 (Int32.not_le.mpr hl)) rfl rfl (u1 _ _) (u1 _ _)
        · rw [if_neg hl]
          have hc : cdS (n6 fv) (n6 fb) (n6 fo) rm (kND nd (n6 fo)) lim k := ⟨hv, hb, hr, Int32.not_lt.mp hl⟩
          unfold LUP lnR
          rw [if_pos hc]
          dsimp only
          refine ⟨by rw [h1, insR_len, nI_1], ?_, fun c hm => ?_⟩
          · unfold cQX
            rw [h1, nI_clamp (by omega), cQU_g _ _ (by omega)]
            refine gQU_rpr ?_ _ _ (fun x hx => ?_) h2
            · rw [n6_get _ hk6, u2]; rfl
            · rw [n6_get _ (by have := hlt x hx; omega), u1 _ _ _ (hlt x hx)]; exact (h3 x hx).1
          · rcases (insR_mem _).mp hm with e | e
            · subst e; rw [u2, u2]; exact ⟨rfl, rfl⟩
            · rw [u1 _ _ _ (hlt c e), u1 _ _ _ (hlt c e)]; exact h3 c e
  · rw [if_neg hv]
    exact hno (fun hc => hv hc.1) rfl rfl (fun _ _ => rfl) (fun _ _ => rfl)
theorem lu_k {nn : Nat} (hnn : nn ≤ 6) {lim mov : Int32} {rm fl fv fb fo l0 fn0 fm0 ln fn fm : FnI} {nd : Nat → Int32 → Int32} (h : (mov, ln, fn, fm) = forX (nI nn) (luF (nI nn) lim rm fl nd fv fb fo) 0 (0, l0, fn0, fm0)) : LUP lim rm fl nd (n6 fv) (n6 fb) (n6 fo) nn (mov, ln, fn, fm) := by
  rw [forX_0 (by omega)] at h
  rw [h]
  exact forN_inv (P := fun k st => LUP lim rm fl nd (n6 fv) (n6 fb) (n6 fo) k st) ⟨by rw [← nI_0]; rfl, trivial, fun c hc => by simp [lnR] at hc⟩ (fun k s hk hp => lu_step hnn hk hp) nn (Nat.le_refl _)
-- (3): the pump
abbrev PSt : Type := Int32 × List Nat × Int32 × FnI × FnI
def pG (nd : FnI) (x : Int32) (st : PSt) (c : Nat) : PSt := if x ≤ 0 then st else (st.1 - x, st.2.1 ++ [c], mxI st.2.2.1 (nd c), upd st.2.2.2.1 c (st.2.2.2.1 c + x), upd st.2.2.2.2 c (st.2.2.2.2 c + x))
def pS (mt nd : FnI) (st : PSt) (c : Nat) : PSt := pG nd (mnI (mt c) st.1) st c
abbrev TPt : Type := Int32 × Int32 × FnI × FnI × FnI × Int32
def tpG (fn : FnI) (c v : Int32) (st : TPt) : TPt := if v ≤ 0 then st else (st.1 + 1, (if st.2.1 < r_c_get 6 fn c then r_c_get 6 fn c else st.2.1), r_c_set 6 st.2.2.1 c (r_c_get 6 st.2.2.1 c + v), r_c_set 6 st.2.2.2.1 st.1 c, r_c_set 6 st.2.2.2.2.1 c (r_c_get 6 st.2.2.2.2.1 c + v), st.2.2.2.2.2 - v)
def tpF (ln fm fn : FnI) (x : Int32) (st : TPt) : TPt := tpG fn (r_c_get 6 ln x) (if st.2.2.2.2.2 < r_c_get 6 fm (r_c_get 6 ln x) then st.2.2.2.2.2 else r_c_get 6 fm (r_c_get 6 ln x)) st
def ONL (L : List Nat) (fn fm nd mt : FnI) : Prop := ∀ c ∈ L, c < 6 ∧ n6 fn c = nd c ∧ n6 fm c = mt c
def TPR (L : List Nat) (k : Nat) (s : TPt) (s' : PSt) : Prop := s.2.2.2.2.2 = s'.1 ∧ s.1 = nI s'.2.1.length ∧ REP s.2.2.2.1 s'.2.1 ∧ s.2.1 = s'.2.2.1 ∧ n6 s.2.2.1 = s'.2.2.2.1 ∧ n6 s.2.2.2.2.1 = s'.2.2.2.2 ∧ s'.2.1.length ≤ k ∧ ∀ c ∈ s'.2.1, c ∈ L
theorem tp_k {L : List Nat} (hL : L.length ≤ 6) {ln fn fm nd mt t1 fk o1 : FnI} {gv : Int32} (hr : REP ln L) (ho : ONL L fn fm nd mt) : TPR L L.length (forX (nI L.length) (tpF ln fm fn) 0 (0, 0, t1, fk, o1, gv)) (L.foldl (pS mt nd) (gv, [], 0, n6 t1, n6 o1)) := by
  refine forX_list (Rel := TPR L) (by omega) ⟨rfl, by rw [← nI_0]; rfl, fun j x h => by simp at h, rfl, rfl, rfl, Nat.le_refl _, fun c h => by simp at h⟩ (fun k c s s' hk hp => ?_)
  obtain ⟨h1, h2, h3, h4, h5, h6, h7, h8⟩ := hp
  have hc : c ∈ L := List.mem_of_getElem? hk
  obtain ⟨c6, n1, n2⟩ := ho c hc
  have hk6 : k < 6 := by have := (List.getElem?_eq_some_iff.mp hk).1; omega
  have e : r_c_get 6 ln (nI k) = nI c := by rw [get_nI ln hk6 (by decide)]; exact hr k c hk
  unfold tpF pS
  rw [e, n6_get _ c6, n2, h1, show (if s'.1 < mt c then s'.1 else mt c) = mnI (mt c) s'.1 from rfl]
  generalize mnI (mt c) s'.1 = v
  unfold tpG pG
  by_cases hv : v ≤ 0
  · rw [if_pos hv, if_pos hv]
    exact ⟨h1, h2, h3, h4, h5, h6, by omega, h8⟩
  · rw [if_neg hv, if_neg hv]
    refine ⟨?_, ?_, ?_, ?_, ?_, ?_, ?_, ?_⟩
    · show s.2.2.2.2.2 - v = s'.1 - v; rw [h1]
    · show s.1 + 1 = nI (s'.2.1 ++ [c]).length; rw [h2, nI_1, List.length_append]; rfl
    · show REP (r_c_set 6 s.2.2.2.1 s.1 (nI c)) (s'.2.1 ++ [c])
      rw [h2, set_nI _ _ (by omega) (by decide)]; exact REP_push h3
    · show (if s.2.1 < r_c_get 6 fn (nI c) then r_c_get 6 fn (nI c) else s.2.1) = mxI s'.2.2.1 (nd c)
      rw [n6_get _ c6, n1, h4]; rfl
    · show n6 (r_c_set 6 s.2.2.1 (nI c) (r_c_get 6 s.2.2.1 (nI c) + v)) = upd s'.2.2.2.1 c (s'.2.2.2.1 c + v)
      rw [n6_set _ _ c6, n6_get _ c6, h5]
    · show n6 (r_c_set 6 s.2.2.2.2.1 (nI c) (r_c_get 6 s.2.2.2.2.1 (nI c) + v)) = upd s'.2.2.2.2 c (s'.2.2.2.2 c + v)
      rw [n6_set _ _ c6, n6_get _ c6, h6]
    · show (s'.2.1 ++ [c]).length ≤ k + 1
      rw [List.length_append]; show s'.2.1.length + 1 ≤ k + 1; omega
    · intro x hx
      rcases List.mem_append.mp hx with hx | hx
      · exact h8 x hx
      · have : x = c := by simpa using hx
        rw [this]; exact hc
-- the sums
def aS (t nd : FnI) (p : Int32) (st : Int64 × Int64) (c : Nat) : Int64 × Int64 := (st.1 + (t c).toInt64 * (p - nd c).toInt64, st.2 + (t c).toInt64 * (nd c).toInt64)
def auF (fk ft fn : FnI) (p x : Int32) (st : Int64 × Int64) : Int64 × Int64 := (st.1 + (r_c_get 6 ft (r_c_get 6 fk x)).toInt64 * (p - r_c_get 6 fn (r_c_get 6 fk x)).toInt64, st.2 + (r_c_get 6 ft (r_c_get 6 fk x)).toInt64 * (r_c_get 6 fn (r_c_get 6 fk x)).toInt64)
theorem au_k {T : List Nat} (hL : T.length ≤ 6) {fk ft fn nd : FnI} {p : Int32} (hr : REP fk T) (ho : ∀ c ∈ T, c < 6 ∧ n6 fn c = nd c) (st : Int64 × Int64) : forX (nI T.length) (auF fk ft fn p) 0 st = T.foldl (aS (n6 ft) nd p) st := by
  refine forX_list (Rel := fun _ s s' => s = s') (by omega) rfl (fun k c s s' hk hp => ?_)
  obtain ⟨c6, n1⟩ := ho c (List.mem_of_getElem? hk)
  have hk6 : k < 6 := by have := (List.getElem?_eq_some_iff.mp hk).1; omega
  have e : r_c_get 6 fk (nI k) = nI c := by rw [get_nI fk hk6 (by decide)]; exact hr k c hk
  show auF fk ft fn p (nI k) s = aS (n6 ft) nd p s' c
  unfold auF aS
  rw [e, n6_get _ c6, n6_get _ c6, n1, hp]
-- (5): the store gives
abbrev SSt : Type := Int32 × Int32 × FnI × FnI
def sG (x : Int32) (st : SSt) (c : Nat) : SSt := (st.1 - x, st.2.1 - x, upd st.2.2.1 c (st.2.2.1 c + x), upd st.2.2.2 c (st.2.2.2 c + x))
def sS (mt nd : FnI) (fst stf : Int32) (st : SSt) (c : Nat) : SSt := if prS fst stf st.1 < nd c then st else sG (mnI (mt c - st.2.2.1 c) st.1) st c
def tsG (c v : Int32) (st : SSt) : SSt := (st.1 - v, st.2.1 - v, r_c_set 6 st.2.2.1 c (r_c_get 6 st.2.2.1 c + v), r_c_set 6 st.2.2.2 c (r_c_get 6 st.2.2.2 c + v))
def tsF (ln fm fn : FnI) (fst stf x : Int32) (st : SSt) : SSt := if prS fst stf st.1 < r_c_get 6 fn (r_c_get 6 ln x) then st else tsG (r_c_get 6 ln x) (if st.1 < r_c_get 6 fm (r_c_get 6 ln x) - r_c_get 6 st.2.2.1 (r_c_get 6 ln x) then st.1 else r_c_get 6 fm (r_c_get 6 ln x) - r_c_get 6 st.2.2.1 (r_c_get 6 ln x)) st
def TSR (_ : Nat) (s s' : SSt) : Prop := s.1 = s'.1 ∧ s.2.1 = s'.2.1 ∧ n6 s.2.2.1 = s'.2.2.1 ∧ n6 s.2.2.2 = s'.2.2.2
theorem ts_k {L : List Nat} (hL : L.length ≤ 6) {ln fn fm nd mt t o : FnI} {fst stf k0 s0 : Int32} (hr : REP ln L) (ho : ONL L fn fm nd mt) : TSR L.length (forX (nI L.length) (tsF ln fm fn fst stf) 0 (k0, s0, t, o)) (L.foldl (sS mt nd fst stf) (k0, s0, n6 t, n6 o)) := by
  refine forX_list (Rel := TSR) (by omega) ⟨rfl, rfl, rfl, rfl⟩ (fun k c s s' hk hp => ?_)
  obtain ⟨h1, h2, h3, h4⟩ := hp
  obtain ⟨c6, n1, n2⟩ := ho c (List.mem_of_getElem? hk)
  have hk6 : k < 6 := by have := (List.getElem?_eq_some_iff.mp hk).1; omega
  have e : r_c_get 6 ln (nI k) = nI c := by rw [get_nI ln hk6 (by decide)]; exact hr k c hk
  unfold tsF sS
  rw [e, n6_get _ c6, n6_get _ c6, n6_get _ c6, n1, n2, h1, h3]
  by_cases hv : prS fst stf s'.1 < nd c
  · rw [if_pos hv, if_pos hv]
    exact ⟨h1, h2, h3, h4⟩
  · rw [if_neg hv, if_neg hv, show (if s'.1 < mt c - s'.2.2.1 c then s'.1 else mt c - s'.2.2.1 c) = mnI (mt c - s'.2.2.1 c) s'.1 from rfl]
    generalize mnI (mt c - s'.2.2.1 c) s'.1 = v
    unfold tsG sG
    refine ⟨?_, ?_, ?_, ?_⟩
    · show s.1 - v = s'.1 - v; rw [h1]
    · show s.2.1 - v = s'.2.1 - v; rw [h2]
    · show n6 (r_c_set 6 s.2.2.1 (nI c) (r_c_get 6 s.2.2.1 (nI c) + v)) = upd s'.2.2.1 c (s'.2.2.1 c + v)
      rw [n6_set _ _ c6, n6_get _ c6, h3]
    · show n6 (r_c_set 6 s.2.2.2 (nI c) (r_c_get 6 s.2.2.2 (nI c) + v)) = upd s'.2.2.2 c (s'.2.2.2 c + v)
      rw [n6_set _ _ c6, n6_get _ c6, h4]
-- all of it
abbrev PZ : Type := Nat × (Int32 × Int32 × Int32 × Int32 × Int32) × FnI × FnI × FnI × FnI × (Nat → Int32 → Int32) × (Nat → Int32 → Int32)
abbrev XO : Type := FnI × FnI × Int32 × Int32 × Int32 × Int32 × Int64 × Int64 × Int64
def kSk (lim cap own left sol : Int32) : Int32 := if lim < own then 0 else mnI left (cap - sol)
def kPr (lim p0 own sk ov : Int32) : Int32 := if ov ≤ 0 then (if sk ≤ 0 then p0 else mxI p0 own) else lim
def kE3 (gv lim own left sk pr : Int32) (s : SSt) (h : Int64 × Int64) (gn : Int64) : XO := (s.2.2.2, s.2.2.1, s.1, pr, left - sk, s.2.1, h.1 + sk.toInt64 * (pr - own).toInt64 + (left - sk).toInt64 * lim.toInt64, h.2, gn + gv.toInt64 * pr.toInt64)
def kE2 (L : List Nat) (mt nd : FnI) (gv lim fst stf own : Int32) (p : PSt) (sk pr sol : Int32) (ht wk gn : Int64) : XO := kE3 gv lim own p.1 sk pr (if p.1 = 0 then L.foldl (sS mt nd fst stf) (sol + sk, sk, p.2.2.2.1, p.2.2.2.2) else (sol + sk, sk, p.2.2.2.1, p.2.2.2.2)) (p.2.1.foldl (aS p.2.2.2.1 nd pr) (ht, wk)) gn
def kE1 (L : List Nat) (mt nd : FnI) (gv lim fst stf own : Int32) (p : PSt) (sk sol : Int32) (ht wk gn : Int64) : XO := kE2 L mt nd gv lim fst stf own p sk (kPr lim p.2.2.1 own sk (p.1 - sk)) sol ht wk gn
def kE0 (L : List Nat) (mt nd : FnI) (gv lim cap fst stf : Int32) (p : PSt) (sol : Int32) (ht wk gn : Int64) : XO × List Nat := (kE1 L mt nd gv lim fst stf (prS fst stf sol) p (kSk lim cap (prS fst stf sol) p.1 sol) sol ht wk gn, p.2.1)
def kR3 (L : List Nat) (mt nd : FnI) (gv lim cap fst stf : Int32) (t1 o1 : FnI) (sol : Int32) (ht wk gn : Int64) : XO × List Nat := kE0 L mt nd gv lim cap fst stf (L.foldl (pS mt nd) (gv, [], 0, t1, o1)) sol ht wk gn
def kR2 (z : PZ) (v b o1 t1 : FnI) (sol : Int32) (ht wk gn : Int64) : XO × List Nat := kR3 (lnR v b o1 z.2.2.1 (kND z.2.2.2.2.2.2.2 o1) z.2.1.2.1 z.1).reverse (kMT z.2.2.2.1 z.2.2.1 o1) (kND z.2.2.2.2.2.2.2 o1) z.2.1.1 z.2.1.2.1 z.2.1.2.2.1 z.2.1.2.2.2.1 z.2.1.2.2.2.2 t1 o1 sol ht wk gn
def kRUN (z : PZ) (v b o : FnI) (sol : Int32) (ht wk gn : Int64) : XO × List Nat := kR2 z v b (kO1 z.1 z.2.2.2.2.1 z.2.2.2.1 z.2.2.2.2.2.1 z.2.2.2.2.2.2.1 v b o) (kT1 z.1 z.2.2.2.2.1 z.2.2.2.1 z.2.2.2.2.2.1 z.2.2.2.2.2.2.1 v b o) sol ht wk gn
def TKL (tks : Int32) (fk : FnI) (T : List Nat) : Prop := tks = nI T.length ∧ REP fk T ∧ T.length ≤ 6
theorem run_k {nn : Nat} (hnn : nn ≤ 6) {gv lim cap fst stf mov tks p0 left sk pr sol sol3 sk3 : Int32} {rm fl kd flk fv fb ft fo t1 o1 l0 fn0 fm0 ln fn fm fk fk2 t2 o2 t3 o3 : FnI} {ld nd : Nat → Int32 → Int32} {ht wk gn h1 w1 : Int64}
    (f1 : (t1, o1) = forX 6 (drF (nI nn) kd fl ld fv fb flk) 0 (ft, fo))
    (f2 : (mov, ln, fn, fm) = forX (nI nn) (luF (nI nn) lim rm fl nd fv fb o1) 0 (0, l0, fn0, fm0))
    (f3 : (tks, p0, t2, fk2, o2, left) = forX mov (tpF ln fm fn) 0 (0, 0, t1, fk, o1, gv))
    (f4 : sk = kSk lim cap (prS fst stf sol) left sol)
    (f5 : pr = kPr lim p0 (prS fst stf sol) sk (left - sk))
    (f6 : (h1, w1) = forX tks (auF fk2 t2 fn pr) 0 (ht, wk))
    (f7 : (sol3, sk3, t3, o3) = if left = 0 then forX mov (tsF ln fm fn fst stf) 0 (sol + sk, sk, t2, o2) else (sol + sk, sk, t2, o2)) :
    (n6 o3, n6 t3, sol3, pr, left - sk, sk3, h1 + sk.toInt64 * (pr - prS fst stf sol).toInt64 + (left - sk).toInt64 * lim.toInt64, w1, gn + gv.toInt64 * pr.toInt64) = (kRUN (nn, (gv, lim, cap, fst, stf), rm, fl, kd, n6 flk, ld, nd) (n6 fv) (n6 fb) (n6 fo) sol ht wk gn).1 ∧ TKL tks fk2 (kRUN (nn, (gv, lim, cap, fst, stf), rm, fl, kd, n6 flk, ld, nd) (n6 fv) (n6 fb) (n6 fo) sol ht wk gn).2 := by
  obtain ⟨e1, e2⟩ := dr_k hnn f1
  obtain ⟨g1, g2, g3⟩ := lu_k hnn f2
  have hlen := lnR_len (v := n6 fv) (b := n6 fb) (o := n6 o1) (rm := rm) (nd := kND nd (n6 o1)) (lim := lim) nn
  have hmem : ∀ c ∈ lnR (n6 fv) (n6 fb) (n6 o1) rm (kND nd (n6 o1)) lim nn, c < nn := fun c hc => (lnR_mem nn hc).1
  have hrep := RPR_rep _ g2
  have hE : kRUN (nn, (gv, lim, cap, fst, stf), rm, fl, kd, n6 flk, ld, nd) (n6 fv) (n6 fb) (n6 fo) sol ht wk gn = kR3 (lnR (n6 fv) (n6 fb) (n6 o1) rm (kND nd (n6 o1)) lim nn).reverse (kMT fl rm (n6 o1)) (kND nd (n6 o1)) gv lim cap fst stf (n6 t1) (n6 o1) sol ht wk gn := by
    unfold kRUN kR2
    dsimp only
    rw [← e1, ← e2]
  rw [hE]
  clear hE
  dsimp only at g1 g2 g3 hrep
  rw [← List.length_reverse] at g1
  have hL : (lnR (n6 fv) (n6 fb) (n6 o1) rm (kND nd (n6 o1)) lim nn).reverse.length ≤ 6 := by rw [List.length_reverse]; omega
  have ho : ONL (lnR (n6 fv) (n6 fb) (n6 o1) rm (kND nd (n6 o1)) lim nn).reverse fn fm (kND nd (n6 o1)) (kMT fl rm (n6 o1)) := fun c hc => by
    have hc2 := List.mem_reverse.mp hc
    exact ⟨by have := hmem c hc2; omega, g3 c hc2⟩
  generalize (lnR (n6 fv) (n6 fb) (n6 o1) rm (kND nd (n6 o1)) lim nn).reverse = L at g1 hrep hL ho ⊢
  generalize kND nd (n6 o1) = ndf at ho ⊢
  generalize kMT fl rm (n6 o1) = mtf at ho ⊢
  subst g1
  have hp := tp_k (t1 := t1) (fk := fk) (o1 := o1) (gv := gv) hL hrep ho
  rw [← f3] at hp
  unfold kR3
  generalize L.foldl (pS mtf ndf) (gv, [], 0, n6 t1, n6 o1) = P at hp ⊢
  obtain ⟨left', T, p0', t2', o2'⟩ := P
  obtain ⟨a1, a2, a3, a4, a5, a6, a7, a8⟩ := hp
  dsimp only at a1 a2 a3 a4 a5 a6 a7 a8
  subst a1 a4 a5 a6
  have hT : T.length ≤ 6 := by omega
  have hh := au_k (ft := t2) (p := pr) hT a3 (fun c hc => ⟨(ho c (a8 c hc)).1, (ho c (a8 c hc)).2.1⟩) (ht, wk)
  rw [← a2, ← f6] at hh
  have hs := ts_k (t := t2) (o := o2) (fst := fst) (stf := stf) (k0 := sol + sk) (s0 := sk) hL hrep ho
  unfold kE0 kE1 kE2 kE3
  dsimp only
  rw [← f4, ← f5, ← hh]
  refine ⟨?_, a2, a3, hT⟩
  by_cases h0 : left = 0
  · rw [if_pos h0] at f7 ⊢
    rw [← f7] at hs
    obtain ⟨b1, b2, b3, b4⟩ := hs
    dsimp only at b1 b2 b3 b4
    rw [b1, b2, b3, b4]
  · rw [if_neg h0] at f7 ⊢
    injection f7 with q1 q2
    injection q2 with q2 q3
    injection q3 with q3 q4
    rw [q1, q2, q3, q4]
