/-! a call's cut by a mask: one pass over the world, its order kept -/
def zk_pick : List Bool → va_W → va_W
  | true :: m, x :: X => x :: zk_pick m X
  | false :: m, _ :: X => zk_pick m X
  | _, _ => []
def zk_kept : List Bool → va_W → va_W
  | [], X => X
  | true :: m, _ :: X => zk_kept m X
  | false :: m, x :: X => x :: zk_kept m X
  | _ :: _, [] => []
def zk_put : List Bool → va_W → va_W → va_W
  | [], X, w => X ++ w
  | false :: m, x :: X, w => x :: zk_put m X w
  | true :: m, _ :: X, y :: w => y :: zk_put m X w
  | true :: m, _ :: X, [] => zk_kept m X
  | _ :: _, [], w => w
theorem zk_perm1 : ∀ (m : List Bool) (X : va_W), List.Perm X (zk_pick m X ++ zk_kept m X)
  | [], [] => by simp [zk_pick, zk_kept]
  | [], _ :: _ => by simp [zk_pick, zk_kept]
  | true :: _, [] => by simp [zk_pick, zk_kept]
  | false :: _, [] => by simp [zk_pick, zk_kept]
  | true :: m, x :: X => by
    rw [zk_pick, zk_kept]
    exact (zk_perm1 m X).cons x
  | false :: m, x :: X => by
    rw [zk_pick, zk_kept]
    exact ((zk_perm1 m X).cons x).trans List.perm_middle.symm
theorem zk_perm2 : ∀ (m : List Bool) (X w : va_W), List.Perm (zk_kept m X ++ w) (zk_put m X w)
  | [], X, w => by simp [zk_kept, zk_put]
  | true :: _, [], w => by simp [zk_kept, zk_put]
  | false :: _, [], w => by simp [zk_kept, zk_put]
  | true :: m, x :: X, [] => by simp [zk_kept, zk_put]
  | true :: m, x :: X, y :: w => by
    rw [zk_kept, zk_put]
    exact List.perm_middle.trans ((zk_perm2 m X w).cons y)
  | false :: m, x :: X, w => by
    rw [zk_kept, zk_put]
    exact (zk_perm2 m X w).cons x
theorem zk_cut {g : Gt} {A : Nat → Prop} {H : Heap} {wc wr : va_W} (hP : va_P g.1 vwCl (wc ++ wr) H) (hD : va_D A (wc ++ wr)) : Sp g A H wc (fun w1 => wr ++ w1) := by
  have hn := hD.nodup
  rw [List.map_append, List.nodup_append] at hn
  have hr : ∀ (k : Nat) (q : Nat × va_E), wr[k]? = some q → (wc ++ wr)[wc.length + k]? = some q := by
    intro k q hq
    rw [List.getElem?_append_right (Nat.le_add_right _ _), Nat.add_sub_cancel_left]
    exact hq
  have hc : ∀ (k : Nat) (q : Nat × va_E), wc[k]? = some q → (wc ++ wr)[k]? = some q := by
    intro k q hq
    rw [List.getElem?_append_left (List.getElem?_eq_some_iff.mp hq).1]
    exact hq
  have apart : ∀ (k : Nat) (q : Nat × va_E), wr[k]? = some q → q.1 < H.size ∧ ¬ va_A wc H.size q.1 := by
    intro k q hq
    have hl := (hP _ q (hr k q hq)).lt
    refine ⟨hl, fun h => ?_⟩
    rcases h with ⟨k2, e, h⟩ | h
    · have hij := hD.1 _ _ q (q.1, e) (hr k q hq) (hc k2 _ h) rfl
      have := (List.getElem?_eq_some_iff.mp h).1
      omega
    · omega
  have hDr : va_D A wr := va_D.ofN hn.2.1 (fun q hq => by
    obtain ⟨k, hk⟩ := List.mem_iff_getElem?.mp hq
    exact hD.2 _ q (hr k q hk))
  refine ⟨hP.sub' (fun q hq => List.mem_append_left _ hq), va_D.ofN hn.1 (fun q hq => by
    obtain ⟨k, hk⟩ := List.mem_iff_getElem?.mp hq
    exact hD.2 _ q (hc k q hk)), fun H1 w1 hk hF h1 h2 => ?_⟩
  refine ⟨va_P.app (fun k q hq => ?_) h1, va_D.app hDr (h2.weaken (fun k q _ h => hF q.1 h)) (fun i j x y hx hy hxy => ?_)⟩
  · obtain ⟨g1, g2⟩ := apart k q hq
    exact (hP _ q (hr k q hq)).kept (hk q.1 g1 g2)
  · exact (apart i x hx).2 (by rw [hxy]; exact h2.2 j y hy)
theorem zk_spPerm {g : Gt} {A : Nat → Prop} {H : Heap} {wc : va_W} {wn wm : va_W → va_W} (h : Sp g A H wc wn) (hp : ∀ w1, List.Perm (wn w1) (wm w1)) : Sp g A H wc wm :=
  ⟨h.1, h.2.1, fun H1 w1 hk hF h1 h2 => ⟨(h.2.2 H1 w1 hk hF h1 h2).1.perm (hp w1), (h.2.2 H1 w1 hk hF h1 h2).2.perm (hp w1)⟩⟩
/-- the callee without the pool, by a mask -/
theorem spM {g : Gt} {A : Nat → Prop} {H : Heap} {X cx pl : va_W} (msk : List Bool) (hP : va_P g.1 vwCl (X ++ pl) H) (hD : va_D A (X ++ pl)) (hC : zk_pick msk X = cx) : Sp g A H cx (fun w1 => zk_put msk X w1 ++ pl) := by
  subst hC
  have hp : List.Perm (X ++ pl) (zk_pick msk X ++ (zk_kept msk X ++ pl)) := by
    rw [← List.append_assoc]
    exact (zk_perm1 msk X).append_right pl
  refine zk_spPerm (zk_cut (hP.perm hp) (hD.perm hp)) (fun w1 => ?_)
  refine List.Perm.trans ?_ ((zk_perm2 msk X w1).append_right pl)
  rw [List.append_assoc, List.append_assoc]
  exact List.Perm.append_left _ List.perm_append_comm
/-- the callee with the pool, by a mask -/
theorem spMC {g : Gt} {A : Nat → Prop} {H : Heap} {X cx pl : va_W} (msk : List Bool) (hP : va_P g.1 vwCl (X ++ pl) H) (hD : va_D A (X ++ pl)) (hC : zk_pick msk X = cx) : Sp g A H (cx ++ pl) (fun w1 => zk_put msk X w1) := by
  subst hC
  have hp : List.Perm (X ++ pl) ((zk_pick msk X ++ pl) ++ zk_kept msk X) := by
    refine ((zk_perm1 msk X).append_right pl).trans ?_
    rw [List.append_assoc, List.append_assoc]
    exact List.Perm.append_left _ List.perm_append_comm
  exact zk_spPerm (zk_cut (hP.perm hp) (hD.perm hp)) (fun w1 => zk_perm2 msk X w1)
/-- no pool at all, by a mask -/
theorem spM0 {g : Gt} {A : Nat → Prop} {H : Heap} {X cx : va_W} (msk : List Bool) (hP : va_P g.1 vwCl X H) (hD : va_D A X) (hC : zk_pick msk X = cx) : Sp g A H cx (fun w1 => zk_put msk X w1) := by
  subst hC
  exact zk_spPerm (zk_cut (hP.perm (zk_perm1 msk X)) (hD.perm (zk_perm1 msk X))) (fun w1 => zk_perm2 msk X w1)
theorem zk_csP {D : va_G} {cl : List vw_C} {g : Gt} {X : va_W} {c1 c2 : List Cy} {H : Heap} (h : c1 = c2) (hP : va_P D cl (X ++ cysW g c1) H) : va_P D cl (X ++ cysW g c2) H := by
  subst h
  exact hP
theorem zk_csD {A : Nat → Prop} {g : Gt} {X : va_W} {c1 c2 : List Cy} (h : c1 = c2) (hD : va_D A (X ++ cysW g c1)) : va_D A (X ++ cysW g c2) := by
  subst h
  exact hD
