/-! rules as values: an item is its sort, its numbers, its word -/
abbrev It : Type := Nat × Nat × Nat × List Int32
def seeL (bs : List Int32) (k : Nat) : Int32 := if k < bs.length then bs.getD k 0 else -1
def sv (bs : List Int32) (k : Nat) : Int := (seeL bs k).toInt
theorem seeF_eq {bs : List Int32} {h : aH} (r : RTp bs h) (k : Nat) : seeF h k = seeL bs k := by
  unfold seeF seeL
  have := r.1
  rw [r.2.1, hi_n (by omega)]
  by_cases z : k < bs.length
  · rw [if_pos (by omega), if_pos z]; exact r.2.2 k z
  · rw [if_neg (by omega), if_neg z]
def mark1 (c : Int) : Option It := if c = 60 then some (0, 0, 0, [nI 60]) else if c = 110 then some (1, 0, 0, []) else if 48 ≤ c ∧ c ≤ 51 then some (2, (c - 48).toNat, 0, []) else if c = 61 then some (4, 0, 0, []) else if 97 ≤ c ∧ c ≤ 104 then some (5, (c - 97).toNat, 0, []) else if c = 33 then some (7, 0, 0, []) else none
def mark2 (bs : List Int32) (at_ : Nat) : Option (It × Nat) := if sv bs (at_ + 1) = 63 ∧ (48 ≤ sv bs (at_ + 2) ∧ sv bs (at_ + 2) ≤ 51) ∧ sv bs (at_ + 3) = 62 then some ((6, (sv bs (at_ + 2) - 48).toNat, 0, []), 4) else if sv bs (at_ + 1) = 43 ∧ (48 ≤ sv bs (at_ + 2) ∧ sv bs (at_ + 2) ≤ 51) ∧ (48 ≤ sv bs (at_ + 3) ∧ sv bs (at_ + 3) ≤ 51) ∧ sv bs (at_ + 4) = 62 then some ((3, (sv bs (at_ + 2) - 48).toNat, (sv bs (at_ + 3) - 48).toNat, []), 5) else none
/-- the sign that begins here, and how wide it is -/
def mark (bs : List Int32) (at_ : Nat) : Option (It × Nat) := if sv bs (at_ + 2) = 62 then (mark1 (sv bs (at_ + 1))).map (fun it => (it, 3)) else mark2 bs at_
theorem mark_in {bs : List Int32} {at_ : Nat} (e : sv bs (at_ + 2) = 62) : mark bs at_ = (mark1 (sv bs (at_ + 1))).map (fun it => (it, 3)) := if_pos e
theorem mark2_62 {bs : List Int32} {at_ : Nat} (e : sv bs (at_ + 2) = 62) : mark2 bs at_ = none := by
  unfold mark2
  rw [if_neg (by omega), if_neg (by omega)]
theorem mark_out {bs : List Int32} {at_ : Nat} (e : ¬ sv bs (at_ + 2) = 62) : mark bs at_ = mark2 bs at_ := if_neg e
/-- what comes of a sign: a fault, or an item, its width, and whether a WHEN is open behind it -/
def sgF (bs : List Int32) (at_ n : Nat) (wn : Bool) : Nat ⊕ (It × Nat × Bool) := match mark bs at_ with
  | none => .inl 2
  | some (it, w) => if (it.1 = 6 ∧ wn = true) ∨ (it.1 = 7 ∧ wn = false) then .inl 3 else if n = 20 then .inl 5 else .inr (it, w, if it.1 = 6 then true else if it.1 = 7 then false else wn)
theorem sv_lt {bs : List Int32} {k : Nat} (h : 0 ≤ sv bs k) : k < bs.length := by
  apply Classical.byContradiction
  intro z
  unfold sv seeL at h
  rw [if_neg z] at h
  exact absurd h (by decide)
theorem mark_len {bs : List Int32} {at_ w : Nat} {it : It} (e : mark bs at_ = some (it, w)) : at_ + w ≤ bs.length ∧ 0 < w := by
  by_cases z : sv bs (at_ + 2) = 62
  · rw [mark_in z] at e
    have := sv_lt (bs := bs) (k := at_ + 2) (by omega)
    cases hm : mark1 (sv bs (at_ + 1)) with
    | none => rw [hm] at e; cases e
    | some q =>
      rw [hm] at e
      have e2 : w = 3 := by cases e; rfl
      omega
  · rw [mark_out z] at e
    unfold mark2 at e
    split at e
    · rename_i q
      have := sv_lt (bs := bs) (k := at_ + 3) (by omega)
      have e2 : w = 4 := by cases e; rfl
      omega
    · split at e
      · rename_i q
        have := sv_lt (bs := bs) (k := at_ + 4) (by omega)
        have e2 : w = 5 := by cases e; rfl
        omega
      · cases e
/-- may stand in a rule -/
def itOk (it : It) : Prop := it.1 ≤ 7 ∧ (it.1 = 2 ∨ it.1 = 3 ∨ it.1 = 6 → it.2.1 < 4) ∧ (it.1 = 3 → it.2.2.1 < 4) ∧ (it.1 = 5 → it.2.1 < 8) ∧ (it.1 = 0 → 1 ≤ it.2.2.2.length ∧ it.2.2.2.length ≤ 120) ∧ it.2.1 < 1000 ∧ it.2.2.1 < 1000
theorem mark_ok {bs : List Int32} {at_ w : Nat} {it : It} (e : mark bs at_ = some (it, w)) : itOk it := by
  by_cases z : sv bs (at_ + 2) = 62
  · rw [mark_in z] at e
    unfold mark1 at e
    repeat' split at e
    all_goals first
      | (cases e; done)
      | (have e2 := congrArg Prod.fst (Option.some.inj e); subst e2; refine ⟨?_, ?_, ?_, ?_, ?_, ?_, ?_⟩ <;> first | (simp; done) | (simp; omega) | (intro q; simp at q; done) | (intro _; simp; omega))
  · rw [mark_out z] at e
    unfold mark2 at e
    repeat' split at e
    all_goals first
      | (cases e; done)
      | (have e2 := congrArg Prod.fst (Option.some.inj e); subst e2; refine ⟨?_, ?_, ?_, ?_, ?_, ?_, ?_⟩ <;> first | (simp; done) | (simp; omega) | (intro q; simp at q; done) | (intro _; simp; omega))
/-- an item as it is kept: two numbers beside its sort; a word's are its first byte's place and its length -/
def itR (bs : List Int32) (it : It) (on tw : Nat) : Prop := (it.1 = 0 → tw = it.2.2.2.length ∧ on + tw ≤ bs.length ∧ ∀ k, k < tw → bs.getD (on + k) 0 = it.2.2.2.getD k 0) ∧ (it.1 ≠ 0 → on = it.2.1 ∧ tw = it.2.2.1)
/-- the reading of a rule in the reference -/
def RPr (bs : List Int32) (at_ : Nat) (its : List It) (wn : Bool) (h : aH) : Prop := RTp bs h ∧ at_ ≤ bs.length ∧ hI h 786 MO = nI at_ ∧ hI h 787 MO = nI its.length ∧ hI h 788 MO = bI wn ∧ its.length ≤ 20 ∧ ∀ i it, its[i]? = some it → itOk it ∧ ∃ on tw, hX h 37 (160 + i) = nI it.1 ∧ hX h 38 (160 + i) = nI on ∧ hX h 39 (160 + i) = nI tw ∧ itR bs it on tw
def FPr (h h' : aH) : Prop := Fr [783, 786, 787, 788] [37, 38, 39] h h' ∧ ∀ i, i < 160 → hX h' 37 i = hX h 37 i ∧ hX h' 38 i = hX h 38 i ∧ hX h' 39 i = hX h 39 i
theorem FPr.rf {h : aH} : FPr h h := ⟨Fr.rf, fun _ _ => ⟨rfl, rfl, rfl⟩⟩
theorem FPr.tr {h h1 h2 : aH} (a : FPr h h1) (b : FPr h1 h2) : FPr h h2 := ⟨a.1.tr b.1, fun i hi => ⟨(b.2 i hi).1.trans (a.2 i hi).1, (b.2 i hi).2.1.trans (a.2 i hi).2.1, (b.2 i hi).2.2.trans (a.2 i hi).2.2⟩⟩
theorem FPr.int {h : aH} {k : Nat} {v : Int32} (hk : k ∈ [783, 786, 787, 788]) : FPr h (sI h k MO v) := ⟨Fr.int hk, fun _ _ => ⟨rfl, rfl, rfl⟩⟩
theorem FPr.row {h : aH} {a j : Nat} {v : Int32} (ha : a ∈ [37, 38, 39]) (hj : 160 ≤ j) : FPr h (sX h a j v) := by
  refine ⟨Fr.row ha, fun i hi => ⟨?_, ?_, ?_⟩⟩
  all_goals exact up2_n _ _ (by omega)
/-- what put leaves -/
def PtF (n : Nat) (s a b : Int32) (h h' : aH) : Prop := FPr h h' ∧ hI h' 786 MO = hI h 786 MO ∧ hI h' 788 MO = hI h 788 MO ∧ hI h' 783 MO = hI h 783 MO ∧ hI h' 787 MO = nI (n + 1) ∧ hX h' 37 (160 + n) = s ∧ hX h' 38 (160 + n) = a ∧ hX h' 39 (160 + n) = b ∧ ∀ i, i ≠ 160 + n → hX h' 37 i = hX h 37 i ∧ hX h' 38 i = hX h 38 i ∧ hX h' 39 i = hX h 39 i
theorem hX_sI (h : aH) (k a : Nat) (v : Int32) : hX (sI h k a v) = hX h := rfl
theorem hI_sX (h : aH) (a j : Nat) (v : Int32) : hI (sX h a j v) = hI h := rfl
theorem hI_o (h : aH) {k k' a b : Nat} (v : Int32) (e : k' ≠ k) : hI (sI h k a v) k' b = hI h k' b := up2_k _ _ e
theorem putF {n : Nat} {s a b : Int32} {h : aH} : PtF n s a b h (sI (sX (sX (sX h 37 (160 + n) s) 38 (160 + n) a) 39 (160 + n) b) 787 MO (nI (n + 1))) := by
  refine ⟨((((FPr.row (by decide) (by omega)).tr (FPr.row (by decide) (by omega))).tr (FPr.row (by decide) (by omega))).tr (FPr.int (by decide))), ?_, ?_, ?_, hI_s _ _ _ _, ?_, ?_, ?_, fun i hi => ⟨?_, ?_, ?_⟩⟩
  · rw [hI_o _ _ (by decide)]; rfl
  · rw [hI_o _ _ (by decide)]; rfl
  · rw [hI_o _ _ (by decide)]; rfl
  · rw [hX_sI, hX_o _ _ (by decide), hX_o _ _ (by decide), hX_s]
  · rw [hX_sI, hX_o _ _ (by decide), hX_s]
  · rw [hX_sI, hX_s]
  · rw [hX_sI, hX_o _ _ (by decide), hX_o _ _ (by decide), hX_n _ _ hi]
  · rw [hX_sI, hX_o _ _ (by decide), hX_n _ _ hi, hX_o _ _ (by decide)]
  · rw [hX_sI, hX_n _ _ hi, hX_o _ _ (by decide), hX_o _ _ (by decide)]
theorem ev_put (l : Launch) (G : aG) (s a b : Int32) (n : Nat) (hn : n ≤ 20) (h : aH) (rf : Rf h) (hn_ : hI h 787 MO = nI n) : Ev l G 0 0 0 mX11_put 0 (en 4 [.ref MO, .int s, .int a, .int b]) [] h (fun x h' => (n = 20 ∧ x = some (.int (nI 5)) ∧ h' = h) ∨ (n < 20 ∧ x = some (.int (nI 0)) ∧ PtF n s a b h h')) := by
  refine Ev_aload_n dX11_put_0 rfl (by first | exact Or.inr ⟨_, rfl⟩ | exact rv_or _ | exact Or.inl rfl) ?_
  refine Ev_getE dX11_put_1 fX11_170 rf.1 hn_ ?_
  refine Ev_bipush (v := nI 20) dX11_put_4 (by decide) ?_
  refine Ev_icmp_neN 11 dX11_put_6 (by decide) (by omega) (by omega) (fun zb6_ => ?_) (fun zb6_ => ?_)
  · refine Ev_aload_n dX11_put_11 rfl (by first | exact Or.inr ⟨_, rfl⟩ | exact rv_or _ | exact Or.inl rfl) ?_
    refine Ev_getA dX11_put_12 fX11_34 rf.1 (rr_sort rf) ?_
    refine Ev_sipush (v := nI 160) dX11_put_15 (by decide) ?_
    refine Ev_aload_n dX11_put_18 rfl (by first | exact Or.inr ⟨_, rfl⟩ | exact rv_or _ | exact Or.inl rfl) ?_
    refine Ev_getE dX11_put_19 fX11_170 rf.1 hn_ ?_
    refine Ev_iaddN dX11_put_22 ?_
    refine Ev_iload_n dX11_put_23 rfl ?_
    refine Ev_iastL _ dX11_put_24 (rk_sort rf) (rl_sort rf) (hi_n (by omega)) (by omega) ?_
    refine Ev_aload_n dX11_put_25 rfl (by first | exact Or.inr ⟨_, rfl⟩ | exact rv_or _ | exact Or.inl rfl) ?_
    refine Ev_getA dX11_put_26 fX11_37 rf.1 (rr_one rf) ?_
    refine Ev_sipush (v := nI 160) dX11_put_29 (by decide) ?_
    refine Ev_aload_n dX11_put_32 rfl (by first | exact Or.inr ⟨_, rfl⟩ | exact rv_or _ | exact Or.inl rfl) ?_
    refine Ev_getE dX11_put_33 fX11_170 rf.1 hn_ ?_
    refine Ev_iaddN dX11_put_36 ?_
    refine Ev_iload_n dX11_put_37 rfl ?_
    refine Ev_iastL _ dX11_put_38 (rk_one rf) (rl_one rf) (hi_n (by omega)) (by omega) ?_
    refine Ev_aload_n dX11_put_39 rfl (by first | exact Or.inr ⟨_, rfl⟩ | exact rv_or _ | exact Or.inl rfl) ?_
    refine Ev_getA dX11_put_40 fX11_40 rf.1 (rr_two rf) ?_
    refine Ev_sipush (v := nI 160) dX11_put_43 (by decide) ?_
    refine Ev_aload_n dX11_put_46 rfl (by first | exact Or.inr ⟨_, rfl⟩ | exact rv_or _ | exact Or.inl rfl) ?_
    refine Ev_getE dX11_put_47 fX11_170 rf.1 hn_ ?_
    refine Ev_iaddN dX11_put_50 ?_
    refine Ev_iload_n dX11_put_51 rfl ?_
    refine Ev_iastL _ dX11_put_52 (rk_two rf) (rl_two rf) (hi_n (by omega)) (by omega) ?_
    refine Ev_aload_n dX11_put_53 rfl (by first | exact Or.inr ⟨_, rfl⟩ | exact rv_or _ | exact Or.inl rfl) ?_
    refine Ev_dup dX11_put_54 (by first | rfl | exact okv_rv _) ?_
    refine Ev_getE dX11_put_55 fX11_170 rf.1 hn_ ?_
    refine Ev_iconst (v := nI 1) dX11_put_58 (by decide) ?_
    refine Ev_iaddN dX11_put_59 ?_
    refine Ev_putI dX11_put_60 fX11_170 ⟨_, rfl, Or.inl rfl⟩ (Or.inl rfl) rf.1 ?_
    refine Ev_iconst (v := nI 0) dX11_put_63 (by decide) ?_
    refine Ev_iret dX11_put_64 rfl ?_
    exact Or.inr ⟨by omega, rfl, putF⟩
  · refine Ev_iconst (v := nI 5) dX11_put_9 (by decide) ?_
    refine Ev_iret dX11_put_10 rfl ?_
    exact Or.inl ⟨zb6_, rfl, rfl⟩
