/-- does a thing lie in another one, or is it that one? -/
def wiF (m : Md) (top : Nat) : Nat → Nat → Bool
  | 0, _ => false
  | n + 1, c => decide (c = top) || (match mPa m c with
    | none => false
    | some q => wiF m top n q)
def wIn (m : Md) (top c : Nat) : Bool := wiF m top (mDp m c) c
theorem wIn_step {m : Md} (k : MOk m) (top : Nat) {c : Nat} (hc : c < mCm m) : wIn m top c = (decide (c = top) || (match mPa m c with
    | none => false
    | some q => wIn m top q)) := by
  obtain ⟨-, -, h1, -, h2, h3⟩ := k.2.1 c hc
  unfold wIn
  cases hp : mPa m c with
  | none => rw [h2 hp, wiF, hp]
  | some q => rw [(h3 q hp).2, wiF, hp]
theorem wIn_self {m : Md} (k : MOk m) {c : Nat} (hc : c < mCm m) : wIn m c c = true := by rw [wIn_step k c hc]; simp
theorem wIn_par {m : Md} (k : MOk m) {top c q : Nat} (hc : c < mCm m) (hp : mPa m c = some q) (h : wIn m top q = true) : wIn m top c = true := by
  rw [wIn_step k top hc, hp]; simp [h]
theorem wIn_up {m : Md} (k : MOk m) {top c : Nat} (hc : c < mCm m) (h : wIn m top c = true) (ne : c ≠ top) : ∃ q, mPa m c = some q ∧ wIn m top q = true := by
  rw [wIn_step k top hc] at h
  cases hp : mPa m c with
  | none => rw [hp] at h; simp [ne] at h
  | some q => rw [hp] at h; simp [ne] at h; exact ⟨q, rfl, h⟩
theorem wIn_dp {m : Md} (k : MOk m) {top : Nat} : ∀ (n : Nat) {c : Nat}, c < mCm m → mDp m c = n → wIn m top c = true → c ≠ top → mDp m top < mDp m c := by
  intro n
  induction n with
  | zero => intro c hc hd; have := (k.2.1 c hc).2.2.1; omega
  | succ n ih_ =>
    intro c hc hd hw ne
    obtain ⟨q, hq, hwq⟩ := wIn_up k hc hw ne
    have h3 := (k.2.1 c hc).2.2.2.2.2 q hq
    by_cases e : q = top
    · subst e; omega
    · have := ih_ h3.1 (by omega) hwq e
      omega
def dropM (m : Md) (c : Nat) : Md := (m.1, m.2.1, (fun t => match mLv m t with
  | some x => if wIn m c x = true then none else some x
  | none => none), m.2.2.2.1, m.2.2.2.2.1, fun p => (mCh m p).filter (fun x => !wIn m c x))
theorem dropM_lv {m : Md} {c t : Nat} : mLv (dropM m c) t = match mLv m t with
  | some x => if wIn m c x = true then none else some x
  | none => none := rfl
theorem dropM_live {m : Md} {c x : Nat} : mLive (dropM m c) x ↔ mLive m x ∧ wIn m c x = false := by
  unfold mLive
  rw [dropM_lv]
  show (match mLv m (mSl m x) with | some x => if wIn m c x = true then none else some x | none => none) = some x ↔ _
  cases hl : mLv m (mSl m x) with
  | none => simp
  | some y =>
    show (if wIn m c y = true then none else some y) = some x ↔ _
    constructor
    · intro h
      by_cases e : wIn m c y = true
      · rw [if_pos e] at h; cases h
      · rw [if_neg e] at h
        cases h
        exact ⟨rfl, by simpa using e⟩
    · rintro ⟨h1, h2⟩
      cases h1
      rw [if_neg (by rw [h2]; decide)]
theorem MOk.drop {m : Md} (k : MOk m) (c : Nat) : MOk (dropM m c) := by
  refine ⟨fun t x h => ?_, k.2.1, fun x hx => ?_, fun p x => ?_, fun p => (k.2.2.2.2 p).filter _⟩
  · rw [dropM_lv] at h
    cases hl : mLv m t with
    | none => rw [hl] at h; cases h
    | some y =>
      rw [hl] at h
      change (if wIn m c y = true then none else some y) = some x at h
      by_cases e : wIn m c y = true
      · rw [if_pos e] at h; cases h
      · rw [if_neg e] at h
        cases h
        exact k.1 _ _ hl
  · obtain ⟨h1, h2⟩ := dropM_live.mp hx
    obtain ⟨a1, a2, a3⟩ := k.2.2.1 x h1
    refine ⟨fun q hq => dropM_live.mpr ⟨a1 q hq, ?_⟩, a2, a3⟩
    cases hw : wIn m c q
    · rfl
    · rw [wIn_par k (k.lt h1) hq hw] at h2; cases h2
  · show x ∈ (mCh m p).filter (fun x => !wIn m c x) ↔ _
    rw [List.mem_filter, k.2.2.2.1 p x, dropM_live]
    constructor
    · rintro ⟨⟨q1, q2⟩, q3⟩; exact ⟨⟨q1, by simpa using q3⟩, q2⟩
    · rintro ⟨⟨q1, q2⟩, q3⟩; exact ⟨⟨q1, q3⟩, by simp [q2]⟩
/-- the children of one that stays: only the dropped one itself is missing -/
theorem drop_ch {m : Md} (k : MOk m) {c : Nat} (hc : mLive m c) {p : Option Nat} (hp : ∀ q, p = some q → wIn m c q = false) : mCh (dropM m c) p = if p = mPa m c then (mCh m p).eraseIdx (ix m c) else mCh m p := by
  show (mCh m p).filter (fun x => !wIn m c x) = _
  have key : ∀ x ∈ mCh m p, wIn m c x = decide (x = c) := by
    intro x hx
    obtain ⟨h1, h2⟩ := (k.2.2.2.1 _ _).mp hx
    rw [wIn_step k c (k.lt h1), h2]
    cases p with
    | none => simp
    | some q => simp [hp q rfl]
  have e1 : (mCh m p).filter (fun x => !wIn m c x) = (mCh m p).filter (fun x => !decide (x = c)) := List.filter_congr (fun x hx => by rw [key x hx])
  rw [e1]
  by_cases e : p = mPa m c
  · rw [if_pos e]
    subst e
    have h2 : (mCh m (mPa m c)).eraseIdx (ix m c) = (mCh m (mPa m c)).erase c := (List.erase_eq_eraseIdx_of_idxOf rfl).symm
    rw [h2, (k.2.2.2.2 _).erase_eq_filter]
    apply List.filter_congr
    intro x _
    by_cases z : x = c <;> simp [z]
  · rw [if_neg e]
    apply List.filter_eq_self.mpr
    intro x hx
    have h2 := ((k.2.2.2.1 _ _).mp hx).2
    have : x ≠ c := fun z => e (by rw [← h2, z])
    simp [this]
theorem ev_isWithin_l (l : Launch) (G : aG) (t_ : Int32) (c : Nat) (m : Md) (h : aH) (rf : Rf h) (mk : MOk m) (hpar_ : ∀ x, mLive m x → hX h 31 (mSl m x) = paI m x) (hc : mLive m c) (n : Nat) : ∀ c', mLive m c' → mDp m c' = n → Ev l G 0 0 0 mX11_isWithin 2 [.ref MO, .int t_, .int (nI (mSl m c)), .int (nI (mSl m c'))] [] h (Ex (some (.int (bI (wIn m c c')))) h) := by
  induction n with
  | zero =>
    intro c' hc' hd
    have := (mk.2.1 c' (mk.lt hc')).2.2.1
    omega
  | succ n ih_ =>
    intro c' hc' hd
    have hs := mk.sl hc
    have hs' := mk.sl hc'
    refine Ev_iload_n dX11_isWithin_2 rfl ?_
    refine Ev_if_ltT 21 dX11_isWithin_3 (by decide) (fun zb3_ => ?_) (fun zb3_ => ?_)
    · exact absurd zb3_ (by rw [hi_n (by omega)]; omega)
    · refine Ev_iload_n dX11_isWithin_6 rfl ?_
      refine Ev_iload_n dX11_isWithin_7 rfl ?_
      refine Ev_icmp_eqN 21 dX11_isWithin_8 (by decide) (by omega) (by omega) (fun zb8_ => ?_) (fun zb8_ => ?_)
      · have ec_ : c' = c := sl_inj hc' hc (by omega)
        subst ec_
        refine Ev_iload_n dX11_isWithin_21 rfl ?_
        refine Ev_iload_n dX11_isWithin_22 rfl ?_
        refine Ev_icmp_neN 30 dX11_isWithin_23 (by decide) (by omega) (by omega) (fun zb23_ => ?_) (fun zb23_ => ?_)
        · exact absurd rfl zb23_
        · refine Ev_iconst (v := nI 1) dX11_isWithin_26 (by decide) ?_
          refine Ev_goto 31 dX11_isWithin_27 (by decide) ?_
          refine Ev_zret dX11_isWithin_31 rfl (by decide) ?_
          exact ⟨by rw [wIn_self mk (mk.lt hc')]; rfl, rfl⟩
      · refine Ev_aload_n dX11_isWithin_11 rfl (by first | exact Or.inr ⟨_, rfl⟩ | exact rv_or _ | exact Or.inl rfl) ?_
        refine Ev_getA dX11_isWithin_12 fX11_16 rf.1 (rr_parent rf) ?_
        refine Ev_iload_n dX11_isWithin_15 rfl ?_
        refine Ev_ialdL _ dX11_isWithin_16 (rk_parent rf) (rl_parent rf) (hi_n (by omega)) (by omega) ?_
        refine Ev_top (y := .int (paI m c')) (by rw [hpar_ c' hc']) ?_
        refine Ev_istore_n dX11_isWithin_17 (by decide) ?_
        refine Ev_goto 2 dX11_isWithin_18 (by decide) ?_
        have hne_ : c' ≠ c := fun z => zb8_ (by rw [z])
        rw [wIn_step mk c (mk.lt hc')]
        cases hp : mPa m c' with
        | none =>
          have e : paI m c' = -1 := by unfold paI; rw [hp]
          rw [e]
          refine Ev_iload_n dX11_isWithin_2 rfl ?_
          refine Ev_if_ltT 21 dX11_isWithin_3 (by decide) (fun _ => ?_) (fun z_ => absurd (by decide) z_)
          refine Ev_iload_n dX11_isWithin_21 rfl ?_
          refine Ev_iload_n dX11_isWithin_22 rfl ?_
          refine Ev_icmp_neT 30 dX11_isWithin_23 (by decide) (fun _ => ?_) (fun z_ => absurd (Int32.toInt_inj.mp z_).symm (nI_m1 (by omega)))
          refine Ev_iconst (v := nI 0) dX11_isWithin_30 (by decide) ?_
          refine Ev_zret dX11_isWithin_31 rfl (by decide) ?_
          exact ⟨by simp [hne_]; rfl, rfl⟩
        | some q =>
          have hq := (mk.2.2.1 c' hc').1 q hp
          have hd1 := ((mk.2.1 c' (mk.lt hc')).2.2.2.2.2 q hp).2
          have e : paI m c' = nI (mSl m q) := by unfold paI; rw [hp]
          rw [e]
          have e2 : (decide (c' = c) || wIn m c q) = wIn m c q := by simp [hne_]
          show Ev l G 0 0 0 mX11_isWithin 2 [.ref MO, .int t_, .int (nI (mSl m c)), .int (nI (mSl m q))] [] h (Ex (some (.int (bI (decide (c' = c) || wIn m c q)))) h)
          rw [e2]
          exact ih_ q hq (by omega)
theorem ev_isWithin (l : Launch) (G : aG) (c c' : Nat) (m : Md) (h : aH) (rf : Rf h) (mk : MOk m) (hpar_ : ∀ x, mLive m x → hX h 31 (mSl m x) = paI m x) (hc : mLive m c) (hc' : mLive m c') : Ev l G 0 0 0 mX11_isWithin 0 (en 4 [.ref MO, .int (nI (mSl m c')), .int (nI (mSl m c))]) [] h (Ex (some (.int (bI (wIn m c c')))) h) := by
  refine Ev_iload_n dX11_isWithin_0 rfl ?_
  refine Ev_istore_n dX11_isWithin_1 (by decide) ?_
  exact ev_isWithin_l l G _ c m h rf mk hpar_ hc _ c' hc' rfl
