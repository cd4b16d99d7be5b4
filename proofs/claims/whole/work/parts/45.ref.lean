def PlD (m : Md) (c x : Nat) (h h1 : aH) : Prop := Fr [] [32] h h1 ∧ ∀ s, s < 24 → hX h1 32 s = (match (if s < x then sib m c s else none) with
  | some j => nI (np1 (ix m c) j)
  | none => hX h 32 s)
theorem PlD.skip {m : Md} {c x : Nat} {h h1 : aH} (p : PlD m c x h h1) (hx : sib m c x = none) : PlD m c (x + 1) h h1 := by
  refine ⟨p.1, fun s hs => ?_⟩
  rw [p.2 s hs]
  by_cases e : s = x
  · subst e
    rw [if_neg (by omega), if_pos (by omega), hx]
  · by_cases e2 : s < x
    · rw [if_pos e2, if_pos (by omega)]
    · rw [if_neg e2, if_neg (by omega)]
theorem PlD.step {m : Md} {c x j : Nat} {h h1 h2 : aH} (p : PlD m c x h h1) (hx : sib m c x = some j) (f : Fr [] [32] h1 h2) (e1 : hX h2 32 x = nI (np1 (ix m c) j)) (e2 : ∀ s, s ≠ x → hX h2 32 s = hX h1 32 s) : PlD m c (x + 1) h h2 := by
  refine ⟨p.1.tr f, fun s hs => ?_⟩
  by_cases e : s = x
  · subst e
    rw [if_pos (by omega), hx]; exact e1
  · rw [e2 s e, p.2 s hs]
    by_cases e3 : s < x
    · rw [if_pos e3, if_pos (by omega)]
    · rw [if_neg e3, if_neg (by omega)]
theorem PlD.zero {m : Md} {c : Nat} {h : aH} : PlD m c 0 h h := ⟨Fr.rf, fun s hs => by rw [if_neg (by omega)]⟩
theorem PlD.old {m : Md} {c x : Nat} {h h1 : aH} (p : PlD m c x h h1) (hx : x < 24) : hX h1 32 x = hX h 32 x := by
  rw [p.2 x hx, if_neg (by omega)]
theorem PlD.own {m : Md} {c x : Nat} {h h1 : aH} (o : MOk m) (hc : mLive m c) (p : PlD m c x h h1) : hX h1 32 (mSl m c) = hX h 32 (mSl m c) := by
  rw [p.2 _ (o.sl hc)]
  have : sib m c (mSl m c) = none := sib_no hc (fun z => z.1 rfl)
  by_cases e : mSl m c < x
  · rw [if_pos e, this]
  · rw [if_neg e]
theorem ev_drop_1 (l : Launch) (G : aG) (c : Nat) (m : Md) (h : aH) (rf : Rf h) (mk : MOk m) (rm : RM m h) (hc : mLive m c) {Q : Option Value → aH → Prop} (kk_ : ∀ h1, PlD m c 24 h h1 → Ev l G 2 0 0 mX11_drop 73 [.ref MO, .int (nI (mSl m c)), .int (nI 24), .retAddr 0, .retAddr 0] [] h1 Q) (ms : Nat) : ∀ x, 24 - x < ms → x ≤ 24 → ∀ h1, PlD m c x h h1 → Ev l G 2 0 0 mX11_drop 12 [.ref MO, .int (nI (mSl m c)), .int (nI x), .retAddr 0, .retAddr 0] [] h1 Q := by
  induction ms with
  | zero => intro x hx; omega
  | succ ms ih_ =>
    intro x hx hx2 h1 pl_
    have rf1_ := rf.fr pl_.1
    have hs0_ := mk.sl hc
    have hkl_ := ch_le mk (mPa m c)
    have x29_ : hX h1 29 = hX h 29 := pl_.1.2.2.2.2.2.2 29 (by decide)
    have x31_ : hX h1 31 = hX h 31 := pl_.1.2.2.2.2.2.2 31 (by decide)
    have hil_ := ix_lt mk hc
    have jn_ : x < 24 → ∀ h2, PlD m c (x + 1) h h2 → Ev l G 2 0 0 mX11_drop 67 [.ref MO, .int (nI (mSl m c)), .int (nI x), .retAddr 0, .retAddr 0] [] h2 Q := by
      intro hx3 h2 hp_
      refine Ev_iincN 1 dX11_drop_67 (by decide) (by decide) rfl ?_
      refine Ev_goto 12 dX11_drop_70 (by decide) ?_
      exact ih_ (x + 1) (by omega) (by omega) _ hp_
    refine Ev_iload_n dX11_drop_12 rfl ?_
    refine Ev_bipush (v := nI 24) dX11_drop_13 (by decide) ?_
    refine Ev_icmp_geN 73 dX11_drop_15 (by decide) (by omega) (by omega) (fun zb15_ => ?_) (fun zb15_ => ?_)
    · have ex_ : x = 24 := by omega
      subst ex_
      exact kk_ _ pl_
    · refine Ev_aload_n dX11_drop_18 rfl (by first | exact Or.inr ⟨_, rfl⟩ | exact rv_or _ | exact Or.inl rfl) ?_
      refine Ev_getA dX11_drop_19 fX11_7 rf1_.1 (rr_came rf1_) ?_
      refine Ev_iload_n dX11_drop_22 rfl ?_
      refine Ev_ialdL _ dX11_drop_23 (rk_came rf1_) (rl_came rf1_) (hi_n (by omega)) (by omega) ?_
      refine Ev_if_ltT 67 dX11_drop_24 (by decide) (fun zb24_ => ?_) (fun zb24_ => ?_)
      · have hn_ : sib m c x = none := by
          unfold sib
          cases hv : mLv m x with
          | none => rfl
          | some c' =>
            have h1 := (mk.1 _ _ hv).2.1
            have h2 := rm.1
            rw [x29_, rm.2.1 x (by omega), hv] at zb24_
            exact absurd zb24_ (by show ¬ (nI c').toInt < 0; rw [hi_n (by omega)]; omega)
        first
        | exact jn_ (by omega) _ (pl_.skip hn_)
        | (have hne_ : c' ≠ c := fun z => by rw [z] at zb54_; omega
           exact jn_ (by omega) _ (pl_.step (by rw [← hsl_]; exact sib_at mk hl_ hne_ hpa_) (Fr.row (by decide)) (by rw [hX_s]; unfold np1; rw [if_pos (by omega)]) (fun s hs => hX_n _ _ hs)))
      · obtain ⟨c', hv_⟩ : ∃ c', mLv m x = some c' := by
          cases hv : mLv m x with
          | some c' => exact ⟨c', rfl⟩
          | none =>
            rw [x29_, rm.2.1 x (by omega), hv] at zb24_
            exact absurd (by decide) zb24_
        have hl_ := mk.live hv_
        have hsl_ := (mk.1 _ _ hv_).2.2
        refine Ev_aload_n dX11_drop_27 rfl (by first | exact Or.inr ⟨_, rfl⟩ | exact rv_or _ | exact Or.inl rfl) ?_
        refine Ev_getA dX11_drop_28 fX11_16 rf1_.1 (rr_parent rf1_) ?_
        refine Ev_iload_n dX11_drop_31 rfl ?_
        refine Ev_ialdL _ dX11_drop_32 (rk_parent rf1_) (rl_parent rf1_) (hi_n (by omega)) (by omega) ?_
        refine Ev_top (y := .int (paI m c')) (by rw [x31_, ← hsl_, (rm.2.2.1 c' hl_).2.1]) ?_
        refine Ev_aload_n dX11_drop_33 rfl (by first | exact Or.inr ⟨_, rfl⟩ | exact rv_or _ | exact Or.inl rfl) ?_
        refine Ev_getA dX11_drop_34 fX11_16 rf1_.1 (rr_parent rf1_) ?_
        refine Ev_iload_n dX11_drop_37 rfl ?_
        refine Ev_ialdL _ dX11_drop_38 (rk_parent rf1_) (rl_parent rf1_) (hi_n (by omega)) (by omega) ?_
        refine Ev_top (y := .int (paI m c)) (by rw [x31_, (rm.2.2.1 c hc).2.1]) ?_
        refine Ev_icmp_neT 67 dX11_drop_39 (by decide) (fun zb39_ => ?_) (fun zb39_ => ?_)
        · have hn_ : sib m c x = none := by
            rw [← hsl_]
            exact sib_no hl_ (fun z => zb39_ (by unfold paI; rw [z.2]))
          first
          | exact jn_ (by omega) _ (pl_.skip hn_)
          | (have hne_ : c' ≠ c := fun z => by rw [z] at zb54_; omega
             exact jn_ (by omega) _ (pl_.step (by rw [← hsl_]; exact sib_at mk hl_ hne_ hpa_) (Fr.row (by decide)) (by rw [hX_s]; unfold np1; rw [if_pos (by omega)]) (fun s hs => hX_n _ _ hs)))
        · have hpa_ : mPa m c' = mPa m c := (pI_inj mk (fun q hq => (mk.2.2.1 c hc).1 q hq) hl_).mp (Int32.toInt_inj.mp zb39_)
          have hix_ := ix_lt mk hl_
          have hch_ := ch_le mk (mPa m c')
          refine Ev_aload_n dX11_drop_42 rfl (by first | exact Or.inr ⟨_, rfl⟩ | exact rv_or _ | exact Or.inl rfl) ?_
          refine Ev_getA dX11_drop_43 fX11_19 rf1_.1 (rr_place rf1_) ?_
          refine Ev_iload_n dX11_drop_46 rfl ?_
          refine Ev_ialdL _ dX11_drop_47 (rk_place rf1_) (rl_place rf1_) (hi_n (by omega)) (by omega) ?_
          refine Ev_top (y := .int (nI (ix m c'))) (by rw [pl_.old (by omega), ← hsl_, rm.place mk hl_]; rfl) ?_
          refine Ev_aload_n dX11_drop_48 rfl (by first | exact Or.inr ⟨_, rfl⟩ | exact rv_or _ | exact Or.inl rfl) ?_
          refine Ev_getA dX11_drop_49 fX11_19 rf1_.1 (rr_place rf1_) ?_
          refine Ev_iload_n dX11_drop_52 rfl ?_
          refine Ev_ialdL _ dX11_drop_53 (rk_place rf1_) (rl_place rf1_) (hi_n (by omega)) (by omega) ?_
          refine Ev_top (y := .int (nI (ix m c))) (by rw [pl_.own mk hc, rm.place mk hc]; rfl) ?_
          refine Ev_icmp_leN 67 dX11_drop_54 (by decide) (by omega) (by omega) (fun zb54_ => ?_) (fun zb54_ => ?_)
          · by_cases hne_ : c' = c
            · exact jn_ (by omega) _ (pl_.skip (by rw [← hsl_]; exact sib_no hl_ (fun z => z.1 hne_)))
            · exact jn_ (by omega) _ (pl_.step (by rw [← hsl_]; exact sib_at mk hl_ hne_ hpa_) Fr.rf (by rw [pl_.old (by omega), ← hsl_, rm.place mk hl_]; unfold np1; rw [if_neg (by omega)]; rfl) (fun s hs => rfl))
          · refine Ev_aload_n dX11_drop_57 rfl (by first | exact Or.inr ⟨_, rfl⟩ | exact rv_or _ | exact Or.inl rfl) ?_
            refine Ev_getA dX11_drop_58 fX11_19 rf1_.1 (rr_place rf1_) ?_
            refine Ev_iload_n dX11_drop_61 rfl ?_
            refine Ev_dup2 dX11_drop_62 (by first | rfl | exact okv_rv _) (by first | rfl | exact okv_rv _) ?_
            refine Ev_ialdL _ dX11_drop_63 (rk_place rf1_) (rl_place rf1_) (hi_n (by omega)) (by omega) ?_
            refine Ev_top (y := .int (nI (ix m c'))) (by rw [pl_.old (by omega), ← hsl_, rm.place mk hl_]; rfl) ?_
            refine Ev_iconst (v := nI 1) dX11_drop_64 (by decide) ?_
            refine Ev_isubN dX11_drop_65 (by omega) ?_
            refine Ev_iastL _ dX11_drop_66 (rk_place rf1_) (rl_place rf1_) (hi_n (by omega)) (by omega) ?_
            first
            | exact jn_ (by omega) _ (pl_.skip hn_)
            | (have hne_ : c' ≠ c := fun z => by rw [z] at zb54_; omega
               exact jn_ (by omega) _ (pl_.step (by rw [← hsl_]; exact sib_at mk hl_ hne_ hpa_) (Fr.row (by decide)) (by rw [hX_s]; unfold np1; rw [if_pos (by omega)]) (fun s hs => hX_n _ _ hs)))
/-- who is left when those of R are gone -/
def lvR (m : Md) (R : Nat → Bool) (s : Nat) : Option Nat := match mLv m s with
  | some y => if R y = true then none else some y
  | none => none
def rcP (m : Md) (R : Nat → Bool) (s : Nat) : Bool := match mLv m s with
  | some y => R y
  | none => false
def rcn (m : Md) (R : Nat → Bool) : Nat := fb_ct (rcP m R) 24
def DrI (m : Md) (c : Nat) (R : Nat → Bool) (h h1 : aH) : Prop := Fr [] [29] h h1 ∧ (∀ s, s < 24 → hX h1 29 s = onI (lvR m R s)) ∧ (∀ y, R y = true → mLive m y ∧ wIn m c y = true ∧ y ≠ c) ∧ (∀ y q, mLive m y → R y = false → mPa m y = some q → R q = false)
def stuk (m : Md) (c : Nat) (R : Nat → Bool) (y : Nat) : Prop := R y = true ∨ y = c ∨ wIn m c y = false ∨ ∃ z, mLive m z ∧ R z = false ∧ mPa m z = some y
theorem lvR_at {m : Md} {R : Nat → Bool} {y : Nat} (h : mLive m y) : lvR m R (mSl m y) = if R y = true then none else some y := by unfold lvR; rw [h]
theorem rcn_add {m : Md} (k : MOk m) {R : Nat → Bool} {y : Nat} (h : mLive m y) (hr : R y = false) : rcn m (fun z => if z = y then true else R z) = rcn m R + 1 := by
  unfold rcn
  have e : rcP m (fun z => if z = y then true else R z) = fun s => if s = mSl m y then true else rcP m R s := by
    funext s
    unfold rcP
    by_cases e : s = mSl m y
    · subst e; rw [h]; simp
    · rw [if_neg e]
      cases hl : mLv m s with
      | none => rfl
      | some z =>
        have : z ≠ y := fun q => e (by rw [← q]; exact ((k.1 _ _ hl).2.2).symm)
        simp [this]
  rw [e]
  have h2 := fb_ct_upd (rcP m R) true (k.sl h)
  have h3 : rcP m R (mSl m y) = false := by unfold rcP; rw [h]; exact hr
  rw [h3] at h2
  simpa using h2
theorem DrI.kids {m : Md} {c : Nat} {R : Nat → Bool} {h h1 : aH} (k : MOk m) (d : DrI m c R h h1) (hcm : mCm m ≤ 600) (hpar_ : ∀ x, mLive m x → hX h1 31 (mSl m x) = paI m x) {y : Nat} (hy : mLive m y) : 0 < fb_ct (pm h1 (nI (mSl m y))) 24 ↔ ∃ z, mLive m z ∧ R z = false ∧ mPa m z = some y := by
  rw [fb_ct_pos]
  constructor
  · rintro ⟨s, hs, hq⟩
    obtain ⟨q1, q2⟩ := pm_iff.mp hq
    rw [d.2.1 s hs] at q1
    cases hl : mLv m s with
    | none =>
      have e0 : lvR m R s = none := by unfold lvR; rw [hl]
      rw [e0] at q1; exact absurd q1 (by decide)
    | some z =>
      have hz := k.live hl
      have hsz := (k.1 _ _ hl).2.2
      rw [← hsz, lvR_at hz] at q1
      by_cases e : R z = true
      · rw [if_pos e] at q1; exact absurd q1 (by decide)
      · rw [← hsz, hpar_ z hz] at q2
        exact ⟨z, hz, by simpa using e, (pI_inj k (p := some y) (fun q hq => by cases hq; exact hy) hz).mp q2⟩
  · rintro ⟨z, hz, h1_, h2_⟩
    refine ⟨mSl m z, k.sl hz, pm_iff.mpr ⟨?_, ?_⟩⟩
    · rw [d.2.1 _ (k.sl hz), lvR_at hz, if_neg (by rw [h1_]; decide)]
      show 0 ≤ (nI z).toInt
      have := k.lt hz
      rw [hi_n (by omega)]; omega
    · rw [hpar_ z hz]
      exact (pI_inj k (p := some y) (fun q hq => by cases hq; exact hy) hz).mpr h2_
theorem DrI.rem {m : Md} {c : Nat} {R : Nat → Bool} {h h1 : aH} (k : MOk m) (d : DrI m c R h h1) {y : Nat} (hy : mLive m y) (hw : wIn m c y = true) (hne : y ≠ c) (hk : ¬ ∃ z, mLive m z ∧ R z = false ∧ mPa m z = some y) : DrI m c (fun z => if z = y then true else R z) h (sX h1 29 (mSl m y) (-1)) := by
  refine ⟨d.1.tr (Fr.row (by decide)), fun s hs => ?_, fun z hz => ?_, fun z q hz hr hp => ?_⟩
  · by_cases e : s = mSl m y
    · subst e
      rw [hX_s, lvR_at hy]; simp; rfl
    · rw [hX_n _ _ e, d.2.1 s hs]
      unfold lvR
      cases hl : mLv m s with
      | none => rfl
      | some z =>
        have : z ≠ y := fun q => e (by rw [← q]; exact ((k.1 _ _ hl).2.2).symm)
        simp [this]
  · by_cases e : z = y
    · subst e; exact ⟨hy, hw, hne⟩
    · simp [e] at hz; exact d.2.2.1 z hz
  · by_cases e : z = y
    · simp [e] at hr
    · simp [e] at hr
      by_cases e2 : q = y
      · subst e2; exact absurd ⟨z, hz, hr, hp⟩ hk
      · simp [e2]; exact d.2.2.2 z q hz hr hp
/-- stuck everywhere: all that lie in it are gone -/
theorem stuk_all {m : Md} (k : MOk m) {c : Nat} {R : Nat → Bool} (hs : ∀ y, mLive m y → stuk m c R y) : ∀ (n : Nat) (y : Nat), mLive m y → 6 - mDp m y ≤ n → wIn m c y = true → y ≠ c → R y = true := by
  intro n
  induction n with
  | zero =>
    intro y hy hn hw hne
    rcases hs y hy with h | h | h | ⟨z, hz, h1, h2⟩
    · exact h
    · exact absurd h hne
    · rw [hw] at h; cases h
    · have a := k.2.1 z (k.lt hz)
      have := (a.2.2.2.2.2 y h2).2
      omega
  | succ n ih_ =>
    intro y hy hn hw hne
    rcases hs y hy with h | h | h | ⟨z, hz, h1, h2⟩
    · exact h
    · exact absurd h hne
    · rw [hw] at h; cases h
    · have a := k.2.1 z (k.lt hz)
      have h3 := (a.2.2.2.2.2 y h2).2
      have hzc : z ≠ c := fun e => by
        have := wIn_dp k _ (k.lt hy) rfl hw hne
        rw [e] at h3
        omega
      have := ih_ z hz (by omega) (wIn_par k (k.lt hz) h2 hw) hzc
      rw [this] at h1; cases h1
