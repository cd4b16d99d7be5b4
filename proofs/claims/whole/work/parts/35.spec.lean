/-! the model as a value: by the number with which a thing came: slot, kind, the one that it lies in, depth; how many came; who has a slot; names; numbers; the order of those that lie in one -/
abbrev Md : Type := (Nat → Nat × Nat × Option Nat × Nat) × Nat × (Nat → Option Nat) × (Nat → List Int32) × (Nat → Nat → Int32) × (Option Nat → List Nat)
def mSl (m : Md) (c : Nat) : Nat := (m.1 c).1
def mKd (m : Md) (c : Nat) : Nat := (m.1 c).2.1
def mPa (m : Md) (c : Nat) : Option Nat := (m.1 c).2.2.1
def mDp (m : Md) (c : Nat) : Nat := (m.1 c).2.2.2
def mCm (m : Md) : Nat := m.2.1
def mLv (m : Md) (t : Nat) : Option Nat := m.2.2.1 t
def mNm (m : Md) (c : Nat) : List Int32 := m.2.2.2.1 c
def mNu (m : Md) (c j : Nat) : Int32 := m.2.2.2.2.1 c j
def mCh (m : Md) (p : Option Nat) : List Nat := m.2.2.2.2.2 p
def mLive (m : Md) (c : Nat) : Prop := mLv m (mSl m c) = some c
def mCnt (m : Md) : Nat := fb_ct (fun t => (mLv m t).isSome) 24
def MOk (m : Md) : Prop :=
  (∀ t c, mLv m t = some c → t < 24 ∧ c < mCm m ∧ mSl m c = t) ∧
  (∀ c, c < mCm m → mSl m c < 24 ∧ mKd m c < 8 ∧ 1 ≤ mDp m c ∧ mDp m c ≤ 6 ∧ (mPa m c = none → mDp m c = 1) ∧ (∀ q, mPa m c = some q → q < mCm m ∧ mDp m c = mDp m q + 1)) ∧
  (∀ c, mLive m c → (∀ q, mPa m c = some q → mLive m q) ∧ (1 ≤ (mNm m c).length ∧ (mNm m c).length ≤ 6) ∧ ∀ j, j < 4 → 0 ≤ (mNu m c j).toInt ∧ (mNu m c j).toInt ≤ 99999) ∧
  (∀ p c, c ∈ mCh m p ↔ mLive m c ∧ mPa m c = p) ∧
  (∀ p, (mCh m p).Nodup)
def paI (m : Md) (c : Nat) : Int32 := match mPa m c with
  | none => -1
  | some q => nI (mSl m q)
/-- the reference's rows of one thing -/
def RT1 (m : Md) (c : Nat) (h : aH) : Prop := hX h 30 (mSl m c) = nI (mKd m c) ∧ hX h 31 (mSl m c) = paI m c ∧ (∀ j, j < 4 → hX h 33 (4 * mSl m c + j) = mNu m c j) ∧ hX h 35 (mSl m c) = nI (mNm m c).length ∧ ∀ k, k < (mNm m c).length → hX h 34 (6 * mSl m c + k) = (mNm m c).getD k 0
def RM (m : Md) (h : aH) : Prop := mCm m ≤ 600 ∧ (∀ t, t < 24 → hX h 29 t = onI (mLv m t)) ∧ (∀ c, mLive m c → RT1 m c h) ∧ (∀ p i, i < (mCh m p).length → hX h 32 (mSl m ((mCh m p).getD i 0)) = nI i) ∧ hI h 768 MO = nI (mCnt m) ∧ hI h 770 MO = nI (mCm m)
theorem MOk.lt {m : Md} (k : MOk m) {c : Nat} (h : mLive m c) : c < mCm m := (k.1 _ _ h).2.1
theorem MOk.live {m : Md} (k : MOk m) {t c : Nat} (h : mLv m t = some c) : mLive m c := by
  unfold mLive
  rw [(k.1 _ _ h).2.2]; exact h
theorem MOk.sl {m : Md} (k : MOk m) {c : Nat} (h : mLive m c) : mSl m c < 24 := (k.1 _ _ h).1
theorem RM.isTh {m : Md} {h : aH} {t : Int32} (r : RM m h) (k : MOk m) : isTh h t = true ↔ ∃ c, mLive m c ∧ t = nI (mSl m c) := by
  rw [isTh_iff]
  constructor
  · rintro ⟨h1, h2, h3⟩
    have hj : t.toInt.toNat < 24 := by omega
    rw [r.2.1 _ hj] at h3
    cases hl : mLv m t.toInt.toNat with
    | none => rw [hl] at h3; exact absurd h3 (by decide)
    | some c =>
      refine ⟨c, k.live hl, ?_⟩
      rw [(k.1 _ _ hl).2.2]
      apply Int32.toInt_inj.mp
      rw [hi_n (by omega)]; omega
  · rintro ⟨c, hc, rfl⟩
    have hs := k.sl hc
    have hb := k.lt hc
    have hc1 := r.1
    rw [hi_n (by omega)]
    refine ⟨by omega, by omega, ?_⟩
    rw [show ((mSl m c : Int)).toNat = mSl m c from by omega, r.2.1 _ hs, hc]
    show 0 ≤ (nI c).toInt
    rw [hi_n (by omega)]; omega
/-- one number changed -/
def sNu (m : Md) (c j : Nat) (v : Int32) : Md := (m.1, m.2.1, m.2.2.1, m.2.2.2.1, up2 m.2.2.2.2.1 c j v, m.2.2.2.2.2)
def sNm (m : Md) (c : Nat) (n : List Int32) : Md := (m.1, m.2.1, m.2.2.1, up1 m.2.2.2.1 c n, m.2.2.2.2.1, m.2.2.2.2.2)
theorem MOk.nu {m : Md} {c j : Nat} {v : Int32} (k : MOk m) (hv : 0 ≤ v.toInt ∧ v.toInt ≤ 99999) : MOk (sNu m c j v) := by
  refine ⟨k.1, k.2.1, fun c' h' => ⟨(k.2.2.1 c' h').1, (k.2.2.1 c' h').2.1, fun i hi => ?_⟩, k.2.2.2.1, k.2.2.2.2⟩
  have h0 := (k.2.2.1 c' h').2.2 i hi
  show 0 ≤ (up2 m.2.2.2.2.1 c j v c' i).toInt ∧ (up2 m.2.2.2.2.1 c j v c' i).toInt ≤ 99999
  unfold up2
  split
  · split
    · exact hv
    · exact h0
  · exact h0
theorem MOk.nm {m : Md} {c : Nat} {n : List Int32} (k : MOk m) (hv : 1 ≤ n.length ∧ n.length ≤ 6) : MOk (sNm m c n) := by
  refine ⟨k.1, k.2.1, fun c' h' => ⟨(k.2.2.1 c' h').1, ?_, (k.2.2.1 c' h').2.2⟩, k.2.2.2.1, k.2.2.2.2⟩
  have h0 := (k.2.2.1 c' h').2.1
  show 1 ≤ (up1 m.2.2.2.1 c n c').length ∧ (up1 m.2.2.2.1 c n c').length ≤ 6
  unfold up1
  split
  · exact hv
  · exact h0
theorem sl_inj {m : Md} {c c' : Nat} (h : mLive m c) (h' : mLive m c') (e : mSl m c = mSl m c') : c = c' := by
  unfold mLive at h h'
  rw [e] at h
  exact Option.some.inj (h.symm.trans h')
theorem RM.nu {m : Md} {h : aH} {c j : Nat} {v : Int32} (r : RM m h) (k : MOk m) (hc : mLive m c) (hj : j < 4) : RM (sNu m c j v) (sX h 33 (4 * mSl m c + j) v) := by
  refine ⟨r.1, r.2.1, fun c' h' => ?_, r.2.2.2.1, r.2.2.2.2.1, r.2.2.2.2.2⟩
  obtain ⟨a1, a2, a3, a4⟩ := r.2.2.1 c' h'
  refine ⟨a1, a2, fun i hi => ?_, a4⟩
  show up2 (hX h) 33 (4 * mSl m c + j) v 33 (4 * mSl m c' + i) = up2 m.2.2.2.2.1 c j v c' i
  by_cases e : c' = c
  · subst e
    by_cases e2 : i = j
    · subst e2; rw [up2_s, up2_s]
    · rw [up2_n _ _ (by omega), up2_n _ _ e2]; exact a3 i hi
  · have hs : mSl m c' ≠ mSl m c := fun z => e (sl_inj h' hc z)
    rw [up2_n _ _ (by omega), up2_k _ _ e]; exact a3 i hi
theorem RM.fr {m : Md} {h h' : aH} {ks as : List Nat} (r : RM m h) (f : Fr ks as h h') (h1 : 768 ∉ ks ∧ 770 ∉ ks) (h2 : 29 ∉ as ∧ 30 ∉ as ∧ 31 ∉ as ∧ 32 ∉ as ∧ 33 ∉ as ∧ 34 ∉ as ∧ 35 ∉ as) : RM m h' := by
  have x := f.2.2.2.2.2.2
  have y := f.2.2.2.2.2.1
  unfold RM RT1
  rw [x 29 h2.1, x 30 h2.2.1, x 31 h2.2.2.1, x 32 h2.2.2.2.1, x 33 h2.2.2.2.2.1, x 34 h2.2.2.2.2.2.1, x 35 h2.2.2.2.2.2.2, y 768 MO (fun q => h1.1 q.2), y 770 MO (fun q => h1.2 q.2)]
  exact r
theorem RM.nm {m : Md} {h h' : aH} {c : Nat} {n : List Int32} (r : RM m h) (k : MOk m) (hc : mLive m c) (f : Fr [785] [34, 35] h h') (t : TkN n (mSl m c) h h') (hn : n.length ≤ 6) : RM (sNm m c n) h' := by
  have x := f.2.2.2.2.2.2
  have y := f.2.2.2.2.2.1
  refine ⟨r.1, fun t ht => by rw [x 29 (by decide)]; exact r.2.1 t ht, fun c' hl_ => ?_, fun p i hi => by rw [x 32 (by decide)]; exact r.2.2.2.1 p i hi, by rw [y 768 MO (fun q => absurd q.2 (by decide))]; exact r.2.2.2.2.1, by rw [y 770 MO (fun q => absurd q.2 (by decide))]; exact r.2.2.2.2.2⟩
  obtain ⟨a1, a2, a3, a4, a5⟩ := r.2.2.1 c' hl_
  unfold RT1
  rw [x 30 (by decide), x 31 (by decide), x 33 (by decide)]
  refine ⟨a1, a2, a3, ?_, ?_⟩
  · show _ = nI (up1 m.2.2.2.1 c n c').length
    by_cases e : c' = c
    · subst e; rw [up1_s]; exact t.1
    · have hs : mSl m c' ≠ mSl m c := fun z => e (sl_inj hl_ hc z)
      rw [up1_n _ _ e]
      exact (t.2.1 _ hs).trans a4
  · show ∀ q, q < (up1 m.2.2.2.1 c n c').length → _ = (up1 m.2.2.2.1 c n c').getD q 0
    by_cases e : c' = c
    · subst e; rw [up1_s]; exact t.2.2.1
    · have hs : mSl m c' ≠ mSl m c := fun z => e (sl_inj hl_ hc z)
      rw [up1_n _ _ e]
      have h6 := (k.2.2.1 c' hl_).2.1.2
      intro q hq
      have hq_ : q < (mNm m c').length := hq
      show hX h' 34 (6 * mSl m c' + q) = _
      exact (t.2.2.2 _ (by omega)).trans (a5 q hq)
