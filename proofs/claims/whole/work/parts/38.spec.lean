/-- a new thing -/
def dpO (m : Md) (p : Option Nat) : Nat := match p with
  | none => 1
  | some q => mDp m q + 1
def nT (m : Md) (t kd : Nat) (p : Option Nat) (tp : List Int32) : Md := (up1 m.1 (mCm m) (t, kd, p, dpO m p), mCm m + 1, up1 m.2.2.1 t (some (mCm m)), up1 m.2.2.2.1 (mCm m) tp, (fun c j => if c = mCm m then 0 else m.2.2.2.2.1 c j), (fun p' => if p' = p then mCh m p ++ [mCm m] else mCh m p'))
section NT
variable {m : Md} {t kd : Nat} {p : Option Nat} {tp : List Int32}
theorem nT_sl (c : Nat) : mSl (nT m t kd p tp) c = if c = mCm m then t else mSl m c := by
  show (up1 m.1 (mCm m) (t, kd, p, dpO m p) c).1 = _
  unfold up1; split <;> rfl
theorem nT_kd (c : Nat) : mKd (nT m t kd p tp) c = if c = mCm m then kd else mKd m c := by
  show (up1 m.1 (mCm m) (t, kd, p, dpO m p) c).2.1 = _
  unfold up1; split <;> rfl
theorem nT_pa (c : Nat) : mPa (nT m t kd p tp) c = if c = mCm m then p else mPa m c := by
  show (up1 m.1 (mCm m) (t, kd, p, dpO m p) c).2.2.1 = _
  unfold up1; split <;> rfl
theorem nT_dp (c : Nat) : mDp (nT m t kd p tp) c = if c = mCm m then dpO m p else mDp m c := by
  show (up1 m.1 (mCm m) (t, kd, p, dpO m p) c).2.2.2 = _
  unfold up1; split <;> rfl
theorem nT_lv (s : Nat) : mLv (nT m t kd p tp) s = if s = t then some (mCm m) else mLv m s := rfl
theorem nT_nm (c : Nat) : mNm (nT m t kd p tp) c = if c = mCm m then tp else mNm m c := rfl
theorem nT_nu (c j : Nat) : mNu (nT m t kd p tp) c j = if c = mCm m then 0 else mNu m c j := rfl
theorem nT_ch (p' : Option Nat) : mCh (nT m t kd p tp) p' = if p' = p then mCh m p ++ [mCm m] else mCh m p' := rfl
theorem nT_cm : mCm (nT m t kd p tp) = mCm m + 1 := rfl
theorem nT_live (k : MOk m) (hf : mLv m t = none) (c : Nat) : mLive (nT m t kd p tp) c ↔ c = mCm m ∨ mLive m c := by
  unfold mLive
  rw [nT_lv, nT_sl]
  by_cases e : c = mCm m
  · subst e; simp
  · rw [if_neg e]
    by_cases e2 : mSl m c = t
    · rw [if_pos e2]
      constructor
      · intro q; exact absurd (Option.some.inj q).symm e
      · rintro (q | q)
        · exact absurd q e
        · rw [e2, hf] at q; cases q
    · rw [if_neg e2]
      constructor
      · exact Or.inr
      · rintro (q | q)
        · exact absurd q e
        · exact q
theorem MOk.add (k : MOk m) (hf : mLv m t = none) (ht : t < 24) (hk : kd < 8) (hp : ∀ q, p = some q → mLive m q ∧ mDp m q < 6) (hn : 1 ≤ tp.length ∧ tp.length ≤ 6) : MOk (nT m t kd p tp) := by
  have ne : ∀ c, mLive m c → c ≠ mCm m := fun c hc e => by have := k.lt hc; omega
  refine ⟨fun s c h => ?_, fun c hc => ?_, fun c hc => ?_, fun p' c => ?_, fun p' => ?_⟩
  · rw [nT_lv] at h
    rw [nT_cm, nT_sl]
    by_cases e : s = t
    · rw [if_pos e] at h
      have := Option.some.inj h
      subst this
      rw [if_pos rfl]
      exact ⟨by omega, by omega, e.symm⟩
    · rw [if_neg e] at h
      obtain ⟨h1, h2, h3⟩ := k.1 _ _ h
      rw [if_neg (by omega)]
      exact ⟨h1, by omega, h3⟩
  · rw [nT_cm] at hc
    rw [nT_sl, nT_kd, nT_dp, nT_pa, nT_cm]
    by_cases e : c = mCm m
    · subst e
      simp only [if_true]
      refine ⟨ht, hk, ?_, ?_, fun q => by subst q; rfl, fun q hq => ?_⟩
      · unfold dpO; split <;> omega
      · unfold dpO
        cases p with
        | none => show 1 ≤ 6; omega
        | some q => have := (hp q rfl).2; show mDp m q + 1 ≤ 6; omega
      · have h1 := hp q hq
        have h2 := k.lt h1.1
        rw [nT_dp, if_neg (by omega)]
        subst hq
        exact ⟨by omega, rfl⟩
    · simp only [if_neg e]
      obtain ⟨a1, a2, a3, a4, a5, a6⟩ := k.2.1 c (by omega)
      refine ⟨a1, a2, a3, a4, a5, fun q hq => ?_⟩
      obtain ⟨b1, b2⟩ := a6 q hq
      rw [nT_dp, if_neg (by omega)]
      exact ⟨by omega, b2⟩
  · rw [nT_live k hf] at hc
    rw [nT_nm]
    simp only [nT_nu, nT_pa]
    by_cases e : c = mCm m
    · simp only [if_pos e]
      refine ⟨fun q hq => (nT_live k hf q).mpr (Or.inr (hp q hq).1), hn, fun j hj => by decide⟩
    · simp only [if_neg e]
      have hc := hc.resolve_left e
      obtain ⟨a1, a2, a3⟩ := k.2.2.1 c hc
      exact ⟨fun q hq => (nT_live k hf q).mpr (Or.inr (a1 q hq)), a2, a3⟩
  · rw [nT_live k hf, nT_ch, nT_pa]
    by_cases e : c = mCm m
    · simp only [if_pos e]
      by_cases e2 : p' = p
      · simp [e2, e]
      · simp only [if_neg e2]
        constructor
        · intro q
          exact absurd e (ne c ((k.2.2.2.1 _ _).mp q).1)
        · rintro ⟨-, q⟩; exact absurd q.symm e2
    · simp only [if_neg e]
      by_cases e2 : p' = p
      · simp only [if_pos e2, List.mem_append, List.mem_singleton]
        rw [k.2.2.2.1 p c, e2]
        constructor
        · rintro (q | q)
          · exact ⟨Or.inr q.1, q.2⟩
          · exact absurd q e
        · rintro ⟨q1, q2⟩
          exact Or.inl ⟨q1.resolve_left e, q2⟩
      · simp only [if_neg e2]
        rw [k.2.2.2.1 p' c]
        constructor
        · rintro ⟨q1, q2⟩; exact ⟨Or.inr q1, q2⟩
        · rintro ⟨q1, q2⟩; exact ⟨q1.resolve_left e, q2⟩
  · rw [nT_ch]
    by_cases e2 : p' = p
    · rw [if_pos e2]
      refine List.nodup_append.mpr ⟨k.2.2.2.2 p, by simp, fun a ha b hb => ?_⟩
      rw [List.mem_singleton.mp hb]
      exact ne a ((k.2.2.2.1 _ _).mp ha).1
    · rw [if_neg e2]; exact k.2.2.2.2 p'
theorem nT_cnt (hf : mLv m t = none) (ht : t < 24) : mCnt (nT m t kd p tp) = mCnt m + 1 := by
  unfold mCnt
  have e : (fun s => (mLv (nT m t kd p tp) s).isSome) = fun s => if s = t then true else (fun s => (mLv m s).isSome) s := by
    funext s
    rw [nT_lv]
    by_cases h : s = t <;> simp [h]
  rw [e]
  have h2 := fb_ct_upd (fun s => (mLv m s).isSome) true ht
  simp only [hf] at h2
  simpa using h2
/-- what the reference's rows become -/
def NTr (m : Md) (t kd : Nat) (p : Option Nat) (tp : List Int32) (h h' : aH) : Prop :=
  (hX h' 29 t = nI (mCm m) ∧ ∀ i, i ≠ t → hX h' 29 i = hX h 29 i) ∧ (hX h' 30 t = nI kd ∧ ∀ i, i ≠ t → hX h' 30 i = hX h 30 i) ∧ (hX h' 31 t = pI m p ∧ ∀ i, i ≠ t → hX h' 31 i = hX h 31 i) ∧ (hX h' 32 t = nI (mCh m p).length ∧ ∀ i, i ≠ t → hX h' 32 i = hX h 32 i) ∧ ((∀ j, j < 4 → hX h' 33 (4 * t + j) = 0) ∧ ∀ i, i < 4 * t ∨ 4 * t + 4 ≤ i → hX h' 33 i = hX h 33 i) ∧ TkN tp t h h' ∧ hI h' 768 MO = nI (mCnt m + 1) ∧ hI h' 770 MO = nI (mCm m + 1)
theorem nT_paI (k : MOk m) (hf : mLv m t = none) (hp : ∀ q, p = some q → mLive m q) {c : Nat} (hc : mLive m c) : paI (nT m t kd p tp) c = paI m c := by
  have h1 := k.lt hc
  unfold paI
  rw [nT_pa, if_neg (by omega)]
  cases h2 : mPa m c with
  | none => rfl
  | some q =>
    have h3 := k.lt ((k.2.2.1 c hc).1 q h2)
    show nI (mSl _ q) = _
    rw [nT_sl, if_neg (by omega)]
theorem nT_pI (k : MOk m) (hp : ∀ q, p = some q → mLive m q) : paI (nT m t kd p tp) (mCm m) = pI m p := by
  unfold paI pI
  rw [nT_pa, if_pos rfl]
  cases p with
  | none => rfl
  | some q =>
    have h3 := k.lt (hp q rfl)
    show nI (mSl _ q) = _
    rw [nT_sl, if_neg (by omega)]
theorem RM.add {h h' : aH} (r : RM m h) (k : MOk m) (hf : mLv m t = none) (ht : t < 24) (hp : ∀ q, p = some q → mLive m q) (hn : tp.length ≤ 6) (hc6 : mCm m + 1 ≤ 600) (n : NTr m t kd p tp h h') : RM (nT m t kd p tp) h' := by
  obtain ⟨n1, n2, n3, n4, n5, n6, n7, n8⟩ := n
  have nt : ∀ c, mLive m c → mSl m c ≠ t := fun c hc e => by
    unfold mLive at hc
    rw [e, hf] at hc; cases hc
  refine ⟨hc6, fun s hs => ?_, fun c hc => ?_, fun p' i hi => ?_, by rw [nT_cnt hf ht]; exact n7, n8⟩
  · rw [nT_lv]
    by_cases e : s = t
    · rw [if_pos e, e]; exact n1.1
    · rw [if_neg e, n1.2 s e]; exact r.2.1 s hs
  · rw [nT_live k hf] at hc
    unfold RT1
    simp only [nT_sl, nT_kd, nT_nm, nT_nu]
    by_cases e : c = mCm m
    · subst e
      simp only [if_true]
      exact ⟨n2.1, by rw [nT_pI k hp]; exact n3.1, n5.1, n6.1, n6.2.2.1⟩
    · simp only [if_neg e]
      have hc := hc.resolve_left e
      have hs := nt c hc
      obtain ⟨a1, a2, a3, a4, a5⟩ := r.2.2.1 c hc
      refine ⟨by rw [n2.2 _ hs]; exact a1, by rw [n3.2 _ hs, nT_paI k hf hp hc]; exact a2, fun j hj => ?_, by rw [n6.2.1 _ hs]; exact a4, fun q hq => ?_⟩
      · rw [n5.2 _ (by omega)]; exact a3 j hj
      · have h6 := (k.2.2.1 c hc).2.1.2
        rw [n6.2.2.2 _ (by omega)]; exact a5 q hq
  · rw [nT_ch] at hi ⊢
    by_cases e : p' = p
    · rw [if_pos e] at hi ⊢
      simp only [List.length_append, List.length_cons, List.length_nil] at hi
      by_cases e2 : i = (mCh m p).length
      · subst e2
        have e3 : (mCh m p ++ [mCm m]).getD (mCh m p).length 0 = mCm m := by simp [List.getD_eq_getElem?_getD]
        rw [e3, nT_sl, if_pos rfl]
        exact n4.1
      · have e3 : (mCh m p ++ [mCm m]).getD i 0 = (mCh m p).getD i 0 := by
          simp only [List.getD_eq_getElem?_getD]
          rw [List.getElem?_append_left (by omega)]
        have hm : (mCh m p).getD i 0 ∈ mCh m p := by
          rw [List.getD_eq_getElem?_getD, List.getElem?_eq_getElem (by omega)]
          exact List.getElem_mem _
        have hl := ((k.2.2.2.1 _ _).mp hm).1
        have := k.lt hl
        rw [e3, nT_sl, if_neg (by omega), n4.2 _ (nt _ hl)]
        exact r.2.2.2.1 p i (by omega)
    · rw [if_neg e] at hi ⊢
      have hm : (mCh m p').getD i 0 ∈ mCh m p' := by
        rw [List.getD_eq_getElem?_getD, List.getElem?_eq_getElem hi]
        exact List.getElem_mem _
      have hl := ((k.2.2.2.1 _ _).mp hm).1
      have := k.lt hl
      rw [nT_sl, if_neg (by omega), n4.2 _ (nt _ hl)]
      exact r.2.2.2.1 p' i hi
end NT
