/-- the new place of the one that had place j, as the one at i comes to k -/
def np1 (i j : Nat) : Nat := if i < j then j - 1 else j
def np (i k j : Nat) : Nat := if k ≤ np1 i j then np1 i j + 1 else np1 i j
def ix (m : Md) (c : Nat) : Nat := (mCh m (mPa m c)).idxOf c
/-- the place of another one that lies where c lies, by its slot -/
def sib (m : Md) (c s : Nat) : Option Nat := match mLv m s with
  | none => none
  | some c' => if c' ≠ c ∧ mPa m c' = mPa m c then some (ix m c') else none
theorem ix_lt {m : Md} (k : MOk m) {c : Nat} (hc : mLive m c) : ix m c < (mCh m (mPa m c)).length := List.idxOf_lt_length_of_mem ((k.2.2.2.1 _ _).mpr ⟨hc, rfl⟩)
theorem ix_get {m : Md} (k : MOk m) {c : Nat} (hc : mLive m c) : (mCh m (mPa m c))[ix m c]? = some c := by
  have h := ix_lt k hc
  rw [List.getElem?_eq_getElem h]
  exact congrArg some (List.getElem_idxOf h)
theorem ix_of {m : Md} (k : MOk m) {p : Option Nat} {i c : Nat} (h : (mCh m p)[i]? = some c) : mLive m c ∧ mPa m c = p ∧ ix m c = i := by
  have hm := (k.2.2.2.1 _ _).mp (List.mem_of_getElem? h)
  refine ⟨hm.1, hm.2, ?_⟩
  have h1 := ix_get k hm.1
  have h2 := ix_lt k hm.1
  rw [hm.2] at h1 h2
  exact (List.getElem?_inj h2 (k.2.2.2.2 p)).mp (h1.trans h.symm)
def mvL (L : List Nat) (i k c : Nat) : List Nat := (L.eraseIdx i).insertIdx k c
def mvM (m : Md) (c k : Nat) : Md := (m.1, m.2.1, m.2.2.1, m.2.2.2.1, m.2.2.2.2.1, fun p => if p = mPa m c then mvL (mCh m p) (ix m c) k c else mCh m p)
theorem mvL_len {L : List Nat} {i k c : Nat} (hi : i < L.length) (hk : k < L.length) : (mvL L i k c).length = L.length := by
  unfold mvL
  rw [List.length_insertIdx, List.length_eraseIdx]
  simp only [hi, if_true]
  split <;> omega
theorem er_perm {c : Nat} : ∀ (L : List Nat) (i : Nat), L[i]? = some c → (c :: L.eraseIdx i).Perm L := by
  intro L
  induction L with
  | nil => intro i h; simp at h
  | cons a L ih_ =>
    intro i h
    cases i with
    | zero =>
      simp at h
      subst h
      exact List.Perm.refl _
    | succ i =>
      simp only [List.getElem?_cons_succ] at h
      show (c :: a :: L.eraseIdx i).Perm (a :: L)
      exact (List.Perm.swap a c _).trans (List.Perm.cons a (ih_ i h))
theorem mvL_perm {L : List Nat} {i k c : Nat} (hi : L[i]? = some c) (hk : k < L.length) : (mvL L i k c).Perm L := by
  have hl : i < L.length := (List.getElem?_eq_some_iff.mp hi).1
  have h1 : (mvL L i k c).Perm (c :: L.eraseIdx i) := List.perm_insertIdx _ _ (by rw [List.length_eraseIdx]; simp only [hl, if_true]; omega)
  exact h1.trans (er_perm L i hi)
theorem mvL_get {L : List Nat} {i k c j : Nat} (hi : i < L.length) (hk : k < L.length) (hj : j < L.length) (ne : j ≠ i) : (mvL L i k c)[np i k j]? = L[j]? := by
  unfold mvL np np1
  have hE : (L.eraseIdx i).length = L.length - 1 := by rw [List.length_eraseIdx]; simp [hi]
  rw [List.getElem?_insertIdx]
  by_cases h1 : i < j
  · rw [if_pos h1]
    by_cases h2 : k ≤ j - 1
    · rw [if_pos h2, if_neg (by omega), if_neg (by omega), show j - 1 + 1 - 1 = j - 1 by omega, List.getElem?_eraseIdx, if_neg (by omega), show j - 1 + 1 = j by omega]
    · rw [if_neg h2, if_pos (by omega), List.getElem?_eraseIdx, if_neg (by omega), show j - 1 + 1 = j by omega]
  · rw [if_neg h1]
    by_cases h2 : k ≤ j
    · rw [if_pos h2, if_neg (by omega), if_neg (by omega), show j + 1 - 1 = j by omega, List.getElem?_eraseIdx, if_pos (by omega)]
    · rw [if_neg h2, if_pos (by omega), List.getElem?_eraseIdx, if_pos (by omega)]
theorem mvL_at {L : List Nat} {i k c : Nat} (hi : i < L.length) (hk : k < L.length) : (mvL L i k c)[k]? = some c := by
  unfold mvL
  have hE : (L.eraseIdx i).length = L.length - 1 := by rw [List.length_eraseIdx]; simp [hi]
  rw [List.getElem?_insertIdx, if_neg (by omega), if_pos rfl, if_pos (by omega)]
theorem MOk.mv {m : Md} {c k : Nat} (o : MOk m) (hc : mLive m c) (hk : k < (mCh m (mPa m c)).length) : MOk (mvM m c k) := by
  have hp : (mvL (mCh m (mPa m c)) (ix m c) k c).Perm (mCh m (mPa m c)) := mvL_perm (ix_get o hc) hk
  refine ⟨o.1, o.2.1, o.2.2.1, fun p c' => ?_, fun p => ?_⟩
  · show c' ∈ (if p = mPa m c then mvL (mCh m p) (ix m c) k c else mCh m p) ↔ _
    by_cases e : p = mPa m c
    · rw [if_pos e, e, hp.mem_iff]; exact o.2.2.2.1 _ _
    · rw [if_neg e]; exact o.2.2.2.1 _ _
  · show (if p = mPa m c then mvL (mCh m p) (ix m c) k c else mCh m p).Nodup
    by_cases e : p = mPa m c
    · rw [if_pos e, e]; exact hp.nodup_iff.mpr (o.2.2.2.2 _)
    · rw [if_neg e]; exact o.2.2.2.2 _
theorem sib_at {m : Md} (o : MOk m) {c c' : Nat} (h : mLive m c') (e : c' ≠ c) (hp : mPa m c' = mPa m c) : sib m c (mSl m c') = some (ix m c') := by
  unfold sib
  rw [h]
  show (if c' ≠ c ∧ mPa m c' = mPa m c then some (ix m c') else none) = _
  rw [if_pos ⟨e, hp⟩]
theorem sib_no {m : Md} {c c' : Nat} (h : mLive m c') (e : ¬ (c' ≠ c ∧ mPa m c' = mPa m c)) : sib m c (mSl m c') = none := by
  unfold sib
  rw [h]
  show (if c' ≠ c ∧ mPa m c' = mPa m c then some (ix m c') else none) = _
  rw [if_neg e]
def PlI (m : Md) (c k x : Nat) (h h1 : aH) : Prop := Fr [] [32] h h1 ∧ ∀ s, s < 24 → hX h1 32 s = (match (if s < x then sib m c s else none) with
  | some j => nI (np (ix m c) k j)
  | none => hX h 32 s)
theorem RM.mv {m : Md} {h h1 : aH} {c k : Nat} (r : RM m h) (o : MOk m) (hc : mLive m c) (hk : k < (mCh m (mPa m c)).length) (hi : PlI m c k 24 h h1) : RM (mvM m c k) (sX h1 32 (mSl m c) (nI k)) := by
  obtain ⟨f, g⟩ := hi
  have x := f.2.2.2.2.2.2
  have y := f.2.2.2.2.2.1
  have q29 : hX (sX h1 32 (mSl m c) (nI k)) 29 = hX h 29 := (hX_o _ _ (by decide)).trans (x 29 (by decide))
  refine ⟨r.1, fun t ht => by rw [q29]; exact r.2.1 t ht, fun c' hc' => ?_, fun p i hi => ?_, (y 768 MO (by simp)).trans r.2.2.2.2.1, (y 770 MO (by simp)).trans r.2.2.2.2.2⟩
  · obtain ⟨a1, a2, a3, a4, a5⟩ := r.2.2.1 c' hc'
    unfold RT1
    rw [hX_o _ _ (by decide), hX_o _ _ (by decide), hX_o _ _ (by decide), hX_o _ _ (by decide), hX_o _ _ (by decide), x 30 (by decide), x 31 (by decide), x 33 (by decide), x 34 (by decide), x 35 (by decide)]
    exact ⟨a1, a2, a3, a4, a5⟩
  · have hch : mCh (mvM m c k) p = if p = mPa m c then mvL (mCh m p) (ix m c) k c else mCh m p := rfl
    have hl := ix_lt o hc
    rw [hch] at hi ⊢
    show hX (sX h1 32 (mSl m c) (nI k)) 32 (mSl m _) = nI i
    by_cases e : p = mPa m c
    · subst e
      simp only [if_true] at hi ⊢
      rw [mvL_len hl hk] at hi
      by_cases ek : i = k
      · subst ek
        have e1 : (mvL (mCh m (mPa m c)) (ix m c) i c).getD i 0 = c := by
          rw [List.getD_eq_getElem?_getD, mvL_at hl hk]; rfl
        rw [e1, hX_s]
      · -- the one that stands at i now stood at j
        obtain ⟨j, hj1, hj2, hj3⟩ : ∃ j, j < (mCh m (mPa m c)).length ∧ j ≠ ix m c ∧ np (ix m c) k j = i := by
          refine ⟨(let a := if k < i then i - 1 else i; if ix m c ≤ a then a + 1 else a), ?_, ?_, ?_⟩
          · simp only; split <;> split <;> omega
          · simp only; split <;> split <;> omega
          · unfold np np1
            simp only
            split <;> split <;> split <;> split <;> first | omega | (split <;> omega) | (split <;> split <;> omega)
        have hg := mvL_get (c := c) hl hk hj1 hj2
        rw [hj3, List.getElem?_eq_getElem hj1] at hg
        obtain ⟨b1, b2, b3⟩ := ix_of o (List.getElem?_eq_getElem hj1)
        generalize (mCh m (mPa m c))[j] = c' at hg b1 b2 b3
        have e1 : (mvL (mCh m (mPa m c)) (ix m c) k c).getD i 0 = c' := by
          rw [List.getD_eq_getElem?_getD, hg]; rfl
        have ne : c' ≠ c := fun z => hj2 (by rw [← b3, z])
        rw [e1, hX_n _ _ (fun z => ne (sl_inj b1 hc z)), g _ (o.sl b1), if_pos (o.sl b1), sib_at o b1 ne b2]
        show nI (np (ix m c) k (ix m c')) = nI i
        rw [b3, hj3]
    · rw [if_neg e] at hi ⊢
      have hg := List.getElem?_eq_getElem hi
      obtain ⟨b1, b2, b3⟩ := ix_of o hg
      have e1 : (mCh m p).getD i 0 = (mCh m p)[i] := by rw [List.getD_eq_getElem?_getD, hg]; rfl
      have ne : ¬ ((mCh m p)[i] ≠ c ∧ mPa m (mCh m p)[i] = mPa m c) := fun z => e (by rw [← b2, z.2])
      have ne2 : (mCh m p)[i] ≠ c := fun z => e (by rw [← b2, z])
      rw [e1, hX_n _ _ (fun z => ne2 (sl_inj b1 hc z)), g _ (o.sl b1), if_pos (o.sl b1), sib_no b1 ne]
      show hX h 32 _ = _
      have := r.2.2.2.1 p i hi
      rw [e1] at this
      exact this
