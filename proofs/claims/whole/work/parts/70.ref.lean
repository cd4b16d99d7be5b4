theorem fstF_one {p : Nat → Bool} {n j : Nat} (h1 : j < n) (h2 : p j = true) (h3 : ∀ i, i < n → p i = true → i = j) : fstF p n 0 = some j := by
  obtain ⟨j', hj⟩ := fstF_some n 0 ⟨j, by omega, by omega, h2⟩
  obtain ⟨a1, a2, a3, -⟩ := fstF_spec n 0 j' hj
  rw [hj, h3 j' (by omega) a3]
theorem fstF_none {p : Nat → Bool} {n : Nat} (h : ∀ i, i < n → p i = false) : fstF p n 0 = none := by
  cases hf : fstF p n 0 with
  | none => rfl
  | some j =>
    obtain ⟨a1, a2, a3, -⟩ := fstF_spec n 0 j hf
    rw [h j (by omega)] at a3; cases a3
theorem RM.child {m : Md} {h : aH} (r : RM m h) (k : MOk m) {p : Option Nat} (hp : ∀ q, p = some q → mLive m q) {x : Nat} (hx : x < 1000) : fstF (pcB h (pI m p) (nI x)) 24 0 = ((mCh m p)[x]?).map (mSl m) := by
  have key : ∀ t, t < 24 → (pcB h (pI m p) (nI x) t = true ↔ ∃ c, (mCh m p)[x]? = some c ∧ mSl m c = t) := fun t ht => by
    have e1 : pcB h (pI m p) (nI x) t = true ↔ pm h (pI m p) t = true ∧ hX h 32 t = nI x := by rw [pcB_iff, pm_iff, and_assoc]
    rw [e1, r.inP k hp ht]
    constructor
    · rintro ⟨⟨c, hc, rfl⟩, h2⟩
      refine ⟨c, ?_, rfl⟩
      obtain ⟨i, hi⟩ := List.getElem?_of_mem hc
      have hl := (List.getElem?_eq_some_iff.mp hi).1
      have h3 := r.2.2.2.1 p i hl
      rw [List.getD_eq_getElem?_getD, hi] at h3
      have h4 : nI i = nI x := h3.symm.trans h2
      have := ch_le k p
      rw [← nI_inj (by omega) (by omega) h4]; exact hi
    · rintro ⟨c, hc, rfl⟩
      have hl := (List.getElem?_eq_some_iff.mp hc).1
      have h3 := r.2.2.2.1 p x hl
      rw [List.getD_eq_getElem?_getD, hc] at h3
      exact ⟨⟨c, List.mem_of_getElem? hc, rfl⟩, h3⟩
  cases hc : (mCh m p)[x]? with
  | none =>
    refine fstF_none (fun i hi => ?_)
    cases hb : pcB h (pI m p) (nI x) i with
    | false => rfl
    | true =>
      obtain ⟨c, h1, -⟩ := (key i hi).mp hb
      rw [hc] at h1; cases h1
  | some c =>
    have hm := ((k.2.2.2.1 p c).mp (List.mem_of_getElem? hc)).1
    refine fstF_one (k.sl hm) ((key _ (k.sl hm)).mpr ⟨c, hc, rfl⟩) (fun i hi hb => ?_)
    obtain ⟨c', h1, h2⟩ := (key i hi).mp hb
    rw [hc] at h1
    rw [← h2, Option.some.inj h1]
theorem RTx.fr {ps : List Pc} {w : Nat} {h h' : aH} {ks as : List Nat} (r : RTx ps w h) (f : Fr ks as h h') (h2 : ∀ r ∈ [42, 43, 44, 45, 46, 47, 48, 49, 50, 51, 52, 53, 54, 55, 56, 57], r ∉ as) : RTx ps w h' := by
  have x := f.2.2.2.2.2.2
  unfold RTx RP1 RHd
  rw [x 42 (h2 _ (by decide)), x 43 (h2 _ (by decide)), x 44 (h2 _ (by decide)), x 45 (h2 _ (by decide)), x 46 (h2 _ (by decide)), x 47 (h2 _ (by decide)), x 48 (h2 _ (by decide)), x 49 (h2 _ (by decide)), x 50 (h2 _ (by decide)), x 51 (h2 _ (by decide)), x 52 (h2 _ (by decide)), x 53 (h2 _ (by decide)), x 54 (h2 _ (by decide)), x 55 (h2 _ (by decide)), x 56 (h2 _ (by decide)), x 57 (h2 _ (by decide))]
  exact r
theorem RKn.fr {u : Nat} {ps : List Pc} {h h' : aH} {ks as : List Nat} (r : RKn u ps h) (f : Fr ks as h h') (h1 : ∀ k ∈ [800, 811, 812], k ∉ ks) (h2 : ∀ r ∈ [42, 43, 44, 45, 46, 47, 48, 49, 50, 51, 52, 53, 54, 55, 56, 57], r ∉ as) : RKn u ps h' := by
  have y := f.2.2.2.2.2.1
  refine ⟨r.1.fr f h2, ?_, r.2.2.1, ?_, ?_⟩
  · rw [y 811 MO (fun z => h1 _ (by decide) z.2)]; exact r.2.1
  · rw [y 812 MO (fun z => h1 _ (by decide) z.2)]; exact r.2.2.2.1
  · rw [y 800 MO (fun z => h1 _ (by decide) z.2)]; exact r.2.2.2.2
theorem RM.fn {m : Md} {h h' : aH} (r : RM m h) (f : FN h h') : RM m h' := r.fr f.1 (by decide) (by decide)
theorem RRu.fn {ru : Nat → List It} {h h' : aH} (r : RRu ru h) (f : FN h h') : RRu ru h' := r.fr f.1 (by decide)
/-- the uses that are open: thing, item, child, whether it is left out -/
abbrev Frm : Type := Nat × Nat × Option Nat × Bool
def RSk (m : Md) (fs : List Frm) (h : aH) : Prop := hI h 810 MO = nI fs.length ∧ fs.length ≤ 6 ∧ ∀ k f, fs[k]? = some f → mLive m f.1 ∧ f.2.1 ≤ 20 ∧ (∀ x, f.2.2.1 = some x → x ≤ 24) ∧ hX h 58 k = nI (mSl m f.1) ∧ hX h 59 k = nI f.2.1 ∧ hX h 60 k = onI f.2.2.1 ∧ hX h 61 k = bI f.2.2.2
theorem RSk.end {m : Md} {fs : List Frm} {f : Frm} {h : aH} (r : RSk m (fs ++ [f]) h) : hI h 810 MO = nI (fs.length + 1) ∧ fs.length < 6 ∧ mLive m f.1 ∧ f.2.1 ≤ 20 ∧ (∀ x, f.2.2.1 = some x → x ≤ 24) ∧ hX h 58 fs.length = nI (mSl m f.1) ∧ hX h 59 fs.length = nI f.2.1 ∧ hX h 60 fs.length = onI f.2.2.1 ∧ hX h 61 fs.length = bI f.2.2.2 := by
  have h1 := r.2.1
  have h2 := r.2.2 fs.length f (by simp)
  have h3 := r.1
  simp only [List.length_append, List.length_cons, List.length_nil] at h1 h3
  exact ⟨h3, by omega, h2⟩
/-- the last use goes on -/
theorem RSk.top {m : Md} {fs : List Frm} {f f' : Frm} {h h' : aH} (r : RSk m (fs ++ [f]) h) (e : f'.1 = f.1) (b1 : f'.2.1 ≤ 20) (b2 : ∀ x, f'.2.2.1 = some x → x ≤ 24) (e0 : hI h' 810 MO = hI h 810 MO) (e58 : hX h' 58 = hX h 58) (e59 : hX h' 59 = up1 (hX h 59) fs.length (nI f'.2.1)) (e60 : hX h' 60 = up1 (hX h 60) fs.length (onI f'.2.2.1)) (e61 : hX h' 61 = up1 (hX h 61) fs.length (bI f'.2.2.2)) : RSk m (fs ++ [f']) h' := by
  refine ⟨by rw [e0, r.1]; simp, by have := r.2.1; simpa using this, fun k g hg => ?_⟩
  rw [e58, e59, e60, e61]
  rw [List.getElem?_append] at hg
  by_cases z : k < fs.length
  · rw [if_pos z] at hg
    rw [up1_n _ _ (by omega), up1_n _ _ (by omega), up1_n _ _ (by omega)]
    exact r.2.2 k g (by rw [List.getElem?_append, if_pos z]; exact hg)
  · rw [if_neg z] at hg
    have e0 : k = fs.length := by
      have := (List.getElem?_eq_some_iff.mp hg).1
      simp at this
      omega
    subst e0
    simp at hg
    subst hg
    have h2 := r.2.2 fs.length f (by simp)
    rw [up1_s, up1_s, up1_s, e]
    exact ⟨h2.1, b1, b2, h2.2.2.2.1, rfl, rfl, rfl⟩
theorem up1_id {α : Type} {f : Nat → α} {a : Nat} {v : α} (e : f a = v) : up1 f a v = f := by
  funext b
  by_cases z : b = a
  · rw [z, up1_s, e]
  · exact up1_n _ _ z
theorem RSk.pop {m : Md} {fs : List Frm} {f : Frm} {h : aH} (r : RSk m (fs ++ [f]) h) : RSk m fs (sI h 810 MO (nI fs.length)) := by
  refine ⟨hI_s _ _ _ _, by have := r.2.1; simp at this; omega, fun k g hg => ?_⟩
  have hk := (List.getElem?_eq_some_iff.mp hg).1
  exact r.2.2 k g (by rw [List.getElem?_append, if_pos hk]; exact hg)
theorem RSk.push {m : Md} {fs : List Frm} {h : aH} {u y : Nat} (r : RSk m fs h) (hl : fs.length < 6) (hy : mLive m y) : RSk m (fs ++ [(y, 0, none, false)]) (bgH h u fs.length (nI (mSl m y))) := by
  have x58 : hX (bgH h u fs.length (nI (mSl m y))) 58 = up1 (hX h 58) fs.length (nI (mSl m y)) := by
    unfold bgH
    rw [hX_sI, hX_o _ _ (by decide), hX_o _ _ (by decide), hX_o _ _ (by decide), hX_up]; rfl
  have x59 : hX (bgH h u fs.length (nI (mSl m y))) 59 = up1 (hX h 59) fs.length (nI 0) := by
    unfold bgH
    rw [hX_sI, hX_o _ _ (by decide), hX_o _ _ (by decide), hX_up, hX_o _ _ (by decide)]; rfl
  have x60 : hX (bgH h u fs.length (nI (mSl m y))) 60 = up1 (hX h 60) fs.length (-1) := by
    unfold bgH
    rw [hX_sI, hX_o _ _ (by decide), hX_up, hX_o _ _ (by decide), hX_o _ _ (by decide)]; rfl
  have x61 : hX (bgH h u fs.length (nI (mSl m y))) 61 = up1 (hX h 61) fs.length (nI 0) := by
    unfold bgH
    rw [hX_sI, hX_up, hX_o _ _ (by decide), hX_o _ _ (by decide), hX_o _ _ (by decide)]; rfl
  refine ⟨by unfold bgH; rw [hI_s]; simp, by simp; omega, fun k g hg => ?_⟩
  rw [x58, x59, x60, x61]
  rw [List.getElem?_append] at hg
  by_cases z : k < fs.length
  · rw [if_pos z] at hg
    rw [up1_n _ _ (by omega), up1_n _ _ (by omega), up1_n _ _ (by omega), up1_n _ _ (by omega)]
    exact r.2.2 k g hg
  · rw [if_neg z] at hg
    have e0 : k = fs.length := by
      have := (List.getElem?_eq_some_iff.mp hg).1
      simp at this
      omega
    subst e0
    simp at hg
    subst hg
    rw [up1_s, up1_s, up1_s, up1_s]
    exact ⟨hy, by simp, fun x hx => (by cases hx), rfl, rfl, rfl, rfl⟩
theorem bgH_fn {h : aH} {u o_ : Nat} {t : Int32} : FN h (bgH h u o_ t) := by
  unfold bgH
  exact ((((((FN.int (by decide)).tr (FN.int (by decide))).tr (FN.stk (by decide))).tr (FN.stk (by decide))).tr (FN.stk (by decide))).tr (FN.stk (by decide))).tr (FN.int (by decide))
theorem bgH_kn {h : aH} {u o_ : Nat} {t : Int32} {ps : List Pc} (r : RKn u ps h) (hu : u < 2000) : RKn (u + 1) ps (bgH h u o_ t) := by
  have f : Fr [810, 811, 812] [58, 59, 60, 61] h (bgH h u o_ t) := by
    unfold bgH
    exact ((((((Fr.int (by decide)).tr (Fr.int (by decide))).tr (Fr.row (by decide))).tr (Fr.row (by decide))).tr (Fr.row (by decide))).tr (Fr.row (by decide))).tr (Fr.int (by decide))
  refine ⟨r.1.fr f (by decide), ?_, by omega, ?_, ?_⟩
  · unfold bgH
    rw [hI_o _ _ (by decide), gI_X, gI_X, gI_X, gI_X, hI_o _ _ (by decide), hI_s]
  · unfold bgH
    rw [hI_o _ _ (by decide), gI_X, gI_X, gI_X, gI_X, hI_s, decide_eq_false (by omega)]
  · rw [f.2.2.2.2.2.1 800 MO (fun z => absurd z.2 (by decide))]; exact r.2.2.2.2
theorem bgH_full {h : aH} {u o_ : Nat} {t : Int32} (hu : 2000 ≤ u) : hI (bgH h u o_ t) 812 MO = nI 1 := by
  unfold bgH
  rw [hI_o _ _ (by decide), gI_X, gI_X, gI_X, gI_X, hI_s, decide_eq_true (by omega)]; rfl
