/-! a text in the reference: half 0 the one that is, half 1 the one that is made -/
def PcB (p : Pc) : Prop := 1 ≤ (pcA p).length ∧ (pcA p).length ≤ 6 ∧ (pcW p).length + 1 = (pcA p).length ∧ pcI p < 20 ∧ pcT p ≤ 4 ∧ (pcT p = 2 → pcN p < 4) ∧ (pcM p).length ≤ 120 ∧ pcK p < 8 ∧ pcS p < 24 ∧ (∀ x ∈ pcW p, x < 20) ∧ (∀ x ∈ pcA p, x < 600) ∧ ∀ hb, pcH p = some hb → hb.1.length ≤ 60 ∧ hb.2.length ≤ 120
def RHd (o_ : Option (List Int32 × List Int32)) (q : Nat) (h : aH) : Prop := match o_ with
  | none => hX h 53 q = -1
  | some hb => hX h 53 q = nI hb.1.length ∧ hX h 55 q = nI hb.2.length ∧ (∀ k, k < hb.1.length → hX h 54 (60 * q + k) = hb.1.getD k 0) ∧ ∀ k, k < hb.2.length → hX h 56 (120 * q + k) = hb.2.getD k 0
def RP1 (p : Pc) (q mf : Nat) (h : aH) : Prop := (hX h 43 q = nI (pcI p) ∧ hX h 44 q = nI (pcT p) ∧ hX h 45 q = nI (pcK p) ∧ (pcT p = 2 → hX h 46 q = nI (pcN p)) ∧ hX h 47 q = nI (pcA p).length ∧ hX h 49 q = nI (pcS p)) ∧ (∀ k, k < (pcA p).length → hX h 48 (12 * q + 2 * k) = nI ((pcA p).getD k 0) ∧ hX h 48 (12 * q + 2 * k + 1) = nI ((pcW p ++ [pcI p]).getD k 0)) ∧ hX h 50 q = nI mf ∧ hX h 51 q = nI (pcM p).length ∧ hX h 57 q = bI (clB p) ∧ RHd (pcH p) q h
def RTx (ps : List Pc) (w : Nat) (h : aH) : Prop := ps.length ≤ 250 ∧ (flat ps).length ≤ 3000 ∧ hX h 42 w = nI ps.length ∧ (∀ i p, ps[i]? = some p → PcB p ∧ RP1 p (250 * w + i) (stt ps i) h) ∧ ∀ k, k < (flat ps).length → hX h 52 (3000 * w + k) = (flat ps).getD k 0
def RKn (u : Nat) (ps : List Pc) (h : aH) : Prop := RTx ps 1 h ∧ hI h 811 MO = nI u ∧ u ≤ 2000 ∧ hI h 812 MO = bI false ∧ hI h 800 MO = nI (flat ps).length
abbrev rw1 : List Nat := [43, 44, 45, 46, 47, 49, 50, 51, 53, 57]
/-- the making leaves the other half as it is -/
def FN (h h' : aH) : Prop := Fr [800, 810, 811, 812] [42, 43, 44, 45, 46, 47, 48, 49, 50, 51, 52, 53, 57, 58, 59, 60, 61] h h' ∧ hX h' 42 0 = hX h 42 0 ∧ (∀ r ∈ rw1, ∀ i, i < 250 → hX h' r i = hX h r i) ∧ ∀ i, i < 3000 → hX h' 48 i = hX h 48 i ∧ hX h' 52 i = hX h 52 i
theorem FN.rf {h : aH} : FN h h := ⟨Fr.rf, rfl, fun _ _ _ _ => rfl, fun _ _ => ⟨rfl, rfl⟩⟩
theorem FN.tr {h h1 h2 : aH} (a : FN h h1) (b : FN h1 h2) : FN h h2 := ⟨a.1.tr b.1, b.2.1.trans a.2.1, fun r hr i hi => (b.2.2.1 r hr i hi).trans (a.2.2.1 r hr i hi), fun i hi => ⟨(b.2.2.2 i hi).1.trans (a.2.2.2 i hi).1, (b.2.2.2 i hi).2.trans (a.2.2.2 i hi).2⟩⟩
theorem FN.int {h : aH} {k : Nat} {v : Int32} (hk : k ∈ [800, 810, 811, 812]) : FN h (sI h k MO v) := ⟨Fr.int hk, rfl, fun _ _ _ _ => rfl, fun _ _ => ⟨rfl, rfl⟩⟩
theorem FN.stk {h : aH} {a j : Nat} {v : Int32} (ha : a ∈ [58, 59, 60, 61]) : FN h (sX h a j v) := by
  have e : ∀ r, r ∉ [58, 59, 60, 61] → ∀ i, hX (sX h a j v) r i = hX h r i := fun r hr i => gX_X _ (fun z => hr (z ▸ ha))
  refine ⟨Fr.row (by clear e; revert ha; revert a; decide), e _ (by decide) _, fun r hr i _ => e r (by revert hr; revert r; decide) i, fun i _ => ⟨e _ (by decide) _, e _ (by decide) _⟩⟩
/-- only the rows of one new piece have changed -/
def FP (n : Nat) (h h' : aH) : Prop := Fr [] [42, 43, 44, 45, 46, 47, 48, 49, 50, 51, 53, 57] h h' ∧ hX h' 42 0 = hX h 42 0 ∧ (∀ r ∈ rw1, ∀ i, i ≠ 250 + n → hX h' r i = hX h r i) ∧ ∀ i, i < 12 * (250 + n) → hX h' 48 i = hX h 48 i
theorem FP.rf {n : Nat} {h : aH} : FP n h h := ⟨Fr.rf, rfl, fun _ _ _ _ => rfl, fun _ _ => rfl⟩
theorem FP.tr {n : Nat} {h h1 h2 : aH} (a : FP n h h1) (b : FP n h1 h2) : FP n h h2 := ⟨a.1.tr b.1, b.2.1.trans a.2.1, fun r hr i hi => (b.2.2.1 r hr i hi).trans (a.2.2.1 r hr i hi), fun i hi => (b.2.2.2 i hi).trans (a.2.2.2 i hi)⟩
theorem FP.row {n : Nat} {h : aH} {a : Nat} {v : Int32} (ha : a ∈ rw1) : FP n h (sX h a (250 + n) v) := by
  refine ⟨Fr.row (by revert ha; revert a; decide), gX_X _ (fun z => by subst z; revert ha; decide), fun r hr i hi => ?_, fun i hi => gX_X _ (fun z => by subst z; revert ha; decide)⟩
  by_cases e : r = a
  · subst e; exact hX_n _ _ hi
  · exact gX_X _ e
theorem FP.cnt {n : Nat} {h : aH} {v : Int32} : FP n h (sX h 42 1 v) :=
  ⟨Fr.row (by decide), hX_n _ _ (by decide), fun r hr i hi => gX_X _ (by revert hr; revert r; decide), fun i hi => gX_X _ (by decide)⟩
theorem FP.way {n j : Nat} {h : aH} {v : Int32} (hj : 12 * (250 + n) ≤ j) : FP n h (sX h 48 j v) :=
  ⟨Fr.row (by decide), gX_X _ (by decide), fun r hr i hi => gX_X _ (by revert hr; revert r; decide), fun i hi => hX_n _ _ (by omega)⟩
theorem FP.fn {n : Nat} {h h' : aH} (f : FP n h h') : FN h h' := ⟨f.1.mo (by decide) (by decide), f.2.1, fun r hr i hi => f.2.2.1 r hr i (by omega), fun i hi => ⟨f.2.2.2 i (by omega), congrFun (f.1.2.2.2.2.2.2 52 (by decide)) i⟩⟩
theorem WrI.fn {w : Nat} {xs : List Int32} {h h' : aH} (c : WrI w xs h h') : FN h h' := ⟨c.1.mo (by decide) (by decide), congrFun (c.1.2.2.2.2.2.2 42 (by decide)) _, fun r hr i hi => congrFun (c.1.2.2.2.2.2.2 r (by revert hr; revert r; decide)) i, fun i hi => ⟨congrFun (c.1.2.2.2.2.2.2 48 (by decide)) i, c.2.2.2.1 i (by omega)⟩⟩
theorem take_getD {xs : List Int32} {k : Nat} (hk : k < xs.length) : xs.take (k + 1) = xs.take k ++ [xs.getD k 0] := by
  rw [List.take_succ_eq_append_getElem hk]
  congr 2
  rw [List.getD_eq_getElem?_getD, List.getElem?_eq_getElem hk]; rfl
/-- the new piece's own rows, but for its bytes -/
def MpR (p : Pc) (n w on : Nat) (h h1 : aH) : Prop := FP n h h1 ∧ hX h1 42 1 = nI (n + 1) ∧ (hX h1 43 (250 + n) = nI (pcI p) ∧ hX h1 44 (250 + n) = nI (pcT p) ∧ hX h1 45 (250 + n) = nI (pcK p) ∧ hX h1 46 (250 + n) = nI on ∧ hX h1 47 (250 + n) = nI (pcA p).length ∧ hX h1 49 (250 + n) = nI (pcS p)) ∧ (∀ k, k < (pcA p).length → hX h1 48 (12 * (250 + n) + 2 * k) = nI ((pcA p).getD k 0) ∧ hX h1 48 (12 * (250 + n) + 2 * k + 1) = nI ((pcW p ++ [pcI p]).getD k 0)) ∧ hX h1 50 (250 + n) = nI w ∧ hX h1 53 (250 + n) = -1 ∧ hX h1 57 (250 + n) = nI 0
theorem RP1.keep {p : Pc} {n i mf : Nat} {h h1 h2 : aH} (hi : i < n) (ha : (pcA p).length ≤ 6) (r : RP1 p (250 + i) mf h) (f1 : FP n h h1) (f2 : Fr [800, 812] [52] h1 h2) : RP1 p (250 + i) mf h2 := by
  have e1 : ∀ r ∈ rw1, hX h2 r (250 + i) = hX h r (250 + i) := fun r hr => (congrFun (f2.2.2.2.2.2.2 r (by revert hr; revert r; decide)) _).trans (f1.2.2.1 r hr _ (by omega))
  have e2 : ∀ j, j < 12 * (250 + n) → hX h2 48 j = hX h 48 j := fun j hj => (congrFun (f2.2.2.2.2.2.2 48 (by decide)) _).trans (f1.2.2.2 j hj)
  have e3 : ∀ r, r ∉ [42, 43, 44, 45, 46, 47, 48, 49, 50, 51, 52, 53, 57] → hX h2 r = hX h r := fun r hr => (f2.2.2.2.2.2.2 r (by intro z; apply hr; revert z; simp; omega)).trans (f1.1.2.2.2.2.2.2 r (by intro z; apply hr; revert z; simp; omega))
  obtain ⟨⟨a1, a2, a3, a4, a5, a6⟩, b, c1, c2, c3, c4⟩ := r
  refine ⟨⟨(e1 _ (by decide)).trans a1, (e1 _ (by decide)).trans a2, (e1 _ (by decide)).trans a3, fun z => (e1 _ (by decide)).trans (a4 z), (e1 _ (by decide)).trans a5, (e1 _ (by decide)).trans a6⟩, fun k hk => ⟨(e2 _ (by omega)).trans (b k hk).1, (e2 _ (by omega)).trans (b k hk).2⟩, (e1 _ (by decide)).trans c1, (e1 _ (by decide)).trans c2, (e1 _ (by decide)).trans c3, ?_⟩
  unfold RHd at c4 ⊢
  cases hb : pcH p with
  | none => rw [hb] at c4; exact (e1 _ (by decide)).trans c4
  | some q =>
    rw [hb] at c4
    obtain ⟨d1, d2, d3, d4⟩ := c4
    exact ⟨(e1 _ (by decide)).trans d1, (congrFun (e3 _ (by decide)) _).trans d2, fun k hk => (congrFun (e3 _ (by decide)) _).trans (d3 k hk), fun k hk => (congrFun (e3 _ (by decide)) _).trans (d4 k hk)⟩
theorem getD_apl {xs ys : List Int32} {k : Nat} (hk : k < xs.length) : (xs ++ ys).getD k 0 = xs.getD k 0 := by
  simp only [List.getD_eq_getElem?_getD]
  rw [List.getElem?_append_left hk]
theorem getD_apr {xs ys : List Int32} {k : Nat} (hk : xs.length ≤ k) : (xs ++ ys).getD k 0 = ys.getD (k - xs.length) 0 := by
  simp only [List.getD_eq_getElem?_getD]
  rw [List.getElem?_append_right hk]
/-- a new piece stands -/
theorem RKn.add {u w on : Nat} {ps : List Pc} {p : Pc} {h h1 h2 : aH} (r : RKn u ps h) (ew : w = (flat ps).length) (hn : ps.length < 250) (hb : PcB p) (hp : pcH p = none) (ho : pcT p = 2 → on = pcN p) (mr : MpR p ps.length w on h h1) (wr : WrI w (pcM p) h1 h2) (hl : w + (pcM p).length ≤ 3000) : RKn u (ps ++ [p]) (sX h2 51 (250 + ps.length) (nI (pcM p).length)) := by
  obtain ⟨⟨r1, r2, r3, r4, r5⟩, r6, r7, r8, r9⟩ := r
  obtain ⟨m1, m2, ⟨a1, a2, a3, a4, a5, a6⟩, m4, m5, m6, m7⟩ := mr
  have x2 := wr.1.2.2.2.2.2.2
  have fl := flat_add ps p
  have gI : ∀ k, k ∉ [800, 812] → hI h2 k MO = hI h k MO := fun k hk => (wr.1.2.2.2.2.2.1 k MO (fun z => hk z.2)).trans (m1.1.2.2.2.2.2.1 k MO (fun z => absurd z.2 (by simp)))
  refine ⟨⟨by simp; omega, by rw [fl]; simp; omega, ?_, fun i q hq => ?_, fun k hk => ?_⟩, (gI _ (by decide)).trans r6, r7, ?_, ?_⟩
  · refine (gX_X _ (by decide)).trans ((congrFun (x2 42 (by decide)) 1).trans ?_)
    rw [m2]; simp
  · rw [List.getElem?_append] at hq
    by_cases e : i < ps.length
    · rw [if_pos e] at hq
      obtain ⟨q1, q2⟩ := r4 i q hq
      refine ⟨q1, ?_⟩
      rw [stt_add (by omega)]
      have q3 := q2.keep (n := ps.length) (by omega) q1.2.1 m1 wr.1
      obtain ⟨b1, b2, b3, b4, b5, b6⟩ := q3
      refine ⟨⟨(gX_X _ (by decide)).trans b1.1, (gX_X _ (by decide)).trans b1.2.1, (gX_X _ (by decide)).trans b1.2.2.1, fun z => (gX_X _ (by decide)).trans (b1.2.2.2.1 z), (gX_X _ (by decide)).trans b1.2.2.2.2.1, (gX_X _ (by decide)).trans b1.2.2.2.2.2⟩, fun k hk => ⟨(gX_X _ (by decide)).trans (b2 k hk).1, (gX_X _ (by decide)).trans (b2 k hk).2⟩, (gX_X _ (by decide)).trans b3, (hX_n _ _ (by omega)).trans b4, (gX_X _ (by decide)).trans b5, ?_⟩
      unfold RHd at b6 ⊢
      rw [hX_o _ _ (show 53 ≠ 51 by decide), hX_o _ _ (show 54 ≠ 51 by decide), hX_o _ _ (show 55 ≠ 51 by decide), hX_o _ _ (show 56 ≠ 51 by decide)]
      exact b6
    · rw [if_neg e] at hq
      have e0 : i = ps.length := by
        have := (List.getElem?_eq_some_iff.mp hq).1
        simp at this
        omega
      subst e0
      simp at hq
      subst hq
      refine ⟨hb, ?_⟩
      rw [stt_add (Nat.le_refl _), stt_len, ← ew]
      have g : ∀ r ∈ [43, 44, 45, 46, 47, 48, 49, 50, 53, 57], ∀ i, hX (sX h2 51 (250 + ps.length) (nI (pcM p).length)) r i = hX h1 r i := fun r hr i => (gX_X _ (by revert hr; revert r; decide)).trans (congrFun (x2 r (by revert hr; revert r; decide)) i)
      have c0 : clB p = false := by unfold clB; rw [hp]
      refine ⟨⟨(g _ (by decide) _).trans a1, (g _ (by decide) _).trans a2, (g _ (by decide) _).trans a3, fun z => (g _ (by decide) _).trans (by rw [a4, ho z]), (g _ (by decide) _).trans a5, (g _ (by decide) _).trans a6⟩, fun k hk => ⟨(g _ (by decide) _).trans (m4 k hk).1, (g _ (by decide) _).trans (m4 k hk).2⟩, (g _ (by decide) _).trans m5, hX_s _ _ _ _, (g _ (by decide) _).trans (by rw [m7, c0]; rfl), ?_⟩
      unfold RHd
      rw [hp]
      exact (g _ (by decide) _).trans m6
  · rw [fl] at hk ⊢
    rw [gX_X _ (show 52 ≠ 51 by decide)]
    simp only [List.length_append] at hk
    by_cases e : k < (flat ps).length
    · rw [getD_apl e, wr.2.2.2.1 _ (by omega), m1.1.2.2.2.2.2.2 52 (by decide)]
      exact r5 k e
    · rw [getD_apr (by omega)]
      have := wr.2.2.2.2 (k - (flat ps).length) (by omega) (by omega)
      rw [← this]; congr 1; omega
  · show hI h2 812 MO = _
    rw [wr.2.2.1, if_pos hl]
    exact (m1.1.2.2.2.2.2.1 812 MO (fun z => absurd z.2 (by simp))).trans r8
  · show hI h2 800 MO = _
    rw [wr.2.1, fl]; congr 1; simp; omega
theorem nu_nI {m : Md} (k : MOk m) {c j : Nat} (hc : mLive m c) (hj : j < 4) : mNu m c j = nI (nuV m c j) ∧ nuV m c j ≤ 99999 := by
  have h := (k.2.2.1 c hc).2.2 j hj
  unfold nuV
  refine ⟨Int32.toInt_inj.mp ?_, by omega⟩
  rw [hi_n (by omega)]; omega
theorem RM.came {m : Md} {h : aH} (r : RM m h) (k : MOk m) {c : Nat} (hc : mLive m c) : hX h 29 (mSl m c) = nI c := by
  rw [r.2.1 _ (k.sl hc), hc]; rfl
