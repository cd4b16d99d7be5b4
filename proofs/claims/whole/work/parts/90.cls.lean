/-! the class's cells: each has an owner; (0, 0) are those that never change -/
abbrev Ow : Type := Nat → Nat × Nat
/-- owners; by the number with which it came: a thing's address, that of its numbers, of its list -/
abbrev Gh : Type := Ow × (Nat → Nat) × (Nat → Nat) × (Nat → Nat)
def wO (g : Gh) : Ow := g.1
def wA (g : Gh) (c : Nat) : Nat := g.2.1 c
def wN (g : Gh) (c : Nat) : Nat := g.2.2.1 c
def wL (g : Gh) (c : Nat) : Nat := g.2.2.2 c
def gw (g : Gh) (ow : Ow) : Gh := (ow, g.2)
/-- of the old cells only those of owners in S have changed -/
abbrev FS (g : Gh) (S : Nat × Nat → Prop) (h h' : aH) : Prop := FO (fun b => S (wO g b)) h h'
def OwX (g : Gh) (ow' : Ow) (h : aH) : Prop := ∀ b, b < hN h + 3 → ow' b = wO g b
def IR (ow : Ow) (r : Nat) (xs : List Int32) (h : aH) : Prop := hK h r = 13 ∧ hL h r = xs.length ∧ ow r = (0, 0) ∧ ∀ k, k < xs.length → hX h r k = xs.getD k 0
section FR
variable {g : Gh} {ow' : Ow} {S : Nat × Nat → Prop} {h h' : aH}
theorem FO.lt (hv : Hv h) {b n : Nat} (e : hK h b = n) (hn : n ≠ 99) : b < hN h + 3 := (hv b (by rw [e]; exact hn)).2
theorem IR.fo {r : Nat} {xs : List Int32} (i : IR (wO g) r xs h) (f : FS g S h h') (hv : Hv h) (e : OwX g ow' h) (d : ¬ S (0, 0)) : IR ow' r xs h' := by
  obtain ⟨a1, a2, a3, a4⟩ := i
  have hb := FO.lt hv a1 (by decide)
  have s := f.s hv a1 (by decide) (by rw [a3]; exact d)
  refine ⟨f.k hv a1 (by decide), (f.l hv a1 (by decide)).trans a2, (e r hb).trans a3, fun k hk => ?_⟩
  rw [s.1]; exact a4 k hk
/-- a list of the class: its array has an owner of its own -/
def CLs (ow : Ow) (a : Nat) (xs : List Nat) (ci : Nat) (tg : Nat × Nat) (h : aH) : Prop := AX a xs ci h ∧ (∀ e_, hR h 1 a = some e_ → e_ = 1 ∨ ow e_ = tg) ∧ ci ≠ 99
theorem CLs.fo {a ci : Nat} {xs : List Nat} {tg : Nat × Nat} (i : CLs (wO g) a xs ci tg h) (f : FS g S h h') (hv : Hv h) (e : OwX g ow' h) (d : ¬ S tg) (d2 : ¬ S (wO g a)) : CLs ow' a xs ci tg h' := by
  obtain ⟨⟨⟨a1, a2, a3, a4, e_, a5, a6⟩, b1⟩, b2, b3⟩ := i
  have s := f.s hv a1 (by decide) d2
  have r1 : hR h' 1 a = hR h 1 a := (s.2.2 1).2
  refine ⟨⟨⟨f.k hv a1 (by decide), ((s.2.2 2).1).trans a2, a3, fun x hx => f.k hv (a4 x hx) b3, e_, r1.trans a5, ?_⟩, fun e2 h2 => ?_⟩, fun e2 h2 => ?_, b3⟩
  · rcases a6 with h1 | ⟨h1, h2, h3, h4, h5⟩
    · exact Or.inl h1
    · have t := f.s hv h1 (by decide) (by rw [(b2 e_ a5).resolve_left (by omega)]; exact d)
      have l := f.l hv h1 (by decide)
      exact Or.inr ⟨f.k hv h1 (by decide), h2, by rw [l]; exact h3, by rw [l]; exact h4, fun i x hx => by rw [t.2.1]; exact h5 i x hx⟩
  · rw [r1] at h2
    rcases b1 e2 h2 with h3 | h3
    · exact Or.inl h3
    · rcases a6 with ⟨h1, -⟩ | ⟨h1, -⟩
      · have : e2 = e_ := Option.some.inj (h2.symm.trans a5)
        exact Or.inl (this.trans h1)
      · have : e2 = e_ := Option.some.inj (h2.symm.trans a5)
        rw [this, f.l hv h1 (by decide), ← this]; exact Or.inr h3
  · rw [r1] at h2
    rcases b2 e2 h2 with h3 | h3
    · exact Or.inl h3
    · rcases a6 with ⟨h1, -⟩ | ⟨h1, -⟩
      · have : e2 = e_ := Option.some.inj (h2.symm.trans a5)
        exact Or.inl (this.trans h1)
      · have : e2 = e_ := Option.some.inj (h2.symm.trans a5)
        rw [e e2 (by rw [this]; exact FO.lt hv h1 (by decide))]; exact Or.inr h3
def paA (g : Gh) (m : Md) (c : Nat) : Nat := match mPa m c with
  | none => 7
  | some q => wA g q
def goB (m : Md) (c : Nat) : Bool := !decide (mLv m (mSl m c) = some c)
/-- one thing -/
def CT1 (g : Gh) (m : Md) (c : Nat) (h : aH) : Prop := (hK h (wA g c) = 10 ∧ wO g (wA g c) = (10, c) ∧ hI h 640 (wA g c) = nI (mSl m c) ∧ hI h 641 (wA g c) = nI (mKd m c) ∧ hI h 643 (wA g c) = nI (mDp m c) ∧ hR h 642 (wA g c) = some (paA g m c) ∧ hR h 644 (wA g c) = some (wN g c) ∧ hR h 645 (wA g c) = some (wL g c) ∧ hI h 647 (wA g c) = bI (goB m c)) ∧ (hK h (wN g c) = 13 ∧ hL h (wN g c) = 4 ∧ wO g (wN g c) = (1, c)) ∧ (hK h (wL g c) = 0 ∧ wO g (wL g c) = (2, c + 1)) ∧ (mLive m c → (∀ j, j < 4 → hX h (wN g c) j = mNu m c j) ∧ (∃ r, hR h 646 (wA g c) = some r ∧ IR (wO g) r (mNm m c) h) ∧ CLs (wO g) (wL g c) ((mCh m (some c)).map (wA g)) 10 (3, c + 1) h)
theorem CT1.fo {m : Md} {c : Nat} (i : CT1 g m c h) (f : FS g S h h') (hv : Hv h) (e : OwX g ow' h) (d0 : ¬ S (0, 0)) (d1 : ¬ S (1, c)) (d2 : ¬ S (2, c + 1)) (d3 : ¬ S (3, c + 1)) (d4 : ¬ S (10, c)) : CT1 (gw g ow') m c h' := by
  obtain ⟨⟨a1, a2, a3, a4, a5, a6, a7, a8, a9⟩, ⟨b1, b2, b3⟩, ⟨c1, c2⟩, l⟩ := i
  have s1 := f.s hv a1 (by decide) (by rw [a2]; exact d4)
  have s2 := f.s hv b1 (by decide) (by rw [b3]; exact d1)
  refine ⟨⟨f.k hv a1 (by decide), (e _ (FO.lt hv a1 (by decide))).trans a2, (s1.2.2 _).1.trans a3, (s1.2.2 _).1.trans a4, (s1.2.2 _).1.trans a5, (s1.2.2 _).2.trans a6, (s1.2.2 _).2.trans a7, (s1.2.2 _).2.trans a8, (s1.2.2 _).1.trans a9⟩, ⟨f.k hv b1 (by decide), (f.l hv b1 (by decide)).trans b2, (e _ (FO.lt hv b1 (by decide))).trans b3⟩, ⟨f.k hv c1 (by decide), (e _ (FO.lt hv c1 (by decide))).trans c2⟩, fun hl => ?_⟩
  obtain ⟨l1, ⟨r, l2, l3⟩, l4⟩ := l hl
  exact ⟨fun j hj => (congrFun s2.1 j).trans (l1 j hj), ⟨r, (s1.2.2 _).2.trans l2, l3.fo f hv e d0⟩, l4.fo f hv e d3 (by rw [c2]; exact d2)⟩
def OwF (ow : Ow) : Prop := (∀ a ∈ [1, 3, 4, 5, 6, 7, 9, 10, 11, 12, 18, 19, 20, 21, 22, 23, 24, 25, 26, 27], ow a = (9, a)) ∧ ∀ a, 28 ≤ a → a ≤ 65 → ow a = (8, a)
/-- the model in the class -/
def CM (g : Gh) (m : Md) (h : aH) : Prop := (∀ c, c < mCm m → CT1 g m c h) ∧ (∀ t, t < 24 → hY h 11 t = (mLv m t).map (wA g)) ∧ hI h 322 6 = nI (mCnt m) ∧ CLs (wO g) 10 ((mCh m none).map (wA g)) 10 (3, 0) h ∧ hI h 643 7 = nI 0 ∧ hR h 642 7 = none ∧ hI h 640 7 = -1
theorem CM.fo {m : Md} (i : CM g m h) (cf : Cf h) (wf : OwF (wO g)) (f : FS g S h h') (hv : Hv h) (e : OwX g ow' h) (d : ∀ tg : Nat × Nat, tg.1 = 0 ∨ tg.1 = 1 ∨ tg.1 = 2 ∨ tg.1 = 3 ∨ tg.1 = 10 ∨ tg ∈ [(9, 6), (9, 7), (9, 10), (9, 11)] → ¬ S tg) : CM (gw g ow') m h' := by
  obtain ⟨a1, a2, a3, a4, a5, a6, a7⟩ := i
  have s11 := f.s hv (ck_11 cf) (by decide) (by rw [wf.1 11 (by decide)]; exact d _ (by simp))
  have s6 := f.s hv (ck_6 cf) (by decide) (by rw [wf.1 6 (by decide)]; exact d _ (by simp))
  have s7 := f.s hv (ck_7 cf) (by decide) (by rw [wf.1 7 (by decide)]; exact d _ (by simp))
  refine ⟨fun c hc => (a1 c hc).fo f hv e (d _ (by simp)) (d _ (by simp)) (d _ (by simp)) (d _ (by simp)) (d _ (by simp)), fun t ht => (congrFun s11.2.1 t).trans (a2 t ht), (s6.2.2 _).1.trans a3, a4.fo f hv e (d _ (by simp)) (by rw [wf.1 10 (by decide)]; exact d _ (by simp)), (s7.2.2 _).1.trans a5, (s7.2.2 _).2.trans a6, (s7.2.2 _).1.trans a7⟩
/-- a rule's object -/
def RuO (ow : Ow) (its : List It) (r : Nat) (h : aH) : Prop := (hK h r = 7 ∧ ow r = (0, 0) ∧ its.length ≤ 20 ∧ hI h 452 r = nI its.length) ∧ ∃ (bs : List Int32) (b s f e_ : Nat), (hR h 448 r = some b ∧ hR h 449 r = some s ∧ hR h 450 r = some f ∧ hR h 451 r = some e_) ∧ IR ow b bs h ∧ (∀ q ∈ [s, f, e_], hK h q = 13 ∧ ow q = (0, 0) ∧ its.length ≤ hL h q) ∧ bs.length ≤ 120 ∧ ∀ i it, its[i]? = some it → itOk it ∧ ∃ on tw, hX h s i = nI it.1 ∧ hX h f i = nI on ∧ hX h e_ i = nI tw ∧ itR bs it on tw
theorem RuO.fo {its : List It} {r : Nat} (i : RuO (wO g) its r h) (f : FS g S h h') (hv : Hv h) (e : OwX g ow' h) (d : ¬ S (0, 0)) : RuO ow' its r h' := by
  obtain ⟨⟨a1, a2, a3, a4⟩, bs, b, s, f_, e_, ⟨b1, b2, b3, b4⟩, b5, b6, b7, b8⟩ := i
  have s1 := f.s hv a1 (by decide) (by rw [a2]; exact d)
  have q := fun x hx => f.s hv (b6 x hx).1 (by decide) (by rw [(b6 x hx).2.1]; exact d)
  refine ⟨⟨f.k hv a1 (by decide), (e _ (FO.lt hv a1 (by decide))).trans a2, a3, (s1.2.2 _).1.trans a4⟩, bs, b, s, f_, e_, ⟨(s1.2.2 _).2.trans b1, (s1.2.2 _).2.trans b2, (s1.2.2 _).2.trans b3, (s1.2.2 _).2.trans b4⟩, b5.fo f hv e d, fun x hx => ⟨f.k hv (b6 x hx).1 (by decide), (e _ (FO.lt hv (b6 x hx).1 (by decide))).trans (b6 x hx).2.1, by rw [f.l hv (b6 x hx).1 (by decide)]; exact (b6 x hx).2.2⟩, b7, fun i it hi => ?_⟩
  obtain ⟨c1, on, tw, c2, c3, c4, c5⟩ := b8 i it hi
  exact ⟨c1, on, tw, (congrFun (q s (by simp)).1 i).trans c2, (congrFun (q f_ (by simp)).1 i).trans c3, (congrFun (q e_ (by simp)).1 i).trans c4, c5⟩
def CRu (g : Gh) (ru : Nat → List It) (h : aH) : Prop := ∀ k, k < 8 → ∃ r, hY h 12 k = some r ∧ RuO (wO g) (ru k) r h
theorem CRu.fo {ru : Nat → List It} (i : CRu g ru h) (cf : Cf h) (wf : OwF (wO g)) (f : FS g S h h') (hv : Hv h) (e : OwX g ow' h) (d : ¬ S (0, 0)) (d2 : ¬ S (9, 12)) : CRu (gw g ow') ru h' := by
  intro k hk
  obtain ⟨r, a1, a2⟩ := i k hk
  have s := f.s hv (ck_12 cf) (by decide) (by rw [wf.1 12 (by decide)]; exact d2)
  exact ⟨r, (congrFun s.2.1 k).trans a1, a2.fo f hv e d⟩
/-- the latest rule that was read -/
def CFa (g : Gh) (fa : Int32 × Int32) (h : aH) : Prop := (hR h 709 3 = none ∧ fa = (-1, -1)) ∨ ∃ r, hR h 709 3 = some r ∧ hK h r = 7 ∧ wO g r = (0, 0) ∧ hI h 453 r = fa.1 ∧ hI h 454 r = fa.2
theorem CFa.fo {fa : Int32 × Int32} (i : CFa g fa h) (f : FS g S h h') (hv : Hv h) (e : OwX g ow' h) (d : ¬ S (0, 0)) (e3 : hR h' 709 3 = hR h 709 3) : CFa (gw g ow') fa h' := by
  rcases i with ⟨a1, a2⟩ | ⟨r, a1, a2, a3, a4, a5⟩
  · exact Or.inl ⟨e3.trans a1, a2⟩
  · have s := f.s hv a2 (by decide) (by rw [a3]; exact d)
    exact Or.inr ⟨r, e3.trans a1, f.k hv a2 (by decide), (e _ (FO.lt hv a2 (by decide))).trans a3, (s.2.2 _).1.trans a4, (s.2.2 _).1.trans a5⟩
def CHd (ow : Ow) (o_ : Option (List Int32 × List Int32)) (q : Nat) (h : aH) : Prop := match o_ with
  | none => hR h 391 q = none
  | some hb => ∃ d, hR h 391 q = some d ∧ hK h d = 1 ∧ ow d = (0, 0) ∧ (∃ r, hR h 64 d = some r ∧ IR ow r hb.1 h) ∧ ∃ b, hR h 65 d = some b ∧ IR ow b hb.2 h
theorem CHd.fo {o_ : Option (List Int32 × List Int32)} {q : Nat} (i : CHd (wO g) o_ q h) (f : FS g S h h') (hv : Hv h) (e : OwX g ow' h) (d : ¬ S (0, 0)) (e3 : hR h' 391 q = hR h 391 q) : CHd ow' o_ q h' := by
  unfold CHd at i ⊢
  cases o_ with
  | none => exact e3.trans i
  | some hb =>
    obtain ⟨x, a1, a2, a3, ⟨r, a4, a5⟩, b, a6, a7⟩ := i
    have s := f.s hv a2 (by decide) (by rw [a3]; exact d)
    exact ⟨x, e3.trans a1, f.k hv a2 (by decide), (e _ (FO.lt hv a2 (by decide))).trans a3, ⟨r, (s.2.2 _).2.trans a4, a5.fo f hv e d⟩, b, (s.2.2 _).2.trans a6, a7.fo f hv e d⟩
def wyE (w : List Nat) : Nat := w.foldl (fun a i => a * 32 + i) 0
/-- a piece's object -/
def CPc (g : Gh) (tg : Nat × Nat) (q : Nat) (p : Pc) (st : Nat) (h : aH) : Prop := (hK h q = 6 ∧ wO g q = tg ∧ hR h 384 q = some (wA g (pcC p)) ∧ hI h 385 q = nI (pcI p) ∧ hI h 386 q = nI (pcT p) ∧ (pcT p = 2 → hI h 387 q = nI (pcN p)) ∧ hI h 388 q = nI (wyE (pcW p)) ∧ hI h 389 q = nI st ∧ hI h 390 q = nI (pcM p).length) ∧ CHd (wO g) (pcH p) q h
theorem CPc.fo {tg : Nat × Nat} {q st : Nat} {p : Pc} (i : CPc g tg q p st h) (f : FS g S h h') (hv : Hv h) (e : OwX g ow' h) (d : ¬ S (0, 0)) (d2 : ¬ S tg) : CPc (gw g ow') tg q p st h' := by
  obtain ⟨⟨a1, a2, a3, a4, a5, a6, a7, a8, a9⟩, b⟩ := i
  have s := f.s hv a1 (by decide) (by rw [a2]; exact d2)
  exact ⟨⟨f.k hv a1 (by decide), (e _ (FO.lt hv a1 (by decide))).trans a2, (s.2.2 _).2.trans a3, (s.2.2 _).1.trans a4, (s.2.2 _).1.trans a5, fun z => (s.2.2 _).1.trans (a6 z), (s.2.2 _).1.trans a7, (s.2.2 _).1.trans a8, (s.2.2 _).1.trans a9⟩, b.fo f hv e d (s.2.2 _).2⟩
def tTg (T : Nat) : Nat := if T = 18 then 4 else 5
/-- the pieces that a text keeps, in use or not -/
def JK (g : Gh) (T : Nat) (h : aH) : Prop := ∀ i q, i < 250 → hY h (T + 1) i = some q → hK h q = 6 ∧ wO g q = (tTg T, i)
theorem JK.fo {T : Nat} (i : JK g T h) (f : FS g S h h') (hv : Hv h) (e : OwX g ow' h) (e3 : hY h' (T + 1) = hY h (T + 1)) : JK (gw g ow') T h' := by
  intro k q hk hq
  rw [e3] at hq
  have a := i k q hk hq
  exact ⟨f.k hv a.1 (by decide), (e _ (FO.lt hv a.1 (by decide))).trans a.2⟩
/-- a text in the class -/
def CTx (g : Gh) (T : Nat) (ps : List Pc) (h : aH) : Prop := JK g T h ∧ ps.length ≤ 250 ∧ (flat ps).length ≤ 3000 ∧ hI h 579 T = nI ps.length ∧ (∀ i p, ps[i]? = some p → PcB p ∧ ∃ q, hY h (T + 1) i = some q ∧ CPc g (tTg T, i) q p (stt ps i) h) ∧ ∀ k, k < (flat ps).length → hX h (T + 2) k = (flat ps).getD k 0
theorem CTx.fo {T : Nat} {ps : List Pc} (i : CTx g T ps h) (f : FS g S h h') (hv : Hv h) (e : OwX g ow' h) (d : ¬ S (0, 0)) (d2 : ∀ k, ¬ S (tTg T, k)) (e3 : hY h' (T + 1) = hY h (T + 1)) (e4 : hI h' 579 T = hI h 579 T) (e5 : hX h' (T + 2) = hX h (T + 2)) : CTx (gw g ow') T ps h' := by
  obtain ⟨a1, a2, a3, a4, a5, a6⟩ := i
  refine ⟨a1.fo f hv e e3, a2, a3, e4.trans a4, fun k p hp => ?_, fun k hk => (congrFun e5 k).trans (a6 k hk)⟩
  obtain ⟨b, q, c1, c2⟩ := a5 k p hp
  exact ⟨b, q, (congrFun e3 k).trans c1, c2.fo f hv e d (d2 k)⟩
/-- the lone texts in the class -/
def CLn (g : Gh) (ln : List (List Int32 × Nat × Nat)) (fl : Nat) (h : aH) : Prop := ∃ xs : List Nat, CLs (wO g) 27 xs 2 (6, 0) h ∧ xs.length = ln.length ∧ ln.length ≤ 30 ∧ (∀ (i : Nat) (q : List Int32 × Nat × Nat), ln[i]? = some q → ∃ a : Nat, xs[i]? = some a ∧ (q.1.length ≤ 60 ∧ q.2.1 ≤ 4 ∧ q.2.2 ≤ 19) ∧ hK h a = 2 ∧ wO g a = (0, 0) ∧ hI h 129 a = nI q.2.1 ∧ hI h 130 a = nI q.2.2 ∧ ∃ r, hR h 128 a = some r ∧ IR (wO g) r q.1 h) ∧ hI h 193 26 = nI fl
theorem CLn.fo {ln : List (List Int32 × Nat × Nat)} {fl : Nat} (i : CLn g ln fl h) (cf : Cf h) (wf : OwF (wO g)) (f : FS g S h h') (hv : Hv h) (e : OwX g ow' h) (d : ∀ tg : Nat × Nat, tg = (0, 0) ∨ tg = (6, 0) ∨ tg = (9, 26) ∨ tg = (9, 27) → ¬ S tg) : CLn (gw g ow') ln fl h' := by
  obtain ⟨xs, a1, a2, a3, a4, a5⟩ := i
  have s26 := f.s hv (ck_26 cf) (by decide) (by rw [wf.1 26 (by decide)]; exact d _ (by simp))
  refine ⟨xs, a1.fo f hv e (d _ (by simp)) (by rw [wf.1 27 (by decide)]; exact d _ (by simp)), a2, a3, fun k q hq => ?_, (s26.2.2 _).1.trans a5⟩
  obtain ⟨a, b1, b2, b3, b4, b5, b6, r, b7, b8⟩ := a4 k q hq
  have s := f.s hv b3 (by decide) (by rw [b4]; exact d _ (by simp))
  exact ⟨a, b1, b2, f.k hv b3 (by decide), (e _ (FO.lt hv b3 (by decide))).trans b4, (s.2.2 _).1.trans b5, (s.2.2 _).1.trans b6, r, (s.2.2 _).2.trans b7, b8.fo f hv e (d _ (by simp))⟩
theorem Cf.fo (r : Cf h) (hv : Hv h) (f : FS g S h h') (wf : OwF (wO g)) (d : ∀ q ∈ cfR, hR h' q.1 q.2.1 = hR h q.1 q.2.1) : Cf h' := by
  obtain ⟨r1, r2, r3⟩ := r
  refine ⟨fun q hq => (d q hq).trans (r1 q hq), fun q hq => f.k hv (r2 q hq) (by revert hq; revert q; decide), fun q hq => ?_⟩
  have key : ∀ q ∈ cfL, ∃ p ∈ cfK, p.1 = q.1 ∧ p.2 ≠ 99 := by decide
  obtain ⟨p, h1, h2, h3⟩ := key q hq
  rw [f.l hv (b := q.1) (n := p.2) (by rw [← h2]; exact r2 p h1) h3]
  exact r3 q hq
end FR
