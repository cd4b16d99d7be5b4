/-! what a text that was just made is like -/
def pcs (E : List (Option Pc)) : List Pc := E.filterMap id
theorem pcs_app (E F : List (Option Pc)) : pcs (E ++ F) = pcs E ++ pcs F := by simp [pcs]
theorem fdE_pcs : ∀ (E : List (Option Pc)) (a b : Nat × List Pc), fdE E a = some b → b.2 = a.2 ++ pcs E := by
  intro E
  induction E with
  | nil => intro a b h; cases h; simp [pcs]
  | cons e E ih_ =>
    intro a b h
    cases hs : stE a e with
    | none => rw [fdE_c0 hs] at h; cases h
    | some c =>
      rw [fdE_c1 hs] at h
      have h2 := ih_ c b h
      unfold stE at hs
      cases e with
      | none =>
        simp only at hs
        split at hs
        · cases hs; rw [h2]; simp [pcs]
        · cases hs
      | some p =>
        simp only at hs
        split at hs
        · cases hs; rw [h2]; simp [pcs]
        · cases hs
def PwD (E : List (Option Pc)) : Prop := (pcs E).Pairwise (fun p q => smA p q = false)
theorem PwD.app {E F : List (Option Pc)} (h1 : PwD E) (h2 : PwD F) (h3 : ∀ p ∈ pcs E, ∀ q ∈ pcs F, smA p q = false) : PwD (E ++ F) := by
  unfold PwD
  rw [pcs_app]
  exact List.pairwise_append.mpr ⟨h1, h2, h3⟩
theorem smA_A {p q : Pc} {an : List Nat} {c c' : Nat} {s s' : List Nat} (h1 : pcA p = an ++ c :: s) (h2 : pcA q = an ++ c' :: s') (h : c ≠ c') : smA p q = false := by
  refine Bool.eq_false_iff.mpr (fun z => h ?_)
  have e := (smA_iff.mp z).1
  rw [h1, h2] at e
  have e2 := List.append_cancel_left e
  exact (List.cons.inj e2).1
theorem smA_W {p q : Pc} {wy : List Nat} {c c' : Nat} {s s' : List Nat} (h1 : pcW p ++ [pcI p] = wy ++ c :: s) (h2 : pcW q ++ [pcI q] = wy ++ c' :: s') (h : c ≠ c') : smA p q = false := by
  refine Bool.eq_false_iff.mpr (fun z => h ?_)
  have e := smA_iff.mp z
  rw [e.2.1, e.2.2.1, h2] at h1
  have e2 := List.append_cancel_left h1
  exact (List.cons.inj e2).1.symm
/-- a piece of a use -/
def PcU (m : Md) (an wy : List Nat) (c i : Nat) (p : Pc) : Prop := (∃ s, pcA p = an ++ c :: s) ∧ (∃ j s, i ≤ j ∧ pcW p ++ [pcI p] = wy ++ j :: s) ∧ PcM m p ∧ pcH p = none
def PcE (m : Md) (an wy : List Nat) (c i : Nat) (p : Pc) : Prop := (∃ s, pcA p = an ++ c :: s) ∧ (∃ s, pcW p ++ [pcI p] = wy ++ i :: s) ∧ PcM m p ∧ pcH p = none
theorem mkP_U {m : Md} (k : MOk m) {an wy : List Nat} {c i : Nat} {it : It} (hc : mLive m c) (hp : PthR m an.reverse (mPa m c)) (hd : mDp m c = an.length + 1) : PcE m an wy c i (mkP m an wy c i it) := by
  refine ⟨⟨[], rfl⟩, ⟨[], rfl⟩, ⟨k.lt hc, rfl, rfl, ?_, ?_, ?_⟩, rfl⟩
  · show mDp m c = (an ++ [c]).length
    rw [hd]; simp
  · show (an ++ [c]).getD ((an ++ [c]).length - 1) 0 = c
    simp
  · show PthR m (an ++ [c]).reverse (some c)
    rw [List.reverse_append]
    exact ⟨rfl, k.lt hc, hp⟩
theorem mkI_ok {m : Md} (k : MOk m) {f : Nat → Nat → List (Option Pc)} {an wy : List Nat} {c : Nat} (hc : mLive m c) (hp : PthR m an.reverse (mPa m c)) (hd : mDp m c = an.length + 1) (hf : ∀ i kd, (∀ p ∈ pcs (f i kd), PcE m an wy c i p) ∧ PwD (f i kd)) : ∀ (its : List It) (i : Nat) (sk : Bool), (∀ p ∈ pcs (mkI m f an wy c i sk its), PcU m an wy c i p) ∧ PwD (mkI m f an wy c i sk its) := by
  intro its
  induction its with
  | nil => intro i sk; exact ⟨fun p hp => (List.not_mem_nil hp).elim, List.Pairwise.nil⟩
  | cons it its ih_ =>
    intro i sk
    have up : ∀ {p : Pc}, PcU m an wy c (i + 1) p → PcU m an wy c i p := fun {p} h => ⟨h.1, by obtain ⟨j, s, h1, h2⟩ := h.2.1; exact ⟨j, s, by omega, h2⟩, h.2.2⟩
    have dn : ∀ {p : Pc}, PcE m an wy c i p → PcU m an wy c i p := fun {p} h => ⟨h.1, by obtain ⟨s, h2⟩ := h.2.1; exact ⟨i, s, Nat.le_refl _, h2⟩, h.2.2⟩
    have ne : ∀ {p q : Pc}, PcE m an wy c i p → PcU m an wy c (i + 1) q → smA p q = false := fun {p q} h1 h2 => by
      obtain ⟨s, e1⟩ := h1.2.1
      obtain ⟨j, s', e2, e3⟩ := h2.2.1
      exact smA_W e1 e3 (by omega)
    show (∀ p ∈ pcs (if it.1 = 6 then _ else _), _) ∧ PwD (if it.1 = 6 then _ else _)
    by_cases z6 : it.1 = 6
    · rw [if_pos z6]
      have h := ih_ (i + 1) (decide (nuV m c it.2.1 = 0))
      exact ⟨fun p hp => up (h.1 p hp), h.2⟩
    rw [if_neg z6]
    by_cases z7 : it.1 = 7
    · rw [if_pos z7]
      have h := ih_ (i + 1) false
      exact ⟨fun p hp => up (h.1 p hp), h.2⟩
    rw [if_neg z7]
    have h := ih_ (i + 1) sk
    by_cases zs : sk = true
    · rw [if_pos zs]
      exact ⟨fun p hp => up (h.1 p hp), h.2⟩
    rw [if_neg zs]
    by_cases z5 : it.1 = 5
    · rw [if_pos z5]
      have g := hf i it.2.1
      refine ⟨fun p hp => ?_, g.2.app h.2 (fun p hp q hq => ne (g.1 p hp) (h.1 q hq))⟩
      rw [pcs_app] at hp
      rcases List.mem_append.mp hp with z | z
      · exact dn (g.1 p z)
      · exact up (h.1 p z)
    · rw [if_neg z5]
      have g := mkP_U k (wy := wy) (i := i) (it := it) hc hp hd
      refine ⟨fun p hp => ?_, ?_⟩
      · rcases List.mem_cons.mp (show p ∈ mkP m an wy c i it :: pcs (mkI m f an wy c (i + 1) sk its) from hp) with z | z
        · rw [z]; exact dn g
        · exact up (h.1 p z)
      · show (mkP m an wy c i it :: pcs (mkI m f an wy c (i + 1) sk its)).Pairwise _
        exact List.pairwise_cons.mpr ⟨fun q hq => ne g (h.1 q hq), h.2⟩
theorem flat_ok {m : Md} {an : List Nat} {R : Pc → Prop} {gg : Nat → List (Option Pc)} : ∀ (xs : List Nat), xs.Nodup → (∀ x ∈ xs, (∀ p ∈ pcs (gg x), (∃ s, pcA p = an ++ x :: s) ∧ R p) ∧ PwD (gg x)) → (∀ p ∈ pcs (xs.flatMap gg), (∃ x ∈ xs, ∃ s, pcA p = an ++ x :: s) ∧ R p) ∧ PwD (xs.flatMap gg) := by
  intro xs
  induction xs with
  | nil => intro _ _; exact ⟨fun p hp => (List.not_mem_nil hp).elim, List.Pairwise.nil⟩
  | cons x xs ih_ =>
    intro nd h
    have nd2 := List.nodup_cons.mp nd
    have a := h x (by simp)
    have b := ih_ nd2.2 (fun y hy => h y (by simp [hy]))
    rw [List.flatMap_cons]
    refine ⟨fun p hp => ?_, a.2.app b.2 (fun p hp q hq => ?_)⟩
    · rw [pcs_app] at hp
      rcases List.mem_append.mp hp with z | z
      · exact ⟨⟨x, by simp, (a.1 p z).1⟩, (a.1 p z).2⟩
      · obtain ⟨⟨y, hy, e⟩, r⟩ := b.1 p z
        exact ⟨⟨y, by simp [hy], e⟩, r⟩
    · obtain ⟨⟨s, e1⟩, -⟩ := a.1 p hp
      obtain ⟨⟨y, hy, s', e2⟩, -⟩ := b.1 q hq
      exact smA_A e1 e2 (fun e => nd2.1 (by rw [e]; exact hy))
theorem mkC_flat (m : Md) (g : Nat → List (Option Pc)) (kd : Nat) : ∀ xs : List Nat, mkC m g kd xs = xs.flatMap (fun x => if mKd m x = kd then g x else []) := by
  intro xs
  induction xs with
  | nil => rfl
  | cons x xs ih_ =>
    rw [List.flatMap_cons, ← ih_]
    show (if mKd m x = kd then _ else _) = _
    by_cases z : mKd m x = kd
    · rw [if_pos z, if_pos z]
    · rw [if_neg z, if_neg z]; rfl
theorem mkU_ok {m : Md} (k : MOk m) (ru : Nat → List It) : ∀ (n : Nat) (an wy : List Nat) (c : Nat), mLive m c → PthR m an.reverse (mPa m c) → mDp m c = an.length + 1 → (∀ p ∈ pcs (mkU m ru n an wy c), PcU m an wy c 0 p) ∧ PwD (mkU m ru n an wy c) := by
  intro n
  induction n with
  | zero => intro an wy c _ _ _; exact ⟨fun p hp => (List.not_mem_nil hp).elim, List.Pairwise.nil⟩
  | succ n ih_ =>
    intro an wy c hc hp hd
    refine mkI_ok k hc hp hd (f := fun i kd => mkC m (fun x => mkU m ru n (an ++ [c]) (wy ++ [i]) x) kd (mCh m (some c))) (fun i kd => ?_) (ru (mKd m c)) 0 false
    show (∀ p ∈ pcs (mkC m (fun x => mkU m ru n (an ++ [c]) (wy ++ [i]) x) kd (mCh m (some c))), _) ∧ PwD (mkC m (fun x => mkU m ru n (an ++ [c]) (wy ++ [i]) x) kd (mCh m (some c)))
    rw [mkC_flat]
    have h := flat_ok (m := m) (an := an ++ [c]) (R := fun p => (∃ s, pcW p ++ [pcI p] = wy ++ i :: s) ∧ PcM m p ∧ pcH p = none) (gg := fun x => if mKd m x = kd then mkU m ru n (an ++ [c]) (wy ++ [i]) x else []) (mCh m (some c)) (k.2.2.2.2 (some c)) (fun x hx => ?_)
    · refine ⟨fun p hp => ?_, h.2⟩
      obtain ⟨⟨x, hx, s, e⟩, ⟨s2, e2⟩, r⟩ := h.1 p hp
      exact ⟨⟨x :: s, by rw [e]; simp⟩, ⟨s2, e2⟩, r⟩
    · have lx := (k.2.2.2.1 (some c) x).mp hx
      by_cases z : mKd m x = kd
      · simp only [if_pos z]
        have g := ih_ (an ++ [c]) (wy ++ [i]) x lx.1 (by
          rw [List.reverse_append, lx.2]
          exact ⟨rfl, k.lt hc, hp⟩) (by
          rw [((k.2.1 x (k.lt lx.1)).2.2.2.2.2 c lx.2).2, hd]; simp)
        refine ⟨fun p hp => ?_, g.2⟩
        obtain ⟨⟨s, e⟩, ⟨j, s2, -, e2⟩, r⟩ := g.1 p hp
        exact ⟨⟨s, e⟩, ⟨j :: s2, by rw [e2]; simp⟩, r⟩
      · simp only [if_neg z]
        exact ⟨fun p hp => (List.not_mem_nil hp).elim, List.Pairwise.nil⟩
theorem mkNew_ok {m : Md} {ru : Nat → List It} {ps : List Pc} (k : MOk m) (h : mkNew m ru = some ps) : (∀ p ∈ ps, PcM m p) ∧ (∀ p ∈ ps, pcH p = none) ∧ MkD ps := by
  unfold mkNew at h
  cases hf : fdE (mkAll m ru) (0, []) with
  | none => rw [hf] at h; cases h
  | some b =>
    rw [hf] at h
    have e : b.2 = ps := Option.some.inj h
    have e2 := fdE_pcs _ _ _ hf
    rw [e] at e2
    have e3 : ps = pcs (mkAll m ru) := e2
    have g := flat_ok (m := m) (an := []) (R := fun p => PcM m p ∧ pcH p = none) (gg := mkU m ru 6 [] []) (mCh m none) (k.2.2.2.2 none) (fun x hx => by
      have lx := (k.2.2.2.1 none x).mp hx
      have u := mkU_ok k ru 6 [] [] x lx.1 (by rw [lx.2]; rfl) ((k.2.1 x (k.lt lx.1)).2.2.2.2.1 lx.2)
      refine ⟨fun p hp => ?_, u.2⟩
      obtain ⟨a, -, r⟩ := u.1 p hp
      exact ⟨a, r⟩)
    subst e3
    refine ⟨fun p hp => (g.1 p hp).2.1, fun p hp => (g.1 p hp).2.2, fun i j p q hi hj es => ?_⟩
    have pw : (pcs (mkAll m ru)).Pairwise (fun p q => smA p q = false) := g.2
    have hil := (List.getElem?_eq_some_iff.mp hi)
    have hjl := (List.getElem?_eq_some_iff.mp hj)
    obtain ⟨hi1, hi2⟩ := hil
    obtain ⟨hj1, hj2⟩ := hjl
    rcases Nat.lt_trichotomy i j with z | z | z
    · have := List.pairwise_iff_getElem.mp pw i j hi1 hj1 z
      rw [hi2, hj2, es] at this
      cases this
    · exact z
    · have := List.pairwise_iff_getElem.mp pw j i hj1 hi1 z
      rw [hi2, hj2, smA_c, es] at this
      cases this
theorem pth_cg {m m' : Md} (e1 : m'.1 = m.1) (e2 : mCm m ≤ mCm m') : ∀ (xs : List Nat) (o_ : Option Nat), PthR m xs o_ → PthR m' xs o_ := by
  intro xs
  induction xs with
  | nil => intro o_ h; exact h
  | cons x xs ih_ =>
    intro o_ h
    refine ⟨h.1, by have := h.2.1; omega, ih_ _ ?_⟩
    have e : mPa m' x = mPa m x := by unfold mPa; rw [e1]
    rw [e]; exact h.2.2
theorem PcM.cg {m m' : Md} {p : Pc} (e1 : m'.1 = m.1) (e2 : mCm m ≤ mCm m') (h : PcM m p) : PcM m' p := by
  obtain ⟨h1, h2, h3, h4, h5, h6⟩ := h
  refine ⟨by omega, ?_, ?_, ?_, h5, pth_cg e1 e2 _ _ h6⟩
  · rw [← h2]; unfold mSl; rw [e1]
  · rw [← h3]; unfold mKd; rw [e1]
  · rw [← h4]; unfold mDp; rw [e1]
theorem pth_nT {m m' : Md} (e1 : ∀ c, c < mCm m → m'.1 c = m.1 c) (e2 : mCm m ≤ mCm m') : ∀ (xs : List Nat) (o_ : Option Nat), PthR m xs o_ → PthR m' xs o_ := by
  intro xs
  induction xs with
  | nil => intro o_ h; exact h
  | cons x xs ih_ =>
    intro o_ h
    refine ⟨h.1, by have := h.2.1; omega, ih_ _ ?_⟩
    have e : mPa m' x = mPa m x := by unfold mPa; rw [e1 x h.2.1]
    rw [e]; exact h.2.2
theorem PcM.nT {m m' : Md} {p : Pc} (e1 : ∀ c, c < mCm m → m'.1 c = m.1 c) (e2 : mCm m ≤ mCm m') (h : PcM m p) : PcM m' p := by
  obtain ⟨h1, h2, h3, h4, h5, h6⟩ := h
  refine ⟨by omega, ?_, ?_, ?_, h5, pth_nT e1 e2 _ _ h6⟩
  · rw [← h2]; unfold mSl; rw [e1 _ h1]
  · rw [← h3]; unfold mKd; rw [e1 _ h1]
  · rw [← h4]; unfold mDp; rw [e1 _ h1]
theorem MkD.set {ps : List Pc} {j : Nat} {N : Pc} {hb : Option (List Int32 × List Int32)} (d : MkD ps) (h : ps[j]? = some N) : MkD (ps.set j (setH N hb)) := by
  have key : ∀ (i : Nat) (p : Pc), (ps.set j (setH N hb))[i]? = some p → ∃ p', ps[i]? = some p' ∧ (∀ q, smA p q = smA p' q) ∧ ∀ q, smA q p = smA q p' := by
    intro i p hp
    by_cases z : i = j
    · subst z
      rw [List.getElem?_set_self (List.getElem?_eq_some_iff.mp h).1] at hp
      cases hp
      exact ⟨N, h, fun q => rfl, fun q => rfl⟩
    · rw [List.getElem?_set_ne (fun y => z y.symm)] at hp
      exact ⟨p, hp, fun q => rfl, fun q => rfl⟩
  intro i k p q hi hk e
  obtain ⟨p', h1, h2, -⟩ := key i p hi
  obtain ⟨q', h3, -, h4⟩ := key k q hk
  exact d i k p' q' h1 h3 (by rw [← h4, ← h2]; exact e)
