theorem ct_list {α : Type} (f : α → Nat) (n : Nat) : ∀ (L : List α) (p : Nat → Bool), L.Nodup → (∀ a ∈ L, ∀ b ∈ L, f a = f b → a = b) → (∀ a ∈ L, f a < n) → (∀ t, p t = true ↔ ∃ a ∈ L, f a = t) → fb_ct p n = L.length := by
  intro L
  induction L with
  | nil =>
    intro p _ _ _ hp
    show fb_ct p n = 0
    rw [fb_ct_zero]
    intro k hk
    cases hq : p k
    · rfl
    · obtain ⟨a, ha, -⟩ := (hp k).mp hq
      cases ha
  | cons a L ih_ =>
    intro p hn hi hl hp
    have hn1 := (List.nodup_cons.mp hn)
    have h1 := ih_ (fun k => if k = f a then false else p k) hn1.2 (fun x hx y hy => hi x (List.mem_cons_of_mem _ hx) y (List.mem_cons_of_mem _ hy)) (fun x hx => hl x (List.mem_cons_of_mem _ hx)) (fun t => by
      by_cases e : t = f a
      · subst e
        simp only [if_true]
        constructor
        · intro q; cases q
        · rintro ⟨b, hb, hf⟩
          have := hi b (List.mem_cons_of_mem _ hb) a List.mem_cons_self hf
          subst this
          exact absurd hb hn1.1
      · simp only [if_neg e]
        rw [hp t]
        constructor
        · rintro ⟨b, hb, hf⟩
          rcases List.mem_cons.mp hb with rfl | hb
          · exact absurd hf.symm e
          · exact ⟨b, hb, hf⟩
        · rintro ⟨b, hb, hf⟩
          exact ⟨b, List.mem_cons_of_mem _ hb, hf⟩)
    have h2 := fb_ct_upd p false (hl a List.mem_cons_self)
    rw [h1] at h2
    have h3 : p (f a) = true := (hp _).mpr ⟨a, List.mem_cons_self, rfl⟩
    rw [h3] at h2
    simp only [List.length_cons]
    simp at h2
    omega
def pI (m : Md) (p : Option Nat) : Int32 := match p with
  | none => -1
  | some q => nI (mSl m q)
theorem nI_inj {a b : Nat} (ha : a < 2 ^ 31) (hb : b < 2 ^ 31) (e : nI a = nI b) : a = b := (nI_eq ha hb).mp e
theorem nI_m1 {a : Nat} (ha : a < 2 ^ 31) : nI a ≠ -1 := fun e => by
  have := congrArg Int32.toInt e
  rw [hi_n ha] at this
  have h2 : (-1 : Int32).toInt = -1 := by decide
  omega
theorem pI_inj {m : Md} (k : MOk m) {p : Option Nat} (hp : ∀ q, p = some q → mLive m q) {c : Nat} (hc : mLive m c) : paI m c = pI m p ↔ mPa m c = p := by
  unfold paI pI
  constructor
  · intro e
    cases h1 : mPa m c with
    | none =>
      rw [h1] at e
      cases p with
      | none => rfl
      | some q => exact absurd e.symm (nI_m1 (by have := k.sl (hp q rfl); omega))
    | some r =>
      rw [h1] at e
      have hr := (k.2.2.1 c hc).1 r h1
      cases p with
      | none => exact absurd e (nI_m1 (by have := k.sl hr; omega))
      | some q =>
        have := nI_inj (by have := k.sl hr; omega) (by have := k.sl (hp q rfl); omega) e
        rw [sl_inj hr (hp q rfl) this]
  · intro e; rw [e]; cases p <;> rfl
theorem RM.inP {m : Md} {h : aH} (r : RM m h) (k : MOk m) {p : Option Nat} (hp : ∀ q, p = some q → mLive m q) {t : Nat} (ht : t < 24) : pm h (pI m p) t = true ↔ ∃ c ∈ mCh m p, mSl m c = t := by
  rw [pm_iff, r.2.1 t ht]
  constructor
  · rintro ⟨h1, h2⟩
    cases hl : mLv m t with
    | none => rw [hl] at h1; exact absurd h1 (by decide)
    | some c =>
      have hc := k.live hl
      have hs := (k.1 _ _ hl).2.2
      rw [← hs, (r.2.2.1 c hc).2.1] at h2
      exact ⟨c, (k.2.2.2.1 _ _).mpr ⟨hc, (pI_inj k hp hc).mp h2⟩, hs⟩
  · rintro ⟨c, hc, rfl⟩
    obtain ⟨h1, h2⟩ := (k.2.2.2.1 _ _).mp hc
    rw [(r.2.2.1 c h1).2.1, h1]
    refine ⟨?_, (pI_inj k hp h1).mpr h2⟩
    show 0 ≤ (nI c).toInt
    have := k.lt h1
    have := r.1
    rw [hi_n (by omega)]; omega
theorem fb_ct_cong24 {p q : Nat → Bool} (h : ∀ k, k < 24 → p k = q k) : fb_ct p 24 = fb_ct q 24 := fb_ct_cong h
theorem RM.mny {m : Md} {h : aH} (r : RM m h) (k : MOk m) {p : Option Nat} (hp : ∀ q, p = some q → mLive m q) : fb_ct (pm h (pI m p)) 24 = (mCh m p).length := by
  have e : fb_ct (pm h (pI m p)) 24 = fb_ct (fun t => decide (∃ c ∈ mCh m p, mSl m c = t)) 24 := fb_ct_cong24 (fun t ht => by
    have h1 := r.inP k hp ht
    cases h2 : pm h (pI m p) t
    · rw [eq_comm, decide_eq_false_iff_not]
      intro q
      rw [h1.mpr q] at h2; cases h2
    · rw [eq_comm, decide_eq_true_eq]; exact h1.mp h2)
  rw [e]
  refine ct_list (mSl m) 24 (mCh m p) _ (k.2.2.2.2 p) (fun a ha b hb => sl_inj ((k.2.2.2.1 _ _).mp ha).1 ((k.2.2.2.1 _ _).mp hb).1) (fun a ha => k.sl ((k.2.2.2.1 _ _).mp ha).1) (fun t => by rw [decide_eq_true_eq])
theorem ch_le {m : Md} (k : MOk m) (p : Option Nat) : (mCh m p).length ≤ 24 := by
  have e := ct_list (mSl m) 24 (mCh m p) (fun t => decide (∃ c ∈ mCh m p, mSl m c = t)) (k.2.2.2.2 p) (fun a ha b hb => sl_inj ((k.2.2.2.1 _ _).mp ha).1 ((k.2.2.2.1 _ _).mp hb).1) (fun a ha => k.sl ((k.2.2.2.1 _ _).mp ha).1) (fun t => by rw [decide_eq_true_eq])
  rw [← e]; exact fb_ct_le _ _
theorem ev_depthOf_l (l : Launch) (G : aG) (t : Int32) (m : Md) (h : aH) (rf : Rf h) (mk : MOk m) (rm : RM m h) (c : Nat) (n : Nat) : ∀ c', mLive m c' → mDp m c' = n → ∀ k_ : Nat, k_ + n = mDp m c + 1 → Ev l G 0 0 0 mX11_depthOf 9 [.ref MO, .int t, .int (nI k_), .int (paI m c')] [] h (Ex (some (.int (nI (mDp m c)))) h) := by
  induction n with
  | zero =>
    intro c' hc' hd
    have := (mk.2.1 c' (mk.lt hc')).2.2.1
    omega
  | succ n ih_ =>
    intro c' hc' hd k_ hk
    have h0 := mk.2.1 c' (mk.lt hc')
    cases hp : mPa m c' with
    | none =>
      have hd1 := h0.2.2.2.2.1 hp
      have e : paI m c' = -1 := by unfold paI; rw [hp]
      rw [e]
      refine Ev_iload_n dX11_depthOf_9 rfl ?_
      refine Ev_if_ltT 26 dX11_depthOf_10 (by decide) (fun zb10_ => ?_) (fun zb10_ => ?_)
      · refine Ev_iload_n dX11_depthOf_26 rfl ?_
        refine Ev_iret dX11_depthOf_27 rfl ?_
        exact ⟨by rw [show k_ = mDp m c by omega], rfl⟩
      · exact absurd (by decide) zb10_
    | some q =>
      have hq := (mk.2.2.1 c' hc').1 q hp
      have hd1 := (h0.2.2.2.2.2 q hp).2
      have e : paI m c' = nI (mSl m q) := by unfold paI; rw [hp]
      have hs := mk.sl hq
      rw [e]
      refine Ev_iload_n dX11_depthOf_9 rfl ?_
      refine Ev_if_ltT 26 dX11_depthOf_10 (by decide) (fun zb10_ => ?_) (fun zb10_ => ?_)
      · exact absurd zb10_ (by rw [hi_n (by omega)]; omega)
      · refine Ev_iincN 1 dX11_depthOf_13 (by decide) (by decide) rfl ?_
        refine Ev_aload_n dX11_depthOf_16 rfl (by first | exact Or.inr ⟨_, rfl⟩ | exact rv_or _ | exact Or.inl rfl) ?_
        refine Ev_getA dX11_depthOf_17 fX11_16 rf.1 (rr_parent rf) ?_
        refine Ev_iload_n dX11_depthOf_20 rfl ?_
        refine Ev_ialdL _ dX11_depthOf_21 (rk_parent rf) (rl_parent rf) (hi_n (by omega)) (by omega) ?_
        refine Ev_top (y := .int (paI m q)) (by rw [(rm.2.2.1 q hq).2.1]) ?_
        refine Ev_istore_n dX11_depthOf_22 (by decide) ?_
        refine Ev_goto 9 dX11_depthOf_23 (by decide) ?_
        exact ih_ q hq (by omega) _ (by omega)
theorem ev_depthOf (l : Launch) (G : aG) (c : Nat) (m : Md) (h : aH) (rf : Rf h) (mk : MOk m) (rm : RM m h) (hc : mLive m c) : Ev l G 0 0 0 mX11_depthOf 0 (en 4 [.ref MO, .int (nI (mSl m c))]) [] h (Ex (some (.int (nI (mDp m c)))) h) := by
  have hs := mk.sl hc
  refine Ev_iconst (v := nI 1) dX11_depthOf_0 (by decide) ?_
  refine Ev_istore_n dX11_depthOf_1 (by decide) ?_
  refine Ev_aload_n dX11_depthOf_2 rfl (by first | exact Or.inr ⟨_, rfl⟩ | exact rv_or _ | exact Or.inl rfl) ?_
  refine Ev_getA dX11_depthOf_3 fX11_16 rf.1 (rr_parent rf) ?_
  refine Ev_iload_n dX11_depthOf_6 rfl ?_
  refine Ev_ialdL _ dX11_depthOf_7 (rk_parent rf) (rl_parent rf) (hi_n (by omega)) (by omega) ?_
  refine Ev_top (y := .int (paI m c)) (by rw [(rm.2.2.1 c hc).2.1]) ?_
  refine Ev_istore_n dX11_depthOf_8 (by decide) ?_
  exact ev_depthOf_l l G _ m h rf mk rm c (mDp m c) c hc rfl 1 (by omega)
