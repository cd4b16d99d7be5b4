def drK (m : Md) (c : Nat) (L : List Nat) (k : Nat) : Md := (m.1, m.2.1, (fun t => if t < k then mLv (dropM m c) t else mLv m t), m.2.2.2.1, m.2.2.2.2.1, fun q => if q = mPa m c then L else mCh m q)
theorem drK_0 {m : Md} {c : Nat} {L : List Nat} : setCh m (mPa m c) L = drK m c L 0 := by
  unfold setCh drK
  have e : m.2.2.1 = fun t => if t < 0 then mLv (dropM m c) t else mLv m t := by
    funext t; rw [if_neg (by omega)]; rfl
  rw [← e]
theorem drK_n {m : Md} {c : Nat} {L : List Nat} {k : Nat} (e : mLv (dropM m c) k = mLv m k) : drK m c L (k + 1) = drK m c L k := by
  unfold drK
  have e : (fun t => if t < k + 1 then mLv (dropM m c) t else mLv m t) = (fun t => if t < k then mLv (dropM m c) t else mLv m t) := by
    funext t
    by_cases h1 : t < k
    · rw [if_pos h1, if_pos (by omega)]
    · by_cases h2 : t = k
      · subst h2; rw [if_pos (by omega), if_neg (by omega), e]
      · rw [if_neg h1, if_neg (by omega)]
  rw [e]
theorem drK_lv {m : Md} {c : Nat} {L : List Nat} {k t : Nat} : mLv (drK m c L k) t = if t < k then mLv (dropM m c) t else mLv m t := rfl
def SD1 (x : Nat) (tg : Nat × Nat) : Prop := tg = (10, x) ∨ tg = (9, 11) ∨ tg = (9, 6)
theorem drK_cnt {m : Md} {c x : Nat} {L : List Nat} {k : Nat} (hk : k < 24) (hl : mLv m k = some x) (hw : wIn m c x = true) : mCnt (drK m c L (k + 1)) + 1 = mCnt (drK m c L k) := by
  have hd : mLv (dropM m c) k = none := by rw [dropM_lv, hl]; exact if_pos hw
  unfold mCnt
  have e : (fun t => (mLv (drK m c L (k + 1)) t).isSome) = fun t => if t = k then false else (fun t => (mLv (drK m c L k) t).isSome) t := by
    funext t
    simp only [drK_lv]
    by_cases h2 : t = k
    · subst h2; rw [if_pos (by omega), if_pos rfl, hd]; rfl
    · rw [if_neg h2]
      by_cases h1 : t < k
      · rw [if_pos h1, if_pos (by omega)]
      · rw [if_neg h1, if_neg (by omega)]
  have u := fb_ct_upd (fun t => (mLv (drK m c L k) t).isSome) false hk
  rw [e]
  have hp : (mLv (drK m c L k) k).isSome = true := by rw [drK_lv, if_neg (by omega), hl]; rfl
  simp only [hp, if_true, Bool.false_eq_true, if_false] at u
  exact u
theorem CM.dr {g : Gh} {m : Md} {h : aH} {c x k : Nat} {L : List Nat} (cm : CM g (drK m c L k) h) (cf : Cf h) (wf : OwF (wO g)) (hv : Hv h) (mk : MOk m) (hk : k < 24) (hl : mLv m k = some x) (hw : wIn m c x = true) : CM g (drK m c L (k + 1)) (sI (sY (sI h 647 (wA g x) (nI 1)) 11 k none) 322 6 (nI (mCnt (drK m c L (k + 1))))) ∧ FS g (SD1 x) h (sI (sY (sI h 647 (wA g x) (nI 1)) 11 k none) 322 6 (nI (mCnt (drK m c L (k + 1))))) := by
  have hx := mk.1 _ _ hl
  have hd : mLv (dropM m c) k = none := by rw [dropM_lv, hl]; exact if_pos hw
  have tx := cm.1 x hx.2.1
  have f : FS g (SD1 x) h (sI (sY (sI h 647 (wA g x) (nI 1)) 11 k none) 322 6 (nI (mCnt (drK m c L (k + 1))))) := ((FO.sI (show SD1 x (wO g (wA g x)) by rw [tx.1.2.1]; exact Or.inl rfl)).tr (FO.sY (show SD1 x (wO g 11) by rw [wf.1 11 (by decide)]; exact Or.inr (Or.inl rfl)))).tr (FO.sI (show SD1 x (wO g 6) by rw [wf.1 6 (by decide)]; exact Or.inr (Or.inr rfl)))
  have e : OwX g (wO g) h := fun _ _ => rfl
  have n6 : wA g x ≠ 6 := fun z => by
    have q := tx.1.2.1
    rw [z, wf.1 6 (by decide)] at q
    exact absurd (congrArg Prod.fst q) (fun z2 => by have z3 : (9 : Nat) = 10 := z2; omega)
  have sn : ∀ a b, a ≠ 10 → a ≠ 9 → ¬ SD1 x (a, b) := fun a b h1 h2 => by unfold SD1; simp [h1, h2]
  refine ⟨?_, f⟩
  obtain ⟨a1, a2, a3, a4, a5, a6, a7⟩ := cm
  have s7 := f.s hv (ck_7 cf) (by decide) (by rw [wf.1 7 (by decide)]; unfold SD1; simp)
  refine ⟨fun y hy => ?_, fun t ht => ?_, hI_s _ _ _ _, ?_, (s7.2.2 _).1.trans a5, (s7.2.2 _).2.trans a6, (s7.2.2 _).1.trans a7⟩
  · by_cases z : y = x
    · subst z
      obtain ⟨⟨t1, t2, t3, t4, t5, t6, t7, t8, t9⟩, ⟨b1, b2, b3⟩, ⟨c1, c2⟩, l⟩ := tx
      have g0 : goB (drK m c L (k + 1)) y = true := by
        show (!decide (mLv (drK m c L (k + 1)) (mSl m y) = some y)) = true
        rw [hx.2.2, drK_lv, if_pos (by omega), hd]; rfl
      have i1 : ∀ j, j ≠ 647 → hI (sI (sY (sI h 647 (wA g y) (nI 1)) 11 k none) 322 6 (nI (mCnt (drK m c L (k + 1))))) j (wA g y) = hI h j (wA g y) := fun j hj => (hI_a _ _ n6).trans ((gI_Y _ _ _ _ _ _).trans (hI_o _ _ hj))
      refine ⟨⟨t1, t2, (i1 _ (by decide)).trans t3, (i1 _ (by decide)).trans t4, (i1 _ (by decide)).trans t5, t6, t7, t8, ?_⟩, ⟨b1, b2, b3⟩, ⟨c1, c2⟩, fun hlv => ?_⟩
      · rw [g0]
        exact (hI_a _ _ n6).trans ((gI_Y _ _ _ _ _ _).trans (hI_s _ _ _ _))
      · have q : mLv (drK m c L (k + 1)) (mSl m y) = some y := hlv
        rw [hx.2.2, drK_lv, if_pos (by omega), hd] at q
        cases q
    · have t := (a1 y hy).fo (ow' := wO g) f hv e (sn _ _ (by decide) (by decide)) (sn _ _ (by decide) (by decide)) (sn _ _ (by decide) (by decide)) (sn _ _ (by decide) (by decide)) (by unfold SD1; simp [z])
      obtain ⟨⟨t1, t2, t3, t4, t5, t6, t7, t8, t9⟩, b, d, l⟩ := t
      have lve : (mLv (drK m c L (k + 1)) (mSl m y) = some y) ↔ (mLv (drK m c L k) (mSl m y) = some y) := by
        rw [drK_lv, drK_lv]
        by_cases h2 : mSl m y = k
        · rw [h2, if_pos (by omega), if_neg (by omega), hd, hl]
          constructor
          · intro q; cases q
          · intro q; exact absurd (Option.some.inj q).symm z
        · by_cases h1 : mSl m y < k
          · rw [if_pos h1, if_pos (by omega)]
          · rw [if_neg h1, if_neg (by omega)]
      have ge : goB (drK m c L (k + 1)) y = goB (drK m c L k) y := by
        show (!decide (mLv (drK m c L (k + 1)) (mSl m y) = some y)) = (!decide (mLv (drK m c L k) (mSl m y) = some y))
        rw [decide_eq_decide.mpr lve]
      exact ⟨⟨t1, t2, t3, t4, t5, t6, t7, t8, by rw [ge]; exact t9⟩, b, d, fun hlv => l (lve.mp hlv)⟩
  · rw [drK_lv]
    show hY (sY (sI h 647 (wA g x) (nI 1)) 11 k none) 11 t = _
    by_cases h2 : t = k
    · subst h2; rw [hY_s, if_pos (by omega), hd]; rfl
    · rw [hY_n _ _ h2]
      have q := a2 t ht
      rw [drK_lv] at q
      by_cases h1 : t < k
      · rw [if_pos h1] at q; rw [if_pos (by omega)]; exact q
      · rw [if_neg h1] at q; rw [if_neg (by omega)]; exact q
  · exact a4.fo f hv e (sn _ _ (by decide) (by decide)) (by rw [wf.1 10 (by decide)]; unfold SD1; simp)
theorem er_fil {c : Nat} : ∀ {L : List Nat}, L.Nodup → L.eraseIdx (L.idxOf c) = L.filter (fun x => !decide (x = c)) := by
  intro L
  induction L with
  | nil => intro _; rfl
  | cons y ys ih_ =>
    intro hn
    have hn2 := List.nodup_cons.mp hn
    by_cases z : y = c
    · subst z
      rw [List.idxOf_cons_self]
      show ys = List.filter _ (y :: ys)
      rw [List.filter_cons_of_neg (by simp)]
      refine (List.filter_eq_self.mpr (fun a ha => ?_)).symm
      have : a ≠ y := fun q => hn2.1 (q ▸ ha)
      simp [this]
    · rw [List.idxOf_cons, show (y == c) = false by simp [z], List.filter_cons_of_pos (by simp [z])]
      show y :: ys.eraseIdx (ys.idxOf c) = _
      rw [ih_ hn2.2]
theorem ch_drop {m : Md} (k : MOk m) {c : Nat} (hc : mLive m c) {p : Option Nat} (hp : ∀ q, p = some q → mLive m q ∧ wIn m c q = false) : (mCh m p).filter (fun x => !wIn m c x) = if p = mPa m c then (mCh m (mPa m c)).eraseIdx (ix m c) else mCh m p := by
  have key : ∀ x ∈ mCh m p, wIn m c x = decide (x = c) := fun x hx => by
    have h1 := (k.2.2.2.1 p x).mp hx
    rw [wIn_step k c (k.lt h1.1), h1.2]
    cases p with
    | none => simp
    | some q =>
      show (decide (x = c) || wIn m c q) = _
      rw [(hp q rfl).2]; simp
  have e1 : (mCh m p).filter (fun x => !wIn m c x) = (mCh m p).filter (fun x => !decide (x = c)) := List.filter_congr (fun x hx => by rw [key x hx])
  rw [e1]
  by_cases z : p = mPa m c
  · rw [if_pos z, z]
    exact (er_fil (k.2.2.2.2 _)).symm
  · rw [if_neg z]
    refine List.filter_eq_self.mpr (fun a ha => ?_)
    have : a ≠ c := fun q => z (by rw [q] at ha; exact ((k.2.2.2.1 p c).mp ha).2.symm)
    simp [this]
theorem CM.drEnd {g : Gh} {m : Md} {h : aH} {c : Nat} (mk : MOk m) (hc : mLive m c) (cm : CM g (drK m c ((mCh m (mPa m c)).eraseIdx (ix m c)) 24) h) : CM g (dropM m c) h := by
  obtain ⟨a1, a2, a3, a4, a5⟩ := cm
  have lve : ∀ t, mLv (drK m c ((mCh m (mPa m c)).eraseIdx (ix m c)) 24) t = mLv (dropM m c) t := fun t => by
    rw [drK_lv]
    by_cases h1 : t < 24
    · rw [if_pos h1]
    · rw [if_neg h1, dropM_lv]
      cases hl : mLv m t with
      | none => rfl
      | some x => exact absurd (mk.1 _ _ hl).1 h1
  have ce : mCnt (dropM m c) = mCnt (drK m c ((mCh m (mPa m c)).eraseIdx (ix m c)) 24) := by
    unfold mCnt
    congr 1
    funext t
    rw [lve]
  refine ⟨fun y hy => ?_, fun t ht => by rw [← lve]; exact a2 t ht, by rw [ce]; exact a3, ?_, a5⟩
  · obtain ⟨⟨t1, t2, t3, t4, t5, t6, t7, t8, t9⟩, b, d, l⟩ := a1 y hy
    refine ⟨⟨t1, t2, t3, t4, t5, t6, t7, t8, ?_⟩, b, d, fun hlv => ?_⟩
    · rw [t9]
      show bI (!decide (mLv (drK m c _ 24) (mSl m y) = some y)) = bI (!decide (mLv (dropM m c) (mSl m y) = some y))
      rw [lve]
    · obtain ⟨l1, l2, l3⟩ := l (by show mLv (drK m c _ 24) (mSl m y) = some y; rw [lve]; exact hlv)
      refine ⟨l1, l2, ?_⟩
      have hq := dropM_live.mp hlv
      show CLs (wO g) (wL g y) (((mCh m (some y)).filter (fun x => !wIn m c x)).map (wA g)) 10 (3, y + 1) h
      rw [ch_drop mk hc (fun q hq2 => by cases hq2; exact hq)]
      exact l3
  · show CLs (wO g) 10 (((mCh m none).filter (fun x => !wIn m c x)).map (wA g)) 10 (3, 0) h
    rw [ch_drop mk hc (fun q hq2 => by cases hq2)]
    exact a4
def SDr (p : Option Nat) (tg : Nat × Nat) : Prop := tg.1 = 10 ∨ SLs p tg ∨ tg = (9, 11) ∨ tg = (9, 6)
theorem ec_remove_l (l : Launch) (G : aG) (c : Nat) (g : Gh) (m : Md) (h : aH) (wf : OwF (wO g)) (mk : MOk m) (hc : mLive m c) {Q : Option Value → aH → Prop} (kk_ : ∀ h1, FS g (SDr (mPa m c)) h h1 → CM g (dropM m c) h1 → (∀ j, hR h1 j 6 = hR h j 6) → Cf h1 → Ev l G 4 0 0 mX4_remove 97 [.ref 6, .ref (wA g c), .int (nI (mCnt m)), .int (nI ((mCh m (mPa m c)).idxOf c)), .int (nI 24)] [] h1 Q) (ms : Nat) : ∀ k, 24 - k < ms → k ≤ 24 → ∀ h1, FS g (SDr (mPa m c)) h h1 → CM g (drK m c ((mCh m (mPa m c)).eraseIdx (ix m c)) k) h1 → (∀ j, hR h1 j 6 = hR h j 6) → Cf h1 → Ev l G 4 0 0 mX4_remove 31 [.ref 6, .ref (wA g c), .int (nI (mCnt m)), .int (nI ((mCh m (mPa m c)).idxOf c)), .int (nI k)] [] h1 Q := by
  induction ms with
  | zero => intro k hk; omega
  | succ ms ih_ =>
    intro k hk1_ hk2_ h1 f1_ cm1_ hr_ cf1_
    refine Ev_hv (fun hv0_ => ?_)
    by_cases z24_ : k = 24
    · skip
      refine Ev_iload dX4_remove_31 rfl ?_
      refine Ev_bipush (v := nI 24) dX4_remove_33 (by decide) ?_
      refine Ev_icmp_geN 97 dX4_remove_35 (by decide) (by omega) (by omega) (fun zb35_ => ?_) (fun zb35_ => ?_)
      · have ek_ : k = 24 := by omega
        subst ek_
        exact kk_ h1 f1_ (CM.drEnd mk hc cm1_) hr_ cf1_
      · exact False.elim (by omega)
    cases hl_ : mLv m k with
    | none =>
      have e_ : mLv (dropM m c) k = mLv m k := by rw [dropM_lv, hl_]
      refine Ev_iload dX4_remove_31 rfl ?_
      refine Ev_bipush (v := nI 24) dX4_remove_33 (by decide) ?_
      refine Ev_icmp_geN 97 dX4_remove_35 (by decide) (by omega) (by omega) (fun zb35_ => ?_) (fun zb35_ => ?_)
      · exact False.elim (by omega)
      · refine Ev_aload_n dX4_remove_38 rfl (by first | exact Or.inr ⟨_, rfl⟩ | exact rv_or _ | exact Or.inl rfl) ?_
        refine Ev_getA dX4_remove_39 fX4_20 (ck_6 cf1_) (cr_321_6 cf1_) ?_
        refine Ev_iload dX4_remove_42 rfl ?_
        refine Ev_aald k dX4_remove_44 (ck_11 cf1_) (by omega) (by omega) (hi_n (by omega)) (by rw [cl_11 cf1_]; omega) ?_
        rw [cm1_.2.1 k (by omega), drK_lv, if_neg (by omega), hl_]
        refine Ev_ifnull (o := none) 91 dX4_remove_45 (by decide) (fun _ => ?_) (fun a_ z_ => by cases z_)
        refine Ev_iincN 1 dX4_remove_91 (by decide) (by decide) rfl ?_
        refine Ev_goto 31 dX4_remove_94 (by decide) ?_
        refine ih_ (k + 1) (by omega) (by omega) h1 f1_ ?_ hr_ cf1_
        rw [drK_n e_]; exact cm1_
    | some x =>
      have hx_ := mk.1 _ _ hl_
      have tx_ := cm1_.1 x hx_.2.1
      have c321_ : hR h1 321 6 = some 11 := cr_321_6 cf1_
      cases hw_ : wIn m c x with
      | false =>
        have e_ : mLv (dropM m c) k = mLv m k := by rw [dropM_lv, hl_]; show (if wIn m c x = true then none else some x) = some x; rw [if_neg (by rw [hw_]; decide)]
        refine Ev_iload dX4_remove_31 rfl ?_
        refine Ev_bipush (v := nI 24) dX4_remove_33 (by decide) ?_
        refine Ev_icmp_geN 97 dX4_remove_35 (by decide) (by omega) (by omega) (fun zb35_ => ?_) (fun zb35_ => ?_)
        · exact False.elim (by omega)
        · refine Ev_aload_n dX4_remove_38 rfl (by first | exact Or.inr ⟨_, rfl⟩ | exact rv_or _ | exact Or.inl rfl) ?_
          refine Ev_getA dX4_remove_39 fX4_20 (ck_6 cf1_) (cr_321_6 cf1_) ?_
          refine Ev_iload dX4_remove_42 rfl ?_
          refine Ev_aald k dX4_remove_44 (ck_11 cf1_) (by omega) (by omega) (hi_n (by omega)) (by rw [cl_11 cf1_]; omega) ?_
          rw [cm1_.2.1 k (by omega), drK_lv, if_neg (by omega), hl_]
          refine Ev_top (y := .ref (wA g x)) rfl ?_
          refine Ev_ifnull (o := some (wA g x)) 91 dX4_remove_45 (by decide) (fun z_ => by cases z_) (fun a_ z_ => ?_)
          refine Ev_aload_n dX4_remove_48 rfl (by first | exact Or.inr ⟨_, rfl⟩ | exact rv_or _ | exact Or.inl rfl) ?_
          refine Ev_getA dX4_remove_49 fX4_20 (ck_6 cf1_) (cr_321_6 cf1_) ?_
          refine Ev_iload dX4_remove_52 rfl ?_
          refine Ev_aald k dX4_remove_54 (ck_11 cf1_) (by omega) (by omega) (hi_n (by omega)) (by rw [cl_11 cf1_]; omega) ?_
          rw [cm1_.2.1 k (by omega), drK_lv, if_neg (by omega), hl_]
          refine Ev_top (y := .ref (wA g x)) rfl ?_
          refine Ev_aload_n dX4_remove_55 rfl (by first | exact Or.inr ⟨_, rfl⟩ | exact rv_or _ | exact Or.inl rfl) ?_
          refine Ev_V0 [.ref (wA g c)] dX4_remove_56 vX9_isWithin kX4_62 (cm1_.1 x hx_.2.1).1.1 rfl rfl rfl (Nat.le_of_ble_eq_true rfl) (by omega) (ec_isWithin l G c x g m h1 cf1_ wf mk cm1_.ci (mk.lt hc) hx_.2.1) ?_
          refine Ev_if_eqB 91 dX4_remove_59 (by decide) (fun zb59_ => ?_) (fun zb59_ => ?_)
          · refine Ev_iincN 1 dX4_remove_91 (by decide) (by decide) rfl ?_
            refine Ev_goto 31 dX4_remove_94 (by decide) ?_
            refine ih_ (k + 1) (by omega) (by omega) h1 f1_ ?_ hr_ cf1_
            rw [drK_n e_]; exact cm1_
          · rw [hw_] at zb59_; cases zb59_
      | true =>
        have cnt_ := drK_cnt (L := ((mCh m (mPa m c)).eraseIdx (ix m c))) (by omega) hl_ hw_
        have c24_ : mCnt (drK m c ((mCh m (mPa m c)).eraseIdx (ix m c)) k) ≤ 24 := fb_ct_le _ 24
        refine Ev_iload dX4_remove_31 rfl ?_
        refine Ev_bipush (v := nI 24) dX4_remove_33 (by decide) ?_
        refine Ev_icmp_geN 97 dX4_remove_35 (by decide) (by omega) (by omega) (fun zb35_ => ?_) (fun zb35_ => ?_)
        · exact False.elim (by omega)
        · refine Ev_aload_n dX4_remove_38 rfl (by first | exact Or.inr ⟨_, rfl⟩ | exact rv_or _ | exact Or.inl rfl) ?_
          refine Ev_getA dX4_remove_39 fX4_20 (ck_6 cf1_) (cr_321_6 cf1_) ?_
          refine Ev_iload dX4_remove_42 rfl ?_
          refine Ev_aald k dX4_remove_44 (ck_11 cf1_) (by omega) (by omega) (hi_n (by omega)) (by rw [cl_11 cf1_]; omega) ?_
          rw [cm1_.2.1 k (by omega), drK_lv, if_neg (by omega), hl_]
          refine Ev_top (y := .ref (wA g x)) rfl ?_
          refine Ev_ifnull (o := some (wA g x)) 91 dX4_remove_45 (by decide) (fun z_ => by cases z_) (fun a_ z_ => ?_)
          refine Ev_aload_n dX4_remove_48 rfl (by first | exact Or.inr ⟨_, rfl⟩ | exact rv_or _ | exact Or.inl rfl) ?_
          refine Ev_getA dX4_remove_49 fX4_20 (ck_6 cf1_) (cr_321_6 cf1_) ?_
          refine Ev_iload dX4_remove_52 rfl ?_
          refine Ev_aald k dX4_remove_54 (ck_11 cf1_) (by omega) (by omega) (hi_n (by omega)) (by rw [cl_11 cf1_]; omega) ?_
          rw [cm1_.2.1 k (by omega), drK_lv, if_neg (by omega), hl_]
          refine Ev_top (y := .ref (wA g x)) rfl ?_
          refine Ev_aload_n dX4_remove_55 rfl (by first | exact Or.inr ⟨_, rfl⟩ | exact rv_or _ | exact Or.inl rfl) ?_
          refine Ev_V0 [.ref (wA g c)] dX4_remove_56 vX9_isWithin kX4_62 (cm1_.1 x hx_.2.1).1.1 rfl rfl rfl (Nat.le_of_ble_eq_true rfl) (by omega) (ec_isWithin l G c x g m h1 cf1_ wf mk cm1_.ci (mk.lt hc) hx_.2.1) ?_
          refine Ev_if_eqB 91 dX4_remove_59 (by decide) (fun zb59_ => ?_) (fun zb59_ => ?_)
          · rw [hw_] at zb59_; cases zb59_
          · refine Ev_aload_n dX4_remove_62 rfl (by first | exact Or.inr ⟨_, rfl⟩ | exact rv_or _ | exact Or.inl rfl) ?_
            refine Ev_getA dX4_remove_63 fX4_20 (ck_6 cf1_) (cr_321_6 cf1_) ?_
            refine Ev_iload dX4_remove_66 rfl ?_
            refine Ev_aald k dX4_remove_68 (ck_11 cf1_) (by omega) (by omega) (hi_n (by omega)) (by rw [cl_11 cf1_]; omega) ?_
            rw [cm1_.2.1 k (by omega), drK_lv, if_neg (by omega), hl_]
            refine Ev_top (y := .ref (wA g x)) rfl ?_
            refine Ev_iconst (v := nI 1) dX4_remove_69 (by decide) ?_
            refine Ev_putI dX4_remove_70 fX4_66 ⟨_, rfl, Or.inl rfl⟩ (Or.inr ⟨rfl, (by decide)⟩) tx_.1.1 ?_
            refine Ev_aload_n dX4_remove_73 rfl (by first | exact Or.inr ⟨_, rfl⟩ | exact rv_or _ | exact Or.inl rfl) ?_
            refine Ev_getA dX4_remove_74 fX4_20 (ck_6 cf1_) c321_ ?_
            refine Ev_iload dX4_remove_77 rfl ?_
            refine Ev_null dX4_remove_79 ?_
            refine Ev_aastN (kd := 18) k dX4_remove_80 (ck_11 cf1_) (by omega) (by omega) (hi_n (by omega)) (show k < hL h1 11 by rw [cl_11 cf1_]; omega) ?_
            refine Ev_aload_n dX4_remove_81 rfl (by first | exact Or.inr ⟨_, rfl⟩ | exact rv_or _ | exact Or.inl rfl) ?_
            refine Ev_dup dX4_remove_82 (by first | rfl | exact okv_rv _) ?_
            refine Ev_getE dX4_remove_83 fX4_41 (ck_6 cf1_) ((gI_Y _ _ _ _ _ _).trans ((hI_o _ _ (by decide)).trans cm1_.2.2.1)) ?_
            refine Ev_iconst (v := nI 1) dX4_remove_86 (by decide) ?_
            refine Ev_isubN dX4_remove_87 (by omega) ?_
            refine Ev_putI dX4_remove_88 fX4_41 ⟨_, rfl, Or.inl rfl⟩ (Or.inl rfl) (ck_6 cf1_) ?_
            refine Ev_iincN 1 dX4_remove_91 (by decide) (by decide) rfl ?_
            refine Ev_goto 31 dX4_remove_94 (by decide) ?_
            refine Ev_hv (fun hv1_ => ?_)
            obtain ⟨cm2_, f2_⟩ := cm1_.dr cf1_ wf hv0_ mk (by omega) hl_ hw_
            rw [show mCnt (drK m c ((mCh m (mPa m c)).eraseIdx (ix m c)) k) - 1 = mCnt (drK m c ((mCh m (mPa m c)).eraseIdx (ix m c)) (k + 1)) by omega]
            refine ih_ (k + 1) (by omega) (by omega) _ (f1_.tr (f2_.mo (fun b _ z => ?_))) cm2_ (fun j => hr_ j) (cf1_.of rfl rfl rfl)
            rcases z with z | z | z
            · show SDr _ (wO g b); rw [z]; exact Or.inl rfl
            · show SDr _ (wO g b); rw [z]; exact Or.inr (Or.inr (Or.inl rfl))
            · show SDr _ (wO g b); rw [z]; exact Or.inr (Or.inr (Or.inr rfl))
