section DR
variable {m : Md} {c : Nat} {R : Nat → Bool} {h hA h1 : aH}
theorem drR (k : MOk m) (d : DrI m c R hA h1) (hs : ∀ y, mLive m y → stuk m c R y) {y : Nat} (hy : mLive m y) (hne : y ≠ c) : R y = wIn m c y := by
  cases hw : wIn m c y
  · cases hr : R y
    · rfl
    · have := (d.2.2.1 y hr).2.1
      rw [hw] at this; cases this
  · exact stuk_all k hs 6 y hy (by omega) hw hne
theorem drRc (d : DrI m c R hA h1) : R c = false := by
  cases hr : R c
  · rfl
  · exact absurd rfl (d.2.2.1 c hr).2.2
theorem drop_cnt (k : MOk m) (hc : mLive m c) (d : DrI m c R hA h1) (hs : ∀ y, mLive m y → stuk m c R y) : mCnt m = mCnt (dropM m c) + (rcn m R + 1) := by
  have e1 : mCnt m = fb_ct (fun s => (mLv (dropM m c) s).isSome || rcP m (wIn m c) s) 24 := by
    unfold mCnt
    refine fb_ct_cong24 (fun s _ => ?_)
    rw [dropM_lv]
    unfold rcP
    cases hl : mLv m s with
    | none => rfl
    | some y => by_cases e : wIn m c y = true <;> simp [e]
  have e2 := fb_ct_or (p := fun s => (mLv (dropM m c) s).isSome) (q := rcP m (wIn m c)) (n := 24) (fun s _ q => by
    obtain ⟨q1, q2⟩ := q
    rw [dropM_lv] at q1
    unfold rcP at q2
    cases hl : mLv m s with
    | none => rw [hl] at q2; cases q2
    | some y =>
      rw [hl] at q1 q2
      have q2 : wIn m c y = true := q2
      simp [q2] at q1)
  have e3 : fb_ct (rcP m (wIn m c)) 24 = rcn m R + 1 := by
    rw [← rcn_add k hc (drRc d)]
    unfold rcn
    refine fb_ct_cong24 (fun s _ => ?_)
    unfold rcP
    cases hl : mLv m s with
    | none => rfl
    | some y =>
      show wIn m c y = if y = c then true else R y
      by_cases e : y = c
      · rw [if_pos e, e]; exact wIn_self k (k.lt hc)
      · rw [if_neg e, drR k d hs (k.live hl) e]
  rw [e1, e2, e3]; rfl
theorem RM.drop (r : RM m h) (k : MOk m) (hc : mLive m c) (p : PlD m c 24 h hA) (d : DrI m c R hA h1) (hs : ∀ y, mLive m y → stuk m c R y) : RM (dropM m c) (sI (sX h1 29 (mSl m c) (-1)) 768 MO (nI (mCnt m - (rcn m R + 1)))) := by
  have x := p.1.2.2.2.2.2.2
  have x2 := d.1.2.2.2.2.2.2
  have y := p.1.2.2.2.2.2.1
  have y2 := d.1.2.2.2.2.2.1
  have q : ∀ a, a ≠ 29 → a ≠ 32 → hX (sX h1 29 (mSl m c) (-1)) a = hX h a := fun a e1 e2 => (hX_o _ _ e1).trans ((x2 a (by simp [e1])).trans (x a (by simp [e2])))
  have q32 : hX (sX h1 29 (mSl m c) (-1)) 32 = hX hA 32 := (hX_o _ _ (by decide)).trans (x2 32 (by decide))
  refine ⟨r.1, fun t ht => ?_, fun z hz => ?_, fun p' i hi => ?_, ?_, ?_⟩
  · show hX (sX h1 29 (mSl m c) (-1)) 29 t = _
    rw [dropM_lv]
    by_cases e : t = mSl m c
    · subst e
      rw [hX_s, hc]
      show (-1 : Int32) = onI (if wIn m c c = true then none else some c)
      rw [if_pos (wIn_self k (k.lt hc))]; rfl
    · rw [hX_n _ _ e, d.2.1 t ht]
      unfold lvR
      cases hl : mLv m t with
      | none => rfl
      | some z =>
        have hne : z ≠ c := fun w => e (by rw [← w]; exact ((k.1 _ _ hl).2.2).symm)
        show onI (if R z = true then none else some z) = onI (if wIn m c z = true then none else some z)
        rw [drR k d hs (k.live hl) hne]
  · obtain ⟨z1, z2⟩ := dropM_live.mp hz
    obtain ⟨a1, a2, a3, a4, a5⟩ := r.2.2.1 z z1
    show hX (sX h1 29 (mSl m c) (-1)) 30 (mSl m z) = _ ∧ hX (sX h1 29 (mSl m c) (-1)) 31 (mSl m z) = _ ∧ (∀ j, j < 4 → hX (sX h1 29 (mSl m c) (-1)) 33 (4 * mSl m z + j) = _) ∧ hX (sX h1 29 (mSl m c) (-1)) 35 (mSl m z) = _ ∧ ∀ j, j < _ → hX (sX h1 29 (mSl m c) (-1)) 34 (6 * mSl m z + j) = _
    rw [q 30 (by decide) (by decide), q 31 (by decide) (by decide), q 33 (by decide) (by decide), q 35 (by decide) (by decide), q 34 (by decide) (by decide)]
    exact ⟨a1, a2, a3, a4, a5⟩
  · show hX (sX h1 29 (mSl m c) (-1)) 32 (mSl m _) = _
    rw [q32]
    by_cases hw : ∃ w, p' = some w ∧ wIn m c w = true
    · obtain ⟨w, rfl, hw⟩ := hw
      have hm := List.getElem_mem hi
      have h2 : (mCh (dropM m c) (some w))[i] ∈ (mCh m (some w)).filter (fun x => !wIn m c x) := hm
      obtain ⟨h3, h4⟩ := List.mem_filter.mp h2
      obtain ⟨h5, h6⟩ := (k.2.2.2.1 _ _).mp h3
      rw [wIn_par k (k.lt h5) h6 hw] at h4
      cases h4
    · have hq : ∀ w, p' = some w → wIn m c w = false := fun w hw2 => by
        cases hb : wIn m c w
        · rfl
        · exact absurd ⟨w, hw2, hb⟩ hw
      rw [drop_ch k hc hq] at hi ⊢
      have key : ∀ (j z : Nat), (mCh m p')[j]? = some z → z ≠ c → hX hA 32 (mSl m z) = if p' = mPa m c then nI (np1 (ix m c) j) else nI j := by
        intro j z hj hne
        obtain ⟨b1, b2, b3⟩ := ix_of k hj
        rw [p.2 _ (k.sl b1), if_pos (k.sl b1)]
        by_cases e : p' = mPa m c
        · rw [if_pos e, sib_at k b1 hne (by rw [b2, e])]
          show nI (np1 (ix m c) (ix m z)) = _
          rw [b3]
        · rw [if_neg e, sib_no b1 (fun w => e (by rw [← b2, w.2]))]
          show hX h 32 (mSl m z) = _
          rw [r.place k b1]
          show nI (ix m z) = _
          rw [b3]
      have hixl := ix_lt k hc
      by_cases e : p' = mPa m c
      · simp only [if_pos e] at hi ⊢ key
        subst e
        rw [List.length_eraseIdx] at hi
        simp only [hixl, if_true] at hi
        rw [List.getD_eq_getElem?_getD, List.getElem?_eraseIdx]
        by_cases e2 : i < ix m c
        · rw [if_pos e2, List.getElem?_eq_getElem (by omega)]
          have hg : (mCh m (mPa m c))[i]? = some (mCh m (mPa m c))[i] := List.getElem?_eq_getElem (by omega)
          have hb := (ix_of k hg).2.2
          have := key i _ hg (fun w => by rw [w] at hb; omega)
          show hX hA 32 (mSl m (mCh m (mPa m c))[i]) = _
          rw [this]
          unfold np1
          rw [if_neg (by omega)]
        · rw [if_neg e2, List.getElem?_eq_getElem (by omega)]
          have hg : (mCh m (mPa m c))[i + 1]? = some (mCh m (mPa m c))[i + 1] := List.getElem?_eq_getElem (by omega)
          have hb := (ix_of k hg).2.2
          have := key (i + 1) _ hg (fun w => by rw [w] at hb; omega)
          show hX hA 32 (mSl m (mCh m (mPa m c))[i + 1]) = _
          rw [this]
          unfold np1
          rw [if_pos (by omega)]
          congr 1
      · simp only [if_neg e] at hi ⊢ key
        have hg : (mCh m p')[i]? = some (mCh m p')[i] := List.getElem?_eq_getElem hi
        have hb := (ix_of k hg).2.1
        have := key i _ hg (fun w => e (by rw [← hb, w]))
        rw [List.getD_eq_getElem?_getD, hg]
        exact this
  · rw [hI_s]
    congr 1
    have := drop_cnt k hc d hs
    omega
  · show hI h1 770 MO = _
    rw [y2 770 MO (by simp), y 770 MO (by simp)]
    exact r.2.2.2.2.2
end DR
theorem ev_drop (l : Launch) (G : aG) (t_ : Int32) (m : Md) (h : aH) (rf : Rf h) (mk : MOk m) (rm : RM m h) : Ev l G 2 0 0 mX11_drop 0 (en 5 [.ref MO, .int t_]) [] h (fun x_ h' => (¬ isT m t_ ∧ x_ = some (.int (-1)) ∧ h' = h) ∨ (∃ c, mLive m c ∧ t_ = nI (mSl m c) ∧ x_ = some (.int (nI (mCnt m - mCnt (dropM m c)))) ∧ RM (dropM m c) h' ∧ Fr [768] [29, 32] h h')) := by
  refine Ev_aload_n dX11_drop_0 rfl (by first | exact Or.inr ⟨_, rfl⟩ | exact rv_or _ | exact Or.inl rfl) ?_
  refine Ev_iload_n dX11_drop_1 rfl ?_
  refine Ev_V0 [.int t_] dX11_drop_2 vX11_isThing kX11_145 rf.1 rfl rfl rfl (Nat.le_of_ble_eq_true rfl) (by omega) (ev_isThing l G _ _ rf) ?_
  refine Ev_if_neB 10 dX11_drop_5 (by decide) (fun zb5_ => ?_) (fun zb5_ => ?_)
  · obtain ⟨c, hc, rfl⟩ := (rm.isTh mk).mp zb5_
    have hs := mk.sl hc
    refine Ev_iconst (v := nI 0) dX11_drop_10 (by decide) ?_
    refine Ev_istore_n dX11_drop_11 (by decide) ?_
    refine ev_drop_1 l G c m h rf mk rm hc (fun hA pl_ => ?_) 25 0 (by omega) (by omega) h PlD.zero
    refine Ev_iconst (v := nI 0) dX11_drop_73 (by decide) ?_
    refine Ev_istore_n dX11_drop_74 (by decide) ?_
    refine Ev_iconst (v := nI 1) dX11_drop_75 (by decide) ?_
    refine Ev_istore_n dX11_drop_76 (by decide) ?_
    have rfA_ := rf.fr pl_.1
    have xA_ := pl_.1.2.2.2.2.2.2
    have hr0_ : rcn m (fun _ => false) = 0 := fb_ct_zero.mpr (fun s _ => by unfold rcP; cases mLv m s <;> rfl)
    have d0_ : DrI m c (fun _ => false) hA hA := ⟨Fr.rf, fun s hs => by
      rw [xA_ 29 (by decide), rm.2.1 s hs]
      unfold lvR
      cases mLv m s <;> rfl, fun y hy => absurd (show false = true from hy) (by decide), fun y q _ _ _ => rfl⟩
    have hE_ := ev_drop_3 l G c m hA rfA_ mk rm.1 (fun x hx => by rw [xA_ 31 (by decide)]; exact (rm.2.2.1 x hx).2.1) hc (Q := (fun (x_ : Option Value) (h' : aH) => (¬ isT m (nI (mSl m c)) ∧ x_ = some (.int (-1)) ∧ h' = h) ∨ (∃ c2, mLive m c2 ∧ nI (mSl m c) = nI (mSl m c2) ∧ x_ = some (.int (nI (mCnt m - mCnt (dropM m c2)))) ∧ RM (dropM m c2) h' ∧ Fr [768] [29, 32] h h'))) (fun R h1 v_ dr_ st_ => ?_) 60 (fun _ => false) 1 hA (.retAddr 0) d0_ (Or.inl rfl) (by omega)
    · rw [hr0_] at hE_
      exact hE_
    · have rf1_ := rfA_.fr dr_.1
      have hct_ := drop_cnt mk hc dr_ st_
      have hcl_ : mCnt m ≤ 24 := fb_ct_le _ _
      have e768_ : hI (sX h1 29 (mSl m c) (-1)) 768 MO = nI (mCnt m) := (dr_.1.2.2.2.2.2.1 768 MO (by simp)).trans ((pl_.1.2.2.2.2.2.1 768 MO (by simp)).trans rm.2.2.2.2.1)
      have kk2_ : (fun (x_ : Option Value) (h' : aH) => (¬ isT m (nI (mSl m c)) ∧ x_ = some (.int (-1)) ∧ h' = h) ∨ (∃ c2, mLive m c2 ∧ nI (mSl m c) = nI (mSl m c2) ∧ x_ = some (.int (nI (mCnt m - mCnt (dropM m c2)))) ∧ RM (dropM m c2) h' ∧ Fr [768] [29, 32] h h')) (some (.int (nI (rcn m R + 1)))) (sI (sX h1 29 (mSl m c) (-1)) 768 MO (nI (mCnt m - (rcn m R + 1)))) := by
        refine Or.inr ⟨c, hc, rfl, by rw [show rcn m R + 1 = mCnt m - mCnt (dropM m c) by omega], rm.drop mk hc pl_ dr_ st_, ?_⟩
        exact ((pl_.1.mo (by decide) (by decide)).tr (dr_.1.mo (by decide) (by decide))).tr ((Fr.row (by decide)).tr (Fr.int (by decide)))
      refine Ev_aload_n dX11_drop_153 rfl (by first | exact Or.inr ⟨_, rfl⟩ | exact rv_or _ | exact Or.inl rfl) ?_
      refine Ev_getA dX11_drop_154 fX11_7 rf1_.1 (rr_came rf1_) ?_
      refine Ev_iload_n dX11_drop_157 rfl ?_
      refine Ev_iconst (v := -1) dX11_drop_158 (by decide) ?_
      refine Ev_iastL _ dX11_drop_159 (rk_came rf1_) (rl_came rf1_) (hi_n (by omega)) (by omega) ?_
      refine Ev_aload_n dX11_drop_160 rfl (by first | exact Or.inr ⟨_, rfl⟩ | exact rv_or _ | exact Or.inl rfl) ?_
      refine Ev_dup dX11_drop_161 (by first | rfl | exact okv_rv _) ?_
      refine Ev_getE dX11_drop_162 fX11_153 rf1_.1 e768_ ?_
      refine Ev_iload_n dX11_drop_165 rfl ?_
      refine Ev_iconst (v := nI 1) dX11_drop_166 (by decide) ?_
      refine Ev_iaddN dX11_drop_167 ?_
      refine Ev_isubN dX11_drop_168 (by omega) ?_
      refine Ev_putI dX11_drop_169 fX11_153 ⟨_, rfl, Or.inl rfl⟩ (Or.inl rfl) rf1_.1 ?_
      refine Ev_iload_n dX11_drop_172 rfl ?_
      refine Ev_iconst (v := nI 1) dX11_drop_173 (by decide) ?_
      refine Ev_iaddN dX11_drop_174 ?_
      refine Ev_iret dX11_drop_175 rfl ?_
      exact kk2_
  · have zt_ := isT_f rm mk zb5_
    refine Ev_iconst (v := -1) dX11_drop_8 (by decide) ?_
    refine Ev_iret dX11_drop_9 rfl ?_
    exact Or.inl ⟨zt_, rfl, rfl⟩
