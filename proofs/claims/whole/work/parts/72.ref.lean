theorem ev_mn_it (l : Launch) (G : aG) (n_ k_ o_ : Nat) (ho : o_ < 100) (h : aH) (rf : Rf h) (eo_ : hI h 810 MO = nI (o_ + 1)) (ef_ : hI h 812 MO = bI false) {Q Q' : Option Value → aH → Prop} (hC : Ev l G 3 0 0 mX11_step 0 (en 6 [.ref MO]) [] h Q') (kk_ : ∀ v h', Q' v h' → v = none ∧ Ev l G 4 0 0 mX11_makeNew 57 [.ref MO, .int (nI n_), .int (nI k_)] [] h' Q) : Ev l G 4 0 0 mX11_makeNew 57 [.ref MO, .int (nI n_), .int (nI k_)] [] h Q := by
  refine Ev_aload_n dX11_makeNew_57 rfl (by first | exact Or.inr ⟨_, rfl⟩ | exact rv_or _ | exact Or.inl rfl) ?_
  refine Ev_getE dX11_makeNew_58 fX11_200 rf.1 eo_ ?_
  refine Ev_if_leT 78 dX11_makeNew_61 (by decide) (fun zb61_ => ?_) (fun zb61_ => ?_)
  · exact absurd zb61_ (by rw [hi_n (by omega)]; omega)
  · refine Ev_aload_n dX11_makeNew_64 rfl (by first | exact Or.inr ⟨_, rfl⟩ | exact rv_or _ | exact Or.inl rfl) ?_
    refine Ev_getE dX11_makeNew_65 fX11_197 rf.1 ef_ ?_
    refine Ev_if_neB 78 dX11_makeNew_68 (by decide) (fun zb68_ => ?_) (fun zb68_ => ?_)
    · exact absurd zb68_ (by decide)
    · refine Ev_aload_n dX11_makeNew_71 rfl (by first | exact Or.inr ⟨_, rfl⟩ | exact rv_or _ | exact Or.inl rfl) ?_
      refine Ev_Vz [] dX11_makeNew_72 vX11_step kX11_223 rf.1 rfl rfl rfl (Nat.le_of_ble_eq_true rfl) (by omega) hC (fun v_ h2 e_ => ?_)
      obtain ⟨rfl, kk_⟩ := kk_ v_ h2 e_
      refine Ev_goto 57 dX11_makeNew_75 (by decide) ?_
      exact kk_
theorem ev_mn_full (l : Launch) (G : aG) (n_ k_ : Nat) (hn : n_ < 100) (hk : k_ < 100) (h : aH) (rf : Rf h) (ef_ : hI h 812 MO = nI 1) {Q : Option Value → aH → Prop} (hq : Q (some (.int (nI 0))) h) : Ev l G 4 0 0 mX11_makeNew 57 [.ref MO, .int (nI n_), .int (nI k_)] [] h Q := by
  refine Ev_aload_n dX11_makeNew_57 rfl (by first | exact Or.inr ⟨_, rfl⟩ | exact rv_or _ | exact Or.inl rfl) ?_
  refine Ev_getI dX11_makeNew_58 fX11_200 rf.1 ?_
  refine Ev_if_leT 78 dX11_makeNew_61 (by decide) (fun zb61_ => ?_) (fun zb61_ => ?_)
  · refine Ev_iincN 1 dX11_makeNew_78 (by decide) (by decide) rfl ?_
    refine Ev_goto 35 dX11_makeNew_81 (by decide) ?_
    refine Ev_iload_n dX11_makeNew_35 rfl ?_
    refine Ev_iload_n dX11_makeNew_36 rfl ?_
    refine Ev_icmp_geN 84 dX11_makeNew_37 (by decide) (by omega) (by omega) (fun zb37_ => ?_) (fun zb37_ => ?_)
    · refine Ev_aload_n dX11_makeNew_84 rfl (by first | exact Or.inr ⟨_, rfl⟩ | exact rv_or _ | exact Or.inl rfl) ?_
      refine Ev_getE dX11_makeNew_85 fX11_197 rf.1 ef_ ?_
      refine Ev_if_neT 95 dX11_makeNew_88 (by decide) (fun zb88_ => ?_) (fun zb88_ => ?_)
      · refine Ev_iconst (v := nI 0) dX11_makeNew_95 (by decide) ?_
        refine Ev_zret dX11_makeNew_96 rfl (by decide) ?_
        exact hq
      · exact absurd zb88_ (by decide)
    · refine Ev_aload_n dX11_makeNew_40 rfl (by first | exact Or.inr ⟨_, rfl⟩ | exact rv_or _ | exact Or.inl rfl) ?_
      refine Ev_getE dX11_makeNew_41 fX11_197 rf.1 ef_ ?_
      refine Ev_if_neT 84 dX11_makeNew_44 (by decide) (fun zb44_ => ?_) (fun zb44_ => ?_)
      · refine Ev_aload_n dX11_makeNew_84 rfl (by first | exact Or.inr ⟨_, rfl⟩ | exact rv_or _ | exact Or.inl rfl) ?_
        refine Ev_getE dX11_makeNew_85 fX11_197 rf.1 ef_ ?_
        refine Ev_if_neT 95 dX11_makeNew_88 (by decide) (fun zb88_ => ?_) (fun zb88_ => ?_)
        · refine Ev_iconst (v := nI 0) dX11_makeNew_95 (by decide) ?_
          refine Ev_zret dX11_makeNew_96 rfl (by decide) ?_
          exact hq
        · exact absurd zb88_ (by decide)
      · exact absurd zb44_ (by decide)
  · refine Ev_aload_n dX11_makeNew_64 rfl (by first | exact Or.inr ⟨_, rfl⟩ | exact rv_or _ | exact Or.inl rfl) ?_
    refine Ev_getE dX11_makeNew_65 fX11_197 rf.1 ef_ ?_
    refine Ev_if_neT 78 dX11_makeNew_68 (by decide) (fun zb68_ => ?_) (fun zb68_ => ?_)
    · refine Ev_iincN 1 dX11_makeNew_78 (by decide) (by decide) rfl ?_
      refine Ev_goto 35 dX11_makeNew_81 (by decide) ?_
      refine Ev_iload_n dX11_makeNew_35 rfl ?_
      refine Ev_iload_n dX11_makeNew_36 rfl ?_
      refine Ev_icmp_geN 84 dX11_makeNew_37 (by decide) (by omega) (by omega) (fun zb37_ => ?_) (fun zb37_ => ?_)
      · refine Ev_aload_n dX11_makeNew_84 rfl (by first | exact Or.inr ⟨_, rfl⟩ | exact rv_or _ | exact Or.inl rfl) ?_
        refine Ev_getE dX11_makeNew_85 fX11_197 rf.1 ef_ ?_
        refine Ev_if_neT 95 dX11_makeNew_88 (by decide) (fun zb88_ => ?_) (fun zb88_ => ?_)
        · refine Ev_iconst (v := nI 0) dX11_makeNew_95 (by decide) ?_
          refine Ev_zret dX11_makeNew_96 rfl (by decide) ?_
          exact hq
        · exact absurd zb88_ (by decide)
      · refine Ev_aload_n dX11_makeNew_40 rfl (by first | exact Or.inr ⟨_, rfl⟩ | exact rv_or _ | exact Or.inl rfl) ?_
        refine Ev_getE dX11_makeNew_41 fX11_197 rf.1 ef_ ?_
        refine Ev_if_neT 84 dX11_makeNew_44 (by decide) (fun zb44_ => ?_) (fun zb44_ => ?_)
        · refine Ev_aload_n dX11_makeNew_84 rfl (by first | exact Or.inr ⟨_, rfl⟩ | exact rv_or _ | exact Or.inl rfl) ?_
          refine Ev_getE dX11_makeNew_85 fX11_197 rf.1 ef_ ?_
          refine Ev_if_neT 95 dX11_makeNew_88 (by decide) (fun zb88_ => ?_) (fun zb88_ => ?_)
          · refine Ev_iconst (v := nI 0) dX11_makeNew_95 (by decide) ?_
            refine Ev_zret dX11_makeNew_96 rfl (by decide) ?_
            exact hq
          · exact absurd zb88_ (by decide)
        · exact absurd zb44_ (by decide)
    · exact absurd zb68_ (by decide)
theorem RSk.lf {m : Md} {fs : List Frm} {c i : Nat} {ch : Option Nat} {lf lf' : Bool} {h : aH} (r : RSk m (fs ++ [(c, i, ch, lf)]) h) : RSk m (fs ++ [(c, i, ch, lf')]) (sX h 61 fs.length (bI lf')) := by
  refine r.top rfl r.end.2.2.2.1 r.end.2.2.2.2.1 rfl ?_ ?_ ?_ ?_
  · exact hX_o _ _ (by decide)
  · rw [up1_id r.end.2.2.2.2.2.2.1]; exact hX_o _ _ (by decide)
  · rw [up1_id r.end.2.2.2.2.2.2.2.1]; exact hX_o _ _ (by decide)
  · exact hX_up _ _ _ _
theorem RSk.ch {m : Md} {fs : List Frm} {c i : Nat} {ch ch' : Option Nat} {lf : Bool} {h : aH} (r : RSk m (fs ++ [(c, i, ch, lf)]) h) (hx : ∀ x, ch' = some x → x ≤ 24) : RSk m (fs ++ [(c, i, ch', lf)]) (sX h 60 fs.length (onI ch')) := by
  refine r.top rfl r.end.2.2.2.1 hx rfl ?_ ?_ ?_ ?_
  · exact hX_o _ _ (by decide)
  · rw [up1_id r.end.2.2.2.2.2.2.1]; exact hX_o _ _ (by decide)
  · exact hX_up _ _ _ _
  · rw [up1_id r.end.2.2.2.2.2.2.2.2]; exact hX_o _ _ (by decide)
theorem RSk.fr {m : Md} {fs : List Frm} {h h' : aH} {ks as : List Nat} (r : RSk m fs h) (f : Fr ks as h h') (h1 : 810 ∉ ks) (h2 : 58 ∉ as ∧ 59 ∉ as ∧ 60 ∉ as ∧ 61 ∉ as) : RSk m fs h' := by
  have x := f.2.2.2.2.2.2
  unfold RSk
  rw [x 58 h2.1, x 59 h2.2.1, x 60 h2.2.2.1, x 61 h2.2.2.2, f.2.2.2.2.2.1 810 MO (fun z => h1 z.2)]
  exact r
theorem RKn.stk {u : Nat} {ps : List Pc} {h : aH} {a j : Nat} {v : Int32} (r : RKn u ps h) (ha : a ∈ [58, 59, 60, 61]) : RKn u ps (sX h a j v) :=
  r.fr (Fr.row (ks := []) (as := [58, 59, 60, 61]) ha) (by decide) (by decide)
theorem drop_at {α : Type} {xs ys : List α} {y : α} {k : Nat} (h : xs.drop k = y :: ys) : xs[k]? = some y ∧ xs.drop (k + 1) = ys := by
  constructor
  · have := congrArg (fun l => l[0]?) h
    simp only [List.getElem?_drop] at this
    simpa using this
  · have := congrArg List.tail h
    rw [List.tail_drop] at this
    exact this
theorem drop_no {α : Type} {xs : List α} {k : Nat} (h : xs.drop k = []) : xs[k]? = none := by
  rw [List.drop_eq_nil_iff] at h
  exact List.getElem?_eq_none h
abbrev anF (fs : List Frm) : List Nat := fs.map (fun f => f.1)
abbrev wyF (fs : List Frm) : List Nat := fs.map (fun f => f.2.1 - 1)
abbrev kdF (m : Md) (ru : Nat → List It) (n : Nat) (fs : List Frm) (c i kd : Nat) (xs : List Nat) : List (Option Pc) := mkC m (fun x => mkU m ru n (anF fs ++ [c]) (wyF fs ++ [i]) x) kd xs
abbrev itF (m : Md) (ru : Nat → List It) (n : Nat) (fs : List Frm) (c i : Nat) (sk : Bool) (rest : List It) : List (Option Pc) := mkI m (fun i kd => kdF m ru n fs c i kd (mCh m (some c))) (anF fs) (wyF fs) c i sk rest
theorem RSk.ch2 {m : Md} {fs : List Frm} {c i x : Nat} {lf : Bool} {h : aH} (r : RSk m (fs ++ [(c, i, some x, lf)]) h) : RSk m (fs ++ [(c, i, none, lf)]) (sX (sX h 60 fs.length (nI (x + 1))) 60 fs.length (-1)) := by
  have r1 := r.ch (ch' := none) (fun z hz => by cases hz)
  have e : hX (sX (sX h 60 fs.length (nI (x + 1))) 60 fs.length (-1)) = hX (sX h 60 fs.length (-1)) := by
    funext a j
    by_cases ha : a = 60
    · subst ha
      by_cases hj : j = fs.length
      · subst hj; rw [hX_s, hX_s]
      · rw [hX_n _ _ hj, hX_n _ _ hj, hX_n _ _ hj]
    · rw [gX_X _ ha, gX_X _ ha, gX_X _ ha]
  unfold RSk at r1 ⊢
  rw [e]
  exact r1
theorem ev_mn_items (l : Launch) (G : aG) (m : Md) (ru : Nat → List It) (mk : MOk m) (hb : aH) (rfb : Rf hb) (rmb : RM m hb) (rub : RRu ru hb) (n_ k_ : Nat) (hn_ : n_ < 100) (hk_ : k_ < 100) {Q : Option Value → aH → Prop} (n : Nat) (fs : List Frm) (c : Nat) (hc : mLive m c) (hf1 : ∀ f ∈ fs, 1 ≤ f.2.1) (kid_ : (∀ (i : Nat) (it : It), (ru (mKd m c))[i]? = some it → it.1 = 5 → ∀ (xs : List Nat) (x : Nat), (mCh m (some c)).drop x = xs → x ≤ (mCh m (some c)).length → ∀ u ps h, FN hb h → RSk m (fs ++ [(c, i + 1, some x, false)]) h → RKn u ps h → (∀ u' ps' h', fdE (kdF m ru n fs c i it.2.1 xs) (u, ps) = some (u', ps') → FN hb h' → RSk m (fs ++ [(c, i + 1, none, false)]) h' → RKn u' ps' h' → Ev l G 4 0 0 mX11_makeNew 57 [.ref MO, .int (nI n_), .int (nI k_)] [] h' Q) → (fdE (kdF m ru n fs c i it.2.1 xs) (u, ps) = none → ∀ h', FN hb h' → hI h' 812 MO = nI 1 → Q (some (.int (nI 0))) h') → Ev l G 4 0 0 mX11_makeNew 57 [.ref MO, .int (nI n_), .int (nI k_)] [] h Q)) : (∀ (rest : List It) (i : Nat) (sk : Bool), (ru (mKd m c)).drop i = rest → i ≤ (ru (mKd m c)).length → ∀ u ps h, FN hb h → RSk m (fs ++ [(c, i, none, sk)]) h → RKn u ps h → (∀ u' ps' h', fdE (itF m ru n fs c i sk rest) (u, ps) = some (u', ps') → FN hb h' → RSk m fs h' → RKn u' ps' h' → Ev l G 4 0 0 mX11_makeNew 57 [.ref MO, .int (nI n_), .int (nI k_)] [] h' Q) → (fdE (itF m ru n fs c i sk rest) (u, ps) = none → ∀ h', FN hb h' → hI h' 812 MO = nI 1 → Q (some (.int (nI 0))) h') → Ev l G 4 0 0 mX11_makeNew 57 [.ref MO, .int (nI n_), .int (nI k_)] [] h Q) := by
  intro rest
  induction rest with
  | nil =>
    intro i sk hd_ hi_ u ps h fb_ sk_ kn_ K_ _
    have rf := rfb.fr fb_.1
    have el : i = (ru (mKd m c)).length := by
      rw [List.drop_eq_nil_iff] at hd_; omega
    refine ev_mn_it l G n_ k_ fs.length (by have := sk_.end.2.1; omega) h rf sk_.end.1 kn_.2.2.2.1 (ev_step_0 l G sk m ru fs c i u ps h rf mk (rmb.fn fb_) (rub.fn fb_) kn_ sk_ el) (fun v h' e => ?_)
    obtain ⟨rfl, rfl⟩ := e
    exact ⟨rfl, K_ u ps _ rfl (fb_.tr (FN.int (by decide))) sk_.pop (kn_.fr (Fr.int (ks := [810]) (as := []) (by decide)) (by decide) (by decide))⟩
  | cons it rest ih_ =>
    intro i sk hd_ hi_ u ps h fb_ sk_ kn_ K_ Kf_
    obtain ⟨hit_, hd2_⟩ := drop_at hd_
    have hil_ := (List.getElem?_eq_some_iff.mp hit_).1
    have rf := rfb.fr fb_.1
    have rm := rmb.fn fb_
    have ru_ := rub.fn fb_
    have kd8_ := (mk.2.1 c (mk.lt hc)).2.1
    have l20_ := (ru_ _ kd8_).1
    have i7_ := ((ru_ _ kd8_).2.2 i it hit_).1.1
    have o6_ := sk_.end.2.1
    have nx_ := sk_.nx (by omega)
    by_cases h6 : it.1 = 6
    · have e_ : itF m ru n fs c i sk (it :: rest) = itF m ru n fs c (i + 1) (decide (nuV m c it.2.1 = 0)) rest := if_pos h6
      rw [e_] at K_ Kf_
      refine ev_mn_it l G n_ k_ fs.length (by omega) h rf sk_.end.1 kn_.2.2.2.1 (ev_step_6 l G sk m ru fs c i u ps h rf mk rm ru_ kn_ sk_ it hit_ h6) (fun v h' e => ?_)
      obtain ⟨rfl, rfl⟩ := e
      exact ⟨rfl, ih_ (i + 1) _ hd2_ (by omega) u ps _ ((fb_.tr (FN.stk (by decide))).tr (FN.stk (by decide))) nx_.lf ((kn_.stk (by decide)).stk (by decide)) K_ Kf_⟩
    by_cases h7 : it.1 = 7
    · have e_ : itF m ru n fs c i sk (it :: rest) = itF m ru n fs c (i + 1) false rest := (if_neg h6).trans (if_pos h7)
      rw [e_] at K_ Kf_
      refine ev_mn_it l G n_ k_ fs.length (by omega) h rf sk_.end.1 kn_.2.2.2.1 (ev_step_7 l G sk m ru fs c i u ps h rf mk rm ru_ kn_ sk_ it hit_ h7) (fun v h' e => ?_)
      obtain ⟨rfl, rfl⟩ := e
      exact ⟨rfl, ih_ (i + 1) _ hd2_ (by omega) u ps _ ((fb_.tr (FN.stk (by decide))).tr (FN.stk (by decide))) (nx_.lf (lf' := false)) ((kn_.stk (by decide)).stk (by decide)) K_ Kf_⟩
    cases sk with
    | true =>
      have e_ : itF m ru n fs c i true (it :: rest) = itF m ru n fs c (i + 1) true rest := (if_neg h6).trans ((if_neg h7).trans (if_pos rfl))
      rw [e_] at K_ Kf_
      refine ev_mn_it l G n_ k_ fs.length (by omega) h rf sk_.end.1 kn_.2.2.2.1 (ev_step_l l G m ru fs c i u ps h rf mk rm ru_ kn_ sk_ it hit_ (by omega)) (fun v h' e => ?_)
      obtain ⟨rfl, rfl⟩ := e
      exact ⟨rfl, ih_ (i + 1) _ hd2_ (by omega) u ps _ (fb_.tr (FN.stk (by decide))) nx_ (kn_.stk (by decide)) K_ Kf_⟩
    | false =>
      by_cases h5 : it.1 = 5
      · have e_ : itF m ru n fs c i false (it :: rest) = kdF m ru n fs c i it.2.1 (mCh m (some c)) ++ itF m ru n fs c (i + 1) false rest := (if_neg h6).trans ((if_neg h7).trans ((if_neg (by decide)).trans (if_pos h5)))
        rw [e_] at K_ Kf_
        refine ev_mn_it l G n_ k_ fs.length (by omega) h rf sk_.end.1 kn_.2.2.2.1 (ev_step_5 l G m ru fs c i u ps h rf mk rm ru_ kn_ sk_ it hit_ h5) (fun v h' e => ?_)
        obtain ⟨rfl, rfl⟩ := e
        refine ⟨rfl, kid_ i it hit_ h5 (mCh m (some c)) 0 List.drop_zero (Nat.zero_le _) u ps _ ((fb_.tr (FN.stk (by decide))).tr (FN.stk (by decide))) (nx_.ch (ch' := some 0) (fun x hx => by cases hx; omega)) ((kn_.stk (by decide)).stk (by decide)) (fun u' ps' h' f1_ fb2_ sk2_ kn2_ => ?_) (fun f0_ h' fb2_ hf_ => ?_)⟩
        · rw [fdE_a1 f1_] at K_ Kf_
          exact ih_ (i + 1) _ hd2_ (by omega) u' ps' h' fb2_ sk2_ kn2_ K_ Kf_
        · exact Kf_ (fdE_a0 f0_) h' fb2_ hf_
      · have e_ : itF m ru n fs c i false (it :: rest) = some (mkP m (anF fs) (wyF fs) c i it) :: itF m ru n fs c (i + 1) false rest := (if_neg h6).trans ((if_neg h7).trans ((if_neg (by decide)).trans (if_neg h5)))
        rw [e_] at K_ Kf_
        refine ev_mn_it l G n_ k_ fs.length (by omega) h rf sk_.end.1 kn_.2.2.2.1 (ev_step_p l G m ru fs c i u ps h rf mk rm ru_ kn_ sk_ it hit_ (by omega) hf1) (fun v h' e => ?_)
        obtain ⟨rfl, fn_, ff_, ⟨s1_, kn2_⟩ | ⟨s0_, hf_⟩⟩ := e
        · rw [fdE_c1 s1_] at K_ Kf_
          exact ⟨rfl, ih_ (i + 1) _ hd2_ (by omega) u _ h' ((fb_.tr (FN.stk (by decide))).tr fn_) (nx_.fr ff_ (by decide) (by decide)) kn2_ K_ Kf_⟩
        · have fb2_ : FN hb h' := (fb_.tr (FN.stk (by decide))).tr fn_
          exact ⟨rfl, ev_mn_full l G n_ k_ hn_ hk_ h' (rfb.fr fb2_.1) hf_ (Kf_ (fdE_c0 s0_) h' fb2_ hf_)⟩
theorem ev_mn (l : Launch) (G : aG) (m : Md) (ru : Nat → List It) (mk : MOk m) (hb : aH) (rfb : Rf hb) (rmb : RM m hb) (rub : RRu ru hb) (n_ k_ : Nat) (hn_ : n_ < 100) (hk_ : k_ < 100) {Q : Option Value → aH → Prop} (n : Nat) : ∀ (fs : List Frm) (c : Nat), fs.length + 1 + n = 6 → mDp m c = fs.length + 1 → mLive m c → (∀ f ∈ fs, 1 ≤ f.2.1) → (∀ (rest : List It) (i : Nat) (sk : Bool), (ru (mKd m c)).drop i = rest → i ≤ (ru (mKd m c)).length → ∀ u ps h, FN hb h → RSk m (fs ++ [(c, i, none, sk)]) h → RKn u ps h → (∀ u' ps' h', fdE (itF m ru n fs c i sk rest) (u, ps) = some (u', ps') → FN hb h' → RSk m fs h' → RKn u' ps' h' → Ev l G 4 0 0 mX11_makeNew 57 [.ref MO, .int (nI n_), .int (nI k_)] [] h' Q) → (fdE (itF m ru n fs c i sk rest) (u, ps) = none → ∀ h', FN hb h' → hI h' 812 MO = nI 1 → Q (some (.int (nI 0))) h') → Ev l G 4 0 0 mX11_makeNew 57 [.ref MO, .int (nI n_), .int (nI k_)] [] h Q) := by
  induction n with
  | zero =>
    intro fs c hl_ hd_ hc hf1
    refine ev_mn_items l G m ru mk hb rfb rmb rub n_ k_ hn_ hk_ 0 fs c hc hf1 ?_
    intro i it hit_ h5 xs
    induction xs with
    | nil =>
      intro x hx_ hxl_ u ps h fb_ sk_ kn_ K_ _
      have rf := rfb.fr fb_.1
      have o6_ := sk_.end.2.1
      refine ev_mn_it l G n_ k_ fs.length (by omega) h rf sk_.end.1 kn_.2.2.2.1 (ev_step_c0 l G x m ru fs c (i + 1) u ps h rf mk (rmb.fn fb_) (rub.fn fb_) kn_ sk_ (drop_no hx_)) (fun v h' e => ?_)
      obtain ⟨rfl, rfl⟩ := e
      have x24_ := sk_.end.2.2.2.2.1 x rfl
      have hw_ := ch_le mk (some c)
      exact ⟨rfl, K_ u ps _ rfl ((fb_.tr (FN.stk (by decide))).tr (FN.stk (by decide))) (RSk.ch2 sk_) ((kn_.stk (by decide)).stk (by decide))⟩
    | cons y ys ih2_ =>
      intro x hx_ hxl_ u ps h fb_ sk_ kn_ K_ Kf_
      obtain ⟨hy_, hx2_⟩ := drop_at hx_
      have hyl_ := (List.getElem?_eq_some_iff.mp hy_).1
      have hw_ := ch_le mk (some c)
      have rf := rfb.fr fb_.1
      have o6_ := sk_.end.2.1
      have hm_ := (mk.2.2.2.1 (some c) y).mp (List.mem_of_getElem? hy_)
      have hq_ := mk.2.1 y (mk.lt hm_.1)
      have hdy_ := (hq_.2.2.2.2.2 c hm_.2).2
      omega
  | succ n ih_ =>
    intro fs c hl_ hd_ hc hf1
    refine ev_mn_items l G m ru mk hb rfb rmb rub n_ k_ hn_ hk_ (n + 1) fs c hc hf1 ?_
    intro i it hit_ h5 xs
    induction xs with
    | nil =>
      intro x hx_ hxl_ u ps h fb_ sk_ kn_ K_ _
      have rf := rfb.fr fb_.1
      have o6_ := sk_.end.2.1
      refine ev_mn_it l G n_ k_ fs.length (by omega) h rf sk_.end.1 kn_.2.2.2.1 (ev_step_c0 l G x m ru fs c (i + 1) u ps h rf mk (rmb.fn fb_) (rub.fn fb_) kn_ sk_ (drop_no hx_)) (fun v h' e => ?_)
      obtain ⟨rfl, rfl⟩ := e
      exact ⟨rfl, K_ u ps _ rfl ((fb_.tr (FN.stk (by decide))).tr (FN.stk (by decide))) (RSk.ch2 sk_) ((kn_.stk (by decide)).stk (by decide))⟩
    | cons y ys ih2_ =>
      intro x hx_ hxl_ u ps h fb_ sk_ kn_ K_ Kf_
      obtain ⟨hy_, hx2_⟩ := drop_at hx_
      have hyl_ := (List.getElem?_eq_some_iff.mp hy_).1
      have hw_ := ch_le mk (some c)
      have rf := rfb.fr fb_.1
      have o6_ := sk_.end.2.1
      have hm_ := (mk.2.2.2.1 (some c) y).mp (List.mem_of_getElem? hy_)
      have hq_ := mk.2.1 y (mk.lt hm_.1)
      have hdy_ := (hq_.2.2.2.2.2 c hm_.2).2
      have ch1_ := sk_.ch (ch' := some (x + 1)) (fun z hz => by cases hz; omega)
      by_cases hk : mKd m y = it.2.1
      · have e_ : kdF m ru (n + 1) fs c i it.2.1 (y :: ys) = mkU m ru (n + 1) (anF fs ++ [c]) (wyF fs ++ [i]) y ++ kdF m ru (n + 1) fs c i it.2.1 ys := if_pos hk
        rw [e_] at K_ Kf_
        refine ev_mn_it l G n_ k_ fs.length (by omega) h rf sk_.end.1 kn_.2.2.2.1 (ev_step_c2 l G x m ru fs c (i + 1) u ps h rf mk (rmb.fn fb_) (rub.fn fb_) kn_ sk_ y hy_ it (by omega) hit_ h5 hk (by omega)) (fun v h' e => ?_)
        obtain ⟨rfl, rfl⟩ := e
        refine ⟨rfl, ?_⟩
        have fb2_ : FN hb (bgH (sX h 60 fs.length (nI (x + 1))) u (fs.length + 1) (nI (mSl m y))) := (fb_.tr (FN.stk (by decide))).tr bgH_fn
        by_cases hu : u < 2000
        · have el_ : (fs ++ [(c, i + 1, some (x + 1), false)]).length = fs.length + 1 := by simp
          have sk2_ := RSk.push (u := u) (y := y) ch1_ (by rw [el_]; omega) hm_.1
          rw [el_] at sk2_
          have kn2_ := bgH_kn (o_ := fs.length + 1) (t := nI (mSl m y)) (kn_.stk (a := 60) (j := fs.length) (v := nI (x + 1)) (by decide)) hu
          have ev_ : fdE (mkU m ru (n + 1) (anF fs ++ [c]) (wyF fs ++ [i]) y) (u, ps) = fdE (itF m ru n (fs ++ [(c, i + 1, some (x + 1), false)]) y 0 false (ru (mKd m y))) (u + 1, ps) := by
            unfold itF kdF anF wyF
            rw [List.map_append, List.map_append]
            exact fdE_c1 (if_pos hu)
          refine ih_ (fs ++ [(c, i + 1, some (x + 1), false)]) y (by rw [el_]; omega) (by rw [el_]; omega) hm_.1 (fun f hf => ?_) (ru (mKd m y)) 0 false List.drop_zero (Nat.zero_le _) (u + 1) ps _ fb2_ sk2_ kn2_ (fun u' ps' h' f1_ fb3_ sk3_ kn3_ => ?_) (fun f0_ h' fb3_ hf_ => ?_)
          · rcases List.mem_append.mp hf with h2 | h2
            · exact hf1 f h2
            · rw [List.mem_singleton.mp h2]; show 1 ≤ i + 1; omega
          · rw [← ev_] at f1_
            rw [fdE_a1 f1_] at K_ Kf_
            exact ih2_ (x + 1) hx2_ (by omega) u' ps' h' fb3_ sk3_ kn3_ K_ Kf_
          · rw [← ev_] at f0_
            exact Kf_ (fdE_a0 f0_) h' fb3_ hf_
        · exact ev_mn_full l G n_ k_ hn_ hk_ _ (rfb.fr fb2_.1) (bgH_full (by omega)) (Kf_ (fdE_a0 (fdE_c0 (if_neg hu))) _ fb2_ (bgH_full (by omega)))
      · have e_ : kdF m ru (n + 1) fs c i it.2.1 (y :: ys) = kdF m ru (n + 1) fs c i it.2.1 ys := if_neg hk
        rw [e_] at K_ Kf_
        refine ev_mn_it l G n_ k_ fs.length (by omega) h rf sk_.end.1 kn_.2.2.2.1 (ev_step_c1 l G x m ru fs c (i + 1) u ps h rf mk (rmb.fn fb_) (rub.fn fb_) kn_ sk_ y hy_ it (by omega) hit_ h5 hk) (fun v h' e => ?_)
        obtain ⟨rfl, rfl⟩ := e
        exact ⟨rfl, ih2_ (x + 1) hx2_ (by omega) u ps _ (fb_.tr (FN.stk (by decide))) ch1_ (kn_.stk (by decide)) K_ Kf_⟩
