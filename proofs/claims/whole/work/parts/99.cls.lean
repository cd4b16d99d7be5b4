theorem ch_lt {m : Md} (k : MOk m) {p : Option Nat} {x : Nat} (h : x ∈ mCh m p) : x < mCm m := k.lt ((k.2.2.2.1 p x).mp h).1
theorem CM.g {g1 g2 : Gh} {m : Md} {h : aH} (cm : CM g1 m h) (k : MOk m) (e : wO g2 = wO g1) (eA : ∀ c, c < mCm m → wA g2 c = wA g1 c) (eN : ∀ c, c < mCm m → wN g2 c = wN g1 c) (eL : ∀ c, c < mCm m → wL g2 c = wL g1 c) : CM g2 m h := by
  have em : ∀ p, (mCh m p).map (wA g2) = (mCh m p).map (wA g1) := fun p => List.map_congr_left (fun x hx => eA x (ch_lt k hx))
  obtain ⟨a1, a2, a3, a4, a5⟩ := cm
  refine ⟨fun c hc => ?_, fun t ht => ?_, a3, by rw [em, e]; exact a4, a5⟩
  · have t := a1 c hc
    have ep : paA g2 m c = paA g1 m c := by
      unfold paA
      cases hp : mPa m c with
      | none => rfl
      | some q => exact eA q ((k.2.1 c hc).2.2.2.2.2 q hp).1
    unfold CT1
    rw [eA c hc, eN c hc, eL c hc, e, ep, em]
    exact t
  · rw [a2 t ht]
    cases hl : mLv m t with
    | none => rfl
    | some x => show some (wA g1 x) = some (wA g2 x); rw [eA x (k.1 _ _ hl).2.1]
def SPt (p : Option Nat) (tg : Nat × Nat) : Prop := SLs p tg ∨ tg = (9, 11) ∨ tg = (9, 6)
theorem SPt.no {p : Option Nat} {a b : Nat} (h1 : a ≠ 2) (h2 : a ≠ 3) (h3 : a ≠ 9) : ¬ SPt p (a, b) := by
  rintro (h | h | h)
  · exact SLs.no h1 h2 h3 h
  · exact h3 (congrArg Prod.fst h)
  · exact h3 (congrArg Prod.fst h)
theorem CM.add {g : Gh} {m : Md} {h h' : aH} {t kd : Nat} {p : Option Nat} {tp : List Int32} (cm : CM g m h) (cf : Cf h) (wf : OwF (wO g)) (hv : Hv h) (k : MOk m) (hf : mLv m t = none) (ht : t < 24) (hp : ∀ q, p = some q → mLive m q) (f : FS g (SPt p) h h') (nl : CLs (wO g) (plA g p) ((mCh m p ++ [mCm m]).map (wA g)) 10 (plE p) h') (hy : ∀ s, hY h' 11 s = if s = t then some (wA g (mCm m)) else hY h 11 s) (hc : hI h' 322 6 = nI (mCnt m + 1)) (nw : CT1 g (nT m t kd p tp) (mCm m) h') : CM g (nT m t kd p tp) h' := by
  obtain ⟨a1, a2, a3, a4, a5, a6, a7⟩ := cm
  have e : OwX g (wO g) h := fun _ _ => rfl
  have s7 := f.s hv (ck_7 cf) (by decide) (by rw [wf.1 7 (by decide)]; rintro (z | z | z); exact SLs.no9 (by decide) (by decide) z; exact absurd z (by decide); exact absurd z (by decide))
  refine ⟨fun c hcc => ?_, fun s hs => ?_, by rw [nT_cnt hf ht]; exact hc, ?_, (s7.2.2 _).1.trans a5, (s7.2.2 _).2.trans a6, (s7.2.2 _).1.trans a7⟩
  · rw [nT_cm] at hcc
    by_cases z : c = mCm m
    · rw [z]; exact nw
    · have hc0 : c < mCm m := by omega
      obtain ⟨⟨t1, t2, t3, t4, t5, t6, t7, t8, t9⟩, ⟨b1, b2, b3⟩, ⟨c1, c2⟩, l⟩ := a1 c hc0
      have s1 := f.s hv t1 (by decide) (by rw [t2]; exact SPt.no (by decide) (by decide) (by decide))
      have s2 := f.s hv b1 (by decide) (by rw [b3]; exact SPt.no (by decide) (by decide) (by decide))
      have ep : paA g (nT m t kd p tp) c = paA g m c := by unfold paA; rw [nT_pa, if_neg z]
      have lve : mLive (nT m t kd p tp) c ↔ mLive m c := by
        rw [nT_live k hf]
        constructor
        · rintro (q | q)
          · exact absurd q z
          · exact q
        · exact Or.inr
      have ge : goB (nT m t kd p tp) c = goB m c := by
        have lve2 : (mLv (nT m t kd p tp) (mSl (nT m t kd p tp) c) = some c) ↔ (mLv m (mSl m c) = some c) := lve
        show (!decide (mLv (nT m t kd p tp) (mSl (nT m t kd p tp) c) = some c)) = (!decide (mLv m (mSl m c) = some c))
        rw [decide_eq_decide.mpr lve2]
      refine ⟨⟨f.k hv t1 (by decide), t2, ?_, ?_, ?_, by rw [ep]; exact (s1.2.2 _).2.trans t6, (s1.2.2 _).2.trans t7, (s1.2.2 _).2.trans t8, by rw [ge]; exact (s1.2.2 _).1.trans t9⟩, ⟨f.k hv b1 (by decide), (f.l hv b1 (by decide)).trans b2, b3⟩, ⟨f.k hv c1 (by decide), c2⟩, fun hl => ?_⟩
      · rw [nT_sl, if_neg z]; exact (s1.2.2 _).1.trans t3
      · rw [nT_kd, if_neg z]; exact (s1.2.2 _).1.trans t4
      · rw [nT_dp, if_neg z]; exact (s1.2.2 _).1.trans t5
      · obtain ⟨l1, ⟨r, l2, l3⟩, l4⟩ := l (lve.mp hl)
        refine ⟨fun j hj => ?_, ⟨r, (s1.2.2 _).2.trans l2, ?_⟩, ?_⟩
        · rw [nT_nu, if_neg z]; exact (congrFun s2.1 j).trans (l1 j hj)
        · rw [nT_nm, if_neg z]; exact l3.fo f hv e (SPt.no (by decide) (by decide) (by decide))
        · rw [nT_ch]
          by_cases y : some c = p
          · subst y; rw [if_pos rfl]; exact nl
          · rw [if_neg y]
            have n1 : ¬ SPt p (3, c + 1) := by
              unfold SPt SLs plT plE
              cases p with
              | none => simp
              | some q => simp; intro y2; exact y (by rw [y2])
            have n2 : ¬ SPt p (2, c + 1) := by
              unfold SPt SLs plT plE
              cases p with
              | none => simp
              | some q => simp; intro y2; exact y (by rw [y2])
            exact l4.fo f hv e n1 (by rw [c2]; exact n2)
  · rw [hy, nT_lv]
    by_cases z : s = t
    · rw [if_pos z, if_pos z]; rfl
    · rw [if_neg z, if_neg z]; exact a2 s hs
  · rw [nT_ch]
    cases p with
    | none => rw [if_pos rfl]; exact nl
    | some q =>
      rw [if_neg (by simp)]
      refine a4.fo f hv e ?_ (by rw [wf.1 10 (by decide)]; unfold SPt SLs plT plE; simp)
      unfold SPt SLs plT plE; simp
theorem ec_put (l : Launch) (G : aG) (a1 t q la n : Nat) (xs : List Nat) (h : aH) (cf : Cf h) (n63_ : 63 ≤ hN h) (k1_ : hK h a1 = 10) (ei_ : hR h 642 a1 = some q) (es_ : hI h 640 a1 = nI t) (ht_ : t < 24) (kq_ : hK h q = 10) (el_ : hR h 645 q = some la) (ax0_ : AX la xs 10 h) (hx24_ : xs.length ≤ 24) (ec_ : hI h 322 6 = nI n) (hn_ : n ≤ 100) : Ev l G 7 1 60 mX4_put 0 (en 2 [.ref 6, .ref a1]) [] h (fun x h' => x = none ∧ ∃ h1, LpA la (xs ++ [a1]) 10 (sY h 11 t (some a1)) h1 ∧ h' = sI h1 322 6 (nI (n + 1))) := by
  refine Ev_hv (fun hv => ?_)
  have kla_ : hK h la = 0 := ax0_.1.1
  have ax_ : AX la xs 10 (sY h 11 t (some a1)) := by
    obtain ⟨⟨b1, b2, b3, b4, e_, b5, b6⟩, b7⟩ := ax0_
    refine ⟨⟨b1, b2, b3, b4, e_, b5, ?_⟩, b7⟩
    rcases b6 with z | ⟨z1, z2, z3, z4, z5⟩
    · exact Or.inl z
    · refine Or.inr ⟨z1, z2, z3, z4, fun i x hx => ?_⟩
      rw [hY_o _ _ (fun z => by rw [z, ck_11 cf] at z1; omega)]; exact z5 i x hx
  have n6_ : ¬ LsC la (sY h 11 t (some a1)) 6 := by
    rintro (z | z)
    · rw [← z, ck_6 cf] at kla_; omega
    · have z2 : hR h 1 la = some 6 := z
      obtain ⟨e_, b5, b6⟩ := ax0_.1.2.2.2.2
      have e6 : e_ = 6 := Option.some.inj (b5.symm.trans z2)
      rcases b6 with ⟨y, -⟩ | ⟨y, -⟩
      · omega
      · rw [e6, ck_6 cf] at y; omega
  refine Ev_aload_n dX4_put_0 rfl (by first | exact Or.inr ⟨_, rfl⟩ | exact rv_or _ | exact Or.inl rfl) ?_
  refine Ev_getA dX4_put_1 fX4_24 k1_ ei_ ?_
  refine Ev_ifnull (o := some (q)) 23 dX4_put_4 (by decide) (fun z_ => by cases z_) (fun a_ z_ => ?_)
  refine Ev_aload_n dX4_put_7 rfl (by first | exact Or.inr ⟨_, rfl⟩ | exact rv_or _ | exact Or.inl rfl) ?_
  refine Ev_getE dX4_put_8 fX4_27 k1_ es_ ?_
  refine Ev_if_ltT 23 dX4_put_11 (by decide) (fun zb11_ => ?_) (fun zb11_ => ?_)
  · exact absurd zb11_ (by rw [hi_n (by omega)]; omega)
  · refine Ev_aload_n dX4_put_14 rfl (by first | exact Or.inr ⟨_, rfl⟩ | exact rv_or _ | exact Or.inl rfl) ?_
    refine Ev_getE dX4_put_15 fX4_27 k1_ es_ ?_
    refine Ev_bipush (v := nI 24) dX4_put_18 (by decide) ?_
    refine Ev_icmp_ltN 24 dX4_put_20 (by decide) (by omega) (by omega) (fun zb20_ => ?_) (fun zb20_ => ?_)
    · refine Ev_aload_n dX4_put_24 rfl (by first | exact Or.inr ⟨_, rfl⟩ | exact rv_or _ | exact Or.inl rfl) ?_
      refine Ev_getA dX4_put_25 fX4_20 (ck_6 cf) (cr_321_6 cf) ?_
      refine Ev_aload_n dX4_put_28 rfl (by first | exact Or.inr ⟨_, rfl⟩ | exact rv_or _ | exact Or.inl rfl) ?_
      refine Ev_getE dX4_put_29 fX4_27 k1_ es_ ?_
      refine Ev_aload_n dX4_put_32 rfl (by first | exact Or.inr ⟨_, rfl⟩ | exact rv_or _ | exact Or.inl rfl) ?_
      refine Ev_aast (kd := 18) t dX4_put_33 (ck_11 cf) (by omega) (by omega) rfl k1_ (show vwCl[10]? = some _ from rfl) (Or.inl rfl) (hi_n (by omega)) (by rw [cl_11 cf]; omega) ?_
      refine Ev_aload_n dX4_put_34 rfl (by first | exact Or.inr ⟨_, rfl⟩ | exact rv_or _ | exact Or.inl rfl) ?_
      refine Ev_getA dX4_put_35 fX4_24 k1_ ei_ ?_
      refine Ev_getA dX4_put_38 fX4_31 kq_ el_ ?_
      refine Ev_aload_n dX4_put_41 rfl (by first | exact Or.inr ⟨_, rfl⟩ | exact rv_or _ | exact Or.inl rfl) ?_
      refine Ev_Vg (mc2 := 0) (ms2 := 0) [.ref a1] dX4_put_42 vJx4a65c_add_9ea2d kX4_35 kla_ rfl rfl rfl (Nat.le_of_ble_eq_true rfl) (by omega) (by omega) (by omega) (ej_add l G la a1 xs 10 (sY h 11 t (some a1)) ax_ k1_ lkd_10 (by omega) n63_) (fun v_ h1 e_ => ?_)
      obtain ⟨rfl, lp_⟩ := e_
      have k6_ : hK h1 6 = 5 := lp_.2.1.k (h := sY h 11 t (some a1)) hv (ck_6 cf) (by decide)
      have c6_ : hI h1 322 6 = nI n := ((lp_.2.1.s (h := sY h 11 t (some a1)) hv (ck_6 cf) (by decide) n6_).2.2 _).1.trans ec_
      refine Ev_pop dX4_put_45 (by first | rfl | exact okv_rv _) ?_
      refine Ev_aload_n dX4_put_46 rfl (by first | exact Or.inr ⟨_, rfl⟩ | exact rv_or _ | exact Or.inl rfl) ?_
      refine Ev_dup dX4_put_47 (by first | rfl | exact okv_rv _) ?_
      refine Ev_getE dX4_put_48 fX4_41 k6_ c6_ ?_
      refine Ev_iconst (v := nI 1) dX4_put_51 (by decide) ?_
      refine Ev_iaddN dX4_put_52 ?_
      refine Ev_putI dX4_put_53 fX4_41 ⟨_, rfl, Or.inl rfl⟩ (Or.inl rfl) k6_ ?_
      refine Ev_vret dX4_put_56 rfl ?_
      exact ⟨rfl, h1, lp_, rfl⟩
    · exact False.elim (by omega)
