theorem ev_mn_top (l : Launch) (G : aG) (m : Md) (ru : Nat → List It) (mk : MOk m) (hb : aH) (rfb : Rf hb) (rmb : RM m hb) (rub : RRu ru hb) {Q : Option Value → aH → Prop} : ∀ (xs : List Nat) (k : Nat), (mCh m none).drop k = xs → k ≤ (mCh m none).length → ∀ u ps h, FN hb h → RSk m [] h → RKn u ps h → (∀ u' ps' h', fdE (xs.flatMap (mkU m ru 6 [] [])) (u, ps) = some (u', ps') → FN hb h' → RKn u' ps' h' → Q (some (.int (nI 1))) h') → (fdE (xs.flatMap (mkU m ru 6 [] [])) (u, ps) = none → ∀ h', FN hb h' → hI h' 812 MO = nI 1 → Q (some (.int (nI 0))) h') → Ev l G 4 0 0 mX11_makeNew 35 [.ref MO, .int (nI (mCh m none).length), .int (nI k)] [] h Q := by
  have l24_ := ch_le mk none
  intro xs
  induction xs with
  | nil =>
    intro k hd_ hk_ u ps h fb_ sk_ kn_ K_ _
    have rf := rfb.fr fb_.1
    rw [List.drop_eq_nil_iff] at hd_
    refine Ev_iload_n dX11_makeNew_35 rfl ?_
    refine Ev_iload_n dX11_makeNew_36 rfl ?_
    refine Ev_icmp_geN 84 dX11_makeNew_37 (by decide) (by omega) (by omega) (fun zb37_ => ?_) (fun zb37_ => ?_)
    · refine Ev_aload_n dX11_makeNew_84 rfl (by first | exact Or.inr ⟨_, rfl⟩ | exact rv_or _ | exact Or.inl rfl) ?_
      refine Ev_getE dX11_makeNew_85 fX11_197 rf.1 kn_.2.2.2.1 ?_
      refine Ev_if_neB 95 dX11_makeNew_88 (by decide) (fun zb88_ => ?_) (fun zb88_ => ?_)
      · exact absurd zb88_ (by decide)
      · refine Ev_iconst (v := nI 1) dX11_makeNew_91 (by decide) ?_
        refine Ev_goto 96 dX11_makeNew_92 (by decide) ?_
        refine Ev_zret dX11_makeNew_96 rfl (by decide) ?_
        exact K_ u ps h rfl fb_ kn_
    · exact False.elim (by omega)
  | cons y ys ih_ =>
    intro k hd_ hk_ u ps h fb_ sk_ kn_ K_ Kf_
    obtain ⟨hy_, hd2_⟩ := drop_at hd_
    have hyl_ := (List.getElem?_eq_some_iff.mp hy_).1
    have rf := rfb.fr fb_.1
    have hm_ := (mk.2.2.2.1 none y).mp (List.mem_of_getElem? hy_)
    have hq_ : mDp m y = ([] : List Frm).length + 1 := (mk.2.1 y (mk.lt hm_.1)).2.2.2.2.1 hm_.2
    rw [List.flatMap_cons] at K_ Kf_
    refine Ev_iload_n dX11_makeNew_35 rfl ?_
    refine Ev_iload_n dX11_makeNew_36 rfl ?_
    refine Ev_icmp_geN 84 dX11_makeNew_37 (by decide) (by omega) (by omega) (fun zb37_ => ?_) (fun zb37_ => ?_)
    · exact False.elim (by omega)
    · refine Ev_aload_n dX11_makeNew_40 rfl (by first | exact Or.inr ⟨_, rfl⟩ | exact rv_or _ | exact Or.inl rfl) ?_
      refine Ev_getE dX11_makeNew_41 fX11_197 rf.1 kn_.2.2.2.1 ?_
      refine Ev_if_neB 84 dX11_makeNew_44 (by decide) (fun zb44_ => ?_) (fun zb44_ => ?_)
      · exact absurd zb44_ (by decide)
      · refine Ev_aload_n dX11_makeNew_47 rfl (by first | exact Or.inr ⟨_, rfl⟩ | exact rv_or _ | exact Or.inl rfl) ?_
        refine Ev_aload_n dX11_makeNew_48 rfl (by first | exact Or.inr ⟨_, rfl⟩ | exact rv_or _ | exact Or.inl rfl) ?_
        refine Ev_iconst (v := -1) dX11_makeNew_49 (by decide) ?_
        refine Ev_iload_n dX11_makeNew_50 rfl ?_
        refine Ev_V0 [.int (-1), .int (nI k)] dX11_makeNew_51 vX11_childAt kX11_212 rf.1 rfl rfl rfl (Nat.le_of_ble_eq_true rfl) (by omega) (ev_childAt l G _ _ h rf) ?_
        rw [show fstF (pcB h (-1) (nI k)) 24 0 = ((mCh m none)[k]?).map (mSl m) from (rmb.fn fb_).child mk (p := none) (fun q hq => by cases hq) (by omega), hy_]
        refine Ev_top (y := .int (nI (mSl m y))) rfl ?_
        refine Ev_V0 [.int (nI (mSl m y))] dX11_makeNew_54 vX11_begin kX11_216 rf.1 rfl rfl rfl (Nat.le_of_ble_eq_true rfl) (by omega) (ev_begin l G _ u 0 kn_.2.2.1 (by omega) h rf kn_.2.1 kn_.2.2.2.1 sk_.1) ?_
        have fb2_ : FN hb (bgH h u 0 (nI (mSl m y))) := fb_.tr bgH_fn
        by_cases hu : u < 2000
        · have sk2_ : RSk m ([] ++ [(y, 0, none, false)]) (bgH h u 0 (nI (mSl m y))) := RSk.push (u := u) (y := y) sk_ (by simp) hm_.1
          have kn2_ := bgH_kn (o_ := 0) (t := nI (mSl m y)) kn_ hu
          have ev_ : fdE (mkU m ru 6 [] [] y) (u, ps) = fdE (itF m ru 5 [] y 0 false (ru (mKd m y))) (u + 1, ps) := fdE_c1 (if_pos hu)
          refine ev_mn l G m ru mk hb rfb rmb rub (mCh m none).length k (by omega) (by omega) 5 [] y rfl hq_ hm_.1 (fun f hf => by cases hf) (ru (mKd m y)) 0 false List.drop_zero (Nat.zero_le _) (u + 1) ps _ fb2_ sk2_ kn2_ (fun u' ps' h' f1_ fb3_ sk3_ kn3_ => ?_) (fun f0_ h' fb3_ hf_ => ?_)
          · rw [← ev_] at f1_
            rw [fdE_a1 f1_] at K_ Kf_
            have rf := rfb.fr fb3_.1
            have eo2_ : hI h' 810 MO = nI 0 := sk3_.1
            refine Ev_aload_n dX11_makeNew_57 rfl (by first | exact Or.inr ⟨_, rfl⟩ | exact rv_or _ | exact Or.inl rfl) ?_
            refine Ev_getE dX11_makeNew_58 fX11_200 rf.1 eo2_ ?_
            refine Ev_if_leT 78 dX11_makeNew_61 (by decide) (fun zb61_ => ?_) (fun zb61_ => ?_)
            · refine Ev_iincN 1 dX11_makeNew_78 (by decide) (by decide) rfl ?_
              refine Ev_goto 35 dX11_makeNew_81 (by decide) ?_
              exact ih_ (k + 1) hd2_ (by omega) u' ps' h' fb3_ sk3_ kn3_ K_ Kf_
            · exact absurd (by decide) zb61_
          · rw [← ev_] at f0_
            exact Kf_ (fdE_a0 f0_) h' fb3_ hf_
        · exact ev_mn_full l G (mCh m none).length k (by omega) (by omega) _ (rfb.fr fb2_.1) (bgH_full (by omega)) (Kf_ (fdE_a0 (fdE_c0 (if_neg hu))) _ fb2_ (bgH_full (by omega))) --end
theorem ev_makeNew (l : Launch) (G : aG) (m : Md) (ru : Nat → List It) (h : aH) (rf : Rf h) (mk : MOk m) (rm : RM m h) (ru_ : RRu ru h) : Ev l G 4 0 0 mX11_makeNew 0 (en 3 [.ref MO]) [] h (fun x h' => FN h h' ∧ ((∃ ps, mkNew m ru = some ps ∧ x = some (.int (nI 1)) ∧ RTx ps 1 h' ∧ hI h' 800 MO = nI (flat ps).length) ∨ (mkNew m ru = none ∧ x = some (.int (nI 0))))) := by
  refine Ev_aload_n dX11_makeNew_0 rfl (by first | exact Or.inr ⟨_, rfl⟩ | exact rv_or _ | exact Or.inl rfl) ?_
  refine Ev_getA dX11_makeNew_1 fX11_56 rf.1 (rr_pieces rf) ?_
  refine Ev_iconst (v := nI 1) dX11_makeNew_4 (by decide) ?_
  refine Ev_iconst (v := nI 0) dX11_makeNew_5 (by decide) ?_
  refine Ev_iastL _ dX11_makeNew_6 (rk_pieces rf) (rl_pieces rf) (hi_n (by omega)) (by omega) ?_
  refine Ev_aload_n dX11_makeNew_7 rfl (by first | exact Or.inr ⟨_, rfl⟩ | exact rv_or _ | exact Or.inl rfl) ?_
  refine Ev_iconst (v := nI 0) dX11_makeNew_8 (by decide) ?_
  refine Ev_putI dX11_makeNew_9 fX11_203 ⟨_, rfl, Or.inl rfl⟩ (Or.inl rfl) rf.1 ?_
  refine Ev_aload_n dX11_makeNew_12 rfl (by first | exact Or.inr ⟨_, rfl⟩ | exact rv_or _ | exact Or.inl rfl) ?_
  refine Ev_iconst (v := nI 0) dX11_makeNew_13 (by decide) ?_
  refine Ev_putI dX11_makeNew_14 fX11_194 ⟨_, rfl, Or.inl rfl⟩ (Or.inl rfl) rf.1 ?_
  refine Ev_aload_n dX11_makeNew_17 rfl (by first | exact Or.inr ⟨_, rfl⟩ | exact rv_or _ | exact Or.inl rfl) ?_
  refine Ev_iconst (v := nI 0) dX11_makeNew_18 (by decide) ?_
  refine Ev_putI dX11_makeNew_19 fX11_200 ⟨_, rfl, Or.inl rfl⟩ (Or.inl rfl) rf.1 ?_
  refine Ev_aload_n dX11_makeNew_22 rfl (by first | exact Or.inr ⟨_, rfl⟩ | exact rv_or _ | exact Or.inl rfl) ?_
  refine Ev_iconst (v := nI 0) dX11_makeNew_23 (by decide) ?_
  refine Ev_putI dX11_makeNew_24 fX11_197 ⟨_, rfl, Or.inl rfl⟩ (Or.inr ⟨rfl, (by decide)⟩) rf.1 ?_
  refine Ev_gen (fun h1 => FN h h1 ∧ RSk m [] h1 ∧ RKn 0 [] h1) ⟨((((FP.cnt (n := 0)).fn.tr (FN.int (by decide))).tr (FN.int (by decide))).tr (FN.int (by decide))).tr (FN.int (by decide)), ⟨(hI_o _ _ (by decide)).trans (hI_s _ _ _ _), by simp, fun k f hf => by simp at hf⟩, ⟨⟨by simp, by simp [flat], ?_, fun i p hp => by simp at hp, fun k hk => by simp [flat] at hk⟩, (hI_o _ _ (by decide)).trans ((hI_o _ _ (by decide)).trans (hI_s _ _ _ _)), by omega, hI_s _ _ _ _, (hI_o _ _ (by decide)).trans ((hI_o _ _ (by decide)).trans ((hI_o _ _ (by decide)).trans (hI_s _ _ _ _)))⟩⟩ (fun h1 z_ => ?_)
  · exact (gX_I _ _ _ _ _ _).trans ((gX_I _ _ _ _ _ _).trans ((gX_I _ _ _ _ _ _).trans ((gX_I _ _ _ _ _ _).trans (hX_s _ _ _ _))))
  obtain ⟨f1_, sk1_, kn1_⟩ := z_
  have rf1_ := rf.fr f1_.1
  refine Ev_aload_n dX11_makeNew_27 rfl (by first | exact Or.inr ⟨_, rfl⟩ | exact rv_or _ | exact Or.inl rfl) ?_
  refine Ev_iconst (v := -1) dX11_makeNew_28 (by decide) ?_
  refine Ev_V0 [.int (-1)] dX11_makeNew_29 vX11_many kX11_156 rf1_.1 rfl rfl rfl (Nat.le_of_ble_eq_true rfl) (by omega) (ev_many l G _ h1 rf1_) ?_
  rw [show fb_ct (pm h1 (-1)) 24 = (mCh m none).length from (rm.fn f1_).mny mk (p := none) (fun q hq => by cases hq)]
  refine Ev_istore_n dX11_makeNew_32 (by decide) ?_
  refine Ev_iconst (v := nI 0) dX11_makeNew_33 (by decide) ?_
  refine Ev_istore_n dX11_makeNew_34 (by decide) ?_
  refine ev_mn_top l G m ru mk h1 rf1_ (rm.fn f1_) (ru_.fn f1_) (mCh m none) 0 List.drop_zero (Nat.zero_le _) 0 [] h1 FN.rf sk1_ kn1_ (fun u' ps' h' e_ fb_ kn_ => ?_) (fun e_ h' fb_ hf_ => ?_)
  · refine ⟨f1_.tr fb_, Or.inl ⟨ps', ?_, rfl, kn_.1, kn_.2.2.2.2⟩⟩
    show (fdE ((mCh m none).flatMap (mkU m ru 6 [] [])) (0, [])).map (fun b => b.2) = some ps'
    rw [e_]; rfl
  · refine ⟨f1_.tr fb_, Or.inr ⟨?_, rfl⟩⟩
    show (fdE ((mCh m none).flatMap (mkU m ru 6 [] [])) (0, [])).map (fun b => b.2) = none
    rw [e_]; rfl
