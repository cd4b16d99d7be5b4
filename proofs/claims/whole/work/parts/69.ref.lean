theorem ev_makePiece (l : Launch) (G : aG) (m : Md) (an wy : List Nat) (c i u on tw : Nat) (it : It) (ps : List Pc) (h : aH) (rf : Rf h) (mk : MOk m) (rm : RM m h) (hc : mLive m c) (kn_ : RKn u ps h) (hi_ : i < 20) (es_ : hX h 37 (20 * mKd m c + i) = nI it.1) (e1_ : hX h 38 (20 * mKd m c + i) = nI on) (e2_ : hX h 39 (20 * mKd m c + i) = nI tw) (iw_ : itW h (120 * mKd m c) it on tw) (iok_ : itOk it) (i4_ : it.1 ≤ 4) (hpb_ : PcB (mkP m an wy c i it)) (hl_ : (an ++ [c]).length ≤ 6) (hs_ : ∀ k, k < (an ++ [c]).length → hX h 58 k = nI (mSl m ((an ++ [c]).getD k 0)) ∧ mLive m ((an ++ [c]).getD k 0) ∧ hX h 59 k = nI ((wy ++ [i]).getD k 0 + 1)) (hwb_ : ∀ k, (wy ++ [i]).getD k 0 < 1000) (eo_ : hI h 810 MO = nI (an ++ [c]).length) : Ev l G 2 0 0 mX11_makePiece 0 (en 6 [.ref MO, .int (nI (mSl m c)), .int (nI i)]) [] h (fun x h' => x = none ∧ FN h h' ∧ Fr [800, 812] [42, 43, 44, 45, 46, 47, 48, 49, 50, 51, 52, 53, 57] h h' ∧ ((stE (u, ps) (some (mkP m an wy c i it)) = some (u, ps ++ [(mkP m an wy c i it)]) ∧ RKn u (ps ++ [(mkP m an wy c i it)]) h') ∨ (stE (u, ps) (some (mkP m an wy c i it)) = none ∧ hI h' 812 MO = nI 1))) := by
  have rt1_ := rm.2.2.1 c hc
  have ep_ := kn_.1.2.2.1
  have n250_ := kn_.1.1
  have hkd_ := (mk.2.1 c (mk.lt hc)).2.1
  have sl_ := mk.sl hc
  have wl_ := kn_.1.2.1
  refine Ev_aload_n dX11_makePiece_0 rfl (by first | exact Or.inr ⟨_, rfl⟩ | exact rv_or _ | exact Or.inl rfl) ?_
  refine Ev_getA dX11_makePiece_1 fX11_56 rf.1 (rr_pieces rf) ?_
  refine Ev_iconst (v := nI 1) dX11_makePiece_4 (by decide) ?_
  refine Ev_ialdE _ dX11_makePiece_5 (rk_pieces rf) (rl_pieces rf) (hi_n (by omega)) (by omega) ep_ ?_
  refine Ev_sipush (v := nI 250) dX11_makePiece_6 (by decide) ?_
  refine Ev_icmp_neN 17 dX11_makePiece_9 (by decide) (by omega) (by omega) (fun zb9_ => ?_) (fun zb9_ => ?_)
  · refine Ev_aload_n dX11_makePiece_17 rfl (by first | exact Or.inr ⟨_, rfl⟩ | exact rv_or _ | exact Or.inl rfl) ?_
    refine Ev_getE dX11_makePiece_18 fX11_197 rf.1 kn_.2.2.2.1 ?_
    refine Ev_if_eqB 25 dX11_makePiece_21 (by decide) (fun zb21_ => ?_) (fun zb21_ => ?_)
    · refine Ev_bipush (v := nI 20) dX11_makePiece_25 (by decide) ?_
      refine Ev_aload_n dX11_makePiece_27 rfl (by first | exact Or.inr ⟨_, rfl⟩ | exact rv_or _ | exact Or.inl rfl) ?_
      refine Ev_getA dX11_makePiece_28 fX11_13 rf.1 (rr_kind rf) ?_
      refine Ev_iload_n dX11_makePiece_31 rfl ?_
      refine Ev_ialdE _ dX11_makePiece_32 (rk_kind rf) (rl_kind rf) (hi_n (by omega)) (by omega) rt1_.1 ?_
      refine Ev_imulN dX11_makePiece_33 ?_
      refine Ev_iload_n dX11_makePiece_34 rfl ?_
      refine Ev_iaddN dX11_makePiece_35 ?_
      refine Ev_istore_n dX11_makePiece_36 (by decide) ?_
      refine Ev_sipush (v := nI 250) dX11_makePiece_37 (by decide) ?_
      refine Ev_aload_n dX11_makePiece_40 rfl (by first | exact Or.inr ⟨_, rfl⟩ | exact rv_or _ | exact Or.inl rfl) ?_
      refine Ev_getA dX11_makePiece_41 fX11_56 rf.1 (rr_pieces rf) ?_
      refine Ev_iconst (v := nI 1) dX11_makePiece_44 (by decide) ?_
      refine Ev_ialdE _ dX11_makePiece_45 (rk_pieces rf) (rl_pieces rf) (hi_n (by omega)) (by omega) ep_ ?_
      refine Ev_iaddN dX11_makePiece_46 ?_
      refine Ev_istore dX11_makePiece_47 (by decide) ?_
      refine Ev_aload_n dX11_makePiece_49 rfl (by first | exact Or.inr ⟨_, rfl⟩ | exact rv_or _ | exact Or.inl rfl) ?_
      refine Ev_getA dX11_makePiece_50 fX11_59 rf.1 (rr_item rf) ?_
      refine Ev_iload dX11_makePiece_53 rfl ?_
      refine Ev_iload_n dX11_makePiece_55 rfl ?_
      refine Ev_iastL _ dX11_makePiece_56 (rk_item rf) (rl_item rf) (hi_n (by omega)) (by omega) ?_
      refine Ev_aload_n dX11_makePiece_57 rfl (by first | exact Or.inr ⟨_, rfl⟩ | exact rv_or _ | exact Or.inl rfl) ?_
      refine Ev_getA dX11_makePiece_58 fX11_62 rf.1 (rr_pieceSort rf) ?_
      refine Ev_iload dX11_makePiece_61 rfl ?_
      refine Ev_aload_n dX11_makePiece_63 rfl (by first | exact Or.inr ⟨_, rfl⟩ | exact rv_or _ | exact Or.inl rfl) ?_
      refine Ev_getA dX11_makePiece_64 fX11_34 rf.1 (rr_sort rf) ?_
      refine Ev_iload_n dX11_makePiece_67 rfl ?_
      refine Ev_ialdE _ dX11_makePiece_68 (rk_sort rf) (rl_sort rf) (hi_n (by omega)) (by omega) ((gX_X _ (by decide)).trans es_) ?_
      refine Ev_iastL _ dX11_makePiece_69 (rk_pieceSort rf) (rl_pieceSort rf) (hi_n (by omega)) (by omega) ?_
      refine Ev_aload_n dX11_makePiece_70 rfl (by first | exact Or.inr ⟨_, rfl⟩ | exact rv_or _ | exact Or.inl rfl) ?_
      refine Ev_getA dX11_makePiece_71 fX11_65 rf.1 (rr_pieceKind rf) ?_
      refine Ev_iload dX11_makePiece_74 rfl ?_
      refine Ev_aload_n dX11_makePiece_76 rfl (by first | exact Or.inr ⟨_, rfl⟩ | exact rv_or _ | exact Or.inl rfl) ?_
      refine Ev_getA dX11_makePiece_77 fX11_13 rf.1 (rr_kind rf) ?_
      refine Ev_iload_n dX11_makePiece_80 rfl ?_
      refine Ev_ialdE _ dX11_makePiece_81 (rk_kind rf) (rl_kind rf) (hi_n (by omega)) (by omega) ((gX_X _ (by decide)).trans ((gX_X _ (by decide)).trans rt1_.1)) ?_
      refine Ev_iastL _ dX11_makePiece_82 (rk_pieceKind rf) (rl_pieceKind rf) (hi_n (by omega)) (by omega) ?_
      refine Ev_aload_n dX11_makePiece_83 rfl (by first | exact Or.inr ⟨_, rfl⟩ | exact rv_or _ | exact Or.inl rfl) ?_
      refine Ev_getA dX11_makePiece_84 fX11_68 rf.1 (rr_pieceNumber rf) ?_
      refine Ev_iload dX11_makePiece_87 rfl ?_
      refine Ev_aload_n dX11_makePiece_89 rfl (by first | exact Or.inr ⟨_, rfl⟩ | exact rv_or _ | exact Or.inl rfl) ?_
      refine Ev_getA dX11_makePiece_90 fX11_37 rf.1 (rr_one rf) ?_
      refine Ev_iload_n dX11_makePiece_93 rfl ?_
      refine Ev_ialdE _ dX11_makePiece_94 (rk_one rf) (rl_one rf) (hi_n (by omega)) (by omega) ((gX_X _ (by decide)).trans ((gX_X _ (by decide)).trans ((gX_X _ (by decide)).trans e1_))) ?_
      refine Ev_iastL _ dX11_makePiece_95 (rk_pieceNumber rf) (rl_pieceNumber rf) (hi_n (by omega)) (by omega) ?_
      refine Ev_aload_n dX11_makePiece_96 rfl (by first | exact Or.inr ⟨_, rfl⟩ | exact rv_or _ | exact Or.inl rfl) ?_
      refine Ev_getA dX11_makePiece_97 fX11_71 rf.1 (rr_deep rf) ?_
      refine Ev_iload dX11_makePiece_100 rfl ?_
      refine Ev_aload_n dX11_makePiece_102 rfl (by first | exact Or.inr ⟨_, rfl⟩ | exact rv_or _ | exact Or.inl rfl) ?_
      refine Ev_getE dX11_makePiece_103 fX11_200 rf.1 ((gI_X _ _ _ _ _ _).trans ((gI_X _ _ _ _ _ _).trans ((gI_X _ _ _ _ _ _).trans ((gI_X _ _ _ _ _ _).trans eo_)))) ?_
      refine Ev_iastL _ dX11_makePiece_106 (rk_deep rf) (rl_deep rf) (hi_n (by omega)) (by omega) ?_
      refine Ev_aload_n dX11_makePiece_107 rfl (by first | exact Or.inr ⟨_, rfl⟩ | exact rv_or _ | exact Or.inl rfl) ?_
      refine Ev_getA dX11_makePiece_108 fX11_77 rf.1 (rr_thingOf rf) ?_
      refine Ev_iload dX11_makePiece_111 rfl ?_
      refine Ev_iload_n dX11_makePiece_113 rfl ?_
      refine Ev_iastL _ dX11_makePiece_114 (rk_thingOf rf) (rl_thingOf rf) (hi_n (by omega)) (by omega) ?_
      refine Ev_iconst (v := nI 0) dX11_makePiece_115 (by decide) ?_
      refine Ev_istore dX11_makePiece_116 (by decide) ?_
      refine Ev_gen (fun hA => (FP ps.length h hA ∧ hX hA 43 (250 + ps.length) = nI i ∧ hX hA 44 (250 + ps.length) = nI it.1 ∧ hX hA 45 (250 + ps.length) = nI (mKd m c) ∧ hX hA 46 (250 + ps.length) = nI on ∧ hX hA 47 (250 + ps.length) = nI (an ++ [c]).length ∧ hX hA 49 (250 + ps.length) = nI (mSl m c)) ∧ hX hA 42 1 = nI ps.length) ⟨⟨(((((FP.row (by decide)).tr (FP.row (by decide))).tr (FP.row (by decide))).tr (FP.row (by decide))).tr (FP.row (by decide))).tr (FP.row (by decide)), ((gX_X _ (by decide)).trans ((gX_X _ (by decide)).trans ((gX_X _ (by decide)).trans ((gX_X _ (by decide)).trans ((gX_X _ (by decide)).trans (hX_s _ _ _ _)))))), ((gX_X _ (by decide)).trans ((gX_X _ (by decide)).trans ((gX_X _ (by decide)).trans ((gX_X _ (by decide)).trans (hX_s _ _ _ _))))), ((gX_X _ (by decide)).trans ((gX_X _ (by decide)).trans ((gX_X _ (by decide)).trans (hX_s _ _ _ _)))), ((gX_X _ (by decide)).trans ((gX_X _ (by decide)).trans (hX_s _ _ _ _))), ((gX_X _ (by decide)).trans (hX_s _ _ _ _)), (hX_s _ _ _ _)⟩, (gX_X _ (by decide)).trans ((gX_X _ (by decide)).trans ((gX_X _ (by decide)).trans ((gX_X _ (by decide)).trans ((gX_X _ (by decide)).trans ((gX_X _ (by decide)).trans ep_)))))⟩ (fun hA z_ => ?_)
      obtain ⟨⟨fA_, vA_⟩, eA42_⟩ := z_
      have rfA_ := rf.fr fA_.1
      have gA_ : ∀ r, r ∉ [42, 43, 44, 45, 46, 47, 48, 49, 50, 51, 52, 53, 57] → hX hA r = hX h r := fun r hr => fA_.1.2.2.2.2.2.2 r (fun z => hr (by revert z; simp; omega))
      have giA_ : ∀ k, hI hA k MO = hI h k MO := fun k => fA_.1.2.2.2.2.2.1 k MO (fun z => absurd z.2 (by simp))
      refine ev_mp_w l G m (an ++ [c]) (wy ++ [i]) c i ps.length (20 * mKd m c + i) (by omega) hA rfA_ mk hl_ (fun x hx => ⟨by rw [gA_ 29 (by decide)]; exact rm.came mk hx, by have := mk.lt hx; have := rm.1; omega⟩) (fun k hk => by rw [gA_ 58 (by decide), gA_ 59 (by decide)]; exact hs_ k hk) hwb_ ((giA_ _).trans eo_) (fun h1 wi_ => ?_) 7 0 (by omega) (by omega) hA ⟨FP.rf, Fr.rf, fun j hj => by omega⟩
      have rf1_ := rfA_.fr wi_.2.1
      have w1_ : ∀ r, r ∉ [48] → ∀ {i : Nat} {v : Int32}, hX hA r i = v → hX h1 r i = v := fun r hr i v e => (congrFun (wi_.2.1.2.2.2.2.2.2 r hr) i).trans e
      have ew1_ : hI h1 800 MO = nI (flat ps).length := (wi_.2.1.2.2.2.2.2.1 800 MO (fun z => absurd z.2 (by simp))).trans ((giA_ _).trans kn_.2.2.2.2)
      have ep1_ : hX h1 42 1 = nI ps.length := w1_ 42 (by decide) eA42_
      refine Ev_aload_n dX11_makePiece_186 rfl (by first | exact Or.inr ⟨_, rfl⟩ | exact rv_or _ | exact Or.inl rfl) ?_
      refine Ev_getA dX11_makePiece_187 fX11_80 rf1_.1 (rr_madeFrom rf1_) ?_
      refine Ev_iload dX11_makePiece_190 rfl ?_
      refine Ev_aload_n dX11_makePiece_192 rfl (by first | exact Or.inr ⟨_, rfl⟩ | exact rv_or _ | exact Or.inl rfl) ?_
      refine Ev_getE dX11_makePiece_193 fX11_203 rf1_.1 ew1_ ?_
      refine Ev_iastL _ dX11_makePiece_196 (rk_madeFrom rf1_) (rl_madeFrom rf1_) (hi_n (by omega)) (by omega) ?_
      refine Ev_aload_n dX11_makePiece_197 rfl (by first | exact Or.inr ⟨_, rfl⟩ | exact rv_or _ | exact Or.inl rfl) ?_
      refine Ev_getA dX11_makePiece_198 fX11_89 rf1_.1 (rr_handLong rf1_) ?_
      refine Ev_iload dX11_makePiece_201 rfl ?_
      refine Ev_iconst (v := -1) dX11_makePiece_203 (by decide) ?_
      refine Ev_iastL _ dX11_makePiece_204 (rk_handLong rf1_) (rl_handLong rf1_) (hi_n (by omega)) (by omega) ?_
      refine Ev_aload_n dX11_makePiece_205 rfl (by first | exact Or.inr ⟨_, rfl⟩ | exact rv_or _ | exact Or.inl rfl) ?_
      refine Ev_getA dX11_makePiece_206 fX11_102 rf1_.1 (rr_clash rf1_) ?_
      refine Ev_iload dX11_makePiece_209 rfl ?_
      refine Ev_iconst (v := nI 0) dX11_makePiece_211 (by decide) ?_
      refine Ev_zastL _ dX11_makePiece_212 (rk_clash rf1_) (rl_clash rf1_) (by decide) (hi_n (by omega)) (by omega) ?_
      refine Ev_aload_n dX11_makePiece_213 rfl (by first | exact Or.inr ⟨_, rfl⟩ | exact rv_or _ | exact Or.inl rfl) ?_
      refine Ev_getA dX11_makePiece_214 fX11_56 rf1_.1 (rr_pieces rf1_) ?_
      refine Ev_iconst (v := nI 1) dX11_makePiece_217 (by decide) ?_
      refine Ev_dup2 dX11_makePiece_218 (by first | rfl | exact okv_rv _) (by first | rfl | exact okv_rv _) ?_
      refine Ev_ialdE _ dX11_makePiece_219 (rk_pieces rf1_) (rl_pieces rf1_) (hi_n (by omega)) (by omega) ((gX_X _ (by decide)).trans ((gX_X _ (by decide)).trans ((gX_X _ (by decide)).trans ep1_))) ?_
      refine Ev_iconst (v := nI 1) dX11_makePiece_220 (by decide) ?_
      refine Ev_iaddN dX11_makePiece_221 ?_
      refine Ev_iastL _ dX11_makePiece_222 (rk_pieces rf1_) (rl_pieces rf1_) (hi_n (by omega)) (by omega) ?_
      refine Ev_gen (fun h2 => MpR (mkP m an wy c i it) ps.length (flat ps).length on h h2) ⟨?_, hX_s _ _ _ _, ⟨(gX_X _ (by decide)).trans ((gX_X _ (by decide)).trans ((gX_X _ (by decide)).trans ((gX_X _ (by decide)).trans (w1_ 43 (by decide) vA_.1)))), (gX_X _ (by decide)).trans ((gX_X _ (by decide)).trans ((gX_X _ (by decide)).trans ((gX_X _ (by decide)).trans (w1_ 44 (by decide) vA_.2.1)))), (gX_X _ (by decide)).trans ((gX_X _ (by decide)).trans ((gX_X _ (by decide)).trans ((gX_X _ (by decide)).trans (w1_ 45 (by decide) vA_.2.2.1)))), (gX_X _ (by decide)).trans ((gX_X _ (by decide)).trans ((gX_X _ (by decide)).trans ((gX_X _ (by decide)).trans (w1_ 46 (by decide) vA_.2.2.2.1)))), (gX_X _ (by decide)).trans ((gX_X _ (by decide)).trans ((gX_X _ (by decide)).trans ((gX_X _ (by decide)).trans (w1_ 47 (by decide) vA_.2.2.2.2.1)))), (gX_X _ (by decide)).trans ((gX_X _ (by decide)).trans ((gX_X _ (by decide)).trans ((gX_X _ (by decide)).trans (w1_ 49 (by decide) vA_.2.2.2.2.2))))⟩, fun k hk => ⟨(gX_X _ (by decide)).trans ((gX_X _ (by decide)).trans ((gX_X _ (by decide)).trans ((gX_X _ (by decide)).trans (wi_.2.2 k hk).1))), (gX_X _ (by decide)).trans ((gX_X _ (by decide)).trans ((gX_X _ (by decide)).trans ((gX_X _ (by decide)).trans (wi_.2.2 k hk).2)))⟩, ((gX_X _ (by decide)).trans ((gX_X _ (by decide)).trans ((gX_X _ (by decide)).trans (hX_s _ _ _ _)))), ((gX_X _ (by decide)).trans ((gX_X _ (by decide)).trans (hX_s _ _ _ _))), ((gX_X _ (by decide)).trans (hX_s _ _ _ _))⟩ (fun h2 mr_ => ?_)
      · exact ((((fA_.tr wi_.1).tr (FP.row (by decide))).tr (FP.row (by decide))).tr (FP.row (by decide))).tr FP.cnt
      have rf2_ := rf.fr mr_.1.1
      have g2_ : ∀ r, r ∉ [42, 43, 44, 45, 46, 47, 48, 49, 50, 51, 52, 53, 57] → hX h2 r = hX h r := fun r hr => mr_.1.1.2.2.2.2.2.2 r (fun z => hr (by revert z; simp; omega))
      have gi2_ : ∀ k, hI h2 k MO = hI h k MO := fun k => mr_.1.1.2.2.2.2.2.1 k MO (fun z => absurd z.2 (by simp))
      refine ev_mp_223 l G m c i ps.length (20 * mKd m c + i) (flat ps).length on tw it (by omega) h2 rf2_ mk hc (by omega) kn_.1.2.1 ((gi2_ _).trans kn_.2.2.2.2) ((congrFun (g2_ 37 (by decide)) _).trans es_) ((congrFun (g2_ 38 (by decide)) _).trans e1_) ((congrFun (g2_ 39 (by decide)) _).trans e2_) (by unfold itW; rw [g2_ 40 (by decide)]; exact iw_) iok_ i4_ (by unfold RT1; rw [g2_ 30 (by decide), g2_ 31 (by decide), g2_ 33 (by decide), g2_ 34 (by decide), g2_ 35 (by decide)]; exact rt1_) _ (fun h3 v_ wr_ => ?_)
      have rf3_ := rf2_.fr wr_.1
      have fn_ : FN h (sX h3 51 (250 + ps.length) (nI (min ((flat ps).length + (mdF m c it).length) 3000 - (flat ps).length))) := (mr_.1.fn.tr wr_.fn).tr (FP.row (n := ps.length) (by decide)).fn
      have ff_ : Fr [800, 812] [42, 43, 44, 45, 46, 47, 48, 49, 50, 51, 52, 53, 57] h (sX h3 51 (250 + ps.length) (nI (min ((flat ps).length + (mdF m c it).length) 3000 - (flat ps).length))) := ((mr_.1.1.mo (by decide) (by decide)).tr (wr_.1.mo (by decide) (by decide))).tr (Fr.row (by decide))
      refine Ev_aload_n dX11_makePiece_400 rfl (by first | exact Or.inr ⟨_, rfl⟩ | exact rv_or _ | exact Or.inl rfl) ?_
      refine Ev_getA dX11_makePiece_401 fX11_83 rf3_.1 (rr_madeLong rf3_) ?_
      refine Ev_iload dX11_makePiece_404 rfl ?_
      refine Ev_aload_n dX11_makePiece_406 rfl (by first | exact Or.inr ⟨_, rfl⟩ | exact rv_or _ | exact Or.inl rfl) ?_
      refine Ev_getE dX11_makePiece_407 fX11_203 rf3_.1 wr_.2.1 ?_
      refine Ev_aload_n dX11_makePiece_410 rfl (by first | exact Or.inr ⟨_, rfl⟩ | exact rv_or _ | exact Or.inl rfl) ?_
      refine Ev_getA dX11_makePiece_411 fX11_80 rf3_.1 (rr_madeFrom rf3_) ?_
      refine Ev_iload dX11_makePiece_414 rfl ?_
      refine Ev_ialdE _ dX11_makePiece_416 (rk_madeFrom rf3_) (rl_madeFrom rf3_) (hi_n (by omega)) (by omega) ((congrFun (wr_.1.2.2.2.2.2.2 50 (by decide)) _).trans mr_.2.2.2.2.1) ?_
      refine Ev_isubN dX11_makePiece_417 (by omega) ?_
      refine Ev_iastL _ dX11_makePiece_418 (rk_madeLong rf3_) (rl_madeLong rf3_) (hi_n (by omega)) (by omega) ?_
      refine Ev_vret dX11_makePiece_419 rfl ?_
      refine ⟨rfl, fn_, ff_, ?_⟩
      by_cases zl_ : (flat ps).length + (mdF m c it).length ≤ 3000
      · refine Or.inl ⟨if_pos ⟨show ps.length < 250 by omega, zl_⟩, ?_⟩
        rw [show min ((flat ps).length + (mdF m c it).length) 3000 - (flat ps).length = (mdF m c it).length by omega]
        exact RKn.add (p := (mkP m an wy c i it)) kn_ rfl (by omega) hpb_ rfl (fun z => (iw_.2 (by have z2 : it.1 = 2 := z; omega)).1) mr_ wr_ zl_
      · refine Or.inr ⟨if_neg (fun z => zl_ z.2), ?_⟩
        exact (gI_X _ _ _ _ _ _).trans (wr_.2.2.1.trans (if_neg zl_))
    · exact absurd zb21_ (by decide)
  · refine Ev_aload_n dX11_makePiece_12 rfl (by first | exact Or.inr ⟨_, rfl⟩ | exact rv_or _ | exact Or.inl rfl) ?_
    refine Ev_iconst (v := nI 1) dX11_makePiece_13 (by decide) ?_
    refine Ev_putI dX11_makePiece_14 fX11_197 ⟨_, rfl, Or.inl rfl⟩ (Or.inr ⟨rfl, (by decide)⟩) rf.1 ?_
    refine Ev_aload_n dX11_makePiece_17 rfl (by first | exact Or.inr ⟨_, rfl⟩ | exact rv_or _ | exact Or.inl rfl) ?_
    refine Ev_getE dX11_makePiece_18 fX11_197 rf.1 (hI_s _ _ _ _) ?_
    refine Ev_if_eqT 25 dX11_makePiece_21 (by decide) (fun zb21_ => ?_) (fun zb21_ => ?_)
    · exact absurd zb21_ (by decide)
    · refine Ev_vret dX11_makePiece_24 rfl ?_
      exact ⟨rfl, FN.int (by decide), Fr.int (by decide), Or.inr ⟨if_neg (fun z => by have z1 := z.1; simp at z1; omega), hI_s _ _ _ _⟩⟩
