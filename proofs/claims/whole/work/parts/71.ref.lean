theorem ev_step_0 (l : Launch) (G : aG) (lf : Bool) (m : Md) (ru : Nat → List It) (fs : List Frm) (c i u : Nat) (ps : List Pc) (h : aH) (rf : Rf h) (mk : MOk m) (rm : RM m h) (ru_ : RRu ru h) (kn_ : RKn u ps h) (sk_ : RSk m (fs ++ [(c, i, none, lf)]) h) (hi_ : i = (ru (mKd m c)).length) : Ev l G 3 0 0 mX11_step 0 (en 6 [.ref MO]) [] h (Ex none (sI h 810 MO (nI fs.length))) := by
  have eo_ := sk_.end.1
  have o6_ := sk_.end.2.1
  have hc : mLive m c := sk_.end.2.2.1
  have i20_ : i ≤ 20 := sk_.end.2.2.2.1
  have e58_ : hX h 58 fs.length = nI (mSl m c) := sk_.end.2.2.2.2.2.1
  have e59_ : hX h 59 fs.length = nI i := sk_.end.2.2.2.2.2.2.1
  have e60_ : hX h 60 fs.length = -1 := sk_.end.2.2.2.2.2.2.2.1
  have e61_ : hX h 61 fs.length = bI lf := sk_.end.2.2.2.2.2.2.2.2
  have rt1_ := rm.2.2.1 c hc
  have sl_ := mk.sl hc
  have hkd_ := (mk.2.1 c (mk.lt hc)).2.1
  obtain ⟨r20_, ri_, rit_⟩ := ru_ (mKd m c) hkd_
  refine Ev_aload_n dX11_step_0 rfl (by first | exact Or.inr ⟨_, rfl⟩ | exact rv_or _ | exact Or.inl rfl) ?_
  refine Ev_getE dX11_step_1 fX11_200 rf.1 eo_ ?_
  refine Ev_iconst (v := nI 1) dX11_step_4 (by decide) ?_
  refine Ev_isubN dX11_step_5 (by omega) ?_
  refine Ev_top (y := .int (nI fs.length)) (by rw [Nat.add_sub_cancel]) ?_
  refine Ev_istore_n dX11_step_6 (by decide) ?_
  refine Ev_aload_n dX11_step_7 rfl (by first | exact Or.inr ⟨_, rfl⟩ | exact rv_or _ | exact Or.inl rfl) ?_
  refine Ev_getA dX11_step_8 fX11_106 rf.1 (rr_useThing rf) ?_
  refine Ev_iload_n dX11_step_11 rfl ?_
  refine Ev_ialdE _ dX11_step_12 (rk_useThing rf) (rl_useThing rf) (hi_n (by omega)) (by omega) e58_ ?_
  refine Ev_istore_n dX11_step_13 (by decide) ?_
  refine Ev_aload_n dX11_step_14 rfl (by first | exact Or.inr ⟨_, rfl⟩ | exact rv_or _ | exact Or.inl rfl) ?_
  refine Ev_getA dX11_step_15 fX11_13 rf.1 (rr_kind rf) ?_
  refine Ev_iload_n dX11_step_18 rfl ?_
  refine Ev_ialdE _ dX11_step_19 (rk_kind rf) (rl_kind rf) (hi_n (by omega)) (by omega) rt1_.1 ?_
  refine Ev_istore_n dX11_step_20 (by decide) ?_
  refine Ev_aload_n dX11_step_21 rfl (by first | exact Or.inr ⟨_, rfl⟩ | exact rv_or _ | exact Or.inl rfl) ?_
  refine Ev_getA dX11_step_22 fX11_112 rf.1 (rr_useChild rf) ?_
  refine Ev_iload_n dX11_step_25 rfl ?_
  refine Ev_ialdE _ dX11_step_26 (rk_useChild rf) (rl_useChild rf) (hi_n (by omega)) (by omega) e60_ ?_
  refine Ev_if_ltT 103 dX11_step_27 (by decide) (fun zb27_ => ?_) (fun zb27_ => ?_)
  · refine Ev_aload_n dX11_step_103 rfl (by first | exact Or.inr ⟨_, rfl⟩ | exact rv_or _ | exact Or.inl rfl) ?_
    refine Ev_getA dX11_step_104 fX11_109 rf.1 (rr_useItem rf) ?_
    refine Ev_iload_n dX11_step_107 rfl ?_
    refine Ev_ialdE _ dX11_step_108 (rk_useItem rf) (rl_useItem rf) (hi_n (by omega)) (by omega) e59_ ?_
    refine Ev_aload_n dX11_step_109 rfl (by first | exact Or.inr ⟨_, rfl⟩ | exact rv_or _ | exact Or.inl rfl) ?_
    refine Ev_getA dX11_step_110 fX11_31 rf.1 (rr_items rf) ?_
    refine Ev_iload_n dX11_step_113 rfl ?_
    refine Ev_ialdE _ dX11_step_114 (rk_items rf) (rl_items rf) (hi_n (by omega)) (by omega) ri_ ?_
    refine Ev_icmp_neN 129 dX11_step_115 (by decide) (by omega) (by omega) (fun zb115_ => ?_) (fun zb115_ => ?_)
    · exact False.elim (by omega)
    · refine Ev_aload_n dX11_step_118 rfl (by first | exact Or.inr ⟨_, rfl⟩ | exact rv_or _ | exact Or.inl rfl) ?_
      refine Ev_dup dX11_step_119 (by first | rfl | exact okv_rv _) ?_
      refine Ev_getE dX11_step_120 fX11_200 rf.1 eo_ ?_
      refine Ev_iconst (v := nI 1) dX11_step_123 (by decide) ?_
      refine Ev_isubN dX11_step_124 (by omega) ?_
      refine Ev_top (y := .int (nI fs.length)) (by rw [Nat.add_sub_cancel]) ?_
      refine Ev_putI dX11_step_125 fX11_200 ⟨_, rfl, Or.inl rfl⟩ (Or.inl rfl) rf.1 ?_
      refine Ev_vret dX11_step_128 rfl ?_
      exact ⟨rfl, rfl⟩
  · exact absurd (by decide) zb27_
theorem ev_step_7 (l : Launch) (G : aG) (lf : Bool) (m : Md) (ru : Nat → List It) (fs : List Frm) (c i u : Nat) (ps : List Pc) (h : aH) (rf : Rf h) (mk : MOk m) (rm : RM m h) (ru_ : RRu ru h) (kn_ : RKn u ps h) (sk_ : RSk m (fs ++ [(c, i, none, lf)]) h) (it : It) (hit_ : (ru (mKd m c))[i]? = some it) (hs_ : it.1 = 7) : Ev l G 3 0 0 mX11_step 0 (en 6 [.ref MO]) [] h (Ex none (sX (sX h 59 fs.length (nI (i + 1))) 61 fs.length (nI 0))) := by
  have eo_ := sk_.end.1
  have o6_ := sk_.end.2.1
  have hc : mLive m c := sk_.end.2.2.1
  have i20_ : i ≤ 20 := sk_.end.2.2.2.1
  have e58_ : hX h 58 fs.length = nI (mSl m c) := sk_.end.2.2.2.2.2.1
  have e59_ : hX h 59 fs.length = nI i := sk_.end.2.2.2.2.2.2.1
  have e60_ : hX h 60 fs.length = -1 := sk_.end.2.2.2.2.2.2.2.1
  have e61_ : hX h 61 fs.length = bI lf := sk_.end.2.2.2.2.2.2.2.2
  have rt1_ := rm.2.2.1 c hc
  have sl_ := mk.sl hc
  have hkd_ := (mk.2.1 c (mk.lt hc)).2.1
  obtain ⟨r20_, ri_, rit_⟩ := ru_ (mKd m c) hkd_
  have hil_ := (List.getElem?_eq_some_iff.mp hit_).1
  obtain ⟨iok_, on, tw, es_, e1_, e2_, iw_⟩ := rit_ i it hit_
  have i7_ := iok_.1
  refine Ev_aload_n dX11_step_0 rfl (by first | exact Or.inr ⟨_, rfl⟩ | exact rv_or _ | exact Or.inl rfl) ?_
  refine Ev_getE dX11_step_1 fX11_200 rf.1 eo_ ?_
  refine Ev_iconst (v := nI 1) dX11_step_4 (by decide) ?_
  refine Ev_isubN dX11_step_5 (by omega) ?_
  refine Ev_top (y := .int (nI fs.length)) (by rw [Nat.add_sub_cancel]) ?_
  refine Ev_istore_n dX11_step_6 (by decide) ?_
  refine Ev_aload_n dX11_step_7 rfl (by first | exact Or.inr ⟨_, rfl⟩ | exact rv_or _ | exact Or.inl rfl) ?_
  refine Ev_getA dX11_step_8 fX11_106 rf.1 (rr_useThing rf) ?_
  refine Ev_iload_n dX11_step_11 rfl ?_
  refine Ev_ialdE _ dX11_step_12 (rk_useThing rf) (rl_useThing rf) (hi_n (by omega)) (by omega) e58_ ?_
  refine Ev_istore_n dX11_step_13 (by decide) ?_
  refine Ev_aload_n dX11_step_14 rfl (by first | exact Or.inr ⟨_, rfl⟩ | exact rv_or _ | exact Or.inl rfl) ?_
  refine Ev_getA dX11_step_15 fX11_13 rf.1 (rr_kind rf) ?_
  refine Ev_iload_n dX11_step_18 rfl ?_
  refine Ev_ialdE _ dX11_step_19 (rk_kind rf) (rl_kind rf) (hi_n (by omega)) (by omega) rt1_.1 ?_
  refine Ev_istore_n dX11_step_20 (by decide) ?_
  refine Ev_aload_n dX11_step_21 rfl (by first | exact Or.inr ⟨_, rfl⟩ | exact rv_or _ | exact Or.inl rfl) ?_
  refine Ev_getA dX11_step_22 fX11_112 rf.1 (rr_useChild rf) ?_
  refine Ev_iload_n dX11_step_25 rfl ?_
  refine Ev_ialdE _ dX11_step_26 (rk_useChild rf) (rl_useChild rf) (hi_n (by omega)) (by omega) e60_ ?_
  refine Ev_if_ltT 103 dX11_step_27 (by decide) (fun zb27_ => ?_) (fun zb27_ => ?_)
  · refine Ev_aload_n dX11_step_103 rfl (by first | exact Or.inr ⟨_, rfl⟩ | exact rv_or _ | exact Or.inl rfl) ?_
    refine Ev_getA dX11_step_104 fX11_109 rf.1 (rr_useItem rf) ?_
    refine Ev_iload_n dX11_step_107 rfl ?_
    refine Ev_ialdE _ dX11_step_108 (rk_useItem rf) (rl_useItem rf) (hi_n (by omega)) (by omega) e59_ ?_
    refine Ev_aload_n dX11_step_109 rfl (by first | exact Or.inr ⟨_, rfl⟩ | exact rv_or _ | exact Or.inl rfl) ?_
    refine Ev_getA dX11_step_110 fX11_31 rf.1 (rr_items rf) ?_
    refine Ev_iload_n dX11_step_113 rfl ?_
    refine Ev_ialdE _ dX11_step_114 (rk_items rf) (rl_items rf) (hi_n (by omega)) (by omega) ri_ ?_
    refine Ev_icmp_neN 129 dX11_step_115 (by decide) (by omega) (by omega) (fun zb115_ => ?_) (fun zb115_ => ?_)
    · refine Ev_aload_n dX11_step_129 rfl (by first | exact Or.inr ⟨_, rfl⟩ | exact rv_or _ | exact Or.inl rfl) ?_
      refine Ev_getA dX11_step_130 fX11_109 rf.1 (rr_useItem rf) ?_
      refine Ev_iload_n dX11_step_133 rfl ?_
      refine Ev_ialdE _ dX11_step_134 (rk_useItem rf) (rl_useItem rf) (hi_n (by omega)) (by omega) e59_ ?_
      refine Ev_istore dX11_step_135 (by decide) ?_
      refine Ev_aload_n dX11_step_137 rfl (by first | exact Or.inr ⟨_, rfl⟩ | exact rv_or _ | exact Or.inl rfl) ?_
      refine Ev_getA dX11_step_138 fX11_34 rf.1 (rr_sort rf) ?_
      refine Ev_bipush (v := nI 20) dX11_step_141 (by decide) ?_
      refine Ev_iload_n dX11_step_143 rfl ?_
      refine Ev_imulN dX11_step_144 ?_
      refine Ev_iload dX11_step_145 rfl ?_
      refine Ev_iaddN dX11_step_147 ?_
      refine Ev_ialdE _ dX11_step_148 (rk_sort rf) (rl_sort rf) (hi_n (by omega)) (by omega) es_ ?_
      refine Ev_istore dX11_step_149 (by decide) ?_
      refine Ev_aload_n dX11_step_151 rfl (by first | exact Or.inr ⟨_, rfl⟩ | exact rv_or _ | exact Or.inl rfl) ?_
      refine Ev_getA dX11_step_152 fX11_109 rf.1 (rr_useItem rf) ?_
      refine Ev_iload_n dX11_step_155 rfl ?_
      refine Ev_dup2 dX11_step_156 (by first | rfl | exact okv_rv _) (by first | rfl | exact okv_rv _) ?_
      refine Ev_ialdE _ dX11_step_157 (rk_useItem rf) (rl_useItem rf) (hi_n (by omega)) (by omega) e59_ ?_
      refine Ev_iconst (v := nI 1) dX11_step_158 (by decide) ?_
      refine Ev_iaddN dX11_step_159 ?_
      refine Ev_iastL _ dX11_step_160 (rk_useItem rf) (rl_useItem rf) (hi_n (by omega)) (by omega) ?_
      refine Ev_iload dX11_step_161 rfl ?_
      refine Ev_bipush (v := nI 7) dX11_step_163 (by decide) ?_
      refine Ev_icmp_neN 175 dX11_step_165 (by decide) (by omega) (by omega) (fun zb165_ => ?_) (fun zb165_ => ?_)
      · exact False.elim (by omega)
      · refine Ev_aload_n dX11_step_168 rfl (by first | exact Or.inr ⟨_, rfl⟩ | exact rv_or _ | exact Or.inl rfl) ?_
        refine Ev_getA dX11_step_169 fX11_115 rf.1 (rr_isLeft rf) ?_
        refine Ev_iload_n dX11_step_172 rfl ?_
        refine Ev_iconst (v := nI 0) dX11_step_173 (by decide) ?_
        refine Ev_zastL _ dX11_step_174 (rk_isLeft rf) (rl_isLeft rf) (by decide) (hi_n (by omega)) (by omega) ?_
        refine Ev_iload dX11_step_175 rfl ?_
        refine Ev_bipush (v := nI 6) dX11_step_177 (by decide) ?_
        refine Ev_icmp_neN 217 dX11_step_179 (by decide) (by omega) (by omega) (fun zb179_ => ?_) (fun zb179_ => ?_)
        · refine Ev_iload dX11_step_217 rfl ?_
          refine Ev_iconst (v := nI 5) dX11_step_219 (by decide) ?_
          refine Ev_icmp_gtN 232 dX11_step_220 (by decide) (by omega) (by omega) (fun zb220_ => ?_) (fun zb220_ => ?_)
          · refine Ev_vret dX11_step_232 rfl ?_
            exact ⟨rfl, rfl⟩
          · exact False.elim (by omega)
        · exact False.elim (by omega)
    · exact False.elim (by omega)
  · exact absurd (by decide) zb27_
theorem ev_step_6 (l : Launch) (G : aG) (lf : Bool) (m : Md) (ru : Nat → List It) (fs : List Frm) (c i u : Nat) (ps : List Pc) (h : aH) (rf : Rf h) (mk : MOk m) (rm : RM m h) (ru_ : RRu ru h) (kn_ : RKn u ps h) (sk_ : RSk m (fs ++ [(c, i, none, lf)]) h) (it : It) (hit_ : (ru (mKd m c))[i]? = some it) (hs_ : it.1 = 6) : Ev l G 3 0 0 mX11_step 0 (en 6 [.ref MO]) [] h (Ex none (sX (sX h 59 fs.length (nI (i + 1))) 61 fs.length (bI (decide (nuV m c it.2.1 = 0))))) := by
  have eo_ := sk_.end.1
  have o6_ := sk_.end.2.1
  have hc : mLive m c := sk_.end.2.2.1
  have i20_ : i ≤ 20 := sk_.end.2.2.2.1
  have e58_ : hX h 58 fs.length = nI (mSl m c) := sk_.end.2.2.2.2.2.1
  have e59_ : hX h 59 fs.length = nI i := sk_.end.2.2.2.2.2.2.1
  have e60_ : hX h 60 fs.length = -1 := sk_.end.2.2.2.2.2.2.2.1
  have e61_ : hX h 61 fs.length = bI lf := sk_.end.2.2.2.2.2.2.2.2
  have rt1_ := rm.2.2.1 c hc
  have sl_ := mk.sl hc
  have hkd_ := (mk.2.1 c (mk.lt hc)).2.1
  obtain ⟨r20_, ri_, rit_⟩ := ru_ (mKd m c) hkd_
  have hil_ := (List.getElem?_eq_some_iff.mp hit_).1
  obtain ⟨iok_, on, tw, es_, e1_, e2_, iw_⟩ := rit_ i it hit_
  have i7_ := iok_.1
  have j4_ := iok_.2.1 (Or.inr (Or.inr hs_))
  have iw1_ := iw_.2 (by omega)
  rw [iw1_.1] at e1_
  have en_ : ∀ j, j < 4 → hX h 33 (4 * mSl m c + j) = nI (nuV m c j) := fun j hj => (rt1_.2.2.1 j hj).trans (nu_nI mk hc hj).1
  have nv_ := (nu_nI mk hc j4_).2
  refine Ev_aload_n dX11_step_0 rfl (by first | exact Or.inr ⟨_, rfl⟩ | exact rv_or _ | exact Or.inl rfl) ?_
  refine Ev_getE dX11_step_1 fX11_200 rf.1 eo_ ?_
  refine Ev_iconst (v := nI 1) dX11_step_4 (by decide) ?_
  refine Ev_isubN dX11_step_5 (by omega) ?_
  refine Ev_top (y := .int (nI fs.length)) (by rw [Nat.add_sub_cancel]) ?_
  refine Ev_istore_n dX11_step_6 (by decide) ?_
  refine Ev_aload_n dX11_step_7 rfl (by first | exact Or.inr ⟨_, rfl⟩ | exact rv_or _ | exact Or.inl rfl) ?_
  refine Ev_getA dX11_step_8 fX11_106 rf.1 (rr_useThing rf) ?_
  refine Ev_iload_n dX11_step_11 rfl ?_
  refine Ev_ialdE _ dX11_step_12 (rk_useThing rf) (rl_useThing rf) (hi_n (by omega)) (by omega) e58_ ?_
  refine Ev_istore_n dX11_step_13 (by decide) ?_
  refine Ev_aload_n dX11_step_14 rfl (by first | exact Or.inr ⟨_, rfl⟩ | exact rv_or _ | exact Or.inl rfl) ?_
  refine Ev_getA dX11_step_15 fX11_13 rf.1 (rr_kind rf) ?_
  refine Ev_iload_n dX11_step_18 rfl ?_
  refine Ev_ialdE _ dX11_step_19 (rk_kind rf) (rl_kind rf) (hi_n (by omega)) (by omega) rt1_.1 ?_
  refine Ev_istore_n dX11_step_20 (by decide) ?_
  refine Ev_aload_n dX11_step_21 rfl (by first | exact Or.inr ⟨_, rfl⟩ | exact rv_or _ | exact Or.inl rfl) ?_
  refine Ev_getA dX11_step_22 fX11_112 rf.1 (rr_useChild rf) ?_
  refine Ev_iload_n dX11_step_25 rfl ?_
  refine Ev_ialdE _ dX11_step_26 (rk_useChild rf) (rl_useChild rf) (hi_n (by omega)) (by omega) e60_ ?_
  refine Ev_if_ltT 103 dX11_step_27 (by decide) (fun zb27_ => ?_) (fun zb27_ => ?_)
  · refine Ev_aload_n dX11_step_103 rfl (by first | exact Or.inr ⟨_, rfl⟩ | exact rv_or _ | exact Or.inl rfl) ?_
    refine Ev_getA dX11_step_104 fX11_109 rf.1 (rr_useItem rf) ?_
    refine Ev_iload_n dX11_step_107 rfl ?_
    refine Ev_ialdE _ dX11_step_108 (rk_useItem rf) (rl_useItem rf) (hi_n (by omega)) (by omega) e59_ ?_
    refine Ev_aload_n dX11_step_109 rfl (by first | exact Or.inr ⟨_, rfl⟩ | exact rv_or _ | exact Or.inl rfl) ?_
    refine Ev_getA dX11_step_110 fX11_31 rf.1 (rr_items rf) ?_
    refine Ev_iload_n dX11_step_113 rfl ?_
    refine Ev_ialdE _ dX11_step_114 (rk_items rf) (rl_items rf) (hi_n (by omega)) (by omega) ri_ ?_
    refine Ev_icmp_neN 129 dX11_step_115 (by decide) (by omega) (by omega) (fun zb115_ => ?_) (fun zb115_ => ?_)
    · refine Ev_aload_n dX11_step_129 rfl (by first | exact Or.inr ⟨_, rfl⟩ | exact rv_or _ | exact Or.inl rfl) ?_
      refine Ev_getA dX11_step_130 fX11_109 rf.1 (rr_useItem rf) ?_
      refine Ev_iload_n dX11_step_133 rfl ?_
      refine Ev_ialdE _ dX11_step_134 (rk_useItem rf) (rl_useItem rf) (hi_n (by omega)) (by omega) e59_ ?_
      refine Ev_istore dX11_step_135 (by decide) ?_
      refine Ev_aload_n dX11_step_137 rfl (by first | exact Or.inr ⟨_, rfl⟩ | exact rv_or _ | exact Or.inl rfl) ?_
      refine Ev_getA dX11_step_138 fX11_34 rf.1 (rr_sort rf) ?_
      refine Ev_bipush (v := nI 20) dX11_step_141 (by decide) ?_
      refine Ev_iload_n dX11_step_143 rfl ?_
      refine Ev_imulN dX11_step_144 ?_
      refine Ev_iload dX11_step_145 rfl ?_
      refine Ev_iaddN dX11_step_147 ?_
      refine Ev_ialdE _ dX11_step_148 (rk_sort rf) (rl_sort rf) (hi_n (by omega)) (by omega) es_ ?_
      refine Ev_istore dX11_step_149 (by decide) ?_
      refine Ev_aload_n dX11_step_151 rfl (by first | exact Or.inr ⟨_, rfl⟩ | exact rv_or _ | exact Or.inl rfl) ?_
      refine Ev_getA dX11_step_152 fX11_109 rf.1 (rr_useItem rf) ?_
      refine Ev_iload_n dX11_step_155 rfl ?_
      refine Ev_dup2 dX11_step_156 (by first | rfl | exact okv_rv _) (by first | rfl | exact okv_rv _) ?_
      refine Ev_ialdE _ dX11_step_157 (rk_useItem rf) (rl_useItem rf) (hi_n (by omega)) (by omega) e59_ ?_
      refine Ev_iconst (v := nI 1) dX11_step_158 (by decide) ?_
      refine Ev_iaddN dX11_step_159 ?_
      refine Ev_iastL _ dX11_step_160 (rk_useItem rf) (rl_useItem rf) (hi_n (by omega)) (by omega) ?_
      refine Ev_iload dX11_step_161 rfl ?_
      refine Ev_bipush (v := nI 7) dX11_step_163 (by decide) ?_
      refine Ev_icmp_neN 175 dX11_step_165 (by decide) (by omega) (by omega) (fun zb165_ => ?_) (fun zb165_ => ?_)
      · refine Ev_iload dX11_step_175 rfl ?_
        refine Ev_bipush (v := nI 6) dX11_step_177 (by decide) ?_
        refine Ev_icmp_neN 217 dX11_step_179 (by decide) (by omega) (by omega) (fun zb179_ => ?_) (fun zb179_ => ?_)
        · exact False.elim (by omega)
        · refine Ev_aload_n dX11_step_182 rfl (by first | exact Or.inr ⟨_, rfl⟩ | exact rv_or _ | exact Or.inl rfl) ?_
          refine Ev_getA dX11_step_183 fX11_115 rf.1 (rr_isLeft rf) ?_
          refine Ev_iload_n dX11_step_186 rfl ?_
          refine Ev_aload_n dX11_step_187 rfl (by first | exact Or.inr ⟨_, rfl⟩ | exact rv_or _ | exact Or.inl rfl) ?_
          refine Ev_getA dX11_step_188 fX11_22 rf.1 (rr_number rf) ?_
          refine Ev_iconst (v := nI 4) dX11_step_191 (by decide) ?_
          refine Ev_iload_n dX11_step_192 rfl ?_
          refine Ev_imulN dX11_step_193 ?_
          refine Ev_aload_n dX11_step_194 rfl (by first | exact Or.inr ⟨_, rfl⟩ | exact rv_or _ | exact Or.inl rfl) ?_
          refine Ev_getA dX11_step_195 fX11_37 rf.1 (rr_one rf) ?_
          refine Ev_bipush (v := nI 20) dX11_step_198 (by decide) ?_
          refine Ev_iload_n dX11_step_200 rfl ?_
          refine Ev_imulN dX11_step_201 ?_
          refine Ev_iload dX11_step_202 rfl ?_
          refine Ev_iaddN dX11_step_204 ?_
          refine Ev_ialdE _ dX11_step_205 (rk_one rf) (rl_one rf) (hi_n (by omega)) (by omega) ((gX_X _ (by decide)).trans e1_) ?_
          refine Ev_iaddN dX11_step_206 ?_
          refine Ev_ialdE _ dX11_step_207 (rk_number rf) (rl_number rf) (hi_n (by omega)) (by omega) ((gX_X _ (by decide)).trans (en_ it.2.1 j4_)) ?_
          refine Ev_if_neT 215 dX11_step_208 (by decide) (fun zb208_ => ?_) (fun zb208_ => ?_)
          · refine Ev_iconst (v := nI 0) dX11_step_215 (by decide) ?_
            refine Ev_zastL _ dX11_step_216 (rk_isLeft rf) (rl_isLeft rf) (by decide) (hi_n (by omega)) (by omega) ?_
            refine Ev_iload dX11_step_217 rfl ?_
            refine Ev_iconst (v := nI 5) dX11_step_219 (by decide) ?_
            refine Ev_icmp_gtN 232 dX11_step_220 (by decide) (by omega) (by omega) (fun zb220_ => ?_) (fun zb220_ => ?_)
            · refine Ev_vret dX11_step_232 rfl ?_
              refine ⟨rfl, ?_⟩
              first
              | (rw [decide_eq_false (by intro z; rw [z] at zb208_; exact zb208_ t0)]; rfl)
              | (rw [decide_eq_true (by rw [hi_n (by omega)] at zb208_; omega)]; rfl)
            · exact False.elim (by omega)
          · refine Ev_iconst (v := nI 1) dX11_step_211 (by decide) ?_
            refine Ev_goto 216 dX11_step_212 (by decide) ?_
            refine Ev_zastL _ dX11_step_216 (rk_isLeft rf) (rl_isLeft rf) (by decide) (hi_n (by omega)) (by omega) ?_
            refine Ev_iload dX11_step_217 rfl ?_
            refine Ev_iconst (v := nI 5) dX11_step_219 (by decide) ?_
            refine Ev_icmp_gtN 232 dX11_step_220 (by decide) (by omega) (by omega) (fun zb220_ => ?_) (fun zb220_ => ?_)
            · refine Ev_vret dX11_step_232 rfl ?_
              refine ⟨rfl, ?_⟩
              first
              | (rw [decide_eq_false (by intro z; rw [z] at zb208_; exact zb208_ t0)]; rfl)
              | (rw [decide_eq_true (by rw [hi_n (by omega)] at zb208_; omega)]; rfl)
            · exact False.elim (by omega)
      · exact False.elim (by omega)
    · exact False.elim (by omega)
  · exact absurd (by decide) zb27_
theorem ev_step_l (l : Launch) (G : aG) (m : Md) (ru : Nat → List It) (fs : List Frm) (c i u : Nat) (ps : List Pc) (h : aH) (rf : Rf h) (mk : MOk m) (rm : RM m h) (ru_ : RRu ru h) (kn_ : RKn u ps h) (sk_ : RSk m (fs ++ [(c, i, none, true)]) h) (it : It) (hit_ : (ru (mKd m c))[i]? = some it) (hs_ : it.1 ≤ 5) : Ev l G 3 0 0 mX11_step 0 (en 6 [.ref MO]) [] h (Ex none (sX h 59 fs.length (nI (i + 1)))) := by
  have eo_ := sk_.end.1
  have o6_ := sk_.end.2.1
  have hc : mLive m c := sk_.end.2.2.1
  have i20_ : i ≤ 20 := sk_.end.2.2.2.1
  have e58_ : hX h 58 fs.length = nI (mSl m c) := sk_.end.2.2.2.2.2.1
  have e59_ : hX h 59 fs.length = nI i := sk_.end.2.2.2.2.2.2.1
  have e60_ : hX h 60 fs.length = -1 := sk_.end.2.2.2.2.2.2.2.1
  have e61_ : hX h 61 fs.length = bI true := sk_.end.2.2.2.2.2.2.2.2
  have rt1_ := rm.2.2.1 c hc
  have sl_ := mk.sl hc
  have hkd_ := (mk.2.1 c (mk.lt hc)).2.1
  obtain ⟨r20_, ri_, rit_⟩ := ru_ (mKd m c) hkd_
  have hil_ := (List.getElem?_eq_some_iff.mp hit_).1
  obtain ⟨iok_, on, tw, es_, e1_, e2_, iw_⟩ := rit_ i it hit_
  have i7_ := iok_.1
  refine Ev_aload_n dX11_step_0 rfl (by first | exact Or.inr ⟨_, rfl⟩ | exact rv_or _ | exact Or.inl rfl) ?_
  refine Ev_getE dX11_step_1 fX11_200 rf.1 eo_ ?_
  refine Ev_iconst (v := nI 1) dX11_step_4 (by decide) ?_
  refine Ev_isubN dX11_step_5 (by omega) ?_
  refine Ev_top (y := .int (nI fs.length)) (by rw [Nat.add_sub_cancel]) ?_
  refine Ev_istore_n dX11_step_6 (by decide) ?_
  refine Ev_aload_n dX11_step_7 rfl (by first | exact Or.inr ⟨_, rfl⟩ | exact rv_or _ | exact Or.inl rfl) ?_
  refine Ev_getA dX11_step_8 fX11_106 rf.1 (rr_useThing rf) ?_
  refine Ev_iload_n dX11_step_11 rfl ?_
  refine Ev_ialdE _ dX11_step_12 (rk_useThing rf) (rl_useThing rf) (hi_n (by omega)) (by omega) e58_ ?_
  refine Ev_istore_n dX11_step_13 (by decide) ?_
  refine Ev_aload_n dX11_step_14 rfl (by first | exact Or.inr ⟨_, rfl⟩ | exact rv_or _ | exact Or.inl rfl) ?_
  refine Ev_getA dX11_step_15 fX11_13 rf.1 (rr_kind rf) ?_
  refine Ev_iload_n dX11_step_18 rfl ?_
  refine Ev_ialdE _ dX11_step_19 (rk_kind rf) (rl_kind rf) (hi_n (by omega)) (by omega) rt1_.1 ?_
  refine Ev_istore_n dX11_step_20 (by decide) ?_
  refine Ev_aload_n dX11_step_21 rfl (by first | exact Or.inr ⟨_, rfl⟩ | exact rv_or _ | exact Or.inl rfl) ?_
  refine Ev_getA dX11_step_22 fX11_112 rf.1 (rr_useChild rf) ?_
  refine Ev_iload_n dX11_step_25 rfl ?_
  refine Ev_ialdE _ dX11_step_26 (rk_useChild rf) (rl_useChild rf) (hi_n (by omega)) (by omega) e60_ ?_
  refine Ev_if_ltT 103 dX11_step_27 (by decide) (fun zb27_ => ?_) (fun zb27_ => ?_)
  · refine Ev_aload_n dX11_step_103 rfl (by first | exact Or.inr ⟨_, rfl⟩ | exact rv_or _ | exact Or.inl rfl) ?_
    refine Ev_getA dX11_step_104 fX11_109 rf.1 (rr_useItem rf) ?_
    refine Ev_iload_n dX11_step_107 rfl ?_
    refine Ev_ialdE _ dX11_step_108 (rk_useItem rf) (rl_useItem rf) (hi_n (by omega)) (by omega) e59_ ?_
    refine Ev_aload_n dX11_step_109 rfl (by first | exact Or.inr ⟨_, rfl⟩ | exact rv_or _ | exact Or.inl rfl) ?_
    refine Ev_getA dX11_step_110 fX11_31 rf.1 (rr_items rf) ?_
    refine Ev_iload_n dX11_step_113 rfl ?_
    refine Ev_ialdE _ dX11_step_114 (rk_items rf) (rl_items rf) (hi_n (by omega)) (by omega) ri_ ?_
    refine Ev_icmp_neN 129 dX11_step_115 (by decide) (by omega) (by omega) (fun zb115_ => ?_) (fun zb115_ => ?_)
    · refine Ev_aload_n dX11_step_129 rfl (by first | exact Or.inr ⟨_, rfl⟩ | exact rv_or _ | exact Or.inl rfl) ?_
      refine Ev_getA dX11_step_130 fX11_109 rf.1 (rr_useItem rf) ?_
      refine Ev_iload_n dX11_step_133 rfl ?_
      refine Ev_ialdE _ dX11_step_134 (rk_useItem rf) (rl_useItem rf) (hi_n (by omega)) (by omega) e59_ ?_
      refine Ev_istore dX11_step_135 (by decide) ?_
      refine Ev_aload_n dX11_step_137 rfl (by first | exact Or.inr ⟨_, rfl⟩ | exact rv_or _ | exact Or.inl rfl) ?_
      refine Ev_getA dX11_step_138 fX11_34 rf.1 (rr_sort rf) ?_
      refine Ev_bipush (v := nI 20) dX11_step_141 (by decide) ?_
      refine Ev_iload_n dX11_step_143 rfl ?_
      refine Ev_imulN dX11_step_144 ?_
      refine Ev_iload dX11_step_145 rfl ?_
      refine Ev_iaddN dX11_step_147 ?_
      refine Ev_ialdE _ dX11_step_148 (rk_sort rf) (rl_sort rf) (hi_n (by omega)) (by omega) es_ ?_
      refine Ev_istore dX11_step_149 (by decide) ?_
      refine Ev_aload_n dX11_step_151 rfl (by first | exact Or.inr ⟨_, rfl⟩ | exact rv_or _ | exact Or.inl rfl) ?_
      refine Ev_getA dX11_step_152 fX11_109 rf.1 (rr_useItem rf) ?_
      refine Ev_iload_n dX11_step_155 rfl ?_
      refine Ev_dup2 dX11_step_156 (by first | rfl | exact okv_rv _) (by first | rfl | exact okv_rv _) ?_
      refine Ev_ialdE _ dX11_step_157 (rk_useItem rf) (rl_useItem rf) (hi_n (by omega)) (by omega) e59_ ?_
      refine Ev_iconst (v := nI 1) dX11_step_158 (by decide) ?_
      refine Ev_iaddN dX11_step_159 ?_
      refine Ev_iastL _ dX11_step_160 (rk_useItem rf) (rl_useItem rf) (hi_n (by omega)) (by omega) ?_
      refine Ev_iload dX11_step_161 rfl ?_
      refine Ev_bipush (v := nI 7) dX11_step_163 (by decide) ?_
      refine Ev_icmp_neN 175 dX11_step_165 (by decide) (by omega) (by omega) (fun zb165_ => ?_) (fun zb165_ => ?_)
      · refine Ev_iload dX11_step_175 rfl ?_
        refine Ev_bipush (v := nI 6) dX11_step_177 (by decide) ?_
        refine Ev_icmp_neN 217 dX11_step_179 (by decide) (by omega) (by omega) (fun zb179_ => ?_) (fun zb179_ => ?_)
        · refine Ev_iload dX11_step_217 rfl ?_
          refine Ev_iconst (v := nI 5) dX11_step_219 (by decide) ?_
          refine Ev_icmp_gtN 232 dX11_step_220 (by decide) (by omega) (by omega) (fun zb220_ => ?_) (fun zb220_ => ?_)
          · exact False.elim (by omega)
          · refine Ev_aload_n dX11_step_223 rfl (by first | exact Or.inr ⟨_, rfl⟩ | exact rv_or _ | exact Or.inl rfl) ?_
            refine Ev_getA dX11_step_224 fX11_115 rf.1 (rr_isLeft rf) ?_
            refine Ev_iload_n dX11_step_227 rfl ?_
            refine Ev_zaldE _ dX11_step_228 (rk_isLeft rf) (rl_isLeft rf) (hi_n (by omega)) (by omega) ((gX_X _ (by decide)).trans e61_) ?_
            refine Ev_if_eqB 233 dX11_step_229 (by decide) (fun zb229_ => ?_) (fun zb229_ => ?_)
            · exact absurd zb229_ (by decide)
            · refine Ev_vret dX11_step_232 rfl ?_
              exact ⟨rfl, rfl⟩
        · exact False.elim (by omega)
      · exact False.elim (by omega)
    · exact False.elim (by omega)
  · exact absurd (by decide) zb27_
theorem ev_step_5 (l : Launch) (G : aG) (m : Md) (ru : Nat → List It) (fs : List Frm) (c i u : Nat) (ps : List Pc) (h : aH) (rf : Rf h) (mk : MOk m) (rm : RM m h) (ru_ : RRu ru h) (kn_ : RKn u ps h) (sk_ : RSk m (fs ++ [(c, i, none, false)]) h) (it : It) (hit_ : (ru (mKd m c))[i]? = some it) (hs_ : it.1 = 5) : Ev l G 3 0 0 mX11_step 0 (en 6 [.ref MO]) [] h (Ex none (sX (sX h 59 fs.length (nI (i + 1))) 60 fs.length (nI 0))) := by
  have eo_ := sk_.end.1
  have o6_ := sk_.end.2.1
  have hc : mLive m c := sk_.end.2.2.1
  have i20_ : i ≤ 20 := sk_.end.2.2.2.1
  have e58_ : hX h 58 fs.length = nI (mSl m c) := sk_.end.2.2.2.2.2.1
  have e59_ : hX h 59 fs.length = nI i := sk_.end.2.2.2.2.2.2.1
  have e60_ : hX h 60 fs.length = -1 := sk_.end.2.2.2.2.2.2.2.1
  have e61_ : hX h 61 fs.length = bI false := sk_.end.2.2.2.2.2.2.2.2
  have rt1_ := rm.2.2.1 c hc
  have sl_ := mk.sl hc
  have hkd_ := (mk.2.1 c (mk.lt hc)).2.1
  obtain ⟨r20_, ri_, rit_⟩ := ru_ (mKd m c) hkd_
  have hil_ := (List.getElem?_eq_some_iff.mp hit_).1
  obtain ⟨iok_, on, tw, es_, e1_, e2_, iw_⟩ := rit_ i it hit_
  have i7_ := iok_.1
  refine Ev_aload_n dX11_step_0 rfl (by first | exact Or.inr ⟨_, rfl⟩ | exact rv_or _ | exact Or.inl rfl) ?_
  refine Ev_getE dX11_step_1 fX11_200 rf.1 eo_ ?_
  refine Ev_iconst (v := nI 1) dX11_step_4 (by decide) ?_
  refine Ev_isubN dX11_step_5 (by omega) ?_
  refine Ev_top (y := .int (nI fs.length)) (by rw [Nat.add_sub_cancel]) ?_
  refine Ev_istore_n dX11_step_6 (by decide) ?_
  refine Ev_aload_n dX11_step_7 rfl (by first | exact Or.inr ⟨_, rfl⟩ | exact rv_or _ | exact Or.inl rfl) ?_
  refine Ev_getA dX11_step_8 fX11_106 rf.1 (rr_useThing rf) ?_
  refine Ev_iload_n dX11_step_11 rfl ?_
  refine Ev_ialdE _ dX11_step_12 (rk_useThing rf) (rl_useThing rf) (hi_n (by omega)) (by omega) e58_ ?_
  refine Ev_istore_n dX11_step_13 (by decide) ?_
  refine Ev_aload_n dX11_step_14 rfl (by first | exact Or.inr ⟨_, rfl⟩ | exact rv_or _ | exact Or.inl rfl) ?_
  refine Ev_getA dX11_step_15 fX11_13 rf.1 (rr_kind rf) ?_
  refine Ev_iload_n dX11_step_18 rfl ?_
  refine Ev_ialdE _ dX11_step_19 (rk_kind rf) (rl_kind rf) (hi_n (by omega)) (by omega) rt1_.1 ?_
  refine Ev_istore_n dX11_step_20 (by decide) ?_
  refine Ev_aload_n dX11_step_21 rfl (by first | exact Or.inr ⟨_, rfl⟩ | exact rv_or _ | exact Or.inl rfl) ?_
  refine Ev_getA dX11_step_22 fX11_112 rf.1 (rr_useChild rf) ?_
  refine Ev_iload_n dX11_step_25 rfl ?_
  refine Ev_ialdE _ dX11_step_26 (rk_useChild rf) (rl_useChild rf) (hi_n (by omega)) (by omega) e60_ ?_
  refine Ev_if_ltT 103 dX11_step_27 (by decide) (fun zb27_ => ?_) (fun zb27_ => ?_)
  · refine Ev_aload_n dX11_step_103 rfl (by first | exact Or.inr ⟨_, rfl⟩ | exact rv_or _ | exact Or.inl rfl) ?_
    refine Ev_getA dX11_step_104 fX11_109 rf.1 (rr_useItem rf) ?_
    refine Ev_iload_n dX11_step_107 rfl ?_
    refine Ev_ialdE _ dX11_step_108 (rk_useItem rf) (rl_useItem rf) (hi_n (by omega)) (by omega) e59_ ?_
    refine Ev_aload_n dX11_step_109 rfl (by first | exact Or.inr ⟨_, rfl⟩ | exact rv_or _ | exact Or.inl rfl) ?_
    refine Ev_getA dX11_step_110 fX11_31 rf.1 (rr_items rf) ?_
    refine Ev_iload_n dX11_step_113 rfl ?_
    refine Ev_ialdE _ dX11_step_114 (rk_items rf) (rl_items rf) (hi_n (by omega)) (by omega) ri_ ?_
    refine Ev_icmp_neN 129 dX11_step_115 (by decide) (by omega) (by omega) (fun zb115_ => ?_) (fun zb115_ => ?_)
    · refine Ev_aload_n dX11_step_129 rfl (by first | exact Or.inr ⟨_, rfl⟩ | exact rv_or _ | exact Or.inl rfl) ?_
      refine Ev_getA dX11_step_130 fX11_109 rf.1 (rr_useItem rf) ?_
      refine Ev_iload_n dX11_step_133 rfl ?_
      refine Ev_ialdE _ dX11_step_134 (rk_useItem rf) (rl_useItem rf) (hi_n (by omega)) (by omega) e59_ ?_
      refine Ev_istore dX11_step_135 (by decide) ?_
      refine Ev_aload_n dX11_step_137 rfl (by first | exact Or.inr ⟨_, rfl⟩ | exact rv_or _ | exact Or.inl rfl) ?_
      refine Ev_getA dX11_step_138 fX11_34 rf.1 (rr_sort rf) ?_
      refine Ev_bipush (v := nI 20) dX11_step_141 (by decide) ?_
      refine Ev_iload_n dX11_step_143 rfl ?_
      refine Ev_imulN dX11_step_144 ?_
      refine Ev_iload dX11_step_145 rfl ?_
      refine Ev_iaddN dX11_step_147 ?_
      refine Ev_ialdE _ dX11_step_148 (rk_sort rf) (rl_sort rf) (hi_n (by omega)) (by omega) es_ ?_
      refine Ev_istore dX11_step_149 (by decide) ?_
      refine Ev_aload_n dX11_step_151 rfl (by first | exact Or.inr ⟨_, rfl⟩ | exact rv_or _ | exact Or.inl rfl) ?_
      refine Ev_getA dX11_step_152 fX11_109 rf.1 (rr_useItem rf) ?_
      refine Ev_iload_n dX11_step_155 rfl ?_
      refine Ev_dup2 dX11_step_156 (by first | rfl | exact okv_rv _) (by first | rfl | exact okv_rv _) ?_
      refine Ev_ialdE _ dX11_step_157 (rk_useItem rf) (rl_useItem rf) (hi_n (by omega)) (by omega) e59_ ?_
      refine Ev_iconst (v := nI 1) dX11_step_158 (by decide) ?_
      refine Ev_iaddN dX11_step_159 ?_
      refine Ev_iastL _ dX11_step_160 (rk_useItem rf) (rl_useItem rf) (hi_n (by omega)) (by omega) ?_
      refine Ev_iload dX11_step_161 rfl ?_
      refine Ev_bipush (v := nI 7) dX11_step_163 (by decide) ?_
      refine Ev_icmp_neN 175 dX11_step_165 (by decide) (by omega) (by omega) (fun zb165_ => ?_) (fun zb165_ => ?_)
      · refine Ev_iload dX11_step_175 rfl ?_
        refine Ev_bipush (v := nI 6) dX11_step_177 (by decide) ?_
        refine Ev_icmp_neN 217 dX11_step_179 (by decide) (by omega) (by omega) (fun zb179_ => ?_) (fun zb179_ => ?_)
        · refine Ev_iload dX11_step_217 rfl ?_
          refine Ev_iconst (v := nI 5) dX11_step_219 (by decide) ?_
          refine Ev_icmp_gtN 232 dX11_step_220 (by decide) (by omega) (by omega) (fun zb220_ => ?_) (fun zb220_ => ?_)
          · exact False.elim (by omega)
          · refine Ev_aload_n dX11_step_223 rfl (by first | exact Or.inr ⟨_, rfl⟩ | exact rv_or _ | exact Or.inl rfl) ?_
            refine Ev_getA dX11_step_224 fX11_115 rf.1 (rr_isLeft rf) ?_
            refine Ev_iload_n dX11_step_227 rfl ?_
            refine Ev_zaldE _ dX11_step_228 (rk_isLeft rf) (rl_isLeft rf) (hi_n (by omega)) (by omega) ((gX_X _ (by decide)).trans e61_) ?_
            refine Ev_if_eqB 233 dX11_step_229 (by decide) (fun zb229_ => ?_) (fun zb229_ => ?_)
            · refine Ev_iload dX11_step_233 rfl ?_
              refine Ev_iconst (v := nI 5) dX11_step_235 (by decide) ?_
              refine Ev_icmp_neN 249 dX11_step_236 (by decide) (by omega) (by omega) (fun zb236_ => ?_) (fun zb236_ => ?_)
              · exact False.elim (by omega)
              · refine Ev_aload_n dX11_step_239 rfl (by first | exact Or.inr ⟨_, rfl⟩ | exact rv_or _ | exact Or.inl rfl) ?_
                refine Ev_getA dX11_step_240 fX11_112 rf.1 (rr_useChild rf) ?_
                refine Ev_iload_n dX11_step_243 rfl ?_
                refine Ev_iconst (v := nI 0) dX11_step_244 (by decide) ?_
                refine Ev_iastL _ dX11_step_245 (rk_useChild rf) (rl_useChild rf) (hi_n (by omega)) (by omega) ?_
                refine Ev_goto 256 dX11_step_246 (by decide) ?_
                refine Ev_vret dX11_step_256 rfl ?_
                exact ⟨rfl, rfl⟩
            · exact absurd zb229_ (by decide)
        · exact False.elim (by omega)
      · exact False.elim (by omega)
    · exact False.elim (by omega)
  · exact absurd (by decide) zb27_
theorem mdF_len {m : Md} (k : MOk m) {c : Nat} (hc : mLive m c) {it : It} (ok : itOk it) : (mdF m c it).length ≤ 120 := by
  have h1 := (k.2.2.1 c hc).2.1.2
  unfold mdF
  split
  · rename_i z
    exact (ok.2.2.2.2.1 z).2
  · split
    · omega
    · split
      · rw [digs_len]; have := lg_le (nuV m c it.2.1); omega
      · split
        · rw [digs_len]; have := lg_le (nuV m c it.2.1 + nuV m c it.2.2.1); omega
        · simp
theorem mkP_B {m : Md} (k : MOk m) {fs : List Frm} {c i : Nat} {it : It} (hcm : mCm m ≤ 600) (hc : mLive m c) (ok : itOk it) (h4 : it.1 ≤ 4) (hi : i < 20) (hl : fs.length < 6) (hf : ∀ f ∈ fs, mLive m f.1 ∧ f.2.1 ≤ 20) : PcB (mkP m (fs.map (fun f => f.1)) (fs.map (fun f => f.2.1 - 1)) c i it) := by
  have h1 := (k.2.1 c (k.lt hc))
  refine ⟨?_, ?_, ?_, hi, h4, fun z => ok.2.1 (Or.inl z), mdF_len k hc ok, h1.2.1, k.sl hc, fun x hx => ?_, fun x hx => ?_, fun hb z => by cases z⟩
  · show 1 ≤ (fs.map (fun f => f.1) ++ [c]).length; simp
  · show (fs.map (fun f => f.1) ++ [c]).length ≤ 6; simp; omega
  · show (fs.map (fun f => f.2.1 - 1)).length + 1 = (fs.map (fun f => f.1) ++ [c]).length; simp
  · obtain ⟨f, h2, rfl⟩ := List.mem_map.mp (show x ∈ fs.map (fun f => f.2.1 - 1) from hx)
    have := (hf f h2).2
    omega
  · rcases List.mem_append.mp (show x ∈ fs.map (fun f => f.1) ++ [c] from hx) with h2 | h2
    · obtain ⟨f, h3, rfl⟩ := List.mem_map.mp h2
      have := k.lt (hf f h3).1
      omega
    · rw [List.mem_singleton.mp h2]
      have := k.lt hc
      omega
theorem getD_map {fs : List Frm} {g : Frm → Nat} {k : Nat} {f : Frm} (h : fs[k]? = some f) : (fs.map g).getD k 0 = g f := by
  rw [List.getD_eq_getElem?_getD, List.getElem?_map, h]; rfl
theorem RSk.way {m : Md} {gs : List Frm} {h : aH} (r : RSk m gs h) (h1 : ∀ g ∈ gs, 1 ≤ g.2.1) : ∀ k, k < (gs.map (fun f => f.1)).length → hX h 58 k = nI (mSl m ((gs.map (fun f => f.1)).getD k 0)) ∧ mLive m ((gs.map (fun f => f.1)).getD k 0) ∧ hX h 59 k = nI ((gs.map (fun f => f.2.1 - 1)).getD k 0 + 1) := by
  intro k hk
  rw [List.length_map] at hk
  have hg := List.getElem?_eq_getElem hk
  obtain ⟨a1, a2, a3, a4, a5, a6, a7⟩ := r.2.2 k _ hg
  rw [getD_map hg, getD_map hg]
  have := h1 _ (List.mem_of_getElem? hg)
  refine ⟨a4, a1, ?_⟩
  rw [a5]; congr 1; omega
theorem RSk.nx {m : Md} {fs : List Frm} {c i : Nat} {ch : Option Nat} {lf : Bool} {h : aH} (r : RSk m (fs ++ [(c, i, ch, lf)]) h) (hi : i < 20) : RSk m (fs ++ [(c, i + 1, ch, lf)]) (sX h 59 fs.length (nI (i + 1))) := by
  refine r.top rfl (show i + 1 ≤ 20 by omega) r.end.2.2.2.2.1 rfl ?_ ?_ ?_ ?_
  · exact hX_o _ _ (by decide)
  · exact hX_up _ _ _ _
  · rw [up1_id r.end.2.2.2.2.2.2.2.1]; exact hX_o _ _ (by decide)
  · rw [up1_id r.end.2.2.2.2.2.2.2.2]; exact hX_o _ _ (by decide)
theorem ev_step_p (l : Launch) (G : aG) (m : Md) (ru : Nat → List It) (fs : List Frm) (c i u : Nat) (ps : List Pc) (h : aH) (rf : Rf h) (mk : MOk m) (rm : RM m h) (ru_ : RRu ru h) (kn_ : RKn u ps h) (sk_ : RSk m (fs ++ [(c, i, none, false)]) h) (it : It) (hit_ : (ru (mKd m c))[i]? = some it) (hs_ : it.1 ≤ 4) (hf1_ : ∀ f ∈ fs, 1 ≤ f.2.1) : Ev l G 3 0 0 mX11_step 0 (en 6 [.ref MO]) [] h (fun x h' => x = none ∧ FN (sX h 59 fs.length (nI (i + 1))) h' ∧ Fr [800, 812] [42, 43, 44, 45, 46, 47, 48, 49, 50, 51, 52, 53, 57] (sX h 59 fs.length (nI (i + 1))) h' ∧ ((stE (u, ps) (some (mkP m (fs.map (fun f => f.1)) (fs.map (fun f => f.2.1 - 1)) c i it)) = some (u, ps ++ [(mkP m (fs.map (fun f => f.1)) (fs.map (fun f => f.2.1 - 1)) c i it)]) ∧ RKn u (ps ++ [(mkP m (fs.map (fun f => f.1)) (fs.map (fun f => f.2.1 - 1)) c i it)]) h') ∨ (stE (u, ps) (some (mkP m (fs.map (fun f => f.1)) (fs.map (fun f => f.2.1 - 1)) c i it)) = none ∧ hI h' 812 MO = nI 1))) := by
  have eo_ := sk_.end.1
  have o6_ := sk_.end.2.1
  have hc : mLive m c := sk_.end.2.2.1
  have i20_ : i ≤ 20 := sk_.end.2.2.2.1
  have e58_ : hX h 58 fs.length = nI (mSl m c) := sk_.end.2.2.2.2.2.1
  have e59_ : hX h 59 fs.length = nI i := sk_.end.2.2.2.2.2.2.1
  have e60_ : hX h 60 fs.length = -1 := sk_.end.2.2.2.2.2.2.2.1
  have e61_ : hX h 61 fs.length = bI false := sk_.end.2.2.2.2.2.2.2.2
  have rt1_ := rm.2.2.1 c hc
  have sl_ := mk.sl hc
  have hkd_ := (mk.2.1 c (mk.lt hc)).2.1
  obtain ⟨r20_, ri_, rit_⟩ := ru_ (mKd m c) hkd_
  have hil_ := (List.getElem?_eq_some_iff.mp hit_).1
  obtain ⟨iok_, on, tw, es_, e1_, e2_, iw_⟩ := rit_ i it hit_
  have i7_ := iok_.1
  have n1_ := sk_.nx (by omega)
  have hfl_ : ∀ f ∈ fs, mLive m f.1 ∧ f.2.1 ≤ 20 := fun f hf => by
    obtain ⟨k, hk⟩ := List.getElem?_of_mem hf
    have hkl := (List.getElem?_eq_some_iff.mp hk).1
    have := sk_.2.2 k f (by rw [List.getElem?_append, if_pos hkl]; exact hk)
    exact ⟨this.1, this.2.1⟩
  have hst_ := n1_.way (fun g hg => by
    rcases List.mem_append.mp hg with h2 | h2
    · exact hf1_ g h2
    · rw [List.mem_singleton.mp h2]; show 1 ≤ i + 1; omega)
  rw [List.map_append, List.map_append, show (List.map (fun f : Frm => f.1) [(c, i + 1, none, false)]) = [c] from rfl, show (List.map (fun f : Frm => f.2.1 - 1) [(c, i + 1, none, false)]) = [i] from rfl] at hst_
  have hwb_ : ∀ k, (fs.map (fun f : Frm => f.2.1 - 1) ++ [i]).getD k 0 < 1000 := fun k => by
    rw [List.getD_eq_getElem?_getD]
    cases hk : (fs.map (fun f : Frm => f.2.1 - 1) ++ [i])[k]? with
    | none => show 0 < 1000; omega
    | some x =>
      rcases List.mem_append.mp (List.mem_of_getElem? hk) with h2 | h2
      · obtain ⟨f, h3, rfl⟩ := List.mem_map.mp h2
        have := (hfl_ f h3).2
        show f.2.1 - 1 < 1000; omega
      · rw [List.mem_singleton.mp h2]; show i < 1000; omega
  refine Ev_aload_n dX11_step_0 rfl (by first | exact Or.inr ⟨_, rfl⟩ | exact rv_or _ | exact Or.inl rfl) ?_
  refine Ev_getE dX11_step_1 fX11_200 rf.1 eo_ ?_
  refine Ev_iconst (v := nI 1) dX11_step_4 (by decide) ?_
  refine Ev_isubN dX11_step_5 (by omega) ?_
  refine Ev_top (y := .int (nI fs.length)) (by rw [Nat.add_sub_cancel]) ?_
  refine Ev_istore_n dX11_step_6 (by decide) ?_
  refine Ev_aload_n dX11_step_7 rfl (by first | exact Or.inr ⟨_, rfl⟩ | exact rv_or _ | exact Or.inl rfl) ?_
  refine Ev_getA dX11_step_8 fX11_106 rf.1 (rr_useThing rf) ?_
  refine Ev_iload_n dX11_step_11 rfl ?_
  refine Ev_ialdE _ dX11_step_12 (rk_useThing rf) (rl_useThing rf) (hi_n (by omega)) (by omega) e58_ ?_
  refine Ev_istore_n dX11_step_13 (by decide) ?_
  refine Ev_aload_n dX11_step_14 rfl (by first | exact Or.inr ⟨_, rfl⟩ | exact rv_or _ | exact Or.inl rfl) ?_
  refine Ev_getA dX11_step_15 fX11_13 rf.1 (rr_kind rf) ?_
  refine Ev_iload_n dX11_step_18 rfl ?_
  refine Ev_ialdE _ dX11_step_19 (rk_kind rf) (rl_kind rf) (hi_n (by omega)) (by omega) rt1_.1 ?_
  refine Ev_istore_n dX11_step_20 (by decide) ?_
  refine Ev_aload_n dX11_step_21 rfl (by first | exact Or.inr ⟨_, rfl⟩ | exact rv_or _ | exact Or.inl rfl) ?_
  refine Ev_getA dX11_step_22 fX11_112 rf.1 (rr_useChild rf) ?_
  refine Ev_iload_n dX11_step_25 rfl ?_
  refine Ev_ialdE _ dX11_step_26 (rk_useChild rf) (rl_useChild rf) (hi_n (by omega)) (by omega) e60_ ?_
  refine Ev_if_ltT 103 dX11_step_27 (by decide) (fun zb27_ => ?_) (fun zb27_ => ?_)
  · refine Ev_aload_n dX11_step_103 rfl (by first | exact Or.inr ⟨_, rfl⟩ | exact rv_or _ | exact Or.inl rfl) ?_
    refine Ev_getA dX11_step_104 fX11_109 rf.1 (rr_useItem rf) ?_
    refine Ev_iload_n dX11_step_107 rfl ?_
    refine Ev_ialdE _ dX11_step_108 (rk_useItem rf) (rl_useItem rf) (hi_n (by omega)) (by omega) e59_ ?_
    refine Ev_aload_n dX11_step_109 rfl (by first | exact Or.inr ⟨_, rfl⟩ | exact rv_or _ | exact Or.inl rfl) ?_
    refine Ev_getA dX11_step_110 fX11_31 rf.1 (rr_items rf) ?_
    refine Ev_iload_n dX11_step_113 rfl ?_
    refine Ev_ialdE _ dX11_step_114 (rk_items rf) (rl_items rf) (hi_n (by omega)) (by omega) ri_ ?_
    refine Ev_icmp_neN 129 dX11_step_115 (by decide) (by omega) (by omega) (fun zb115_ => ?_) (fun zb115_ => ?_)
    · refine Ev_aload_n dX11_step_129 rfl (by first | exact Or.inr ⟨_, rfl⟩ | exact rv_or _ | exact Or.inl rfl) ?_
      refine Ev_getA dX11_step_130 fX11_109 rf.1 (rr_useItem rf) ?_
      refine Ev_iload_n dX11_step_133 rfl ?_
      refine Ev_ialdE _ dX11_step_134 (rk_useItem rf) (rl_useItem rf) (hi_n (by omega)) (by omega) e59_ ?_
      refine Ev_istore dX11_step_135 (by decide) ?_
      refine Ev_aload_n dX11_step_137 rfl (by first | exact Or.inr ⟨_, rfl⟩ | exact rv_or _ | exact Or.inl rfl) ?_
      refine Ev_getA dX11_step_138 fX11_34 rf.1 (rr_sort rf) ?_
      refine Ev_bipush (v := nI 20) dX11_step_141 (by decide) ?_
      refine Ev_iload_n dX11_step_143 rfl ?_
      refine Ev_imulN dX11_step_144 ?_
      refine Ev_iload dX11_step_145 rfl ?_
      refine Ev_iaddN dX11_step_147 ?_
      refine Ev_ialdE _ dX11_step_148 (rk_sort rf) (rl_sort rf) (hi_n (by omega)) (by omega) es_ ?_
      refine Ev_istore dX11_step_149 (by decide) ?_
      refine Ev_aload_n dX11_step_151 rfl (by first | exact Or.inr ⟨_, rfl⟩ | exact rv_or _ | exact Or.inl rfl) ?_
      refine Ev_getA dX11_step_152 fX11_109 rf.1 (rr_useItem rf) ?_
      refine Ev_iload_n dX11_step_155 rfl ?_
      refine Ev_dup2 dX11_step_156 (by first | rfl | exact okv_rv _) (by first | rfl | exact okv_rv _) ?_
      refine Ev_ialdE _ dX11_step_157 (rk_useItem rf) (rl_useItem rf) (hi_n (by omega)) (by omega) e59_ ?_
      refine Ev_iconst (v := nI 1) dX11_step_158 (by decide) ?_
      refine Ev_iaddN dX11_step_159 ?_
      refine Ev_iastL _ dX11_step_160 (rk_useItem rf) (rl_useItem rf) (hi_n (by omega)) (by omega) ?_
      refine Ev_iload dX11_step_161 rfl ?_
      refine Ev_bipush (v := nI 7) dX11_step_163 (by decide) ?_
      refine Ev_icmp_neN 175 dX11_step_165 (by decide) (by omega) (by omega) (fun zb165_ => ?_) (fun zb165_ => ?_)
      · refine Ev_iload dX11_step_175 rfl ?_
        refine Ev_bipush (v := nI 6) dX11_step_177 (by decide) ?_
        refine Ev_icmp_neN 217 dX11_step_179 (by decide) (by omega) (by omega) (fun zb179_ => ?_) (fun zb179_ => ?_)
        · refine Ev_iload dX11_step_217 rfl ?_
          refine Ev_iconst (v := nI 5) dX11_step_219 (by decide) ?_
          refine Ev_icmp_gtN 232 dX11_step_220 (by decide) (by omega) (by omega) (fun zb220_ => ?_) (fun zb220_ => ?_)
          · exact False.elim (by omega)
          · refine Ev_aload_n dX11_step_223 rfl (by first | exact Or.inr ⟨_, rfl⟩ | exact rv_or _ | exact Or.inl rfl) ?_
            refine Ev_getA dX11_step_224 fX11_115 rf.1 (rr_isLeft rf) ?_
            refine Ev_iload_n dX11_step_227 rfl ?_
            refine Ev_zaldE _ dX11_step_228 (rk_isLeft rf) (rl_isLeft rf) (hi_n (by omega)) (by omega) ((gX_X _ (by decide)).trans e61_) ?_
            refine Ev_if_eqB 233 dX11_step_229 (by decide) (fun zb229_ => ?_) (fun zb229_ => ?_)
            · refine Ev_iload dX11_step_233 rfl ?_
              refine Ev_iconst (v := nI 5) dX11_step_235 (by decide) ?_
              refine Ev_icmp_neN 249 dX11_step_236 (by decide) (by omega) (by omega) (fun zb236_ => ?_) (fun zb236_ => ?_)
              · refine Ev_aload_n dX11_step_249 rfl (by first | exact Or.inr ⟨_, rfl⟩ | exact rv_or _ | exact Or.inl rfl) ?_
                refine Ev_iload_n dX11_step_250 rfl ?_
                refine Ev_iload dX11_step_251 rfl ?_
                refine Ev_Vz [.int (nI (mSl m c)), .int (nI i)] dX11_step_253 vX11_makePiece kX11_219 rf.1 rfl rfl rfl (Nat.le_of_ble_eq_true rfl) (by omega) (ev_makePiece l G m (fs.map (fun f => f.1)) (fs.map (fun f => f.2.1 - 1)) c i u on tw it ps (sX h 59 fs.length (nI (i + 1))) rf mk (rm.fn (FN.stk (by decide))) hc (kn_.fr (Fr.row (ks := []) (as := [59]) (by decide)) (by decide) (by decide)) (by omega) ((gX_X _ (by decide)).trans es_) ((gX_X _ (by decide)).trans e1_) ((gX_X _ (by decide)).trans e2_) (by unfold itW; rw [hX_o _ _ (show 40 ≠ 59 by decide)]; exact iw_) iok_ hs_ (mkP_B mk rm.1 hc iok_ hs_ (by omega) o6_ hfl_) (by simp; omega) hst_ hwb_ ((gI_X _ _ _ _ _ _).trans (by rw [eo_]; simp))) (fun v_ h2 e_ => ?_)
                obtain ⟨rfl, e_⟩ := e_
                refine Ev_vret dX11_step_256 rfl ?_
                exact ⟨rfl, e_⟩
              · exact False.elim (by omega)
            · exact absurd zb229_ (by decide)
        · exact False.elim (by omega)
      · exact False.elim (by omega)
    · exact False.elim (by omega)
  · exact absurd (by decide) zb27_
theorem ev_step_c0 (l : Launch) (G : aG) (x : Nat) (m : Md) (ru : Nat → List It) (fs : List Frm) (c i u : Nat) (ps : List Pc) (h : aH) (rf : Rf h) (mk : MOk m) (rm : RM m h) (ru_ : RRu ru h) (kn_ : RKn u ps h) (sk_ : RSk m (fs ++ [(c, i, some x, false)]) h) (hx_ : (mCh m (some c))[x]? = none) : Ev l G 3 0 0 mX11_step 0 (en 6 [.ref MO]) [] h (Ex none (sX (sX h 60 fs.length (nI (x + 1))) 60 fs.length (-1))) := by
  have eo_ := sk_.end.1
  have o6_ := sk_.end.2.1
  have hc : mLive m c := sk_.end.2.2.1
  have i20_ : i ≤ 20 := sk_.end.2.2.2.1
  have e58_ : hX h 58 fs.length = nI (mSl m c) := sk_.end.2.2.2.2.2.1
  have e59_ : hX h 59 fs.length = nI i := sk_.end.2.2.2.2.2.2.1
  have e60_ : hX h 60 fs.length = nI x := sk_.end.2.2.2.2.2.2.2.1
  have e61_ : hX h 61 fs.length = bI false := sk_.end.2.2.2.2.2.2.2.2
  have rt1_ := rm.2.2.1 c hc
  have sl_ := mk.sl hc
  have hkd_ := (mk.2.1 c (mk.lt hc)).2.1
  obtain ⟨r20_, ri_, rit_⟩ := ru_ (mKd m c) hkd_
  have x24_ : x ≤ 24 := sk_.end.2.2.2.2.1 x rfl
  refine Ev_aload_n dX11_step_0 rfl (by first | exact Or.inr ⟨_, rfl⟩ | exact rv_or _ | exact Or.inl rfl) ?_
  refine Ev_getE dX11_step_1 fX11_200 rf.1 eo_ ?_
  refine Ev_iconst (v := nI 1) dX11_step_4 (by decide) ?_
  refine Ev_isubN dX11_step_5 (by omega) ?_
  refine Ev_top (y := .int (nI fs.length)) (by rw [Nat.add_sub_cancel]) ?_
  refine Ev_istore_n dX11_step_6 (by decide) ?_
  refine Ev_aload_n dX11_step_7 rfl (by first | exact Or.inr ⟨_, rfl⟩ | exact rv_or _ | exact Or.inl rfl) ?_
  refine Ev_getA dX11_step_8 fX11_106 rf.1 (rr_useThing rf) ?_
  refine Ev_iload_n dX11_step_11 rfl ?_
  refine Ev_ialdE _ dX11_step_12 (rk_useThing rf) (rl_useThing rf) (hi_n (by omega)) (by omega) e58_ ?_
  refine Ev_istore_n dX11_step_13 (by decide) ?_
  refine Ev_aload_n dX11_step_14 rfl (by first | exact Or.inr ⟨_, rfl⟩ | exact rv_or _ | exact Or.inl rfl) ?_
  refine Ev_getA dX11_step_15 fX11_13 rf.1 (rr_kind rf) ?_
  refine Ev_iload_n dX11_step_18 rfl ?_
  refine Ev_ialdE _ dX11_step_19 (rk_kind rf) (rl_kind rf) (hi_n (by omega)) (by omega) rt1_.1 ?_
  refine Ev_istore_n dX11_step_20 (by decide) ?_
  refine Ev_aload_n dX11_step_21 rfl (by first | exact Or.inr ⟨_, rfl⟩ | exact rv_or _ | exact Or.inl rfl) ?_
  refine Ev_getA dX11_step_22 fX11_112 rf.1 (rr_useChild rf) ?_
  refine Ev_iload_n dX11_step_25 rfl ?_
  refine Ev_ialdE _ dX11_step_26 (rk_useChild rf) (rl_useChild rf) (hi_n (by omega)) (by omega) e60_ ?_
  refine Ev_if_ltT 103 dX11_step_27 (by decide) (fun zb27_ => ?_) (fun zb27_ => ?_)
  · exact absurd zb27_ (by rw [hi_n (by omega)]; omega)
  · refine Ev_aload_n dX11_step_30 rfl (by first | exact Or.inr ⟨_, rfl⟩ | exact rv_or _ | exact Or.inl rfl) ?_
    refine Ev_iload_n dX11_step_31 rfl ?_
    refine Ev_aload_n dX11_step_32 rfl (by first | exact Or.inr ⟨_, rfl⟩ | exact rv_or _ | exact Or.inl rfl) ?_
    refine Ev_getA dX11_step_33 fX11_112 rf.1 (rr_useChild rf) ?_
    refine Ev_iload_n dX11_step_36 rfl ?_
    refine Ev_ialdE _ dX11_step_37 (rk_useChild rf) (rl_useChild rf) (hi_n (by omega)) (by omega) e60_ ?_
    refine Ev_V0 [.int (nI (mSl m c)), .int (nI x)] dX11_step_38 vX11_childAt kX11_212 rf.1 rfl rfl rfl (Nat.le_of_ble_eq_true rfl) (by omega) (ev_childAt l G _ _ h rf) ?_
    rw [show fstF (pcB h (nI (mSl m c)) (nI x)) 24 0 = ((mCh m (some c))[x]?).map (mSl m) from rm.child mk (p := some c) (fun q hq => by cases hq; exact hc) (by omega), hx_]
    refine Ev_top (y := .int (-1)) rfl ?_
    refine Ev_istore dX11_step_41 (by decide) ?_
    refine Ev_aload_n dX11_step_43 rfl (by first | exact Or.inr ⟨_, rfl⟩ | exact rv_or _ | exact Or.inl rfl) ?_
    refine Ev_getA dX11_step_44 fX11_112 rf.1 (rr_useChild rf) ?_
    refine Ev_iload_n dX11_step_47 rfl ?_
    refine Ev_dup2 dX11_step_48 (by first | rfl | exact okv_rv _) (by first | rfl | exact okv_rv _) ?_
    refine Ev_ialdE _ dX11_step_49 (rk_useChild rf) (rl_useChild rf) (hi_n (by omega)) (by omega) e60_ ?_
    refine Ev_iconst (v := nI 1) dX11_step_50 (by decide) ?_
    refine Ev_iaddN dX11_step_51 ?_
    refine Ev_iastL _ dX11_step_52 (rk_useChild rf) (rl_useChild rf) (hi_n (by omega)) (by omega) ?_
    refine Ev_iload dX11_step_53 rfl ?_
    refine Ev_if_geT 68 dX11_step_55 (by decide) (fun zb55_ => ?_) (fun zb55_ => ?_)
    · exact absurd zb55_ (by decide)
    · refine Ev_aload_n dX11_step_58 rfl (by first | exact Or.inr ⟨_, rfl⟩ | exact rv_or _ | exact Or.inl rfl) ?_
      refine Ev_getA dX11_step_59 fX11_112 rf.1 (rr_useChild rf) ?_
      refine Ev_iload_n dX11_step_62 rfl ?_
      refine Ev_iconst (v := -1) dX11_step_63 (by decide) ?_
      refine Ev_iastL _ dX11_step_64 (rk_useChild rf) (rl_useChild rf) (hi_n (by omega)) (by omega) ?_
      refine Ev_goto 102 dX11_step_65 (by decide) ?_
      refine Ev_vret dX11_step_102 rfl ?_
      exact ⟨rfl, rfl⟩
theorem ev_step_c1 (l : Launch) (G : aG) (x : Nat) (m : Md) (ru : Nat → List It) (fs : List Frm) (c i u : Nat) (ps : List Pc) (h : aH) (rf : Rf h) (mk : MOk m) (rm : RM m h) (ru_ : RRu ru h) (kn_ : RKn u ps h) (sk_ : RSk m (fs ++ [(c, i, some x, false)]) h) (y : Nat) (hx_ : (mCh m (some c))[x]? = some y) (it : It) (h1_ : 1 ≤ i) (hit_ : (ru (mKd m c))[i - 1]? = some it) (hs_ : it.1 = 5) (hk_ : ¬ mKd m y = it.2.1) : Ev l G 3 0 0 mX11_step 0 (en 6 [.ref MO]) [] h (Ex none (sX h 60 fs.length (nI (x + 1)))) := by
  have eo_ := sk_.end.1
  have o6_ := sk_.end.2.1
  have hc : mLive m c := sk_.end.2.2.1
  have i20_ : i ≤ 20 := sk_.end.2.2.2.1
  have e58_ : hX h 58 fs.length = nI (mSl m c) := sk_.end.2.2.2.2.2.1
  have e59_ : hX h 59 fs.length = nI i := sk_.end.2.2.2.2.2.2.1
  have e60_ : hX h 60 fs.length = nI x := sk_.end.2.2.2.2.2.2.2.1
  have e61_ : hX h 61 fs.length = bI false := sk_.end.2.2.2.2.2.2.2.2
  have rt1_ := rm.2.2.1 c hc
  have sl_ := mk.sl hc
  have hkd_ := (mk.2.1 c (mk.lt hc)).2.1
  obtain ⟨r20_, ri_, rit_⟩ := ru_ (mKd m c) hkd_
  have x24_ : x ≤ 24 := sk_.end.2.2.2.2.1 x rfl
  have hy_ := ((mk.2.2.2.1 (some c) y).mp (List.mem_of_getElem? hx_))
  have hp_ := hy_.2
  have hy_ := hy_.1
  have sy_ := mk.sl hy_
  have ky_ := (mk.2.1 y (mk.lt hy_)).2.1
  obtain ⟨iok_, on, tw, es_, e1_, e2_, iw_⟩ := rit_ (i - 1) it hit_
  rw [(iw_.2 (by omega)).1, show 20 * mKd m c + (i - 1) = 20 * mKd m c + i - 1 by omega] at e1_
  have k8_ := iok_.2.2.2.1 hs_
  refine Ev_aload_n dX11_step_0 rfl (by first | exact Or.inr ⟨_, rfl⟩ | exact rv_or _ | exact Or.inl rfl) ?_
  refine Ev_getE dX11_step_1 fX11_200 rf.1 eo_ ?_
  refine Ev_iconst (v := nI 1) dX11_step_4 (by decide) ?_
  refine Ev_isubN dX11_step_5 (by omega) ?_
  refine Ev_top (y := .int (nI fs.length)) (by rw [Nat.add_sub_cancel]) ?_
  refine Ev_istore_n dX11_step_6 (by decide) ?_
  refine Ev_aload_n dX11_step_7 rfl (by first | exact Or.inr ⟨_, rfl⟩ | exact rv_or _ | exact Or.inl rfl) ?_
  refine Ev_getA dX11_step_8 fX11_106 rf.1 (rr_useThing rf) ?_
  refine Ev_iload_n dX11_step_11 rfl ?_
  refine Ev_ialdE _ dX11_step_12 (rk_useThing rf) (rl_useThing rf) (hi_n (by omega)) (by omega) e58_ ?_
  refine Ev_istore_n dX11_step_13 (by decide) ?_
  refine Ev_aload_n dX11_step_14 rfl (by first | exact Or.inr ⟨_, rfl⟩ | exact rv_or _ | exact Or.inl rfl) ?_
  refine Ev_getA dX11_step_15 fX11_13 rf.1 (rr_kind rf) ?_
  refine Ev_iload_n dX11_step_18 rfl ?_
  refine Ev_ialdE _ dX11_step_19 (rk_kind rf) (rl_kind rf) (hi_n (by omega)) (by omega) rt1_.1 ?_
  refine Ev_istore_n dX11_step_20 (by decide) ?_
  refine Ev_aload_n dX11_step_21 rfl (by first | exact Or.inr ⟨_, rfl⟩ | exact rv_or _ | exact Or.inl rfl) ?_
  refine Ev_getA dX11_step_22 fX11_112 rf.1 (rr_useChild rf) ?_
  refine Ev_iload_n dX11_step_25 rfl ?_
  refine Ev_ialdE _ dX11_step_26 (rk_useChild rf) (rl_useChild rf) (hi_n (by omega)) (by omega) e60_ ?_
  refine Ev_if_ltT 103 dX11_step_27 (by decide) (fun zb27_ => ?_) (fun zb27_ => ?_)
  · exact absurd zb27_ (by rw [hi_n (by omega)]; omega)
  · refine Ev_aload_n dX11_step_30 rfl (by first | exact Or.inr ⟨_, rfl⟩ | exact rv_or _ | exact Or.inl rfl) ?_
    refine Ev_iload_n dX11_step_31 rfl ?_
    refine Ev_aload_n dX11_step_32 rfl (by first | exact Or.inr ⟨_, rfl⟩ | exact rv_or _ | exact Or.inl rfl) ?_
    refine Ev_getA dX11_step_33 fX11_112 rf.1 (rr_useChild rf) ?_
    refine Ev_iload_n dX11_step_36 rfl ?_
    refine Ev_ialdE _ dX11_step_37 (rk_useChild rf) (rl_useChild rf) (hi_n (by omega)) (by omega) e60_ ?_
    refine Ev_V0 [.int (nI (mSl m c)), .int (nI x)] dX11_step_38 vX11_childAt kX11_212 rf.1 rfl rfl rfl (Nat.le_of_ble_eq_true rfl) (by omega) (ev_childAt l G _ _ h rf) ?_
    rw [show fstF (pcB h (nI (mSl m c)) (nI x)) 24 0 = ((mCh m (some c))[x]?).map (mSl m) from rm.child mk (p := some c) (fun q hq => by cases hq; exact hc) (by omega), hx_]
    refine Ev_top (y := .int (nI (mSl m y))) rfl ?_
    refine Ev_istore dX11_step_41 (by decide) ?_
    refine Ev_aload_n dX11_step_43 rfl (by first | exact Or.inr ⟨_, rfl⟩ | exact rv_or _ | exact Or.inl rfl) ?_
    refine Ev_getA dX11_step_44 fX11_112 rf.1 (rr_useChild rf) ?_
    refine Ev_iload_n dX11_step_47 rfl ?_
    refine Ev_dup2 dX11_step_48 (by first | rfl | exact okv_rv _) (by first | rfl | exact okv_rv _) ?_
    refine Ev_ialdE _ dX11_step_49 (rk_useChild rf) (rl_useChild rf) (hi_n (by omega)) (by omega) e60_ ?_
    refine Ev_iconst (v := nI 1) dX11_step_50 (by decide) ?_
    refine Ev_iaddN dX11_step_51 ?_
    refine Ev_iastL _ dX11_step_52 (rk_useChild rf) (rl_useChild rf) (hi_n (by omega)) (by omega) ?_
    refine Ev_iload dX11_step_53 rfl ?_
    refine Ev_if_geT 68 dX11_step_55 (by decide) (fun zb55_ => ?_) (fun zb55_ => ?_)
    · refine Ev_aload_n dX11_step_68 rfl (by first | exact Or.inr ⟨_, rfl⟩ | exact rv_or _ | exact Or.inl rfl) ?_
      refine Ev_getA dX11_step_69 fX11_13 rf.1 (rr_kind rf) ?_
      refine Ev_iload dX11_step_72 rfl ?_
      refine Ev_ialdE _ dX11_step_74 (rk_kind rf) (rl_kind rf) (hi_n (by omega)) (by omega) ((gX_X _ (by decide)).trans (rm.2.2.1 y hy_).1) ?_
      refine Ev_aload_n dX11_step_75 rfl (by first | exact Or.inr ⟨_, rfl⟩ | exact rv_or _ | exact Or.inl rfl) ?_
      refine Ev_getA dX11_step_76 fX11_37 rf.1 (rr_one rf) ?_
      refine Ev_bipush (v := nI 20) dX11_step_79 (by decide) ?_
      refine Ev_iload_n dX11_step_81 rfl ?_
      refine Ev_imulN dX11_step_82 ?_
      refine Ev_aload_n dX11_step_83 rfl (by first | exact Or.inr ⟨_, rfl⟩ | exact rv_or _ | exact Or.inl rfl) ?_
      refine Ev_getA dX11_step_84 fX11_109 rf.1 (rr_useItem rf) ?_
      refine Ev_iload_n dX11_step_87 rfl ?_
      refine Ev_ialdE _ dX11_step_88 (rk_useItem rf) (rl_useItem rf) (hi_n (by omega)) (by omega) ((gX_X _ (by decide)).trans e59_) ?_
      refine Ev_iaddN dX11_step_89 ?_
      refine Ev_iconst (v := nI 1) dX11_step_90 (by decide) ?_
      refine Ev_isubN dX11_step_91 (by omega) ?_
      refine Ev_ialdE _ dX11_step_92 (rk_one rf) (rl_one rf) (hi_n (by omega)) (by omega) ((gX_X _ (by decide)).trans e1_) ?_
      refine Ev_icmp_neN 102 dX11_step_93 (by decide) (by omega) (by omega) (fun zb93_ => ?_) (fun zb93_ => ?_)
      · refine Ev_vret dX11_step_102 rfl ?_
        exact ⟨rfl, rfl⟩
      · exact False.elim (by omega)
    · exact absurd (show (0 : Int) ≤ _ by rw [hi_n (by omega)]; omega) zb55_
theorem ev_step_c2 (l : Launch) (G : aG) (x : Nat) (m : Md) (ru : Nat → List It) (fs : List Frm) (c i u : Nat) (ps : List Pc) (h : aH) (rf : Rf h) (mk : MOk m) (rm : RM m h) (ru_ : RRu ru h) (kn_ : RKn u ps h) (sk_ : RSk m (fs ++ [(c, i, some x, false)]) h) (y : Nat) (hx_ : (mCh m (some c))[x]? = some y) (it : It) (h1_ : 1 ≤ i) (hit_ : (ru (mKd m c))[i - 1]? = some it) (hs_ : it.1 = 5) (hk_ : mKd m y = it.2.1) (hd_ : fs.length + 1 < 6) : Ev l G 3 0 0 mX11_step 0 (en 6 [.ref MO]) [] h (Ex none (bgH (sX h 60 fs.length (nI (x + 1))) u (fs.length + 1) (nI (mSl m y)))) := by
  have eo_ := sk_.end.1
  have o6_ := sk_.end.2.1
  have hc : mLive m c := sk_.end.2.2.1
  have i20_ : i ≤ 20 := sk_.end.2.2.2.1
  have e58_ : hX h 58 fs.length = nI (mSl m c) := sk_.end.2.2.2.2.2.1
  have e59_ : hX h 59 fs.length = nI i := sk_.end.2.2.2.2.2.2.1
  have e60_ : hX h 60 fs.length = nI x := sk_.end.2.2.2.2.2.2.2.1
  have e61_ : hX h 61 fs.length = bI false := sk_.end.2.2.2.2.2.2.2.2
  have rt1_ := rm.2.2.1 c hc
  have sl_ := mk.sl hc
  have hkd_ := (mk.2.1 c (mk.lt hc)).2.1
  obtain ⟨r20_, ri_, rit_⟩ := ru_ (mKd m c) hkd_
  have x24_ : x ≤ 24 := sk_.end.2.2.2.2.1 x rfl
  have hy_ := ((mk.2.2.2.1 (some c) y).mp (List.mem_of_getElem? hx_))
  have hp_ := hy_.2
  have hy_ := hy_.1
  have sy_ := mk.sl hy_
  have ky_ := (mk.2.1 y (mk.lt hy_)).2.1
  obtain ⟨iok_, on, tw, es_, e1_, e2_, iw_⟩ := rit_ (i - 1) it hit_
  rw [(iw_.2 (by omega)).1, show 20 * mKd m c + (i - 1) = 20 * mKd m c + i - 1 by omega] at e1_
  have k8_ := iok_.2.2.2.1 hs_
  refine Ev_aload_n dX11_step_0 rfl (by first | exact Or.inr ⟨_, rfl⟩ | exact rv_or _ | exact Or.inl rfl) ?_
  refine Ev_getE dX11_step_1 fX11_200 rf.1 eo_ ?_
  refine Ev_iconst (v := nI 1) dX11_step_4 (by decide) ?_
  refine Ev_isubN dX11_step_5 (by omega) ?_
  refine Ev_top (y := .int (nI fs.length)) (by rw [Nat.add_sub_cancel]) ?_
  refine Ev_istore_n dX11_step_6 (by decide) ?_
  refine Ev_aload_n dX11_step_7 rfl (by first | exact Or.inr ⟨_, rfl⟩ | exact rv_or _ | exact Or.inl rfl) ?_
  refine Ev_getA dX11_step_8 fX11_106 rf.1 (rr_useThing rf) ?_
  refine Ev_iload_n dX11_step_11 rfl ?_
  refine Ev_ialdE _ dX11_step_12 (rk_useThing rf) (rl_useThing rf) (hi_n (by omega)) (by omega) e58_ ?_
  refine Ev_istore_n dX11_step_13 (by decide) ?_
  refine Ev_aload_n dX11_step_14 rfl (by first | exact Or.inr ⟨_, rfl⟩ | exact rv_or _ | exact Or.inl rfl) ?_
  refine Ev_getA dX11_step_15 fX11_13 rf.1 (rr_kind rf) ?_
  refine Ev_iload_n dX11_step_18 rfl ?_
  refine Ev_ialdE _ dX11_step_19 (rk_kind rf) (rl_kind rf) (hi_n (by omega)) (by omega) rt1_.1 ?_
  refine Ev_istore_n dX11_step_20 (by decide) ?_
  refine Ev_aload_n dX11_step_21 rfl (by first | exact Or.inr ⟨_, rfl⟩ | exact rv_or _ | exact Or.inl rfl) ?_
  refine Ev_getA dX11_step_22 fX11_112 rf.1 (rr_useChild rf) ?_
  refine Ev_iload_n dX11_step_25 rfl ?_
  refine Ev_ialdE _ dX11_step_26 (rk_useChild rf) (rl_useChild rf) (hi_n (by omega)) (by omega) e60_ ?_
  refine Ev_if_ltT 103 dX11_step_27 (by decide) (fun zb27_ => ?_) (fun zb27_ => ?_)
  · exact absurd zb27_ (by rw [hi_n (by omega)]; omega)
  · refine Ev_aload_n dX11_step_30 rfl (by first | exact Or.inr ⟨_, rfl⟩ | exact rv_or _ | exact Or.inl rfl) ?_
    refine Ev_iload_n dX11_step_31 rfl ?_
    refine Ev_aload_n dX11_step_32 rfl (by first | exact Or.inr ⟨_, rfl⟩ | exact rv_or _ | exact Or.inl rfl) ?_
    refine Ev_getA dX11_step_33 fX11_112 rf.1 (rr_useChild rf) ?_
    refine Ev_iload_n dX11_step_36 rfl ?_
    refine Ev_ialdE _ dX11_step_37 (rk_useChild rf) (rl_useChild rf) (hi_n (by omega)) (by omega) e60_ ?_
    refine Ev_V0 [.int (nI (mSl m c)), .int (nI x)] dX11_step_38 vX11_childAt kX11_212 rf.1 rfl rfl rfl (Nat.le_of_ble_eq_true rfl) (by omega) (ev_childAt l G _ _ h rf) ?_
    rw [show fstF (pcB h (nI (mSl m c)) (nI x)) 24 0 = ((mCh m (some c))[x]?).map (mSl m) from rm.child mk (p := some c) (fun q hq => by cases hq; exact hc) (by omega), hx_]
    refine Ev_top (y := .int (nI (mSl m y))) rfl ?_
    refine Ev_istore dX11_step_41 (by decide) ?_
    refine Ev_aload_n dX11_step_43 rfl (by first | exact Or.inr ⟨_, rfl⟩ | exact rv_or _ | exact Or.inl rfl) ?_
    refine Ev_getA dX11_step_44 fX11_112 rf.1 (rr_useChild rf) ?_
    refine Ev_iload_n dX11_step_47 rfl ?_
    refine Ev_dup2 dX11_step_48 (by first | rfl | exact okv_rv _) (by first | rfl | exact okv_rv _) ?_
    refine Ev_ialdE _ dX11_step_49 (rk_useChild rf) (rl_useChild rf) (hi_n (by omega)) (by omega) e60_ ?_
    refine Ev_iconst (v := nI 1) dX11_step_50 (by decide) ?_
    refine Ev_iaddN dX11_step_51 ?_
    refine Ev_iastL _ dX11_step_52 (rk_useChild rf) (rl_useChild rf) (hi_n (by omega)) (by omega) ?_
    refine Ev_iload dX11_step_53 rfl ?_
    refine Ev_if_geT 68 dX11_step_55 (by decide) (fun zb55_ => ?_) (fun zb55_ => ?_)
    · refine Ev_aload_n dX11_step_68 rfl (by first | exact Or.inr ⟨_, rfl⟩ | exact rv_or _ | exact Or.inl rfl) ?_
      refine Ev_getA dX11_step_69 fX11_13 rf.1 (rr_kind rf) ?_
      refine Ev_iload dX11_step_72 rfl ?_
      refine Ev_ialdE _ dX11_step_74 (rk_kind rf) (rl_kind rf) (hi_n (by omega)) (by omega) ((gX_X _ (by decide)).trans (rm.2.2.1 y hy_).1) ?_
      refine Ev_aload_n dX11_step_75 rfl (by first | exact Or.inr ⟨_, rfl⟩ | exact rv_or _ | exact Or.inl rfl) ?_
      refine Ev_getA dX11_step_76 fX11_37 rf.1 (rr_one rf) ?_
      refine Ev_bipush (v := nI 20) dX11_step_79 (by decide) ?_
      refine Ev_iload_n dX11_step_81 rfl ?_
      refine Ev_imulN dX11_step_82 ?_
      refine Ev_aload_n dX11_step_83 rfl (by first | exact Or.inr ⟨_, rfl⟩ | exact rv_or _ | exact Or.inl rfl) ?_
      refine Ev_getA dX11_step_84 fX11_109 rf.1 (rr_useItem rf) ?_
      refine Ev_iload_n dX11_step_87 rfl ?_
      refine Ev_ialdE _ dX11_step_88 (rk_useItem rf) (rl_useItem rf) (hi_n (by omega)) (by omega) ((gX_X _ (by decide)).trans e59_) ?_
      refine Ev_iaddN dX11_step_89 ?_
      refine Ev_iconst (v := nI 1) dX11_step_90 (by decide) ?_
      refine Ev_isubN dX11_step_91 (by omega) ?_
      refine Ev_ialdE _ dX11_step_92 (rk_one rf) (rl_one rf) (hi_n (by omega)) (by omega) ((gX_X _ (by decide)).trans e1_) ?_
      refine Ev_icmp_neN 102 dX11_step_93 (by decide) (by omega) (by omega) (fun zb93_ => ?_) (fun zb93_ => ?_)
      · exact False.elim (by omega)
      · refine Ev_aload_n dX11_step_96 rfl (by first | exact Or.inr ⟨_, rfl⟩ | exact rv_or _ | exact Or.inl rfl) ?_
        refine Ev_iload dX11_step_97 rfl ?_
        refine Ev_V0 [.int (nI (mSl m y))] dX11_step_99 vX11_begin kX11_216 rf.1 rfl rfl rfl (Nat.le_of_ble_eq_true rfl) (by omega) (ev_begin l G _ u (fs.length + 1) kn_.2.2.1 hd_ (sX h 60 fs.length (nI (x + 1))) rf ((gI_X _ _ _ _ _ _).trans kn_.2.1) ((gI_X _ _ _ _ _ _).trans kn_.2.2.2.1) ((gI_X _ _ _ _ _ _).trans eo_)) ?_
        refine Ev_vret dX11_step_102 rfl ?_
        exact ⟨rfl, rfl⟩
    · exact absurd (show (0 : Int) ≤ _ by rw [hi_n (by omega)]; omega) zb55_
