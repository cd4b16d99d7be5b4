theorem t99999 : (nI 99999).toInt = 99999 := by decide
theorem t10 : (nI 10).toInt = 10 := by decide
theorem t13 : (nI 13).toInt = 13 := by decide
theorem t100 : (nI 100).toInt = 100 := by decide
theorem t2 : (nI 2).toInt = 2 := by decide
theorem as_nI {x : Int32} {n : Nat} (h : 0 ≤ x.toInt) (h2 : x.toInt ≤ n) : ∃ j : Nat, j ≤ n ∧ x = nI j := ⟨x.toInt.toNat, by omega, Int32.toInt_inj.mp (by
  have := fb_rng x
  rw [hi_n (by omega)]; omega)⟩
def isT (m : Md) (t : Int32) : Prop := ∃ c, mLive m c ∧ t = nI (mSl m c)
theorem isT_f {m : Md} {h : aH} {t : Int32} (r : RM m h) (k : MOk m) (q : isTh h t = false) : ¬ isT m t := fun z => by
  rw [(r.isTh k).mpr z] at q; cases q
def okNum (m : Md) (t j v : Int32) : Prop := isT m t ∧ (0 ≤ j.toInt ∧ j.toInt ≤ 3) ∧ (0 ≤ v.toInt ∧ v.toInt ≤ 99999)
theorem ev_number (l : Launch) (G : aG) (t j v : Int32) (m : Md) (h : aH) (rf : Rf h) (mk : MOk m) (rm : RM m h) : Ev l G 2 0 0 mX11_number 0 (en 4 [.ref MO, .int t, .int j, .int v]) [] h (fun x h' => (¬ okNum m t j v ∧ x = some (.int 0) ∧ h' = h) ∨ (∃ c jj, mLive m c ∧ jj < 4 ∧ t = nI (mSl m c) ∧ j = nI jj ∧ (0 ≤ v.toInt ∧ v.toInt ≤ 99999) ∧ x = some (.int 1) ∧ RM (sNu m c jj v) h' ∧ Fr [] [33] h h')) := by
  refine Ev_aload_n dX11_number_0 rfl (by first | exact Or.inr ⟨_, rfl⟩ | exact rv_or _ | exact Or.inl rfl) ?_
  refine Ev_iload_n dX11_number_1 rfl ?_
  refine Ev_V0 [.int t] dX11_number_2 vX11_isThing kX11_145 rf.1 rfl rfl rfl (by decide) (by omega) (ev_isThing l G _ _ rf) ?_
  refine Ev_if_eqB 27 dX11_number_5 (by decide) (fun zb5_ => ?_) (fun zb5_ => ?_)
  · have zt_ := isT_f rm mk zb5_
    refine Ev_iconst (v := nI 0) dX11_number_27 (by decide) ?_
    refine Ev_zret dX11_number_28 rfl (by decide) ?_
    first
    | exact Or.inl ⟨fun q => zt_ q.1, rfl, rfl⟩
    | exact Or.inl ⟨fun q => zj_ q.2.1, rfl, rfl⟩
    | exact Or.inl ⟨fun q => zv_ q.2.2, rfl, rfl⟩
  · obtain ⟨c, hc, rfl⟩ := (rm.isTh mk).mp zb5_
    have hs := mk.sl hc
    refine Ev_iload_n dX11_number_8 rfl ?_
    refine Ev_iconst (v := nI 0) dX11_number_9 (by decide) ?_
    refine Ev_iconst (v := nI 3) dX11_number_10 (by decide) ?_
    refine Ev_S0 [.int j, .int (nI 0), .int (nI 3)] dX11_number_11 sX11_isIn kX11_130 rfl rfl rfl (by decide) (by omega) (ev_isIn l G _ _ _ _) ?_
    refine Ev_if_eqB 27 dX11_number_14 (by decide) (fun zb14_ => ?_) (fun zb14_ => ?_)
    · have zj_ := inB_f t0 t3 zb14_
      refine Ev_iconst (v := nI 0) dX11_number_27 (by decide) ?_
      refine Ev_zret dX11_number_28 rfl (by decide) ?_
      first
      | exact Or.inl ⟨fun q => zt_ q.1, rfl, rfl⟩
      | exact Or.inl ⟨fun q => zj_ q.2.1, rfl, rfl⟩
      | exact Or.inl ⟨fun q => zv_ q.2.2, rfl, rfl⟩
    · have zj_ := inB_t t0 t3 zb14_
      obtain ⟨jj, hjj, rfl⟩ := as_nI (n := 3) zj_.1 zj_.2
      refine Ev_iload_n dX11_number_17 rfl ?_
      refine Ev_iconst (v := nI 0) dX11_number_18 (by decide) ?_
      refine Ev_ldc (v := 99999) dX11_number_19 cX11_165 ?_
      refine Ev_top (y := .int (nI 99999)) (by decide) ?_
      refine Ev_S0 [.int v, .int (nI 0), .int (nI 99999)] dX11_number_21 sX11_isIn kX11_130 rfl rfl rfl (by decide) (by omega) (ev_isIn l G _ _ _ _) ?_
      refine Ev_if_neB 29 dX11_number_24 (by decide) (fun zb24_ => ?_) (fun zb24_ => ?_)
      · have zv_ := inB_t t0 t99999 zb24_
        refine Ev_aload_n dX11_number_29 rfl (by first | exact Or.inr ⟨_, rfl⟩ | exact rv_or _ | exact Or.inl rfl) ?_
        refine Ev_getA dX11_number_30 fX11_22 rf.1 (rr_number rf) ?_
        refine Ev_iconst (v := nI 4) dX11_number_33 (by decide) ?_
        refine Ev_iload_n dX11_number_34 rfl ?_
        refine Ev_imulN dX11_number_35 ?_
        refine Ev_iload_n dX11_number_36 rfl ?_
        refine Ev_iaddN dX11_number_37 ?_
        refine Ev_iload_n dX11_number_38 rfl ?_
        refine Ev_iastL _ dX11_number_39 (rk_number rf) (rl_number rf) (hi_n (by omega)) (by omega) ?_
        refine Ev_iconst (v := nI 1) dX11_number_40 (by decide) ?_
        refine Ev_zret dX11_number_41 rfl (by decide) ?_
        exact Or.inr ⟨c, jj, hc, by omega, rfl, rfl, zv_, rfl, rm.nu mk hc (by omega), Fr.row (by decide)⟩
      · have zv_ := inB_f t0 t99999 zb24_
        refine Ev_iconst (v := nI 0) dX11_number_27 (by decide) ?_
        refine Ev_zret dX11_number_28 rfl (by decide) ?_
        first
        | exact Or.inl ⟨fun q => zt_ q.1, rfl, rfl⟩
        | exact Or.inl ⟨fun q => zj_ q.2.1, rfl, rfl⟩
        | exact Or.inl ⟨fun q => zv_ q.2.2, rfl, rfl⟩
theorem ev_name (l : Launch) (G : aG) (t : Int32) (tp : List Int32) (m : Md) (h : aH) (rf : Rf h) (mk : MOk m) (rm : RM m h) (rt_ : RTp tp h) : Ev l G 2 0 0 mX11_name 0 (en 2 [.ref MO, .int t]) [] h (fun x h' => (¬ (isT m t ∧ nmB tp = true) ∧ x = some (.int 0) ∧ h' = h) ∨ (∃ c, mLive m c ∧ t = nI (mSl m c) ∧ nmB tp = true ∧ x = some (.int 1) ∧ RM (sNm m c tp) h' ∧ RTp [] h' ∧ Fr [785] [34, 35] h h')) := by
  refine Ev_aload_n dX11_name_0 rfl (by first | exact Or.inr ⟨_, rfl⟩ | exact rv_or _ | exact Or.inl rfl) ?_
  refine Ev_iload_n dX11_name_1 rfl ?_
  refine Ev_V0 [.int t] dX11_name_2 vX11_isThing kX11_145 rf.1 rfl rfl rfl (by decide) (by omega) (ev_isThing l G _ _ rf) ?_
  refine Ev_if_eqB 15 dX11_name_5 (by decide) (fun zb5_ => ?_) (fun zb5_ => ?_)
  · have zt_ := isT_f rm mk zb5_
    refine Ev_iconst (v := nI 0) dX11_name_15 (by decide) ?_
    refine Ev_zret dX11_name_16 rfl (by decide) ?_
    first
    | exact Or.inl ⟨fun q => zt_ q.1, rfl, rfl⟩
    | exact Or.inl ⟨fun q => absurd (zb12_.symm.trans q.2) (by decide), rfl, rfl⟩
  · obtain ⟨c, hc, rfl⟩ := (rm.isTh mk).mp zb5_
    have hs := mk.sl hc
    refine Ev_aload_n dX11_name_8 rfl (by first | exact Or.inr ⟨_, rfl⟩ | exact rv_or _ | exact Or.inl rfl) ?_
    refine Ev_V0 [] dX11_name_9 vX11_isName kX11_141 rf.1 rfl rfl rfl (by decide) (by omega) (ev_isName l G tp h rf rt_) ?_
    refine Ev_if_neB 17 dX11_name_12 (by decide) (fun zb12_ => ?_) (fun zb12_ => ?_)
    · have zn_ := (nmB_iff.mp zb12_).1
      refine Ev_aload_n dX11_name_17 rfl (by first | exact Or.inr ⟨_, rfl⟩ | exact rv_or _ | exact Or.inl rfl) ?_
      refine Ev_iload_n dX11_name_18 rfl ?_
      refine Ev_Vz [.int (nI (mSl m c))] dX11_name_19 vX11_takeName kX11_162 rf.1 rfl rfl rfl (by decide) (by omega) (ev_takeName l G tp _ hs h rf rt_ (by omega)) (fun x_ h1 e_ => ?_)
      obtain ⟨rfl, e1_, e2_, e3_⟩ := e_
      refine Ev_iconst (v := nI 1) dX11_name_22 (by decide) ?_
      refine Ev_zret dX11_name_23 rfl (by decide) ?_
      exact Or.inr ⟨c, hc, rfl, zb12_, rfl, rm.nm mk hc e2_ e3_ (by omega), e1_, e2_⟩
    · refine Ev_iconst (v := nI 0) dX11_name_15 (by decide) ?_
      refine Ev_zret dX11_name_16 rfl (by decide) ?_
      first
      | exact Or.inl ⟨fun q => zt_ q.1, rfl, rfl⟩
      | exact Or.inl ⟨fun q => absurd (zb12_.symm.trans q.2) (by decide), rfl, rfl⟩
def thF (m : Md) (c : Nat) (w : Int) : Int32 :=
  if 10 ≤ w ∧ w ≤ 13 then mNu m c (w - 10).toNat
  else if 100 ≤ w then (if w - 100 < (mNm m c).length then (mNm m c).getD (w - 100).toNat 0 else -1)
  else if w = 0 then nI (mKd m c)
  else if w = 1 then paI m c
  else if w = 2 then nI ((mCh m (mPa m c)).idxOf c)
  else if w = 3 then nI (mNm m c).length
  else -1
theorem RM.place {m : Md} {h : aH} {c : Nat} (r : RM m h) (k : MOk m) (hc : mLive m c) : hX h 32 (mSl m c) = nI ((mCh m (mPa m c)).idxOf c) := by
  have hm : c ∈ mCh m (mPa m c) := (k.2.2.2.1 _ _).mpr ⟨hc, rfl⟩
  have hi := List.idxOf_lt_length_of_mem hm
  have := r.2.2.2.1 (mPa m c) _ hi
  rw [List.getD_eq_getElem?_getD, List.getElem?_eq_getElem hi, List.getElem_idxOf] at this
  exact this
theorem ev_thingOf (l : Launch) (G : aG) (t wh : Int32) (m : Md) (h : aH) (rf : Rf h) (mk : MOk m) (rm : RM m h) : Ev l G 2 0 0 mX11_thingOf 0 (en 3 [.ref MO, .int t, .int wh]) [] h (fun x h' => (¬ isT m t ∧ x = some (.int (-1)) ∧ h' = h) ∨ (∃ c, mLive m c ∧ t = nI (mSl m c) ∧ x = some (.int (thF m c wh.toInt)) ∧ h' = h)) := by
  refine Ev_aload_n dX11_thingOf_0 rfl (by first | exact Or.inr ⟨_, rfl⟩ | exact rv_or _ | exact Or.inl rfl) ?_
  refine Ev_iload_n dX11_thingOf_1 rfl ?_
  refine Ev_V0 [.int t] dX11_thingOf_2 vX11_isThing kX11_145 rf.1 rfl rfl rfl (by decide) (by omega) (ev_isThing l G _ _ rf) ?_
  refine Ev_if_neB 10 dX11_thingOf_5 (by decide) (fun zb5_ => ?_) (fun zb5_ => ?_)
  · obtain ⟨c, hc, rfl⟩ := (rm.isTh mk).mp zb5_
    have hs := mk.sl hc
    have hr1 := rm.2.2.1 c hc
    have hnl := (mk.2.2.1 c hc).2.1
    refine Ev_iload_n dX11_thingOf_10 rfl ?_
    refine Ev_bipush (v := nI 10) dX11_thingOf_11 (by decide) ?_
    refine Ev_bipush (v := nI 13) dX11_thingOf_13 (by decide) ?_
    refine Ev_S0 [.int wh, .int (nI 10), .int (nI 13)] dX11_thingOf_15 sX11_isIn kX11_130 rfl rfl rfl (by decide) (by omega) (ev_isIn l G _ _ _ _) ?_
    refine Ev_if_eqB 35 dX11_thingOf_18 (by decide) (fun zb18_ => ?_) (fun zb18_ => ?_)
    · have zw_ := inB_f t10 t13 zb18_
      refine Ev_iload_n dX11_thingOf_35 rfl ?_
      refine Ev_bipush (v := nI 100) dX11_thingOf_36 (by decide) ?_
      refine Ev_icmp_ltT 73 dX11_thingOf_38 (by decide) (fun zb38_ => ?_) (fun zb38_ => ?_)
      · rw [t100] at zb38_
        refine Ev_iload_n dX11_thingOf_73 rfl ?_
        refine Ev_if_neT 86 dX11_thingOf_74 (by decide) (fun zb74_ => ?_) (fun zb74_ => ?_)
        · refine Ev_iload_n dX11_thingOf_86 rfl ?_
          refine Ev_iconst (v := nI 1) dX11_thingOf_87 (by decide) ?_
          refine Ev_icmp_neT 100 dX11_thingOf_88 (by decide) (fun zb88_ => ?_) (fun zb88_ => ?_)
          · rw [t1] at zb88_
            refine Ev_iload_n dX11_thingOf_100 rfl ?_
            refine Ev_iconst (v := nI 2) dX11_thingOf_101 (by decide) ?_
            refine Ev_icmp_neT 114 dX11_thingOf_102 (by decide) (fun zb102_ => ?_) (fun zb102_ => ?_)
            · rw [t2] at zb102_
              refine Ev_iload_n dX11_thingOf_114 rfl ?_
              refine Ev_iconst (v := nI 3) dX11_thingOf_115 (by decide) ?_
              refine Ev_icmp_neT 128 dX11_thingOf_116 (by decide) (fun zb116_ => ?_) (fun zb116_ => ?_)
              · rw [t3] at zb116_
                refine Ev_iconst (v := -1) dX11_thingOf_128 (by decide) ?_
                refine Ev_iret dX11_thingOf_129 rfl ?_
                refine Or.inr ⟨c, hc, rfl, ?_, rfl⟩
                unfold thF
                rw [if_neg (by omega), if_neg (by omega)]
                first
                | (rw [if_pos (by omega), hr1.1]; done)
                | (rw [if_neg (by omega), if_pos (by omega), hr1.2.1]; done)
                | (rw [if_neg (by omega), if_neg (by omega), if_pos (by omega), rm.place mk hc]; done)
                | (rw [if_neg (by omega), if_neg (by omega), if_neg (by omega), if_pos (by omega), hr1.2.2.2.1]; done)
                | (rw [if_neg (by omega), if_neg (by omega), if_neg (by omega), if_neg (by omega)]; done)
              · rw [t3] at zb116_
                refine Ev_aload_n dX11_thingOf_119 rfl (by first | exact Or.inr ⟨_, rfl⟩ | exact rv_or _ | exact Or.inl rfl) ?_
                refine Ev_getA dX11_thingOf_120 fX11_28 rf.1 (rr_named rf) ?_
                refine Ev_iload_n dX11_thingOf_123 rfl ?_
                refine Ev_ialdL _ dX11_thingOf_124 (rk_named rf) (rl_named rf) (hi_n (by omega)) (by omega) ?_
                refine Ev_goto 129 dX11_thingOf_125 (by decide) ?_
                refine Ev_iret dX11_thingOf_129 rfl ?_
                refine Or.inr ⟨c, hc, rfl, ?_, rfl⟩
                unfold thF
                rw [if_neg (by omega), if_neg (by omega)]
                first
                | (rw [if_pos (by omega), hr1.1]; done)
                | (rw [if_neg (by omega), if_pos (by omega), hr1.2.1]; done)
                | (rw [if_neg (by omega), if_neg (by omega), if_pos (by omega), rm.place mk hc]; done)
                | (rw [if_neg (by omega), if_neg (by omega), if_neg (by omega), if_pos (by omega), hr1.2.2.2.1]; done)
                | (rw [if_neg (by omega), if_neg (by omega), if_neg (by omega), if_neg (by omega)]; done)
            · rw [t2] at zb102_
              refine Ev_aload_n dX11_thingOf_105 rfl (by first | exact Or.inr ⟨_, rfl⟩ | exact rv_or _ | exact Or.inl rfl) ?_
              refine Ev_getA dX11_thingOf_106 fX11_19 rf.1 (rr_place rf) ?_
              refine Ev_iload_n dX11_thingOf_109 rfl ?_
              refine Ev_ialdL _ dX11_thingOf_110 (rk_place rf) (rl_place rf) (hi_n (by omega)) (by omega) ?_
              refine Ev_goto 129 dX11_thingOf_111 (by decide) ?_
              refine Ev_iret dX11_thingOf_129 rfl ?_
              refine Or.inr ⟨c, hc, rfl, ?_, rfl⟩
              unfold thF
              rw [if_neg (by omega), if_neg (by omega)]
              first
              | (rw [if_pos (by omega), hr1.1]; done)
              | (rw [if_neg (by omega), if_pos (by omega), hr1.2.1]; done)
              | (rw [if_neg (by omega), if_neg (by omega), if_pos (by omega), rm.place mk hc]; done)
              | (rw [if_neg (by omega), if_neg (by omega), if_neg (by omega), if_pos (by omega), hr1.2.2.2.1]; done)
              | (rw [if_neg (by omega), if_neg (by omega), if_neg (by omega), if_neg (by omega)]; done)
          · rw [t1] at zb88_
            refine Ev_aload_n dX11_thingOf_91 rfl (by first | exact Or.inr ⟨_, rfl⟩ | exact rv_or _ | exact Or.inl rfl) ?_
            refine Ev_getA dX11_thingOf_92 fX11_16 rf.1 (rr_parent rf) ?_
            refine Ev_iload_n dX11_thingOf_95 rfl ?_
            refine Ev_ialdL _ dX11_thingOf_96 (rk_parent rf) (rl_parent rf) (hi_n (by omega)) (by omega) ?_
            refine Ev_goto 129 dX11_thingOf_97 (by decide) ?_
            refine Ev_iret dX11_thingOf_129 rfl ?_
            refine Or.inr ⟨c, hc, rfl, ?_, rfl⟩
            unfold thF
            rw [if_neg (by omega), if_neg (by omega)]
            first
            | (rw [if_pos (by omega), hr1.1]; done)
            | (rw [if_neg (by omega), if_pos (by omega), hr1.2.1]; done)
            | (rw [if_neg (by omega), if_neg (by omega), if_pos (by omega), rm.place mk hc]; done)
            | (rw [if_neg (by omega), if_neg (by omega), if_neg (by omega), if_pos (by omega), hr1.2.2.2.1]; done)
            | (rw [if_neg (by omega), if_neg (by omega), if_neg (by omega), if_neg (by omega)]; done)
        · refine Ev_aload_n dX11_thingOf_77 rfl (by first | exact Or.inr ⟨_, rfl⟩ | exact rv_or _ | exact Or.inl rfl) ?_
          refine Ev_getA dX11_thingOf_78 fX11_13 rf.1 (rr_kind rf) ?_
          refine Ev_iload_n dX11_thingOf_81 rfl ?_
          refine Ev_ialdL _ dX11_thingOf_82 (rk_kind rf) (rl_kind rf) (hi_n (by omega)) (by omega) ?_
          refine Ev_goto 129 dX11_thingOf_83 (by decide) ?_
          refine Ev_iret dX11_thingOf_129 rfl ?_
          refine Or.inr ⟨c, hc, rfl, ?_, rfl⟩
          unfold thF
          rw [if_neg (by omega), if_neg (by omega)]
          first
          | (rw [if_pos (by omega), hr1.1]; done)
          | (rw [if_neg (by omega), if_pos (by omega), hr1.2.1]; done)
          | (rw [if_neg (by omega), if_neg (by omega), if_pos (by omega), rm.place mk hc]; done)
          | (rw [if_neg (by omega), if_neg (by omega), if_neg (by omega), if_pos (by omega), hr1.2.2.2.1]; done)
          | (rw [if_neg (by omega), if_neg (by omega), if_neg (by omega), if_neg (by omega)]; done)
      · rw [t100] at zb38_
        obtain ⟨ww, hww, rfl⟩ : ∃ ww : Nat, ww < 2147483648 ∧ wh = nI ww := ⟨wh.toInt.toNat, by have := fb_rng wh; omega, Int32.toInt_inj.mp (by have := fb_rng wh; rw [hi_n (by omega)]; omega)⟩
        rw [hi_n (by omega)] at zb38_ zw_
        refine Ev_iload_n dX11_thingOf_41 rfl ?_
        refine Ev_bipush (v := nI 100) dX11_thingOf_42 (by decide) ?_
        refine Ev_isubN dX11_thingOf_44 (by omega) ?_
        refine Ev_aload_n dX11_thingOf_45 rfl (by first | exact Or.inr ⟨_, rfl⟩ | exact rv_or _ | exact Or.inl rfl) ?_
        refine Ev_getA dX11_thingOf_46 fX11_28 rf.1 (rr_named rf) ?_
        refine Ev_iload_n dX11_thingOf_49 rfl ?_
        refine Ev_ialdL _ dX11_thingOf_50 (rk_named rf) (rl_named rf) (hi_n (by omega)) (by omega) ?_
        refine Ev_top (y := .int (nI (mNm m c).length)) (by rw [hr1.2.2.2.1]) ?_
        refine Ev_icmp_geN 71 dX11_thingOf_51 (by decide) (by omega) (by omega) (fun zb51_ => ?_) (fun zb51_ => ?_)
        · refine Ev_iconst (v := -1) dX11_thingOf_71 (by decide) ?_
          refine Ev_iret dX11_thingOf_72 rfl ?_
          refine Or.inr ⟨c, hc, rfl, ?_, rfl⟩
          unfold thF
          rw [hi_n (by omega), if_neg (by omega), if_pos (by omega)]
          first
          | (rw [if_neg (by omega)]; done)
          | (rw [if_pos (by omega)]
             have e1 : ((ww : Int) - 100).toNat = ww - 100 := by omega
             rw [e1, show 6 * mSl m c + ww - 100 = 6 * mSl m c + (ww - 100) by omega, hr1.2.2.2.2 _ (by omega)])
        · refine Ev_aload_n dX11_thingOf_54 rfl (by first | exact Or.inr ⟨_, rfl⟩ | exact rv_or _ | exact Or.inl rfl) ?_
          refine Ev_getA dX11_thingOf_55 fX11_25 rf.1 (rr_name rf) ?_
          refine Ev_bipush (v := nI 6) dX11_thingOf_58 (by decide) ?_
          refine Ev_iload_n dX11_thingOf_60 rfl ?_
          refine Ev_imulN dX11_thingOf_61 ?_
          refine Ev_iload_n dX11_thingOf_62 rfl ?_
          refine Ev_iaddN dX11_thingOf_63 ?_
          refine Ev_bipush (v := nI 100) dX11_thingOf_64 (by decide) ?_
          refine Ev_isubN dX11_thingOf_66 (by omega) ?_
          refine Ev_ialdL _ dX11_thingOf_67 (rk_name rf) (rl_name rf) (hi_n (by omega)) (by omega) ?_
          refine Ev_goto 72 dX11_thingOf_68 (by decide) ?_
          refine Ev_iret dX11_thingOf_72 rfl ?_
          refine Or.inr ⟨c, hc, rfl, ?_, rfl⟩
          unfold thF
          rw [hi_n (by omega), if_neg (by omega), if_pos (by omega)]
          first
          | (rw [if_neg (by omega)]; done)
          | (rw [if_pos (by omega)]
             have e1 : ((ww : Int) - 100).toNat = ww - 100 := by omega
             rw [e1, show 6 * mSl m c + ww - 100 = 6 * mSl m c + (ww - 100) by omega, hr1.2.2.2.2 _ (by omega)])
    · have zw_ := inB_t t10 t13 zb18_
      obtain ⟨ww, hww, rfl⟩ := as_nI (n := 13) (by omega) zw_.2
      rw [hi_n (by omega)] at zw_
      refine Ev_aload_n dX11_thingOf_21 rfl (by first | exact Or.inr ⟨_, rfl⟩ | exact rv_or _ | exact Or.inl rfl) ?_
      refine Ev_getA dX11_thingOf_22 fX11_22 rf.1 (rr_number rf) ?_
      refine Ev_iconst (v := nI 4) dX11_thingOf_25 (by decide) ?_
      refine Ev_iload_n dX11_thingOf_26 rfl ?_
      refine Ev_imulN dX11_thingOf_27 ?_
      refine Ev_iload_n dX11_thingOf_28 rfl ?_
      refine Ev_iaddN dX11_thingOf_29 ?_
      refine Ev_bipush (v := nI 10) dX11_thingOf_30 (by decide) ?_
      refine Ev_isubN dX11_thingOf_32 (by omega) ?_
      refine Ev_ialdL _ dX11_thingOf_33 (rk_number rf) (rl_number rf) (hi_n (by omega)) (by omega) ?_
      refine Ev_iret dX11_thingOf_34 rfl ?_
      refine Or.inr ⟨c, hc, rfl, ?_, rfl⟩
      unfold thF
      rw [if_pos (by rw [hi_n (by omega)]; omega), hi_n (by omega)]
      have e1 : ((ww : Int) - 10).toNat = ww - 10 := by omega
      rw [e1, show 4 * mSl m c + ww - 10 = 4 * mSl m c + (ww - 10) by omega, hr1.2.2.1 _ (by omega)]
  · have zt_ := isT_f rm mk zb5_
    refine Ev_iconst (v := -1) dX11_thingOf_8 (by decide) ?_
    refine Ev_iret dX11_thingOf_9 rfl ?_
    exact Or.inl ⟨zt_, rfl, rfl⟩
