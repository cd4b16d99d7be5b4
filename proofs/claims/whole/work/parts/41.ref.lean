theorem PlI.skip {m : Md} {c k x : Nat} {h h1 : aH} (p : PlI m c k x h h1) (hx : sib m c x = none) : PlI m c k (x + 1) h h1 := by
  refine ⟨p.1, fun s hs => ?_⟩
  rw [p.2 s hs]
  by_cases e : s = x
  · subst e
    rw [if_neg (by omega), if_pos (by omega), hx]
  · by_cases e2 : s < x
    · rw [if_pos e2, if_pos (by omega)]
    · rw [if_neg e2, if_neg (by omega)]
theorem PlI.step {m : Md} {c k x j : Nat} {h h1 h2 : aH} (p : PlI m c k x h h1) (hx : sib m c x = some j) (f : Fr [] [32] h1 h2) (e1 : hX h2 32 x = nI (np (ix m c) k j)) (e2 : ∀ s, s ≠ x → hX h2 32 s = hX h1 32 s) : PlI m c k (x + 1) h h2 := by
  refine ⟨p.1.tr f, fun s hs => ?_⟩
  by_cases e : s = x
  · subst e
    rw [if_pos (by omega), hx]; exact e1
  · rw [e2 s e, p.2 s hs]
    by_cases e3 : s < x
    · rw [if_pos e3, if_pos (by omega)]
    · rw [if_neg e3, if_neg (by omega)]
theorem PlI.zero {m : Md} {c k : Nat} {h : aH} : PlI m c k 0 h h := ⟨Fr.rf, fun s hs => by rw [if_neg (by omega)]⟩
theorem PlI.old {m : Md} {c k x : Nat} {h h1 : aH} (p : PlI m c k x h h1) (hx : x < 24) : hX h1 32 x = hX h 32 x := by
  rw [p.2 x hx, if_neg (by omega)]
theorem PlI.own {m : Md} {c k x : Nat} {h h1 : aH} (o : MOk m) (hc : mLive m c) (p : PlI m c k x h h1) : hX h1 32 (mSl m c) = hX h 32 (mSl m c) := by
  rw [p.2 _ (o.sl hc)]
  have : sib m c (mSl m c) = none := sib_no hc (fun z => z.1 rfl)
  by_cases e : mSl m c < x
  · rw [if_pos e, this]
  · rw [if_neg e]
theorem ev_move_l (l : Launch) (G : aG) (c k : Nat) (m : Md) (h : aH) (rf : Rf h) (mk : MOk m) (rm : RM m h) (hc : mLive m c) (hk : k < (mCh m (mPa m c)).length) (ms : Nat) : ∀ x, 24 - x < ms → x ≤ 24 → ∀ h1, PlI m c k x h h1 → Ev l G 2 0 0 mX11_move 32 [.ref MO, .int (nI (mSl m c)), .int (nI k), .int (nI x)] [] h1 (fun x_ h' => (¬ (∃ c2, mLive m c2 ∧ nI (mSl m c) = nI (mSl m c2) ∧ 0 ≤ (nI k).toInt ∧ (nI k).toInt < (mCh m (mPa m c2)).length) ∧ x_ = some (.int 0) ∧ h' = h) ∨ (∃ c2 k2, mLive m c2 ∧ k2 < (mCh m (mPa m c2)).length ∧ nI (mSl m c) = nI (mSl m c2) ∧ nI k = nI k2 ∧ x_ = some (.int 1) ∧ RM (mvM m c2 k2) h' ∧ Fr [] [32] h h')) := by
  induction ms with
  | zero => intro x hx; omega
  | succ ms ih_ =>
    intro x hx hx2 h1 pl_
    have rf1_ := rf.fr pl_.1
    have hs0_ := mk.sl hc
    have hkl_ := ch_le mk (mPa m c)
    have x29_ : hX h1 29 = hX h 29 := pl_.1.2.2.2.2.2.2 29 (by decide)
    have x31_ : hX h1 31 = hX h 31 := pl_.1.2.2.2.2.2.2 31 (by decide)
    have hil_ := ix_lt mk hc
    have jn_ : x < 24 → ∀ h2, PlI m c k (x + 1) h h2 → Ev l G 2 0 0 mX11_move 115 [.ref MO, .int (nI (mSl m c)), .int (nI k), .int (nI x)] [] h2 (fun x_ h' => (¬ (∃ c2, mLive m c2 ∧ nI (mSl m c) = nI (mSl m c2) ∧ 0 ≤ (nI k).toInt ∧ (nI k).toInt < (mCh m (mPa m c2)).length) ∧ x_ = some (.int 0) ∧ h' = h) ∨ (∃ c2 k2, mLive m c2 ∧ k2 < (mCh m (mPa m c2)).length ∧ nI (mSl m c) = nI (mSl m c2) ∧ nI k = nI k2 ∧ x_ = some (.int 1) ∧ RM (mvM m c2 k2) h' ∧ Fr [] [32] h h')) := by
      intro hx3 h2 hp_
      refine Ev_iincN 1 dX11_move_115 (by decide) (by decide) rfl ?_
      refine Ev_goto 32 dX11_move_118 (by decide) ?_
      exact ih_ (x + 1) (by omega) (by omega) _ hp_
    have jm_ : x < 24 → ∀ j, sib m c x = some j → ∀ h2, Fr [] [32] h1 h2 → hX h2 32 x = nI (np1 (ix m c) j) → (∀ s, s ≠ x → hX h2 32 s = hX h1 32 s) → np1 (ix m c) j < 100 → Ev l G 2 0 0 mX11_move 95 [.ref MO, .int (nI (mSl m c)), .int (nI k), .int (nI x)] [] h2 (fun x_ h' => (¬ (∃ c2, mLive m c2 ∧ nI (mSl m c) = nI (mSl m c2) ∧ 0 ≤ (nI k).toInt ∧ (nI k).toInt < (mCh m (mPa m c2)).length) ∧ x_ = some (.int 0) ∧ h' = h) ∨ (∃ c2 k2, mLive m c2 ∧ k2 < (mCh m (mPa m c2)).length ∧ nI (mSl m c) = nI (mSl m c2) ∧ nI k = nI k2 ∧ x_ = some (.int 1) ∧ RM (mvM m c2 k2) h' ∧ Fr [] [32] h h')) := by
      intro hx3 j hs_ h2 f2_ hj2_ o2_ hj3_
      have rf2_ := rf1_.fr f2_
      have jn_ := jn_ hx3
      refine Ev_aload_n dX11_move_95 rfl (by first | exact Or.inr ⟨_, rfl⟩ | exact rv_or _ | exact Or.inl rfl) ?_
      refine Ev_getA dX11_move_96 fX11_19 rf2_.1 (rr_place rf2_) ?_
      refine Ev_iload_n dX11_move_99 rfl ?_
      refine Ev_ialdL _ dX11_move_100 (rk_place rf2_) (rl_place rf2_) (hi_n (by omega)) (by omega) ?_
      refine Ev_top (y := .int (nI (np1 (ix m c) j))) (by rw [hj2_]) ?_
      refine Ev_iload_n dX11_move_101 rfl ?_
      refine Ev_icmp_ltN 115 dX11_move_102 (by decide) (by omega) (by omega) (fun zb102_ => ?_) (fun zb102_ => ?_)
      · first
        | exact jn_ _ (pl_.step hs_ f2_ (by rw [hj2_]; unfold np; rw [if_neg (by omega)]) o2_)
        | exact jn_ _ (pl_.step hs_ (f2_.tr (Fr.row (by decide))) (by rw [hX_s]; unfold np; rw [if_pos (by omega)]) (fun s hs => by rw [hX_n _ _ hs]; exact o2_ s hs))
      · refine Ev_aload_n dX11_move_105 rfl (by first | exact Or.inr ⟨_, rfl⟩ | exact rv_or _ | exact Or.inl rfl) ?_
        refine Ev_getA dX11_move_106 fX11_19 rf2_.1 (rr_place rf2_) ?_
        refine Ev_iload_n dX11_move_109 rfl ?_
        refine Ev_dup2 dX11_move_110 (by first | rfl | exact okv_rv _) (by first | rfl | exact okv_rv _) ?_
        refine Ev_ialdL _ dX11_move_111 (rk_place rf2_) (rl_place rf2_) (hi_n (by omega)) (by omega) ?_
        refine Ev_top (y := .int (nI (np1 (ix m c) j))) (by rw [hj2_]) ?_
        refine Ev_iconst (v := nI 1) dX11_move_112 (by decide) ?_
        refine Ev_iaddN dX11_move_113 ?_
        refine Ev_iastL _ dX11_move_114 (rk_place rf2_) (rl_place rf2_) (hi_n (by omega)) (by omega) ?_
        first
        | exact jn_ _ (pl_.step hs_ f2_ (by rw [hj2_]; unfold np; rw [if_neg (by omega)]) o2_)
        | exact jn_ _ (pl_.step hs_ (f2_.tr (Fr.row (by decide))) (by rw [hX_s]; unfold np; rw [if_pos (by omega)]) (fun s hs => by rw [hX_n _ _ hs]; exact o2_ s hs))
    refine Ev_iload_n dX11_move_32 rfl ?_
    refine Ev_bipush (v := nI 24) dX11_move_33 (by decide) ?_
    refine Ev_icmp_geN 121 dX11_move_35 (by decide) (by omega) (by omega) (fun zb35_ => ?_) (fun zb35_ => ?_)
    · refine Ev_aload_n dX11_move_121 rfl (by first | exact Or.inr ⟨_, rfl⟩ | exact rv_or _ | exact Or.inl rfl) ?_
      refine Ev_getA dX11_move_122 fX11_19 rf1_.1 (rr_place rf1_) ?_
      refine Ev_iload_n dX11_move_125 rfl ?_
      refine Ev_iload_n dX11_move_126 rfl ?_
      refine Ev_iastL _ dX11_move_127 (rk_place rf1_) (rl_place rf1_) (hi_n (by omega)) (by omega) ?_
      refine Ev_iconst (v := nI 1) dX11_move_128 (by decide) ?_
      refine Ev_zret dX11_move_129 rfl (by decide) ?_
      have ex_ : x = 24 := by omega
      subst ex_
      exact Or.inr ⟨c, k, hc, hk, rfl, rfl, rfl, rm.mv mk hc hk pl_, pl_.1.tr (Fr.row (by decide))⟩
    · refine Ev_aload_n dX11_move_38 rfl (by first | exact Or.inr ⟨_, rfl⟩ | exact rv_or _ | exact Or.inl rfl) ?_
      refine Ev_getA dX11_move_39 fX11_7 rf1_.1 (rr_came rf1_) ?_
      refine Ev_iload_n dX11_move_42 rfl ?_
      refine Ev_ialdL _ dX11_move_43 (rk_came rf1_) (rl_came rf1_) (hi_n (by omega)) (by omega) ?_
      refine Ev_if_ltT 115 dX11_move_44 (by decide) (fun zb44_ => ?_) (fun zb44_ => ?_)
      · have hv_ : sib m c x = none := by
          unfold sib
          cases hv : mLv m x with
          | none => rfl
          | some c' =>
            have h1 := (mk.1 _ _ hv).2.1
            have h2 := rm.1
            rw [x29_, rm.2.1 x (by omega), hv] at zb44_
            exact absurd zb44_ (by show ¬ (nI c').toInt < 0; rw [hi_n (by omega)]; omega)
        exact jn_ (by omega) _ (pl_.skip hv_)
      · obtain ⟨c', hv_⟩ : ∃ c', mLv m x = some c' := by
          cases hv : mLv m x with
          | some c' => exact ⟨c', rfl⟩
          | none =>
            rw [x29_, rm.2.1 x (by omega), hv] at zb44_
            exact absurd (by decide) zb44_
        have hl_ := mk.live hv_
        have hsl_ := (mk.1 _ _ hv_).2.2
        refine Ev_iload_n dX11_move_47 rfl ?_
        refine Ev_iload_n dX11_move_48 rfl ?_
        refine Ev_icmp_eqN 115 dX11_move_49 (by decide) (by omega) (by omega) (fun zb49_ => ?_) (fun zb49_ => ?_)
        · have hv_ : sib m c x = none := by
            rw [← hsl_]
            exact sib_no hl_ (fun z => z.1 (sl_inj hl_ hc (by omega)))
          exact jn_ (by omega) _ (pl_.skip hv_)
        · refine Ev_aload_n dX11_move_52 rfl (by first | exact Or.inr ⟨_, rfl⟩ | exact rv_or _ | exact Or.inl rfl) ?_
          refine Ev_getA dX11_move_53 fX11_16 rf1_.1 (rr_parent rf1_) ?_
          refine Ev_iload_n dX11_move_56 rfl ?_
          refine Ev_ialdL _ dX11_move_57 (rk_parent rf1_) (rl_parent rf1_) (hi_n (by omega)) (by omega) ?_
          refine Ev_top (y := .int (paI m c')) (by rw [x31_, ← hsl_, (rm.2.2.1 c' hl_).2.1]) ?_
          refine Ev_aload_n dX11_move_58 rfl (by first | exact Or.inr ⟨_, rfl⟩ | exact rv_or _ | exact Or.inl rfl) ?_
          refine Ev_getA dX11_move_59 fX11_16 rf1_.1 (rr_parent rf1_) ?_
          refine Ev_iload_n dX11_move_62 rfl ?_
          refine Ev_ialdL _ dX11_move_63 (rk_parent rf1_) (rl_parent rf1_) (hi_n (by omega)) (by omega) ?_
          refine Ev_top (y := .int (paI m c)) (by rw [x31_, (rm.2.2.1 c hc).2.1]) ?_
          refine Ev_icmp_eqT 70 dX11_move_64 (by decide) (fun zb64_ => ?_) (fun zb64_ => ?_)
          · have hpa_ : mPa m c' = mPa m c := (pI_inj mk (fun q hq => (mk.2.2.1 c hc).1 q hq) hl_).mp (Int32.toInt_inj.mp zb64_)
            have hne_ : c' ≠ c := fun z => zb49_ (by rw [← hsl_, z])
            have hs_ : sib m c x = some (ix m c') := by rw [← hsl_]; exact sib_at mk hl_ hne_ hpa_
            have hix_ := ix_lt mk hl_
            have hch_ := ch_le mk (mPa m c')
            refine Ev_aload_n dX11_move_70 rfl (by first | exact Or.inr ⟨_, rfl⟩ | exact rv_or _ | exact Or.inl rfl) ?_
            refine Ev_getA dX11_move_71 fX11_19 rf1_.1 (rr_place rf1_) ?_
            refine Ev_iload_n dX11_move_74 rfl ?_
            refine Ev_ialdL _ dX11_move_75 (rk_place rf1_) (rl_place rf1_) (hi_n (by omega)) (by omega) ?_
            refine Ev_top (y := .int (nI (ix m c'))) (by rw [pl_.old (by omega), ← hsl_, rm.place mk hl_]; rfl) ?_
            refine Ev_aload_n dX11_move_76 rfl (by first | exact Or.inr ⟨_, rfl⟩ | exact rv_or _ | exact Or.inl rfl) ?_
            refine Ev_getA dX11_move_77 fX11_19 rf1_.1 (rr_place rf1_) ?_
            refine Ev_iload_n dX11_move_80 rfl ?_
            refine Ev_ialdL _ dX11_move_81 (rk_place rf1_) (rl_place rf1_) (hi_n (by omega)) (by omega) ?_
            refine Ev_top (y := .int (nI (ix m c))) (by rw [pl_.own mk hc, rm.place mk hc]; rfl) ?_
            refine Ev_icmp_leN 95 dX11_move_82 (by decide) (by omega) (by omega) (fun zb82_ => ?_) (fun zb82_ => ?_)
            · first
              | exact jm_ (by omega) (ix m c') hs_ _ Fr.rf (by rw [pl_.old (by omega), ← hsl_, rm.place mk hl_]; unfold np1; rw [if_neg (by omega)]; rfl) (fun s hs => rfl) (by unfold np1; split <;> omega)
              | exact jm_ (by omega) (ix m c') hs_ _ (Fr.row (by decide)) (by rw [hX_s]; unfold np1; rw [if_pos (by omega)]) (fun s hs => hX_n _ _ hs) (by unfold np1; split <;> omega)
            · refine Ev_aload_n dX11_move_85 rfl (by first | exact Or.inr ⟨_, rfl⟩ | exact rv_or _ | exact Or.inl rfl) ?_
              refine Ev_getA dX11_move_86 fX11_19 rf1_.1 (rr_place rf1_) ?_
              refine Ev_iload_n dX11_move_89 rfl ?_
              refine Ev_dup2 dX11_move_90 (by first | rfl | exact okv_rv _) (by first | rfl | exact okv_rv _) ?_
              refine Ev_ialdL _ dX11_move_91 (rk_place rf1_) (rl_place rf1_) (hi_n (by omega)) (by omega) ?_
              refine Ev_top (y := .int (nI (ix m c'))) (by rw [pl_.old (by omega), ← hsl_, rm.place mk hl_]; rfl) ?_
              refine Ev_iconst (v := nI 1) dX11_move_92 (by decide) ?_
              refine Ev_isubN dX11_move_93 (by omega) ?_
              refine Ev_iastL _ dX11_move_94 (rk_place rf1_) (rl_place rf1_) (hi_n (by omega)) (by omega) ?_
              first
              | exact jm_ (by omega) (ix m c') hs_ _ Fr.rf (by rw [pl_.old (by omega), ← hsl_, rm.place mk hl_]; unfold np1; rw [if_neg (by omega)]; rfl) (fun s hs => rfl) (by unfold np1; split <;> omega)
              | exact jm_ (by omega) (ix m c') hs_ _ (Fr.row (by decide)) (by rw [hX_s]; unfold np1; rw [if_pos (by omega)]) (fun s hs => hX_n _ _ hs) (by unfold np1; split <;> omega)
          · have hv_ : sib m c x = none := by
              rw [← hsl_]
              exact sib_no hl_ (fun z => zb64_ (by unfold paI; rw [z.2]))
            refine Ev_goto 115 dX11_move_67 (by decide) ?_
            exact jn_ (by omega) _ (pl_.skip hv_)
theorem ev_move (l : Launch) (G : aG) (t_ k_ : Int32) (m : Md) (h : aH) (rf : Rf h) (mk : MOk m) (rm : RM m h) : Ev l G 2 0 0 mX11_move 0 (en 4 [.ref MO, .int t_, .int k_]) [] h (fun x_ h' => (¬ (∃ c2, mLive m c2 ∧ t_ = nI (mSl m c2) ∧ 0 ≤ k_.toInt ∧ k_.toInt < (mCh m (mPa m c2)).length) ∧ x_ = some (.int 0) ∧ h' = h) ∨ (∃ c2 k2, mLive m c2 ∧ k2 < (mCh m (mPa m c2)).length ∧ t_ = nI (mSl m c2) ∧ k_ = nI k2 ∧ x_ = some (.int 1) ∧ RM (mvM m c2 k2) h' ∧ Fr [] [32] h h')) := by
  refine Ev_aload_n dX11_move_0 rfl (by first | exact Or.inr ⟨_, rfl⟩ | exact rv_or _ | exact Or.inl rfl) ?_
  refine Ev_iload_n dX11_move_1 rfl ?_
  refine Ev_V0 [.int t_] dX11_move_2 vX11_isThing kX11_145 rf.1 rfl rfl rfl (Nat.le_of_ble_eq_true rfl) (by omega) (ev_isThing l G _ _ rf) ?_
  refine Ev_if_eqB 28 dX11_move_5 (by decide) (fun zb5_ => ?_) (fun zb5_ => ?_)
  · have zt_ := isT_f rm mk zb5_
    refine Ev_iconst (v := nI 0) dX11_move_28 (by decide) ?_
    refine Ev_zret dX11_move_29 rfl (by decide) ?_
    first
    | exact Or.inl ⟨fun q => by obtain ⟨c2, q1, q2, -⟩ := q; exact zt_ ⟨c2, q1, q2⟩, rfl, rfl⟩
    | (refine Or.inl ⟨fun q => ?_, rfl, rfl⟩
       obtain ⟨c2, q1, q2, q3, q4⟩ := q
       have h1 := mk.sl q1
       have h2 := sl_inj hc q1 (nI_inj (by omega) (by omega) q2)
       subst h2
       exact zk_ ⟨q3, q4⟩)
  · obtain ⟨c, hc, rfl⟩ := (rm.isTh mk).mp zb5_
    have hs := mk.sl hc
    have hkl_ := ch_le mk (mPa m c)
    refine Ev_iload_n dX11_move_8 rfl ?_
    refine Ev_iconst (v := nI 0) dX11_move_9 (by decide) ?_
    refine Ev_aload_n dX11_move_10 rfl (by first | exact Or.inr ⟨_, rfl⟩ | exact rv_or _ | exact Or.inl rfl) ?_
    refine Ev_aload_n dX11_move_11 rfl (by first | exact Or.inr ⟨_, rfl⟩ | exact rv_or _ | exact Or.inl rfl) ?_
    refine Ev_getA dX11_move_12 fX11_16 rf.1 (rr_parent rf) ?_
    refine Ev_iload_n dX11_move_15 rfl ?_
    refine Ev_ialdL _ dX11_move_16 (rk_parent rf) (rl_parent rf) (hi_n (by omega)) (by omega) ?_
    refine Ev_top (y := .int (paI m c)) (by rw [(rm.2.2.1 c hc).2.1]) ?_
    refine Ev_V0 [.int (paI m c)] dX11_move_17 vX11_many kX11_156 rf.1 rfl rfl rfl (Nat.le_of_ble_eq_true rfl) (by omega) (ev_many l G _ h rf) ?_
    have em_ := rm.mny mk (p := mPa m c) (fun q hq => (mk.2.2.1 c hc).1 q hq)
    rw [show pI m (mPa m c) = paI m c from rfl] at em_
    rw [em_]
    refine Ev_iconst (v := nI 1) dX11_move_20 (by decide) ?_
    refine Ev_isub dX11_move_21 ?_
    refine Ev_S0 [.int k_, .int (nI 0), .int (nI (mCh m (mPa m c)).length - nI 1)] dX11_move_22 sX11_isIn kX11_130 rfl rfl rfl (Nat.le_of_ble_eq_true rfl) (by omega) (ev_isIn l G _ _ _ _) ?_
    rw [inB_lt (by omega)]
    refine Ev_if_neB 30 dX11_move_25 (by decide) (fun zb25_ => ?_) (fun zb25_ => ?_)
    · have zk_ := isPc_iff.mp zb25_
      refine Ev_iconst (v := nI 0) dX11_move_30 (by decide) ?_
      refine Ev_istore_n dX11_move_31 (by decide) ?_
      obtain ⟨k, hk1_, rfl⟩ := as_nI (n := 24) zk_.1 (by omega)
      rw [hi_n (by omega)] at zk_
      exact ev_move_l l G c k m h rf mk rm hc (by omega) 25 0 (by omega) (by omega) h PlI.zero
    · have zk_ : ¬ (0 ≤ k_.toInt ∧ k_.toInt < (mCh m (mPa m c)).length) := fun q => by
        rw [isPc_iff.mpr q] at zb25_; cases zb25_
      refine Ev_iconst (v := nI 0) dX11_move_28 (by decide) ?_
      refine Ev_zret dX11_move_29 rfl (by decide) ?_
      first
      | exact Or.inl ⟨fun q => by obtain ⟨c2, q1, q2, -⟩ := q; exact zt_ ⟨c2, q1, q2⟩, rfl, rfl⟩
      | (refine Or.inl ⟨fun q => ?_, rfl, rfl⟩
         obtain ⟨c2, q1, q2, q3, q4⟩ := q
         have h1 := mk.sl q1
         have h2 := sl_inj hc q1 (nI_inj (by omega) (by omega) q2)
         subst h2
         exact zk_ ⟨q3, q4⟩)
