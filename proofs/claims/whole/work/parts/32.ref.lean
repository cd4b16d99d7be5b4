def smB (h : aH) (p q dp : Nat) : Bool := decide (hX h 43 p = hX h 43 q ∧ hX h 44 p = hX h 44 q ∧ hX h 47 p = hX h 47 q) && eqR h 48 (12 * p) 48 (12 * q) (2 * dp)
theorem smB_iff {h : aH} {p q dp : Nat} : smB h p q dp = true ↔ (hX h 43 p = hX h 43 q ∧ hX h 44 p = hX h 44 q ∧ hX h 47 p = hX h 47 q) ∧ ∀ k, k < 2 * dp → hX h 48 (12 * p + k) = hX h 48 (12 * q + k) := by
  rw [smB, Bool.and_eq_true, decide_eq_true_eq, eqR_iff]
theorem ev_isSame_l (l : Launch) (G : aG) (p q dp : Nat) (hp : p < 500) (hq : q < 500) (h : aH) (rf : Rf h) (hd : hX h 47 p = nI dp) (hdp : dp ≤ 6) (heq : hX h 43 p = hX h 43 q ∧ hX h 44 p = hX h 44 q ∧ hX h 47 p = hX h 47 q) (ms : Nat) : ∀ k, 2 * dp - k < ms → k ≤ 2 * dp → (∀ j, j < k → hX h 48 (12 * p + j) = hX h 48 (12 * q + j)) → Ev l G 0 0 0 mX11_isSame 49 [.ref MO, .int (nI p), .int (nI q), .int (nI k)] [] h (Ex (some (.int (bI (smB h p q dp)))) h) := by
  induction ms with
  | zero => intro k hk; omega
  | succ ms ih_ =>
    intro k hk hkn hpre
    refine Ev_iload_n dX11_isSame_49 rfl ?_
    refine Ev_iconst (v := nI 2) dX11_isSame_50 (by decide) ?_
    refine Ev_aload_n dX11_isSame_51 rfl (by first | exact Or.inr ⟨_, rfl⟩ | exact rv_or _ | exact Or.inl rfl) ?_
    refine Ev_getA dX11_isSame_52 fX11_71 rf.1 (rr_deep rf) ?_
    refine Ev_iload_n dX11_isSame_55 rfl ?_
    refine Ev_ialdL _ dX11_isSame_56 (rk_deep rf) (rl_deep rf) (hi_n (by omega)) (by omega) ?_
    refine Ev_top (y := .int (nI dp)) (by rw [hd]) ?_
    refine Ev_imulN dX11_isSame_57 ?_
    refine Ev_icmp_geN 94 dX11_isSame_58 (by decide) (by omega) (by omega) (fun zb58_ => ?_) (fun zb58_ => ?_)
    · refine Ev_iconst (v := nI 1) dX11_isSame_94 (by decide) ?_
      refine Ev_zret dX11_isSame_95 rfl (by decide) ?_
      exact Ex_b (bTr smB_iff ⟨heq, fun q hq => hpre q (by omega)⟩)
    · refine Ev_aload_n dX11_isSame_61 rfl (by first | exact Or.inr ⟨_, rfl⟩ | exact rv_or _ | exact Or.inl rfl) ?_
      refine Ev_getA dX11_isSame_62 fX11_74 rf.1 (rr_way rf) ?_
      refine Ev_bipush (v := nI 12) dX11_isSame_65 (by decide) ?_
      refine Ev_iload_n dX11_isSame_67 rfl ?_
      refine Ev_imulN dX11_isSame_68 ?_
      refine Ev_iload_n dX11_isSame_69 rfl ?_
      refine Ev_iaddN dX11_isSame_70 ?_
      refine Ev_ialdL _ dX11_isSame_71 (rk_way rf) (rl_way rf) (hi_n (by omega)) (by omega) ?_
      refine Ev_aload_n dX11_isSame_72 rfl (by first | exact Or.inr ⟨_, rfl⟩ | exact rv_or _ | exact Or.inl rfl) ?_
      refine Ev_getA dX11_isSame_73 fX11_74 rf.1 (rr_way rf) ?_
      refine Ev_bipush (v := nI 12) dX11_isSame_76 (by decide) ?_
      refine Ev_iload_n dX11_isSame_78 rfl ?_
      refine Ev_imulN dX11_isSame_79 ?_
      refine Ev_iload_n dX11_isSame_80 rfl ?_
      refine Ev_iaddN dX11_isSame_81 ?_
      refine Ev_ialdL _ dX11_isSame_82 (rk_way rf) (rl_way rf) (hi_n (by omega)) (by omega) ?_
      refine Ev_icmp_eqT 88 dX11_isSame_83 (by decide) (fun zb83_ => ?_) (fun zb83_ => ?_)
      · refine Ev_iincN 1 dX11_isSame_88 (by decide) (by decide) rfl ?_
        refine Ev_goto 49 dX11_isSame_91 (by decide) ?_
        exact ih_ (k + 1) (by omega) (by omega) (fun q hq => by
          by_cases e : q = k
          · rw [e]; exact Int32.toInt_inj.mp zb83_
          · exact hpre q (by omega))
      · refine Ev_iconst (v := nI 0) dX11_isSame_86 (by decide) ?_
        refine Ev_zret dX11_isSame_87 rfl (by decide) ?_
        exact Ex_b (bFa smB_iff (fun q => zb83_ (by rw [q.2 k (by omega)])))
theorem ev_isSame (l : Launch) (G : aG) (p q dp : Nat) (hp : p < 500) (hq : q < 500) (h : aH) (rf : Rf h) (hd : hX h 47 p = nI dp) (hdp : dp ≤ 6) : Ev l G 0 0 0 mX11_isSame 0 (en 4 [.ref MO, .int (nI p), .int (nI q)]) [] h (Ex (some (.int (bI (smB h p q dp)))) h) := by
  refine Ev_aload_n dX11_isSame_0 rfl (by first | exact Or.inr ⟨_, rfl⟩ | exact rv_or _ | exact Or.inl rfl) ?_
  refine Ev_getA dX11_isSame_1 fX11_59 rf.1 (rr_item rf) ?_
  refine Ev_iload_n dX11_isSame_4 rfl ?_
  refine Ev_ialdL _ dX11_isSame_5 (rk_item rf) (rl_item rf) (hi_n (by omega)) (by omega) ?_
  refine Ev_aload_n dX11_isSame_6 rfl (by first | exact Or.inr ⟨_, rfl⟩ | exact rv_or _ | exact Or.inl rfl) ?_
  refine Ev_getA dX11_isSame_7 fX11_59 rf.1 (rr_item rf) ?_
  refine Ev_iload_n dX11_isSame_10 rfl ?_
  refine Ev_ialdL _ dX11_isSame_11 (rk_item rf) (rl_item rf) (hi_n (by omega)) (by omega) ?_
  refine Ev_icmp_neT 45 dX11_isSame_12 (by decide) (fun zb12_ => ?_) (fun zb12_ => ?_)
  · refine Ev_iconst (v := nI 0) dX11_isSame_45 (by decide) ?_
    refine Ev_zret dX11_isSame_46 rfl (by decide) ?_
    first
    | exact Ex_b (bFa smB_iff (fun q => zb42_ (congrArg Int32.toInt q.1.2.2)))
    | exact Ex_b (bFa smB_iff (fun q => zb27_ (congrArg Int32.toInt q.1.2.1)))
    | exact Ex_b (bFa smB_iff (fun q => zb12_ (congrArg Int32.toInt q.1.1)))
  · refine Ev_aload_n dX11_isSame_15 rfl (by first | exact Or.inr ⟨_, rfl⟩ | exact rv_or _ | exact Or.inl rfl) ?_
    refine Ev_getA dX11_isSame_16 fX11_62 rf.1 (rr_pieceSort rf) ?_
    refine Ev_iload_n dX11_isSame_19 rfl ?_
    refine Ev_ialdL _ dX11_isSame_20 (rk_pieceSort rf) (rl_pieceSort rf) (hi_n (by omega)) (by omega) ?_
    refine Ev_aload_n dX11_isSame_21 rfl (by first | exact Or.inr ⟨_, rfl⟩ | exact rv_or _ | exact Or.inl rfl) ?_
    refine Ev_getA dX11_isSame_22 fX11_62 rf.1 (rr_pieceSort rf) ?_
    refine Ev_iload_n dX11_isSame_25 rfl ?_
    refine Ev_ialdL _ dX11_isSame_26 (rk_pieceSort rf) (rl_pieceSort rf) (hi_n (by omega)) (by omega) ?_
    refine Ev_icmp_neT 45 dX11_isSame_27 (by decide) (fun zb27_ => ?_) (fun zb27_ => ?_)
    · refine Ev_iconst (v := nI 0) dX11_isSame_45 (by decide) ?_
      refine Ev_zret dX11_isSame_46 rfl (by decide) ?_
      first
      | exact Ex_b (bFa smB_iff (fun q => zb42_ (congrArg Int32.toInt q.1.2.2)))
      | exact Ex_b (bFa smB_iff (fun q => zb27_ (congrArg Int32.toInt q.1.2.1)))
      | exact Ex_b (bFa smB_iff (fun q => zb12_ (congrArg Int32.toInt q.1.1)))
    · refine Ev_aload_n dX11_isSame_30 rfl (by first | exact Or.inr ⟨_, rfl⟩ | exact rv_or _ | exact Or.inl rfl) ?_
      refine Ev_getA dX11_isSame_31 fX11_71 rf.1 (rr_deep rf) ?_
      refine Ev_iload_n dX11_isSame_34 rfl ?_
      refine Ev_ialdL _ dX11_isSame_35 (rk_deep rf) (rl_deep rf) (hi_n (by omega)) (by omega) ?_
      refine Ev_aload_n dX11_isSame_36 rfl (by first | exact Or.inr ⟨_, rfl⟩ | exact rv_or _ | exact Or.inl rfl) ?_
      refine Ev_getA dX11_isSame_37 fX11_71 rf.1 (rr_deep rf) ?_
      refine Ev_iload_n dX11_isSame_40 rfl ?_
      refine Ev_ialdL _ dX11_isSame_41 (rk_deep rf) (rl_deep rf) (hi_n (by omega)) (by omega) ?_
      refine Ev_icmp_eqT 47 dX11_isSame_42 (by decide) (fun zb42_ => ?_) (fun zb42_ => ?_)
      · refine Ev_iconst (v := nI 0) dX11_isSame_47 (by decide) ?_
        refine Ev_istore_n dX11_isSame_48 (by decide) ?_
        exact ev_isSame_l l G p q dp hp hq h rf hd hdp ⟨Int32.toInt_inj.mp zb12_, Int32.toInt_inj.mp zb27_, Int32.toInt_inj.mp zb42_⟩ 13 0 (by omega) (by omega) (fun j hj => by omega)
      · refine Ev_iconst (v := nI 0) dX11_isSame_45 (by decide) ?_
        refine Ev_zret dX11_isSame_46 rfl (by decide) ?_
        first
        | exact Ex_b (bFa smB_iff (fun q => zb42_ (congrArg Int32.toInt q.1.2.2)))
        | exact Ex_b (bFa smB_iff (fun q => zb27_ (congrArg Int32.toInt q.1.2.1)))
        | exact Ex_b (bFa smB_iff (fun q => zb12_ (congrArg Int32.toInt q.1.1)))
theorem ev_sameOf_l (l : Launch) (G : aG) (fr to p dp : Nat) (hp : p < 500) (hto : to ≤ 500) (h : aH) (rf : Rf h) (hd : hX h 47 p = nI dp) (hdp : dp ≤ 6) (k : Nat) : ∀ q, q + k = to → Ev l G 1 0 0 mX11_sameOf 3 [.ref MO, .int (nI fr), .int (nI to), .int (nI p), .int (nI q)] [] h (Ex (some (.int (onI (fstF (fun q => smB h p q dp) k q)))) h) := by
  induction k with
  | zero =>
    intro q hk
    refine Ev_iload dX11_sameOf_3 rfl ?_
    refine Ev_iload_n dX11_sameOf_5 rfl ?_
    refine Ev_icmp_geN 28 dX11_sameOf_6 (by decide) (by omega) (by omega) (fun zb6_ => ?_) (fun zb6_ => ?_)
    · refine Ev_iconst (v := -1) dX11_sameOf_28 (by decide) ?_
      refine Ev_iret dX11_sameOf_29 rfl ?_
      exact ⟨rfl, rfl⟩
    · exact absurd zb6_ (by omega)
  | succ k ih_ =>
    intro q hk
    refine Ev_iload dX11_sameOf_3 rfl ?_
    refine Ev_iload_n dX11_sameOf_5 rfl ?_
    refine Ev_icmp_geN 28 dX11_sameOf_6 (by decide) (by omega) (by omega) (fun zb6_ => ?_) (fun zb6_ => ?_)
    · refine Ev_iconst (v := -1) dX11_sameOf_28 (by decide) ?_
      refine Ev_iret dX11_sameOf_29 rfl ?_
      exact absurd hk (by omega)
    · refine Ev_aload_n dX11_sameOf_9 rfl (by first | exact Or.inr ⟨_, rfl⟩ | exact rv_or _ | exact Or.inl rfl) ?_
      refine Ev_iload_n dX11_sameOf_10 rfl ?_
      refine Ev_iload dX11_sameOf_11 rfl ?_
      refine Ev_V0 [.int (nI p), .int (nI q)] dX11_sameOf_13 vX11_isSame kX11_226 rf.1 rfl rfl rfl (by decide) (by omega) (ev_isSame l G p q dp hp (by omega) h rf hd hdp) ?_
      refine Ev_if_eqB 22 dX11_sameOf_16 (by decide) (fun zb16_ => ?_) (fun zb16_ => ?_)
      · refine Ev_iincN 1 dX11_sameOf_22 (by decide) (by decide) rfl ?_
        refine Ev_goto 3 dX11_sameOf_25 (by decide) ?_
        rw [fstF, if_neg (by rw [zb16_]; decide)]
        exact ih_ (q + 1) (by omega)
      · refine Ev_iload dX11_sameOf_19 rfl ?_
        refine Ev_iret dX11_sameOf_21 rfl ?_
        exact ⟨by rw [fstF, if_pos zb16_]; rfl, rfl⟩
theorem ev_sameOf (l : Launch) (G : aG) (fr k p dp : Nat) (hp : p < 500) (hto : fr + k ≤ 500) (h : aH) (rf : Rf h) (hd : hX h 47 p = nI dp) (hdp : dp ≤ 6) : Ev l G 1 0 0 mX11_sameOf 0 (en 5 [.ref MO, .int (nI fr), .int (nI (fr + k)), .int (nI p)]) [] h (Ex (some (.int (onI (fstF (fun q => smB h p q dp) k fr)))) h) := by
  refine Ev_iload_n dX11_sameOf_0 rfl ?_
  refine Ev_istore dX11_sameOf_1 (by decide) ?_
  exact ev_sameOf_l l G fr (fr + k) p dp hp hto h rf hd hdp k fr rfl
