def inB (x lo hi : Int32) : Bool := decide (lo.toInt ≤ x.toInt ∧ x.toInt ≤ hi.toInt)
theorem inB_iff {x lo hi : Int32} : inB x lo hi = true ↔ lo.toInt ≤ x.toInt ∧ x.toInt ≤ hi.toInt := by simp [inB]
theorem ev_isIn (l : Launch) (G : aG) (x lo hi : Int32) (h : aH) : Ev l G 0 0 0 mX11_isIn 0 (en 3 [.int x, .int lo, .int hi]) [] h (Ex (some (.int (bI (inB x lo hi)))) h) := by
  refine Ev_iload_n dX11_isIn_0 rfl ?_
  refine Ev_iload_n dX11_isIn_1 rfl ?_
  refine Ev_icmp_ltT 14 dX11_isIn_2 (by decide) (fun zb2_ => ?_) (fun zb2_ => ?_)
  · refine Ev_iconst (v := nI 0) dX11_isIn_14 (by decide) ?_
    refine Ev_zret dX11_isIn_15 rfl (by decide) ?_
    first | exact Ex_b (bFa inB_iff (by omega)) | exact Ex_b (bTr inB_iff (by omega))
  · refine Ev_iload_n dX11_isIn_5 rfl ?_
    refine Ev_iload_n dX11_isIn_6 rfl ?_
    refine Ev_icmp_gtT 14 dX11_isIn_7 (by decide) (fun zb7_ => ?_) (fun zb7_ => ?_)
    · refine Ev_iconst (v := nI 0) dX11_isIn_14 (by decide) ?_
      refine Ev_zret dX11_isIn_15 rfl (by decide) ?_
      first | exact Ex_b (bFa inB_iff (by omega)) | exact Ex_b (bTr inB_iff (by omega))
    · refine Ev_iconst (v := nI 1) dX11_isIn_10 (by decide) ?_
      refine Ev_goto 15 dX11_isIn_11 (by decide) ?_
      refine Ev_zret dX11_isIn_15 rfl (by decide) ?_
      first | exact Ex_b (bFa inB_iff (by omega)) | exact Ex_b (bTr inB_iff (by omega))
def isTh (h : aH) (t : Int32) : Bool := decide (0 ≤ t.toInt ∧ t.toInt ≤ 23 ∧ 0 ≤ (hX h 29 t.toInt.toNat).toInt)
theorem isTh_iff {h : aH} {t : Int32} : isTh h t = true ↔ 0 ≤ t.toInt ∧ t.toInt ≤ 23 ∧ 0 ≤ (hX h 29 t.toInt.toNat).toInt := by simp [isTh]
theorem t0 : (nI 0).toInt = 0 := by decide
theorem t1 : (nI 1).toInt = 1 := by decide
theorem t6 : (nI 6).toInt = 6 := by decide
theorem t3 : (nI 3).toInt = 3 := by decide
theorem t7 : (nI 7).toInt = 7 := by decide
theorem t23 : (nI 23).toInt = 23 := by decide
theorem nat_ix {t : Int32} (h : 0 ≤ t.toInt) : t.toInt = (t.toInt.toNat : Int) := by omega
theorem ev_isThing (l : Launch) (G : aG) (t : Int32) (h : aH) (rf : Rf h) : Ev l G 1 0 0 mX11_isThing 0 (en 2 [.ref MO, .int t]) [] h (Ex (some (.int (bI (isTh h t)))) h) := by
  refine Ev_iload_n dX11_isThing_0 rfl ?_
  refine Ev_iconst (v := nI 0) dX11_isThing_1 (by decide) ?_
  refine Ev_bipush (v := nI 23) dX11_isThing_2 (by decide) ?_
  refine Ev_S0 [.int t, .int (nI 0), .int (nI 23)] dX11_isThing_4 sX11_isIn kX11_130 rfl rfl (by first | rfl | simp [okv_rv, okv]) (by decide) (by omega) (ev_isIn l G _ _ _ _) ?_
  refine Ev_if_eqB 23 dX11_isThing_7 (by decide) (fun zb7_ => ?_) (fun zb7_ => ?_)
  · have zb7_ : ¬ (0 ≤ t.toInt ∧ t.toInt ≤ 23) := fun q => by
      rw [inB_iff.mpr (by rw [t0, t23]; exact q)] at zb7_; cases zb7_
    refine Ev_iconst (v := nI 0) dX11_isThing_23 (by decide) ?_
    refine Ev_zret dX11_isThing_24 rfl (by decide) ?_
    first | exact Ex_b (bFa isTh_iff (by omega)) | exact Ex_b (bTr isTh_iff (by omega))
  · have zb7_ := inB_iff.mp zb7_
    rw [t0, t23] at zb7_
    refine Ev_aload_n dX11_isThing_10 rfl (by first | exact Or.inr ⟨_, rfl⟩ | exact rv_or _ | exact Or.inl rfl) ?_
    refine Ev_getA dX11_isThing_11 fX11_7 rf.1 (rr_came rf) ?_
    refine Ev_iload_n dX11_isThing_14 rfl ?_
    refine Ev_ialdL _ dX11_isThing_15 (rk_came rf) (rl_came rf) (nat_ix zb7_.1) (by omega) ?_
    refine Ev_if_ltT 23 dX11_isThing_16 (by decide) (fun zb16_ => ?_) (fun zb16_ => ?_)
    · refine Ev_iconst (v := nI 0) dX11_isThing_23 (by decide) ?_
      refine Ev_zret dX11_isThing_24 rfl (by decide) ?_
      first | exact Ex_b (bFa isTh_iff (by omega)) | exact Ex_b (bTr isTh_iff (by omega))
    · refine Ev_iconst (v := nI 1) dX11_isThing_19 (by decide) ?_
      refine Ev_goto 24 dX11_isThing_20 (by decide) ?_
      refine Ev_zret dX11_isThing_24 rfl (by decide) ?_
      first | exact Ex_b (bFa isTh_iff (by omega)) | exact Ex_b (bTr isTh_iff (by omega))
def seeF (h : aH) (k : Nat) : Int32 := if (k : Int) < (hI h 785 MO).toInt then hX h 41 k else -1
theorem ev_see (l : Launch) (G : aG) (k : Nat) (hk : k < 1000) (h : aH) (rf : Rf h) (ht : (hI h 785 MO).toInt ≤ 120) : Ev l G 0 0 0 mX11_see 0 (en 2 [.ref MO, .int (nI k)]) [] h (Ex (some (.int (seeF h k))) h) := by
  refine Ev_iload_n dX11_see_0 rfl ?_
  refine Ev_aload_n dX11_see_1 rfl (by first | exact Or.inr ⟨_, rfl⟩ | exact rv_or _ | exact Or.inl rfl) ?_
  refine Ev_getI dX11_see_2 fX11_134 rf.1 ?_
  refine Ev_icmp_geT 17 dX11_see_5 (by decide) (fun zb5_ => ?_) (fun zb5_ => ?_)
  · refine Ev_iconst (v := -1) dX11_see_17 (by decide) ?_
    refine Ev_iret dX11_see_18 rfl ?_
    first | (exact ⟨by rw [seeF, if_neg (by rw [hi_n (by omega)] at zb5_; omega)], rfl⟩) | (exact ⟨by rw [seeF, if_pos (by rw [hi_n (by omega)] at zb5_; omega)], rfl⟩)
  · refine Ev_aload_n dX11_see_8 rfl (by first | exact Or.inr ⟨_, rfl⟩ | exact rv_or _ | exact Or.inl rfl) ?_
    refine Ev_getA dX11_see_9 fX11_53 rf.1 (rr_tape rf) ?_
    refine Ev_iload_n dX11_see_12 rfl ?_
    refine Ev_ialdL _ dX11_see_13 (rk_tape rf) (rl_tape rf) (hi_n (by omega)) (by rw [hi_n (by omega)] at zb5_; omega) ?_
    refine Ev_goto 18 dX11_see_14 (by decide) ?_
    refine Ev_iret dX11_see_18 rfl ?_
    first | (exact ⟨by rw [seeF, if_neg (by rw [hi_n (by omega)] at zb5_; omega)], rfl⟩) | (exact ⟨by rw [seeF, if_pos (by rw [hi_n (by omega)] at zb5_; omega)], rfl⟩)
def pm (h : aH) (inn : Int32) (t : Nat) : Bool := decide (0 ≤ (hX h 29 t).toInt ∧ hX h 31 t = inn)
theorem pm_iff {h : aH} {inn : Int32} {t : Nat} : pm h inn t = true ↔ 0 ≤ (hX h 29 t).toInt ∧ hX h 31 t = inn := by simp [pm]
theorem ev_many_l (l : Launch) (G : aG) (inn : Int32) (h : aH) (rf : Rf h) (k : Nat) : ∀ t, 24 - t < k → t ≤ 24 → Ev l G 0 0 0 mX11_many 4 [.ref MO, .int inn, .int (nI (fb_ct (pm h inn) t)), .int (nI t)] [] h (Ex (some (.int (nI (fb_ct (pm h inn) 24)))) h) := by
  induction k with
  | zero => intro t hk; omega
  | succ k ih =>
    intro t hk ht
    have hct := fb_ct_le (pm h inn) t
    have jn_ : ∀ x : Nat, x = (if pm h inn t then 1 else 0) → t < 24 → Ev l G 0 0 0 mX11_many 35 [.ref MO, .int inn, .int (nI (fb_ct (pm h inn) t)), .int (nI t)] [.int (nI x), .int (nI (fb_ct (pm h inn) t))] h (Ex (some (.int (nI (fb_ct (pm h inn) 24)))) h) := by
      intro x hx hl
      refine Ev_iaddN dX11_many_35 ?_
      refine Ev_istore_n dX11_many_36 (by decide) ?_
      refine Ev_iincN 1 dX11_many_37 (by decide) (by decide) rfl ?_
      refine Ev_goto 4 dX11_many_40 (by decide) ?_
      have K := ih (t + 1) (by omega) (by omega)
      rw [fb_ct_succ, ← hx] at K
      exact K
    refine Ev_iload_n dX11_many_4 rfl ?_
    refine Ev_bipush (v := nI 24) dX11_many_5 (by decide) ?_
    refine Ev_icmp_geN 43 dX11_many_7 (by decide) (by omega) (by omega) (fun zb7_ => ?_) (fun zb7_ => ?_)
    · refine Ev_iload_n dX11_many_43 rfl ?_
      refine Ev_iret dX11_many_44 rfl ?_
      have e : t = 24 := by omega
      subst e
      exact ⟨rfl, rfl⟩
    · refine Ev_iload_n dX11_many_10 rfl ?_
      refine Ev_aload_n dX11_many_11 rfl (by first | exact Or.inr ⟨_, rfl⟩ | exact rv_or _ | exact Or.inl rfl) ?_
      refine Ev_getA dX11_many_12 fX11_7 rf.1 (rr_came rf) ?_
      refine Ev_iload_n dX11_many_15 rfl ?_
      refine Ev_ialdL _ dX11_many_16 (rk_came rf) (rl_came rf) (hi_n (by omega)) (by omega) ?_
      refine Ev_if_ltT 34 dX11_many_17 (by decide) (fun zb17_ => ?_) (fun zb17_ => ?_)
      · refine Ev_iconst (v := nI 0) dX11_many_34 (by decide) ?_
        exact jn_ _ (by
          first
          | exact (if_neg (fun q => by have := pm_iff.mp q; omega)).symm
          | exact (if_neg (fun q => zb27_ (congrArg Int32.toInt (pm_iff.mp q).2))).symm
          | exact (if_pos (pm_iff.mpr ⟨by omega, Int32.toInt_inj.mp zb27_⟩)).symm) (by omega)
      · refine Ev_aload_n dX11_many_20 rfl (by first | exact Or.inr ⟨_, rfl⟩ | exact rv_or _ | exact Or.inl rfl) ?_
        refine Ev_getA dX11_many_21 fX11_16 rf.1 (rr_parent rf) ?_
        refine Ev_iload_n dX11_many_24 rfl ?_
        refine Ev_ialdL _ dX11_many_25 (rk_parent rf) (rl_parent rf) (hi_n (by omega)) (by omega) ?_
        refine Ev_iload_n dX11_many_26 rfl ?_
        refine Ev_icmp_neT 34 dX11_many_27 (by decide) (fun zb27_ => ?_) (fun zb27_ => ?_)
        · refine Ev_iconst (v := nI 0) dX11_many_34 (by decide) ?_
          exact jn_ _ (by
            first
            | exact (if_neg (fun q => by have := pm_iff.mp q; omega)).symm
            | exact (if_neg (fun q => zb27_ (congrArg Int32.toInt (pm_iff.mp q).2))).symm
            | exact (if_pos (pm_iff.mpr ⟨by omega, Int32.toInt_inj.mp zb27_⟩)).symm) (by omega)
        · refine Ev_iconst (v := nI 1) dX11_many_30 (by decide) ?_
          refine Ev_goto 35 dX11_many_31 (by decide) ?_
          exact jn_ _ (by
            first
            | exact (if_neg (fun q => by have := pm_iff.mp q; omega)).symm
            | exact (if_neg (fun q => zb27_ (congrArg Int32.toInt (pm_iff.mp q).2))).symm
            | exact (if_pos (pm_iff.mpr ⟨by omega, Int32.toInt_inj.mp zb27_⟩)).symm) (by omega)
theorem ev_many (l : Launch) (G : aG) (inn : Int32) (h : aH) (rf : Rf h) : Ev l G 0 0 0 mX11_many 0 (en 4 [.ref MO, .int inn]) [] h (Ex (some (.int (nI (fb_ct (pm h inn) 24)))) h) := by
  refine Ev_iconst (v := nI 0) dX11_many_0 (by decide) ?_
  refine Ev_istore_n dX11_many_1 (by decide) ?_
  refine Ev_iconst (v := nI 0) dX11_many_2 (by decide) ?_
  refine Ev_istore_n dX11_many_3 (by decide) ?_
  exact ev_many_l l G inn h rf 25 0 (by omega) (by omega)
def pcB (h : aH) (inn at_ : Int32) (t : Nat) : Bool := decide (0 ≤ (hX h 29 t).toInt ∧ hX h 31 t = inn ∧ hX h 32 t = at_)
theorem pcB_iff {h : aH} {inn at_ : Int32} {t : Nat} : pcB h inn at_ t = true ↔ 0 ≤ (hX h 29 t).toInt ∧ hX h 31 t = inn ∧ hX h 32 t = at_ := by simp [pcB]
/-- the first one from t on, below n -/
def fstF (p : Nat → Bool) : Nat → Nat → Option Nat
  | 0, _ => none
  | k + 1, t => if p t then some t else fstF p k (t + 1)
def onI (x : Option Nat) : Int32 := match x with
  | none => -1
  | some t => nI t
theorem ev_childAt_l (l : Launch) (G : aG) (inn at_ : Int32) (h : aH) (rf : Rf h) (k : Nat) : ∀ t, t + k = 24 → Ev l G 0 0 0 mX11_childAt 2 [.ref MO, .int inn, .int at_, .int (nI t)] [] h (Ex (some (.int (onI (fstF (pcB h inn at_) k t)))) h) := by
  induction k with
  | zero =>
    intro t ht
    have jn_ : t < 24 → (¬ pcB h inn at_ t = true) → Ev l G 0 0 0 mX11_childAt 39 [.ref MO, .int inn, .int at_, .int (nI t)] [] h (Ex (some (.int (onI (fstF (pcB h inn at_) 0 t)))) h) := fun q => absurd q (by omega)
    generalize hk0 : (0 : Nat) = k at *
    refine Ev_iload_n dX11_childAt_2 rfl ?_
    refine Ev_bipush (v := nI 24) dX11_childAt_3 (by decide) ?_
    refine Ev_icmp_geN 45 dX11_childAt_5 (by decide) (by omega) (by omega) (fun zb5_ => ?_) (fun zb5_ => ?_)
    · refine Ev_iconst (v := -1) dX11_childAt_45 (by decide) ?_
      refine Ev_iret dX11_childAt_46 rfl ?_
      have e : k = 0 := by omega
      subst e
      exact ⟨rfl, rfl⟩
    · refine Ev_aload_n dX11_childAt_8 rfl (by first | exact Or.inr ⟨_, rfl⟩ | exact rv_or _ | exact Or.inl rfl) ?_
      refine Ev_getA dX11_childAt_9 fX11_7 rf.1 (rr_came rf) ?_
      refine Ev_iload_n dX11_childAt_12 rfl ?_
      refine Ev_ialdL _ dX11_childAt_13 (rk_came rf) (rl_came rf) (hi_n (by omega)) (by omega) ?_
      refine Ev_if_ltT 39 dX11_childAt_14 (by decide) (fun zb14_ => ?_) (fun zb14_ => ?_)
      · exact jn_ (by omega) (fun q => by
          first
          | (have := pcB_iff.mp q; omega)
          | exact zb24_ (congrArg Int32.toInt (pcB_iff.mp q).2.1)
          | exact zb34_ (congrArg Int32.toInt (pcB_iff.mp q).2.2))
      · refine Ev_aload_n dX11_childAt_17 rfl (by first | exact Or.inr ⟨_, rfl⟩ | exact rv_or _ | exact Or.inl rfl) ?_
        refine Ev_getA dX11_childAt_18 fX11_16 rf.1 (rr_parent rf) ?_
        refine Ev_iload_n dX11_childAt_21 rfl ?_
        refine Ev_ialdL _ dX11_childAt_22 (rk_parent rf) (rl_parent rf) (hi_n (by omega)) (by omega) ?_
        refine Ev_iload_n dX11_childAt_23 rfl ?_
        refine Ev_icmp_neT 39 dX11_childAt_24 (by decide) (fun zb24_ => ?_) (fun zb24_ => ?_)
        · exact jn_ (by omega) (fun q => by
            first
            | (have := pcB_iff.mp q; omega)
            | exact zb24_ (congrArg Int32.toInt (pcB_iff.mp q).2.1)
            | exact zb34_ (congrArg Int32.toInt (pcB_iff.mp q).2.2))
        · refine Ev_aload_n dX11_childAt_27 rfl (by first | exact Or.inr ⟨_, rfl⟩ | exact rv_or _ | exact Or.inl rfl) ?_
          refine Ev_getA dX11_childAt_28 fX11_19 rf.1 (rr_place rf) ?_
          refine Ev_iload_n dX11_childAt_31 rfl ?_
          refine Ev_ialdL _ dX11_childAt_32 (rk_place rf) (rl_place rf) (hi_n (by omega)) (by omega) ?_
          refine Ev_iload_n dX11_childAt_33 rfl ?_
          refine Ev_icmp_neT 39 dX11_childAt_34 (by decide) (fun zb34_ => ?_) (fun zb34_ => ?_)
          · exact jn_ (by omega) (fun q => by
              first
              | (have := pcB_iff.mp q; omega)
              | exact zb24_ (congrArg Int32.toInt (pcB_iff.mp q).2.1)
              | exact zb34_ (congrArg Int32.toInt (pcB_iff.mp q).2.2))
          · refine Ev_iload_n dX11_childAt_37 rfl ?_
            refine Ev_iret dX11_childAt_38 rfl ?_
            refine ⟨?_, rfl⟩
            obtain ⟨k', rfl⟩ : ∃ k', k = k' + 1 := ⟨k - 1, by omega⟩
            rw [fstF, if_pos (pcB_iff.mpr ⟨by omega, Int32.toInt_inj.mp zb24_, Int32.toInt_inj.mp zb34_⟩)]
            rfl
  | succ k ih =>
    intro t ht
    have jn_ : t < 24 → (¬ pcB h inn at_ t = true) → Ev l G 0 0 0 mX11_childAt 39 [.ref MO, .int inn, .int at_, .int (nI t)] [] h (Ex (some (.int (onI (fstF (pcB h inn at_) (k + 1) t)))) h) := by
      intro q hn
      rw [fstF, if_neg hn]
      refine Ev_iincN 1 dX11_childAt_39 (by decide) (by decide) rfl ?_
      refine Ev_goto 2 dX11_childAt_42 (by decide) ?_
      exact ih (t + 1) (by omega)
    generalize hk0 : k + 1 = k1 at *
    refine Ev_iload_n dX11_childAt_2 rfl ?_
    refine Ev_bipush (v := nI 24) dX11_childAt_3 (by decide) ?_
    refine Ev_icmp_geN 45 dX11_childAt_5 (by decide) (by omega) (by omega) (fun zb5_ => ?_) (fun zb5_ => ?_)
    · refine Ev_iconst (v := -1) dX11_childAt_45 (by decide) ?_
      refine Ev_iret dX11_childAt_46 rfl ?_
      have e : k1 = 0 := by omega
      subst e
      exact ⟨rfl, rfl⟩
    · refine Ev_aload_n dX11_childAt_8 rfl (by first | exact Or.inr ⟨_, rfl⟩ | exact rv_or _ | exact Or.inl rfl) ?_
      refine Ev_getA dX11_childAt_9 fX11_7 rf.1 (rr_came rf) ?_
      refine Ev_iload_n dX11_childAt_12 rfl ?_
      refine Ev_ialdL _ dX11_childAt_13 (rk_came rf) (rl_came rf) (hi_n (by omega)) (by omega) ?_
      refine Ev_if_ltT 39 dX11_childAt_14 (by decide) (fun zb14_ => ?_) (fun zb14_ => ?_)
      · exact jn_ (by omega) (fun q => by
          first
          | (have := pcB_iff.mp q; omega)
          | exact zb24_ (congrArg Int32.toInt (pcB_iff.mp q).2.1)
          | exact zb34_ (congrArg Int32.toInt (pcB_iff.mp q).2.2))
      · refine Ev_aload_n dX11_childAt_17 rfl (by first | exact Or.inr ⟨_, rfl⟩ | exact rv_or _ | exact Or.inl rfl) ?_
        refine Ev_getA dX11_childAt_18 fX11_16 rf.1 (rr_parent rf) ?_
        refine Ev_iload_n dX11_childAt_21 rfl ?_
        refine Ev_ialdL _ dX11_childAt_22 (rk_parent rf) (rl_parent rf) (hi_n (by omega)) (by omega) ?_
        refine Ev_iload_n dX11_childAt_23 rfl ?_
        refine Ev_icmp_neT 39 dX11_childAt_24 (by decide) (fun zb24_ => ?_) (fun zb24_ => ?_)
        · exact jn_ (by omega) (fun q => by
            first
            | (have := pcB_iff.mp q; omega)
            | exact zb24_ (congrArg Int32.toInt (pcB_iff.mp q).2.1)
            | exact zb34_ (congrArg Int32.toInt (pcB_iff.mp q).2.2))
        · refine Ev_aload_n dX11_childAt_27 rfl (by first | exact Or.inr ⟨_, rfl⟩ | exact rv_or _ | exact Or.inl rfl) ?_
          refine Ev_getA dX11_childAt_28 fX11_19 rf.1 (rr_place rf) ?_
          refine Ev_iload_n dX11_childAt_31 rfl ?_
          refine Ev_ialdL _ dX11_childAt_32 (rk_place rf) (rl_place rf) (hi_n (by omega)) (by omega) ?_
          refine Ev_iload_n dX11_childAt_33 rfl ?_
          refine Ev_icmp_neT 39 dX11_childAt_34 (by decide) (fun zb34_ => ?_) (fun zb34_ => ?_)
          · exact jn_ (by omega) (fun q => by
              first
              | (have := pcB_iff.mp q; omega)
              | exact zb24_ (congrArg Int32.toInt (pcB_iff.mp q).2.1)
              | exact zb34_ (congrArg Int32.toInt (pcB_iff.mp q).2.2))
          · refine Ev_iload_n dX11_childAt_37 rfl ?_
            refine Ev_iret dX11_childAt_38 rfl ?_
            refine ⟨?_, rfl⟩
            obtain ⟨k', rfl⟩ : ∃ k', k1 = k' + 1 := ⟨k1 - 1, by omega⟩
            rw [fstF, if_pos (pcB_iff.mpr ⟨by omega, Int32.toInt_inj.mp zb24_, Int32.toInt_inj.mp zb34_⟩)]
            rfl
theorem ev_childAt (l : Launch) (G : aG) (inn at_ : Int32) (h : aH) (rf : Rf h) : Ev l G 0 0 0 mX11_childAt 0 (en 4 [.ref MO, .int inn, .int at_]) [] h (Ex (some (.int (onI (fstF (pcB h inn at_) 24 0)))) h) := by
  refine Ev_iconst (v := nI 0) dX11_childAt_0 (by decide) ?_
  refine Ev_istore_n dX11_childAt_1 (by decide) ?_
  exact ev_childAt_l l G inn at_ h rf 24 0 rfl
