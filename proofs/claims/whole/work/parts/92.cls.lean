def atM (g : Gh) (m : Md) (t : Int32) : Option Nat := if 0 ≤ t.toInt ∧ t.toInt < 24 then (mLv m t.toInt.toNat).map (wA g) else none
theorem atM_some {g : Gh} {m : Md} (k : MOk m) {c : Nat} (hc : mLive m c) : atM g m (nI (mSl m c)) = some (wA g c) := by
  have := k.sl hc
  unfold atM
  rw [hi_n (by omega), if_pos ⟨by omega, by omega⟩, Int.toNat_natCast, hc]; rfl
theorem atM_none {g : Gh} {m : Md} (k : MOk m) {t : Int32} (h : ¬ isT m t) : atM g m t = none := by
  unfold atM
  split
  · rename_i z
    cases hl : mLv m t.toInt.toNat with
    | none => rfl
    | some c =>
      have h1 := k.1 _ _ hl
      exact absurd ⟨c, k.live hl, Int32.toInt_inj.mp (by rw [h1.2.2, hi_n (by omega)]; omega)⟩ h
  · rfl
def paO (g : Gh) (p : Option Nat) : Nat := match p with
  | none => 7
  | some q => wA g q
def plA (g : Gh) (p : Option Nat) : Nat := match p with
  | none => 10
  | some q => wL g q
def plT (p : Option Nat) : Nat × Nat := match p with
  | none => (9, 10)
  | some q => (2, q + 1)
def plE (p : Option Nat) : Nat × Nat := match p with
  | none => (3, 0)
  | some q => (3, q + 1)
theorem paA_eq (g : Gh) (m : Md) (c : Nat) : paA g m c = paO g (mPa m c) := by unfold paA paO; cases mPa m c <;> rfl
/-- a thing's cells of one that is there -/
theorem CM.th {g : Gh} {m : Md} {h : aH} (cm : CM g m h) (k : MOk m) {c : Nat} (hc : mLive m c) : CT1 g m c h := cm.1 c (k.lt hc)
theorem CM.par {g : Gh} {m : Md} {h : aH} (cm : CM g m h) (cf : Cf h) (wf : OwF (wO g)) (k : MOk m) (p : Option Nat) (hp : ∀ q, p = some q → mLive m q) : hK h (paO g p) = 10 ∧ hR h 645 (paO g p) = some (plA g p) ∧ CLs (wO g) (plA g p) ((mCh m p).map (wA g)) 10 (plE p) h ∧ wO g (plA g p) = plT p ∧ hK h (plA g p) = 0 := by
  cases p with
  | none => exact ⟨ck_7 cf, cr_645_7 cf, cm.2.2.2.1, wf.1 10 (by decide), ck_10 cf⟩
  | some q =>
    obtain ⟨a, -, c, l⟩ := cm.th k (hp q rfl)
    exact ⟨a.1, a.2.2.2.2.2.2.2.1, (l (hp q rfl)).2.2, c.2, c.1⟩
theorem wA_inj {g : Gh} {m : Md} {h : aH} (cm : CM g m h) {c c' : Nat} (h1 : c < mCm m) (h2 : c' < mCm m) (e : wA g c = wA g c') : c = c' := by
  have a := (cm.1 c h1).1.2.1
  have b := (cm.1 c' h2).1.2.1
  rw [e, b] at a
  exact (congrArg Prod.snd a).symm
theorem wA_3 {g : Gh} {m : Md} {h : aH} (cm : CM g m h) (hv : Hv h) {c : Nat} (h1 : c < mCm m) : 3 ≤ wA g c := (hv _ (by rw [(cm.1 c h1).1.1]; decide)).1
theorem ec_at (l : Launch) (G : aG) (t : Int32) (g : Gh) (m : Md) (h : aH) (cf : Cf h) (cm : CM g m h) : Ev l G 0 0 0 mX4_at 0 (en 2 [.ref 6, .int t]) [] h (Ex (some (rv (atM g m t))) h) := by
  refine Ev_iload_n dX4_at_0 rfl ?_
  refine Ev_if_ltT 19 dX4_at_1 (by decide) (fun zb1_ => ?_) (fun zb1_ => ?_)
  · refine Ev_null dX4_at_19 ?_
    refine Ev_aret dX4_at_20 rfl (Or.inl ⟨_, rfl⟩) (by first | exact Or.inr ⟨_, rfl⟩ | exact rv_or _ | exact Or.inl rfl) ?_
    refine ⟨?_, rfl⟩
    unfold atM
    first
    | (rw [hi_n (by omega), if_pos ⟨by omega, by omega⟩]; rfl)
    | (rw [if_neg (by omega)]; rfl)
  · refine Ev_iload_n dX4_at_4 rfl ?_
    refine Ev_bipush (v := nI 24) dX4_at_5 (by decide) ?_
    refine Ev_icmp_geT 19 dX4_at_7 (by decide) (fun zb7_ => ?_) (fun zb7_ => ?_)
    · have zz_ : (nI 24).toInt = 24 := by decide
      rw [zz_] at zb7_
      refine Ev_null dX4_at_19 ?_
      refine Ev_aret dX4_at_20 rfl (Or.inl ⟨_, rfl⟩) (by first | exact Or.inr ⟨_, rfl⟩ | exact rv_or _ | exact Or.inl rfl) ?_
      refine ⟨?_, rfl⟩
      unfold atM
      first
      | (rw [hi_n (by omega), if_pos ⟨by omega, by omega⟩]; rfl)
      | (rw [if_neg (by omega)]; rfl)
    · have zz_ : (nI 24).toInt = 24 := by decide
      rw [zz_] at zb7_
      obtain ⟨j, hj_, rfl⟩ : ∃ j : Nat, j < 24 ∧ t = nI j := ⟨t.toInt.toNat, by omega, Int32.toInt_inj.mp (by rw [hi_n (by omega)]; omega)⟩
      refine Ev_aload_n dX4_at_10 rfl (by first | exact Or.inr ⟨_, rfl⟩ | exact rv_or _ | exact Or.inl rfl) ?_
      refine Ev_getA dX4_at_11 fX4_20 (ck_6 cf) (cr_321_6 cf) ?_
      refine Ev_iload_n dX4_at_14 rfl ?_
      refine Ev_aald j dX4_at_15 (ck_11 cf) (by omega) (by omega) (hi_n (by omega)) (by rw [cl_11 cf]; omega) ?_
      rw [cm.2.1 j hj_]
      refine Ev_goto 20 dX4_at_16 (by decide) ?_
      refine Ev_aret dX4_at_20 rfl (Or.inl ⟨_, rfl⟩) (by first | exact Or.inr ⟨_, rfl⟩ | exact rv_or _ | exact Or.inl rfl) ?_
      refine ⟨?_, rfl⟩
      unfold atM
      first
      | (rw [hi_n (by omega), if_pos ⟨by omega, by omega⟩]; rfl)
      | (rw [if_neg (by omega)]; rfl)
theorem ec_freeSlot_l (l : Launch) (G : aG) (g : Gh) (m : Md) (h : aH) (cf : Cf h) (cm : CM g m h) (k_ : Nat) : ∀ t_, t_ + k_ = 24 → Ev l G 0 0 0 mX4_freeSlot 2 [.ref 6, .int (nI t_)] [] h (Ex (some (.int (onI (fstF (frB m) k_ t_)))) h) := by
  induction k_ with
  | zero =>
    intro t_ ht_
    refine Ev_iload_n dX4_freeSlot_2 rfl ?_
    refine Ev_bipush (v := nI 24) dX4_freeSlot_3 (by decide) ?_
    refine Ev_icmp_geN 25 dX4_freeSlot_5 (by decide) (by omega) (by omega) (fun zb5_ => ?_) (fun zb5_ => ?_)
    · refine Ev_iconst (v := -1) dX4_freeSlot_25 (by decide) ?_
      refine Ev_iret dX4_freeSlot_26 rfl ?_
      exact ⟨rfl, rfl⟩
    · exact False.elim (by omega)
  | succ k_ ih_ =>
    intro t_ ht_
    refine Ev_iload_n dX4_freeSlot_2 rfl ?_
    refine Ev_bipush (v := nI 24) dX4_freeSlot_3 (by decide) ?_
    refine Ev_icmp_geN 25 dX4_freeSlot_5 (by decide) (by omega) (by omega) (fun zb5_ => ?_) (fun zb5_ => ?_)
    · exact False.elim (by omega)
    · refine Ev_aload_n dX4_freeSlot_8 rfl (by first | exact Or.inr ⟨_, rfl⟩ | exact rv_or _ | exact Or.inl rfl) ?_
      refine Ev_getA dX4_freeSlot_9 fX4_20 (ck_6 cf) (cr_321_6 cf) ?_
      refine Ev_iload_n dX4_freeSlot_12 rfl ?_
      refine Ev_aald t_ dX4_freeSlot_13 (ck_11 cf) (by omega) (by omega) (hi_n (by omega)) (by rw [cl_11 cf]; omega) ?_
      rw [cm.2.1 t_ (by omega)]
      refine Ev_ifnonnull 19 dX4_freeSlot_14 (by decide) (fun zx14_ zb14_ => ?_) (fun zb14_ => ?_)
      · refine Ev_iincN 1 dX4_freeSlot_19 (by decide) (by decide) rfl ?_
        refine Ev_goto 2 dX4_freeSlot_22 (by decide) ?_
        have ef_ : fstF (frB m) (k_ + 1) t_ = fstF (frB m) k_ (t_ + 1) := if_neg (by unfold frB; cases hl_ : mLv m t_ with | none => rw [hl_] at zb14_; cases zb14_ | some x_ => exact Bool.false_ne_true)
        rw [ef_]
        exact ih_ (t_ + 1) (by omega)
      · refine Ev_iload_n dX4_freeSlot_17 rfl ?_
        refine Ev_iret dX4_freeSlot_18 rfl ?_
        refine ⟨?_, rfl⟩
        show _ = some (Value.int (onI (if frB m t_ = true then some t_ else fstF (frB m) k_ (t_ + 1))))
        rw [if_pos (by unfold frB; cases hl_ : mLv m t_ with | none => rfl | some x_ => rw [hl_] at zb14_; cases zb14_)]; rfl
theorem ec_freeSlot (l : Launch) (G : aG) (g : Gh) (m : Md) (h : aH) (cf : Cf h) (cm : CM g m h) : Ev l G 0 0 0 mX4_freeSlot 0 (en 2 [.ref 6]) [] h (Ex (some (.int (onI (frS m)))) h) := by
  refine Ev_iconst (v := nI 0) dX4_freeSlot_0 (by decide) ?_
  refine Ev_istore_n dX4_freeSlot_1 (by decide) ?_
  exact ec_freeSlot_l l G g m h cf cm 24 0 rfl
theorem ec_placeOf_l (l : Launch) (G : aG) (c : Nat) (g : Gh) (m : Md) (h : aH) (cf : Cf h) (wf : OwF (wO g)) (mk : MOk m) (cm : CM g m h) (hc : mLive m c) (ms : Nat) : ∀ k, (mCh m (mPa m c)).length - k < ms → k ≤ (mCh m (mPa m c)).length → (∀ j, j < k → ¬ (mCh m (mPa m c))[j]? = some c) → Ev l G 3 0 0 mX4_placeOf 19 [.ref 6, .ref (wA g c), .ref (plA g (mPa m c)), .int (nI k)] [] h (Ex (some (.int (nI ((mCh m (mPa m c)).idxOf c)))) h) := by
  have pr_ := cm.par cf wf mk (mPa m c) (mk.2.2.1 c hc).1
  have l24_ := ch_le mk (mPa m c)
  induction ms with
  | zero => intro k hk; omega
  | succ ms ih_ =>
    intro k hk1_ hk2_ hne_
    have il_ := ix_lt mk hc
    have ig_ := ix_get mk hc
    have kl_ : k < (mCh m (mPa m c)).length := by
      apply Classical.byContradiction
      intro z
      exact hne_ (ix m c) (by omega) ig_
    obtain ⟨x_, hx_⟩ : ∃ x_ : Nat, (mCh m (mPa m c))[k]? = some x_ := ⟨_, List.getElem?_eq_getElem kl_⟩
    have hxl_ := ((mk.2.2.2.1 _ x_).mp (List.mem_of_getElem? hx_)).1
    refine Ev_hv (fun hv => ?_)
    have a3c_ := wA_3 cm hv (mk.lt hc)
    have a3x_ := wA_3 cm hv (mk.lt hxl_)
    refine Ev_iload_n dX4_placeOf_19 rfl ?_
    refine Ev_aload_n dX4_placeOf_20 rfl (by first | exact Or.inr ⟨_, rfl⟩ | exact rv_or _ | exact Or.inl rfl) ?_
    refine Ev_V0 [] dX4_placeOf_21 vJx4a65c_size_8abf5 kX4_44 pr_.2.2.2.2 rfl rfl rfl (Nat.le_of_ble_eq_true rfl) (by omega) (ej_size l G (plA g (mPa m c)) ((mCh m (mPa m c)).map (wA g)) 10 h pr_.2.2.1.1.1) ?_
    rw [List.length_map]
    refine Ev_icmp_geN 44 dX4_placeOf_24 (by decide) (by omega) (by omega) (fun zb24_ => ?_) (fun zb24_ => ?_)
    · exact False.elim (by omega)
    · refine Ev_aload_n dX4_placeOf_27 rfl (by first | exact Or.inr ⟨_, rfl⟩ | exact rv_or _ | exact Or.inl rfl) ?_
      refine Ev_iload_n dX4_placeOf_28 rfl ?_
      refine Ev_V0 [.int (nI k)] dX4_placeOf_29 vJx4a65c_get_915e3 kX4_48 pr_.2.2.2.2 rfl rfl rfl (Nat.le_of_ble_eq_true rfl) (by omega) (ej_get l G (plA g (mPa m c)) k (wA g x_) ((mCh m (mPa m c)).map (wA g)) 10 h pr_.2.2.1.1.1 (by rw [List.getElem?_map, hx_]; rfl)) ?_
      refine Ev_aload_n dX4_placeOf_32 rfl (by first | exact Or.inr ⟨_, rfl⟩ | exact rv_or _ | exact Or.inl rfl) ?_
      refine Ev_acmp_ne (x := some (wA g x_)) (y := some (wA g c)) 38 dX4_placeOf_33 (by decide) (fun _ h => by cases h; exact Or.inr a3x_) (fun _ h => by cases h; exact Or.inr a3c_) (fun zb33_ => ?_) (fun zb33_ => ?_)
      · refine Ev_iincN 1 dX4_placeOf_38 (by decide) (by decide) rfl ?_
        refine Ev_goto 19 dX4_placeOf_41 (by decide) ?_
        refine ih_ (k + 1) (by omega) (by omega) (fun j hj hq => ?_)
        by_cases ej_ : j = k
        · rw [ej_, hx_] at hq
          exact zb33_ (by rw [Option.some.inj hq])
        · exact hne_ j (by omega) hq
      · have ex_ : x_ = c := wA_inj cm (mk.lt hxl_) (mk.lt hc) (Option.some.inj zb33_)
        refine Ev_iload_n dX4_placeOf_36 rfl ?_
        refine Ev_iret dX4_placeOf_37 rfl ?_
        refine ⟨?_, rfl⟩
        rw [ex_] at hx_
        have := (ix_of mk hx_).2.2
        unfold ix at this
        rw [this]
theorem ec_placeOf (l : Launch) (G : aG) (c : Nat) (g : Gh) (m : Md) (h : aH) (cf : Cf h) (wf : OwF (wO g)) (mk : MOk m) (cm : CM g m h) (hc : mLive m c) : Ev l G 3 0 0 mX4_placeOf 0 (en 4 [.ref 6, .ref (wA g c)]) [] h (Ex (some (.int (nI ((mCh m (mPa m c)).idxOf c)))) h) := by
  have pr_ := cm.par cf wf mk (mPa m c) (mk.2.2.1 c hc).1
  have l24_ := ch_le mk (mPa m c)
  have t1_ := cm.th mk hc
  have ti_ : hR h 642 (wA g c) = some (paO g (mPa m c)) := by rw [← paA_eq]; exact t1_.1.2.2.2.2.2.1
  refine Ev_aload_n dX4_placeOf_0 rfl (by first | exact Or.inr ⟨_, rfl⟩ | exact rv_or _ | exact Or.inl rfl) ?_
  refine Ev_getR dX4_placeOf_1 fX4_24 t1_.1.1 ?_
  refine Ev_ifnonnull 9 dX4_placeOf_4 (by decide) (fun zx4_ zb4_ => ?_) (fun zb4_ => ?_)
  · refine Ev_aload_n dX4_placeOf_9 rfl (by first | exact Or.inr ⟨_, rfl⟩ | exact rv_or _ | exact Or.inl rfl) ?_
    refine Ev_getA dX4_placeOf_10 fX4_24 t1_.1.1 ti_ ?_
    refine Ev_getA dX4_placeOf_13 fX4_31 pr_.1 pr_.2.1 ?_
    refine Ev_astore_n dX4_placeOf_16 (by decide) (by first | exact Or.inr ⟨_, rfl⟩ | exact rv_or _ | exact Or.inl rfl) ?_
    refine Ev_iconst (v := nI 0) dX4_placeOf_17 (by decide) ?_
    refine Ev_istore_n dX4_placeOf_18 (by decide) ?_
    exact ec_placeOf_l l G c g m h cf wf mk cm hc 25 0 (by omega) (by omega) (fun j hj => by omega)
  · rw [ti_] at zb4_; cases zb4_
/-- what of the things never changes, as far as it is walked -/
def CI (g : Gh) (m : Md) (h : aH) : Prop := (∀ c, c < mCm m → hK h (wA g c) = 10 ∧ wO g (wA g c) = (10, c) ∧ hR h 642 (wA g c) = some (paA g m c)) ∧ hR h 642 7 = none
theorem CM.ci {g : Gh} {m : Md} {h : aH} (cm : CM g m h) : CI g m h := ⟨fun c hc => ⟨(cm.1 c hc).1.1, (cm.1 c hc).1.2.1, (cm.1 c hc).1.2.2.2.2.2.1⟩, cm.2.2.2.2.2.1⟩
theorem wA_injI {g : Gh} {m : Md} {h : aH} (cm : CI g m h) {c c' : Nat} (h1 : c < mCm m) (h2 : c' < mCm m) (e : wA g c = wA g c') : c = c' := by
  have a := (cm.1 c h1).2.1
  have b := (cm.1 c' h2).2.1
  rw [e, b] at a
  exact (congrArg Prod.snd a).symm
theorem wA_3I {g : Gh} {m : Md} {h : aH} (cm : CI g m h) (hv : Hv h) {c : Nat} (h1 : c < mCm m) : 3 ≤ wA g c := (hv _ (by rw [(cm.1 c h1).1]; decide)).1
theorem ec_isWithin_g (l : Launch) (G : aG) {g : Gh} {m : Md} (x_ c_ : Nat) (k : Nat) (hk : k ≤ 6) (h : aH) (cf : Cf h) (cm : CI g m h) (hc7_ : c_ ≠ 7) (hc3_ : 3 ≤ c_) : Ev l G 0 0 0 mX9_isWithin 4 [.ref x_, .ref c_, .ref 7, .int (nI k)] [] h (Ex (some (.int (bI false))) h) := by
  refine Ev_iload_n dX9_isWithin_4 rfl ?_
  refine Ev_bipush (v := nI 6) dX9_isWithin_5 (by decide) ?_
  refine Ev_icmp_gtN 32 dX9_isWithin_7 (by decide) (by omega) (by omega) (fun z_ => ?_) (fun z_ => ?_)
  · exact False.elim (by omega)
  · refine Ev_aload_n dX9_isWithin_10 rfl (Or.inr ⟨_, rfl⟩) ?_
    refine Ev_ifnull (o := some 7) 32 dX9_isWithin_11 (by decide) (fun z_ => by cases z_) (fun a_ z_ => ?_)
    refine Ev_aload_n dX9_isWithin_14 rfl (Or.inr ⟨_, rfl⟩) ?_
    refine Ev_aload_n dX9_isWithin_15 rfl (Or.inr ⟨_, rfl⟩) ?_
    refine Ev_acmp_ne (x := some 7) (y := some c_) 21 dX9_isWithin_16 (by decide) (fun _ h => by cases h; exact Or.inr (by omega)) (fun _ h => by cases h; exact Or.inr hc3_) (fun z2_ => ?_) (fun z2_ => absurd (Option.some.inj z2_).symm hc7_)
    refine Ev_aload_n dX9_isWithin_21 rfl (Or.inr ⟨_, rfl⟩) ?_
    refine Ev_getR dX9_isWithin_22 fX9_29 (ck_7 cf) ?_
    rw [cm.2]
    refine Ev_astore_n dX9_isWithin_25 (by decide) (rv_or _) ?_
    refine Ev_iincN 1 dX9_isWithin_26 (by decide) (by decide) rfl ?_
    refine Ev_goto 4 dX9_isWithin_29 (by decide) ?_
    refine Ev_iload_n dX9_isWithin_4 rfl ?_
    refine Ev_bipush (v := nI 6) dX9_isWithin_5 (by decide) ?_
    refine Ev_icmp_gtN 32 dX9_isWithin_7 (by decide) (by omega) (by omega) (fun z3_ => ?_) (fun z3_ => ?_)
    · refine Ev_iconst (v := nI 0) dX9_isWithin_32 (by decide) ?_
      refine Ev_zret dX9_isWithin_33 rfl (by decide) ?_
      exact ⟨rfl, rfl⟩
    · refine Ev_aload_n dX9_isWithin_10 rfl (rv_or _) ?_
      refine Ev_ifnull (o := none) 32 dX9_isWithin_11 (by decide) (fun _ => ?_) (fun a_ z_ => by cases z_)
      refine Ev_iconst (v := nI 0) dX9_isWithin_32 (by decide) ?_
      refine Ev_zret dX9_isWithin_33 rfl (by decide) ?_
      exact ⟨rfl, rfl⟩
theorem ec_isWithin_l (l : Launch) (G : aG) (x_ c : Nat) (g : Gh) (m : Md) (h : aH) (cf : Cf h) (wf : OwF (wO g)) (mk : MOk m) (cm : CI g m h) (hc_ : c < mCm m) (n : Nat) : ∀ c2, c2 < mCm m → mDp m c2 = n → ∀ k, k + n ≤ 6 → Ev l G 0 0 0 mX9_isWithin 4 [.ref x_, .ref (wA g c), .ref (wA g c2), .int (nI k)] [] h (Ex (some (.int (bI (wIn m c c2)))) h) := by
  induction n with
  | zero => intro c2 h1 h2; have := (mk.2.1 c2 h1).2.2.1; omega
  | succ n ih_ =>
    intro c2 hc2_ hd_ k hk_
    refine Ev_hv (fun hv => ?_)
    have a3c_ := wA_3I cm hv hc_
    have a3x_ := wA_3I cm hv hc2_
    have t1_ := cm.1 c2 hc2_
    have ti_ : hR h 642 (wA g c2) = some (paO g (mPa m c2)) := by rw [← paA_eq]; exact t1_.2.2
    have c7_ : wA g c ≠ 7 := fun z => by
      have := (cm.1 c hc_).2.1
      rw [z, wf.1 7 (by decide)] at this; exact absurd (congrArg Prod.fst this) (fun z2 => by have z3 : (9 : Nat) = 10 := z2; omega)
    refine Ev_iload_n dX9_isWithin_4 rfl ?_
    refine Ev_bipush (v := nI 6) dX9_isWithin_5 (by decide) ?_
    refine Ev_icmp_gtN 32 dX9_isWithin_7 (by decide) (by omega) (by omega) (fun zb7_ => ?_) (fun zb7_ => ?_)
    · exact False.elim (by omega)
    · refine Ev_aload_n dX9_isWithin_10 rfl (by first | exact Or.inr ⟨_, rfl⟩ | exact rv_or _ | exact Or.inl rfl) ?_
      refine Ev_ifnull (o := some (wA g c2)) 32 dX9_isWithin_11 (by decide) (fun z_ => by cases z_) (fun a_ z_ => ?_)
      refine Ev_aload_n dX9_isWithin_14 rfl (by first | exact Or.inr ⟨_, rfl⟩ | exact rv_or _ | exact Or.inl rfl) ?_
      refine Ev_aload_n dX9_isWithin_15 rfl (by first | exact Or.inr ⟨_, rfl⟩ | exact rv_or _ | exact Or.inl rfl) ?_
      refine Ev_acmp_ne (x := some (wA g c2)) (y := some (wA g c)) 21 dX9_isWithin_16 (by decide) (fun _ h => by cases h; exact Or.inr a3x_) (fun _ h => by cases h; exact Or.inr a3c_) (fun zb16_ => ?_) (fun zb16_ => ?_)
      · refine Ev_aload_n dX9_isWithin_21 rfl (by first | exact Or.inr ⟨_, rfl⟩ | exact rv_or _ | exact Or.inl rfl) ?_
        refine Ev_getA dX9_isWithin_22 fX9_29 t1_.1 ti_ ?_
        refine Ev_astore_n dX9_isWithin_25 (by decide) (by first | exact Or.inr ⟨_, rfl⟩ | exact rv_or _ | exact Or.inl rfl) ?_
        refine Ev_iincN 1 dX9_isWithin_26 (by decide) (by decide) rfl ?_
        refine Ev_goto 4 dX9_isWithin_29 (by decide) ?_
        have nx_ : ¬ c2 = c := fun z => zb16_ (by rw [z])
        cases hp_ : mPa m c2 with
        | none =>
          rw [show wIn m c c2 = false by rw [wIn_step mk c hc2_, hp_, decide_eq_false nx_]; rfl]
          exact ec_isWithin_g l G _ _ (k + 1) (by omega) h cf cm c7_ a3c_
        | some q =>
          rw [show wIn m c c2 = wIn m c q by rw [wIn_step mk c hc2_, hp_, decide_eq_false nx_]; rfl]
          have hq_ := (mk.2.1 c2 hc2_).2.2.2.2.2 q hp_
          exact ih_ q hq_.1 (by omega) (k + 1) (by omega)
      · refine Ev_iconst (v := nI 1) dX9_isWithin_19 (by decide) ?_
        refine Ev_zret dX9_isWithin_20 rfl (by decide) ?_
        have ex_ : c2 = c := wA_injI cm hc2_ hc_ (Option.some.inj zb16_)
        refine ⟨?_, rfl⟩
        rw [wIn_step mk c hc2_, decide_eq_true ex_]; rfl
theorem ec_isWithin (l : Launch) (G : aG) (c c2 : Nat) (g : Gh) (m : Md) (h : aH) (cf : Cf h) (wf : OwF (wO g)) (mk : MOk m) (cm : CI g m h) (hc_ : c < mCm m) (hc2_ : c2 < mCm m) : Ev l G 0 0 0 mX9_isWithin 0 (en 4 [.ref (wA g c2), .ref (wA g c)]) [] h (Ex (some (.int (bI (wIn m c c2)))) h) := by
  refine Ev_aload_n dX9_isWithin_0 rfl (by first | exact Or.inr ⟨_, rfl⟩ | exact rv_or _ | exact Or.inl rfl) ?_
  refine Ev_astore_n dX9_isWithin_1 (by decide) (by first | exact Or.inr ⟨_, rfl⟩ | exact rv_or _ | exact Or.inl rfl) ?_
  refine Ev_iconst (v := nI 0) dX9_isWithin_2 (by decide) ?_
  refine Ev_istore_n dX9_isWithin_3 (by decide) ?_
  exact ec_isWithin_l l G (wA g c2) c g m h cf wf mk cm hc_ (mDp m c2) c2 hc2_ rfl 0 (by have := (mk.2.1 c2 hc2_).2.2.2.1; omega)
