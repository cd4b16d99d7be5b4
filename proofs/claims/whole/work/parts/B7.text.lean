theorem ec_fill16F (l : Launch) (G : aG) (k : Nat) (g : Gh) (m : Md) (ru : Nat → List It) (T : Nat) (h : aH) (w : WBd g m ru h) (mk : MOk m) (hT : T = 18 ∨ T = 21) (fu_ : hI h 580 T = nI 1) (hk_ : k ≤ 1000) : Ev l G 17 0 0 mX3_fill 16 [.ref 24, .ref T, .ref 7, .int (nI k)] [] h (Ex none h) := by
  obtain ⟨n63_, cf, wf, cm, cr⟩ := id w
  have kT_ := (tx_f cf hT).1
  have cl_ := cm.2.2.2.1
  have lc_ : (mCh m none).length ≤ 24 := ch_le mk none
  refine Ev_iload_n dX3_fill_16 rfl ?_
  refine Ev_aload_n dX3_fill_17 rfl (by first | exact Or.inr ⟨_, rfl⟩ | exact rv_or _ | exact Or.inl rfl) ?_
  refine Ev_getA dX3_fill_18 fX3_32 (ck_7 cf) (cr_645_7 cf) ?_
  refine Ev_V0 [] dX3_fill_21 vJx4a65c_size_8abf5 kX3_38 (ck_10 cf) rfl rfl rfl (Nat.le_of_ble_eq_true rfl) (by omega) (ej_size l G 10 ((mCh m none).map (wA g)) 10 h cl_.1.1) ?_
  rw [List.length_map]
  refine Ev_icmp_geN 57 dX3_fill_24 (by decide) (by omega) (by omega) (fun zb24_ => ?_) (fun zb24_ => ?_)
  · refine Ev_vret dX3_fill_57 rfl ?_
    exact ⟨rfl, rfl⟩
  · refine Ev_aload_n dX3_fill_27 rfl (by first | exact Or.inr ⟨_, rfl⟩ | exact rv_or _ | exact Or.inl rfl) ?_
    refine Ev_getE dX3_fill_28 fX3_44 kT_ fu_ ?_
    refine Ev_if_neT 57 dX3_fill_31 (by decide) (fun zb31_ => ?_) (fun zb31_ => ?_)
    · refine Ev_vret dX3_fill_57 rfl ?_
      exact ⟨rfl, rfl⟩
    · exact absurd zb31_ (by decide)
theorem ec_fill_l (l : Launch) (G : aG) (m : Md) (ru : Nat → List It) (T : Nat) (mk : MOk m) (hcm : mCm m ≤ 600) (hT : T = 18 ∨ T = 21) : ∀ (rest : List Nat) (k : Nat), (mCh m none).drop k = rest → k ≤ 1000 → ∀ (u : Nat) (ps : List Pc) (g : Gh) (h : aH), WBd g m ru h → hR h 258 24 = some T → CBt g T u ps h → Ev l G 17 (cst (fdE (rest.flatMap (mkU m ru 6 [] [])) (u, ps)) ps.length) (9 * cst (fdE (rest.flatMap (mkU m ru 6 [] [])) (u, ps)) ps.length) mX3_fill 16 [.ref 24, .ref T, .ref 7, .int (nI k)] [] h (FlP g T h (fdE (rest.flatMap (mkU m ru 6 [] [])) (u, ps))) := by
  intro rest
  induction rest with
  | nil =>
    intro k hd_ hk1000_ u ps g h w tg_ b
    have hk_ := List.drop_eq_nil_iff.mp hd_
    obtain ⟨n63_, cf, wf, cm, cr⟩ := id w
    have kT_ := (tx_f cf hT).1
    have cl_ := cm.2.2.2.1
    have lc_ : (mCh m none).length ≤ 24 := ch_le mk none
    refine Ev_iload_n dX3_fill_16 rfl ?_
    refine Ev_aload_n dX3_fill_17 rfl (by first | exact Or.inr ⟨_, rfl⟩ | exact rv_or _ | exact Or.inl rfl) ?_
    refine Ev_getA dX3_fill_18 fX3_32 (ck_7 cf) (cr_645_7 cf) ?_
    refine Ev_V0 [] dX3_fill_21 vJx4a65c_size_8abf5 kX3_38 (ck_10 cf) rfl rfl rfl (Nat.le_of_ble_eq_true rfl) (by omega) (ej_size l G 10 ((mCh m none).map (wA g)) 10 h cl_.1.1) ?_
    rw [List.length_map]
    refine Ev_icmp_geN 57 dX3_fill_24 (by decide) (by omega) (by omega) (fun zb24_ => ?_) (fun zb24_ => ?_)
    · refine Ev_vret dX3_fill_57 rfl ?_
      exact ⟨rfl, wO g, FlF.rf, b⟩
    · exact False.elim (by omega)
  | cons x rest ih_ =>
    intro k hd_ hk1000_ u ps g h w tg_ b
    refine Ev_hv (fun hv => ?_)
    have hx_ : (mCh m none)[k]? = some x := by
      have e := congrArg (fun q => q[0]?) hd_
      simpa using e
    have dr_ : (mCh m none).drop (k + 1) = rest := by
      rw [← List.drop_drop, hd_]; rfl
    have hkl_ := (List.getElem?_eq_some_iff.mp hx_).1
    obtain ⟨n63_, cf, wf, cm, cr⟩ := id w
    have kT_ := (tx_f cf hT).1
    have cl_ := cm.2.2.2.1
    have lc_ : (mCh m none).length ≤ 24 := ch_le mk none
    have fu_ := b.2.2.1
    have lx_ := (mk.2.2.2.1 none x).mp (List.mem_of_getElem? hx_)
    have tx_ := cm.1 x (mk.lt lx_.1)
    have dx_ : mDp m x = ([] : List Nat).length + 1 := (mk.2.1 x (mk.lt lx_.1)).2.2.2.2.1 lx_.2
    have ec_ : fdE ((x :: rest).flatMap (mkU m ru 6 [] [])) (u, ps) = bdE (fdE (mkU m ru 6 [] [] x) (u, ps)) (rest.flatMap (mkU m ru 6 [] [])) := by
      rw [← bdE_app]; rfl
    have ca_ := cst_bd (fs := rest.flatMap (mkU m ru 6 [] [])) (n := ps.length) (mid := fdE (mkU m ru 6 [] [] x) (u, ps)) (fun b1 h1 => fdE_len h1 b.1.2.1)
    rw [← ec_] at ca_
    refine Ev_iload_n dX3_fill_16 rfl ?_
    refine Ev_aload_n dX3_fill_17 rfl (by first | exact Or.inr ⟨_, rfl⟩ | exact rv_or _ | exact Or.inl rfl) ?_
    refine Ev_getA dX3_fill_18 fX3_32 (ck_7 cf) (cr_645_7 cf) ?_
    refine Ev_V0 [] dX3_fill_21 vJx4a65c_size_8abf5 kX3_38 (ck_10 cf) rfl rfl rfl (Nat.le_of_ble_eq_true rfl) (by omega) (ej_size l G 10 ((mCh m none).map (wA g)) 10 h cl_.1.1) ?_
    rw [List.length_map]
    refine Ev_icmp_geN 57 dX3_fill_24 (by decide) (by omega) (by omega) (fun zb24_ => ?_) (fun zb24_ => ?_)
    · exact False.elim (by omega)
    · refine Ev_aload_n dX3_fill_27 rfl (by first | exact Or.inr ⟨_, rfl⟩ | exact rv_or _ | exact Or.inl rfl) ?_
      refine Ev_getE dX3_fill_28 fX3_44 kT_ fu_ ?_
      refine Ev_if_neT 57 dX3_fill_31 (by decide) (fun zb31_ => ?_) (fun zb31_ => ?_)
      · exact absurd zb31_ (by decide)
      · refine Ev_aload_n dX3_fill_34 rfl (by first | exact Or.inr ⟨_, rfl⟩ | exact rv_or _ | exact Or.inl rfl) ?_
        refine Ev_aload_n dX3_fill_35 rfl (by first | exact Or.inr ⟨_, rfl⟩ | exact rv_or _ | exact Or.inl rfl) ?_
        refine Ev_getA dX3_fill_36 fX3_32 (ck_7 cf) (cr_645_7 cf) ?_
        refine Ev_iload_n dX3_fill_39 rfl ?_
        refine Ev_V0 [.int (nI k)] dX3_fill_40 vJx4a65c_get_915e3 kX3_48 (ck_10 cf) rfl rfl rfl (Nat.le_of_ble_eq_true rfl) (by omega) (ej_get l G 10 k (wA g x) ((mCh m none).map (wA g)) 10 h cl_.1.1 (by rw [List.getElem?_map, hx_]; rfl)) ?_
        refine Ev_cast dX3_fill_43 tx_.1.1 rfl qX3_33 ?_
        refine Ev_iconst (v := nI 0) dX3_fill_46 (by decide) ?_
        refine Ev_iconst (v := nI 1) dX3_fill_47 (by decide) ?_
        have ux_ := ec_makeUse l G m ru T mk hcm hT 6 [] [] x u ps g h (by simp) rfl (fun y hy => by cases hy) (fun y hy => by cases hy) lx_.1 dx_ w tg_ b
        refine Ev_Vg (mc2 := rst (fdE (mkU m ru 6 [] [] x) (u, ps)) (rest.flatMap (mkU m ru 6 [] []))) (ms2 := 9 * rst (fdE (mkU m ru 6 [] [] x) (u, ps)) (rest.flatMap (mkU m ru 6 [] []))) [.ref (wA g x), .int (nI 0), .int (nI 1)] dX3_fill_48 vX3_makeUse kX3_52 (ck_24 cf) rfl rfl rfl (Nat.le_of_ble_eq_true rfl) (by omega) (by omega) (by omega) (ux_) (fun v_ h1 e_ => ?_)
        obtain ⟨rfl, e2_⟩ := e_
        rw [ec_]
        obtain ⟨o1, f1, c1⟩ := e2_
        have w1 := f1.wb w hv hT
        have tg1 : hR h1 258 24 = some T := (f1.2.2 _ _ (by decide)).trans tg_
        refine Ev_iincN 1 dX3_fill_51 (by decide) (by decide) rfl ?_
        refine Ev_goto 16 dX3_fill_54 (by decide) ?_
        cases hm : fdE (mkU m ru 6 [] [] x) (u, ps) with
        | none =>
          rw [hm] at c1
          exact Ev.lift (Nat.le_refl _) (by omega) (by omega) (Ev.ex (ec_fill16F l G (k + 1) (gw g o1) m ru T h1 w1 mk hT c1.2 (by omega)) ⟨rfl, o1, f1, c1⟩)
        | some b1 =>
          rw [hm] at c1
          exact Ev.post (fun v h2 e2 => FlP.of f1 e2) (ih_ (k + 1) dr_ (by omega) b1.1 b1.2 (gw g o1) h1 w1 tg1 c1)
/-- behind fill -/
def FiP (g : Gh) (m : Md) (ru : Nat → List It) (T : Nat) (h : aH) (x : Option Value) (h' : aH) : Prop := x = none ∧ ∃ ow', OwX g ow' h ∧ FS g (SOp T) h h' ∧ (∀ k a, a ∈ [3, 4, 6, 7, 18, 21, 24, 26] → ¬ (k = 258 ∧ a = 24) → hR h' k a = hR h k a) ∧ ((∃ ps, mkNew m ru = some ps ∧ CTx (gw g ow') T ps h' ∧ hI h' 580 T = nI 0) ∨ (mkNew m ru = none ∧ JK (gw g ow') T h' ∧ hI h' 580 T = nI 1))
theorem ec_fill (l : Launch) (G : aG) (g : Gh) (m : Md) (ru : Nat → List It) (T : Nat) (h : aH) (w : WBd g m ru h) (mk : MOk m) (hcm : mCm m ≤ 600) (hT : T = 18 ∨ T = 21) (jk : JK g T h) : Ev l G 17 250 2250 mX3_fill 0 (en 4 [.ref 24, .ref T, .ref 7]) [] h (FiP g m ru T h) := by
  refine Ev_hv (fun hv => ?_)
  obtain ⟨n63_, cf, wf, cm, cr⟩ := id w
  have kT_ := (tx_f cf hT).1
  have k24_ := ck_24 cf
  have w24_ : wO g 24 = (9, 24) := wf.1 24 (by decide)
  have wT_ : wO g T = (9, T) := wf.1 _ (by rcases hT with rfl | rfl <;> decide)
  refine Ev_aload_n dX3_fill_0 rfl (by first | exact Or.inr ⟨_, rfl⟩ | exact rv_or _ | exact Or.inl rfl) ?_
  refine Ev_aload_n dX3_fill_1 rfl (by first | exact Or.inr ⟨_, rfl⟩ | exact rv_or _ | exact Or.inl rfl) ?_
  refine Ev_putR (x := some T) dX3_fill_2 fX3_19 ⟨_, rfl, Or.inl rfl⟩ k24_ rfl ?_
  refine Ev_aload_n dX3_fill_5 rfl (by first | exact Or.inr ⟨_, rfl⟩ | exact rv_or _ | exact Or.inl rfl) ?_
  refine Ev_iconst (v := nI 0) dX3_fill_6 (by decide) ?_
  refine Ev_putI dX3_fill_7 fX3_23 ⟨_, rfl, Or.inl rfl⟩ (Or.inl rfl) k24_ ?_
  refine Ev_aload_n dX3_fill_10 rfl (by first | exact Or.inr ⟨_, rfl⟩ | exact rv_or _ | exact Or.inl rfl) ?_
  refine Ev_V0 [] dX3_fill_11 vX8_clear kX3_27 kT_ rfl rfl rfl (Nat.le_of_ble_eq_true rfl) (by omega) (ec_clear l G T (sI (sR h 258 24 (some T)) 259 24 (nI 0)) kT_) ?_
  refine Ev_iconst (v := nI 0) dX3_fill_14 (by decide) ?_
  refine Ev_istore_n dX3_fill_15 (by decide) ?_
  have fF_ : FS g (SOp T) h (sI (sI (sI (sI (sR h 258 24 (some T)) 259 24 (nI 0)) 578 T (nI 0)) 579 T (nI 0)) 580 T (nI 0)) := (((FO.sR (Or.inr (Or.inr (Or.inr (Or.inr (Or.inl w24_)))))).tr (FO.sI (Or.inr (Or.inr (Or.inr (Or.inr (Or.inl w24_))))))).tr (FO.sI (Or.inl wT_))).tr (FO.sI (Or.inl wT_)) |>.tr (FO.sI (Or.inl wT_))
  have rF_ : ∀ k a, ¬ (k = 258 ∧ a = 24) → hR (sI (sI (sI (sI (sR h 258 24 (some T)) 259 24 (nI 0)) 578 T (nI 0)) 579 T (nI 0)) 580 T (nI 0)) k a = hR h k a := fun k a z => by
    show hR (sR h 258 24 (some T)) k a = hR h k a
    by_cases y : k = 258
    · exact hR_a _ _ (fun q => z ⟨y, q⟩)
    · exact hR_o _ _ y
  have cfF_ : Cf (sI (sI (sI (sI (sR h 258 24 (some T)) 259 24 (nI 0)) 578 T (nI 0)) 579 T (nI 0)) 580 T (nI 0)) := cf.fo hv fF_ wf (fun q hq => rF_ _ _ (by have key : ∀ q ∈ cfR, ¬ (q.1 = 258 ∧ q.2.1 = 24) := (by decide); exact key q hq))
  have wbF_ : WBd g m ru (sI (sI (sI (sI (sR h 258 24 (some T)) 259 24 (nI 0)) 578 T (nI 0)) 579 T (nI 0)) 580 T (nI 0)) := by
    have f0 : FlF g (wO g) T (sR h 258 24 (some T)) (sI (sI (sI (sI (sR h 258 24 (some T)) 259 24 (nI 0)) 578 T (nI 0)) 579 T (nI 0)) 580 T (nI 0)) := ⟨fun _ _ => rfl, (((FO.sI (Or.inr (Or.inr (Or.inr (Or.inr (Or.inl w24_)))))).tr (FO.sI (Or.inl wT_))).tr (FO.sI (Or.inl wT_))).tr (FO.sI (Or.inl wT_)), fun _ _ _ => rfl⟩
    have e0 : OwX g (wO g) h := fun _ _ => rfl
    have fR : FS g (fun tg => tg = (9, 24)) h (sR h 258 24 (some T)) := FO.sR w24_
    have cfR_ : Cf (sR h 258 24 (some T)) := cf.fo hv fR wf (fun q hq => by
      have key : ∀ q ∈ cfR, ¬ (q.1 = 258 ∧ q.2.1 = 24) := (by decide)
      exact rF_ _ _ (key q hq))
    refine f0.wb ⟨n63_, cfR_, wf, cm.fo cf wf fR hv e0 (fun tg ht z => ?_), cr.fo cf wf fR hv e0 (by decide) (by decide)⟩ (fun b hb => hv b hb) hT
    subst z
    revert ht
    decide
  have cbF_ : CBt g T 0 [] (sI (sI (sI (sI (sR h 258 24 (some T)) 259 24 (nI 0)) 578 T (nI 0)) 579 T (nI 0)) 580 T (nI 0)) := by
    refine ⟨⟨jk, by simp, by simp [flat], ?_, fun i p hp => by simp at hp, fun k hk => by simp [flat] at hk⟩, ?_, hI_s _ _ _ _, ?_, by omega⟩
    · exact (hI_o _ _ (by decide)).trans (hI_s _ _ _ _)
    · exact (hI_o _ _ (by decide)).trans ((hI_o _ _ (by decide)).trans (hI_s _ _ _ _))
    · exact (hI_o _ _ (by decide)).trans ((hI_o _ _ (by decide)).trans ((hI_o _ _ (by decide)).trans (hI_s _ _ _ _)))
  have K_ := ec_fill_l l G m ru T mk hcm hT (mCh m none) 0 rfl (by omega) 0 [] g (sI (sI (sI (sI (sR h 258 24 (some T)) 259 24 (nI 0)) 578 T (nI 0)) 579 T (nI 0)) 580 T (nI 0)) wbF_ (hR_s _ _ _ _) cbF_
  have c250_ : cst (fdE ((mCh m none).flatMap (mkU m ru 6 [] [])) (0, [])) ([] : List Pc).length ≤ 250 := by
    cases hm : fdE ((mCh m none).flatMap (mkU m ru 6 [] [])) (0, []) with
    | none => show 250 - 0 ≤ 250; omega
    | some b1 =>
      have := fdE_len hm (by simp)
      show b1.2.length - 0 ≤ 250; omega
  refine Ev.wide (by omega) (by omega) (Ev.post (fun v h2 e2 => ?_) K_)
  obtain ⟨rfl, o2, f2, c2⟩ := e2
  refine ⟨rfl, o2, f2.1, fF_.tr f2.2.1, fun k a ha z => (f2.2.2 k a ha).trans (rF_ k a z), ?_⟩
  have em_ : mkNew m ru = (fdE ((mCh m none).flatMap (mkU m ru 6 [] [])) (0, [])).map (fun b => b.2) := rfl
  cases hm : fdE ((mCh m none).flatMap (mkU m ru 6 [] [])) (0, []) with
  | none =>
    rw [hm] at c2 em_
    exact Or.inr ⟨em_, c2⟩
  | some b1 =>
    rw [hm] at c2 em_
    exact Or.inl ⟨b1.2, em_, c2.1, c2.2.2.1⟩
theorem dig_e {v : Nat} {x : Int32} (h1 : 48 ≤ x.toInt) (h2 : x.toInt ≤ 57) (h3 : v < 1000000) : nI (v * 10) + x - nI 48 = nI (10 * v + (x.toInt - 48).toNat) := by
  obtain ⟨k, hk, rfl⟩ := as_nI (n := 57) (x := x) (by omega) (by omega)
  rw [hi_n (by omega)] at h1 h2 ⊢
  rw [nI_add, pk_sub (by omega)]
  congr 1
  omega
theorem ec_valueOf_l (l : Launch) (G : aG) (r : Nat) (xs : List Int32) (h : aH) (hk_ : hK h r = 13) (hl_ : hL h r = xs.length) (hx_ : ∀ k, k < xs.length → hX h r k = xs.getD k 0) (h5_ : xs.length ≤ 5) (ms : Nat) : ∀ k, xs.length - k < ms → k ≤ xs.length → ∀ v, v < 10 ^ k → nvL (xs.drop k) v = nvL xs 0 → Ev l G 0 0 0 mX10_valueOf 31 [.ref r, .int (nI v), .int (nI k)] [] h (Ex (some (.int (onI (nvL xs 0)))) h) := by
  induction ms with
  | zero => intro k hk; omega
  | succ ms ih_ =>
    intro k hk1_ hk2_ v vb_ hv_
    have v6_ : v < 1000000 := Nat.lt_of_lt_of_le vb_ (Nat.le_trans (Nat.pow_le_pow_right (by decide) (show k ≤ 5 by omega)) (by decide))
    refine Ev_iload_n dX10_valueOf_31 rfl ?_
    refine Ev_aload_n dX10_valueOf_32 rfl (by first | exact Or.inr ⟨_, rfl⟩ | exact rv_or _ | exact Or.inl rfl) ?_
    refine Ev_alen dX10_valueOf_33 hk_ (by omega) (by omega) ?_
    rw [hl_]
    refine Ev_icmp_geN 73 dX10_valueOf_34 (by decide) (by omega) (by omega) (fun zb34_ => ?_) (fun zb34_ => ?_)
    · refine Ev_iload_n dX10_valueOf_73 rfl ?_
      refine Ev_iret dX10_valueOf_74 rfl ?_
      refine ⟨?_, rfl⟩
      rw [← hv_, List.drop_eq_nil_of_le (by omega)]
      rfl
    · refine Ev_aload_n dX10_valueOf_37 rfl (by first | exact Or.inr ⟨_, rfl⟩ | exact rv_or _ | exact Or.inl rfl) ?_
      refine Ev_iload_n dX10_valueOf_38 rfl ?_
      refine Ev_ialdE k dX10_valueOf_39 hk_ hl_ (hi_n (by omega)) (by omega) (hx_ k (by omega)) ?_
      refine Ev_bipush (v := nI 48) dX10_valueOf_40 (by decide) ?_
      refine Ev_icmp_ltT 53 dX10_valueOf_42 (by decide) (fun zb42_ => ?_) (fun zb42_ => ?_)
      · rw [t48] at zb42_
        refine Ev_iconst (v := -1) dX10_valueOf_53 (by decide) ?_
        refine Ev_iret dX10_valueOf_54 rfl ?_
        refine ⟨?_, rfl⟩
        have e_ : nvL xs 0 = none := by
          rw [← hv_, drop_getD (xs := xs) (k := k) (by omega)]
          show (if 48 ≤ (xs.getD k 0).toInt ∧ (xs.getD k 0).toInt ≤ 57 then _ else none) = none
          rw [if_neg (by omega)]
        rw [e_]; rfl
      · rw [t48] at zb42_
        refine Ev_aload_n dX10_valueOf_45 rfl (by first | exact Or.inr ⟨_, rfl⟩ | exact rv_or _ | exact Or.inl rfl) ?_
        refine Ev_iload_n dX10_valueOf_46 rfl ?_
        refine Ev_ialdE k dX10_valueOf_47 hk_ hl_ (hi_n (by omega)) (by omega) (hx_ k (by omega)) ?_
        refine Ev_bipush (v := nI 57) dX10_valueOf_48 (by decide) ?_
        refine Ev_icmp_leT 55 dX10_valueOf_50 (by decide) (fun zb50_ => ?_) (fun zb50_ => ?_)
        · rw [t57] at zb50_
          refine Ev_iload_n dX10_valueOf_55 rfl ?_
          refine Ev_bipush (v := nI 10) dX10_valueOf_56 (by decide) ?_
          refine Ev_imulN dX10_valueOf_58 ?_
          refine Ev_aload_n dX10_valueOf_59 rfl (by first | exact Or.inr ⟨_, rfl⟩ | exact rv_or _ | exact Or.inl rfl) ?_
          refine Ev_iload_n dX10_valueOf_60 rfl ?_
          refine Ev_ialdE k dX10_valueOf_61 hk_ hl_ (hi_n (by omega)) (by omega) (hx_ k (by omega)) ?_
          refine Ev_iadd dX10_valueOf_62 ?_
          refine Ev_bipush (v := nI 48) dX10_valueOf_63 (by decide) ?_
          refine Ev_isub dX10_valueOf_65 ?_
          rw [show nI (v * 10) + xs.getD k 0 - nI 48 = nI (10 * v + ((xs.getD k 0).toInt - 48).toNat) from dig_e (by omega) (by omega) (by omega)]
          refine Ev_istore_n dX10_valueOf_66 (by decide) ?_
          refine Ev_iincN 1 dX10_valueOf_67 (by decide) (by decide) rfl ?_
          refine Ev_goto 31 dX10_valueOf_70 (by decide) ?_
          refine ih_ (k + 1) (by omega) (by omega) (10 * v + ((xs.getD k 0).toInt - 48).toNat) ?_ ?_
          · rw [Nat.pow_succ]; omega
          · rw [← hv_, drop_getD (xs := xs) (k := k) (by omega)]
            show _ = (if 48 ≤ (xs.getD k 0).toInt ∧ (xs.getD k 0).toInt ≤ 57 then _ else none)
            rw [if_pos ⟨by omega, by omega⟩]
        · rw [t57] at zb50_
          refine Ev_iconst (v := -1) dX10_valueOf_53 (by decide) ?_
          refine Ev_iret dX10_valueOf_54 rfl ?_
          refine ⟨?_, rfl⟩
          have e_ : nvL xs 0 = none := by
            rw [← hv_, drop_getD (xs := xs) (k := k) (by omega)]
            show (if 48 ≤ (xs.getD k 0).toInt ∧ (xs.getD k 0).toInt ≤ 57 then _ else none) = none
            rw [if_neg (by omega)]
          rw [e_]; rfl
theorem ec_valueOf (l : Launch) (G : aG) (r : Nat) (xs : List Int32) (h : aH) (hk_ : hK h r = 13) (hl_ : hL h r = xs.length) (hx_ : ∀ k, k < xs.length → hX h r k = xs.getD k 0) (hb_ : xs.length ≤ 1000) : Ev l G 0 0 0 mX10_valueOf 0 (en 3 [.ref r]) [] h (Ex (some (.int (onI (numV xs)))) h) := by
  refine Ev_aload_n dX10_valueOf_0 rfl (by first | exact Or.inr ⟨_, rfl⟩ | exact rv_or _ | exact Or.inl rfl) ?_
  refine Ev_alen dX10_valueOf_1 hk_ (by omega) (by omega) ?_
  rw [hl_]
  refine Ev_if_eqT 25 dX10_valueOf_2 (by decide) (fun zb2_ => ?_) (fun zb2_ => ?_)
  · rw [hi_n (by omega)] at zb2_
    refine Ev_iconst (v := -1) dX10_valueOf_25 (by decide) ?_
    refine Ev_iret dX10_valueOf_26 rfl ?_
    refine ⟨?_, rfl⟩
    unfold numV
    rw [if_neg ?_]
    · rfl
    · rintro ⟨z1, z2⟩
      first
      | omega
      | exact z2 ⟨by omega, by omega⟩
  · rw [hi_n (by omega)] at zb2_
    refine Ev_aload_n dX10_valueOf_5 rfl (by first | exact Or.inr ⟨_, rfl⟩ | exact rv_or _ | exact Or.inl rfl) ?_
    refine Ev_alen dX10_valueOf_6 hk_ (by omega) (by omega) ?_
    rw [hl_]
    refine Ev_iconst (v := nI 5) dX10_valueOf_7 (by decide) ?_
    refine Ev_icmp_gtN 25 dX10_valueOf_8 (by decide) (by omega) (by omega) (fun zb8_ => ?_) (fun zb8_ => ?_)
    · refine Ev_iconst (v := -1) dX10_valueOf_25 (by decide) ?_
      refine Ev_iret dX10_valueOf_26 rfl ?_
      refine ⟨?_, rfl⟩
      unfold numV
      rw [if_neg ?_]
      · rfl
      · rintro ⟨z1, z2⟩
        first
        | omega
        | exact z2 ⟨by omega, by omega⟩
    · refine Ev_aload_n dX10_valueOf_11 rfl (by first | exact Or.inr ⟨_, rfl⟩ | exact rv_or _ | exact Or.inl rfl) ?_
      refine Ev_iconst (v := nI 0) dX10_valueOf_12 (by decide) ?_
      refine Ev_ialdE 0 dX10_valueOf_13 hk_ hl_ (hi_n (by omega)) (by omega) (hx_ 0 (by omega)) ?_
      refine Ev_bipush (v := nI 48) dX10_valueOf_14 (by decide) ?_
      refine Ev_icmp_neT 27 dX10_valueOf_16 (by decide) (fun zb16_ => ?_) (fun zb16_ => ?_)
      · rw [t48] at zb16_
        refine Ev_iconst (v := nI 0) dX10_valueOf_27 (by decide) ?_
        refine Ev_istore_n dX10_valueOf_28 (by decide) ?_
        refine Ev_iconst (v := nI 0) dX10_valueOf_29 (by decide) ?_
        refine Ev_istore_n dX10_valueOf_30 (by decide) ?_
        refine Ev.post (fun x h' e => ?_) (ec_valueOf_l l G r xs h hk_ hl_ hx_ (by omega) (xs.length + 1) 0 (by omega) (by omega) 0 (by decide) (by rw [List.drop_zero]))
        unfold numV
        rw [if_pos ⟨⟨by omega, by omega⟩, fun z => by omega⟩]
        exact e
      · rw [t48] at zb16_
        refine Ev_aload_n dX10_valueOf_19 rfl (by first | exact Or.inr ⟨_, rfl⟩ | exact rv_or _ | exact Or.inl rfl) ?_
        refine Ev_alen dX10_valueOf_20 hk_ (by omega) (by omega) ?_
        rw [hl_]
        refine Ev_iconst (v := nI 1) dX10_valueOf_21 (by decide) ?_
        refine Ev_icmp_leN 27 dX10_valueOf_22 (by decide) (by omega) (by omega) (fun zb22_ => ?_) (fun zb22_ => ?_)
        · refine Ev_iconst (v := nI 0) dX10_valueOf_27 (by decide) ?_
          refine Ev_istore_n dX10_valueOf_28 (by decide) ?_
          refine Ev_iconst (v := nI 0) dX10_valueOf_29 (by decide) ?_
          refine Ev_istore_n dX10_valueOf_30 (by decide) ?_
          refine Ev.post (fun x h' e => ?_) (ec_valueOf_l l G r xs h hk_ hl_ hx_ (by omega) (xs.length + 1) 0 (by omega) (by omega) 0 (by decide) (by rw [List.drop_zero]))
          unfold numV
          rw [if_pos ⟨⟨by omega, by omega⟩, fun z => by omega⟩]
          exact e
        · refine Ev_iconst (v := -1) dX10_valueOf_25 (by decide) ?_
          refine Ev_iret dX10_valueOf_26 rfl ?_
          refine ⟨?_, rfl⟩
          unfold numV
          rw [if_neg ?_]
          · rfl
          · rintro ⟨z1, z2⟩
            first
            | omega
            | exact z2 ⟨by omega, by omega⟩
