theorem pI_one {m : Md} (k : MOk m) {p p' : Option Nat} (hp : ∀ q, p = some q → mLive m q) (hp' : ∀ q, p' = some q → mLive m q) (e : pI m p = pI m p') : p = p' := by
  cases p with
  | none =>
    cases p' with
    | none => rfl
    | some q => exact absurd e.symm (nI_m1 (by have := k.sl (hp' q rfl); omega))
  | some q =>
    cases p' with
    | none => exact absurd e (nI_m1 (by have := k.sl (hp q rfl); omega))
    | some q' =>
      have h1 := hp q rfl
      have h2 := hp' q' rfl
      have := nI_inj (by have := k.sl h1; omega) (by have := k.sl h2; omega) e
      rw [sl_inj h1 h2 this]
theorem okTh_p {m : Md} (k : MOk m) {tp : List Int32} {kd : Int32} {p : Option Nat} (hp : ∀ q, p = some q → mLive m q) (h : okTh m tp kd (pI m p)) : pdp m p < 6 := by
  obtain ⟨-, -, ⟨p', e, h'⟩, -⟩ := h
  have := pI_one k hp (fun q hq => (h' q hq).1) e
  subst this
  cases p with
  | none => show 0 < 6; omega
  | some q => exact (h' q rfl).2
theorem frS_no {m : Md} (h : frS m = none) : mCnt m = 24 := by
  unfold mCnt
  refine fb_ct_all.mpr (fun t ht => ?_)
  cases hl : mLv m t with
  | some x => rfl
  | none =>
    obtain ⟨j, hj⟩ := fstF_some (p := frB m) 24 0 ⟨t, by omega, by omega, by unfold frB; rw [hl]; rfl⟩
    unfold frS at h
    rw [hj] at h; cases h
theorem frS_at {m : Md} {t : Nat} (h : frS m = some t) : t < 24 ∧ mLv m t = none := by
  obtain ⟨h1, h2, h3, -⟩ := fstF_spec _ _ _ h
  refine ⟨by omega, ?_⟩
  unfold frB at h3
  exact Option.isNone_iff_eq_none.mp h3
theorem CS.thingC {g : Gh} {tp : List Int32} {m : Md} {ru : Nat → List It} {fa : Int32 × Int32} {ps : List Pc} {ln : List (List Int32 × Nat × Nat)} {fl : Nat} {a b : Int32} {p : Option Nat} {h hB hC : aH} (cs : CS g tp m ru fa ps ln fl h) (hv : Hv h) (mk : MOk m) (hp : ∀ q, p = some q → mLive m q) (cu : CuT tp (nO h 10) hB) (ti : TIn (hN h + 3) a b (nI (pdp m p + 1)) (some (paO g p)) (hN h + 4) hB hC) : Cf hC ∧ AX (plA g p) ((mCh m p).map (wA g)) 10 hC ∧ hK hC (paO g p) = 10 ∧ hR hC 645 (paO g p) = some (plA g p) ∧ hI hC 322 6 = nI (mCnt m) := by
  have n63 := cs.1.1
  have cf := cs.1.2.1
  have wf := cs.1.2.2
  have cm := cs.2.2.1
  have nB_ : hN hB = hN h + 2 := cu.1
  have fC0 : FO (fun b => wO g b = (9, 4) ∨ hN h + 3 ≤ b) h hC := (FO.nO.tr (cu.2.2.2.2.1.mo (fun b _ z => Or.inl (by rw [z]; exact wf.1 4 (by decide))))).tr (ti.2.1.mo (fun b _ z => Or.inr (by omega)))
  have fC : FS g (fun tg => tg = (9, 4)) h hC := fC0.mo (fun b hb z => z.elim id (fun z => by omega))
  have cmC : CM (gw g (wO g)) m hC := cm.fo cf wf fC hv (fun _ _ => rfl) (fun tg q z => by subst z; simp at q)
  have sC : ∀ a ∈ [1, 3, 5, 6, 7, 9, 10, 11, 12, 18, 19, 20, 21, 22, 23, 24, 25, 26, 27], Sm a h hC := fun a ha => (fC.2 a (by have : a ≤ 27 := (by revert ha; revert a; decide); omega)).2.2 (by
    have q : a ≠ 4 ∧ a ∈ [1, 3, 4, 5, 6, 7, 9, 10, 11, 12, 18, 19, 20, 21, 22, 23, 24, 25, 26, 27] := by revert ha; revert a; decide
    show ¬ wO g a = (9, 4)
    rw [wf.1 a q.2]
    intro z; exact q.1 (congrArg Prod.snd z))
  have r4 : ∀ k, hR hC k 4 = hR h k 4 := fun k => by
    have q1 := ((ti.2.1.2 4 (by omega)).2.2 (by omega)).2.2 k
    have q2 := cu.2.2.2.2.2.2 k 4 (by show 4 < hN h + 1 + 3; omega)
    have q3 : hR (nO h 10) k 4 = hR h k 4 := if_neg (by omega)
    exact q1.2.trans (q2.trans q3)
  have cfC : Cf hC := cf.fo hv fC wf (fun q hq => by
    have key : ∀ q ∈ cfR, q.2.1 = 4 ∨ q.2.1 ∈ [1, 3, 5, 6, 7, 9, 10, 11, 12, 18, 19, 20, 21, 22, 23, 24, 25, 26, 27] := by decide
    rcases key q hq with z | z
    · rw [z]; exact r4 _
    · exact ((sC _ z).2.2 _).2)
  have q := cmC.par cfC wf mk p hp
  exact ⟨cfC, q.2.2.1.1, q.1, q.2.1, cmC.2.2.1⟩
theorem ec_thing_24 (l : Launch) (G : aG) (kd inn : Int32) (p : Option Nat) (x4_ : Value) (g : Gh) (tp : List Int32) (m : Md) (ru : Nat → List It) (fa : Int32 × Int32) (ps : List Pc) (ln : List (List Int32 × Nat × Nat)) (fl : Nat) (h : aH) (cs : CS g tp m ru fa ps ln fl h) (mk : MOk m) (hps : ∀ p ∈ ps, pcC p < mCm m) (hp : ∀ q, p = some q → mLive m q) (hin_ : inn = pI m p) : Ev l G 8 5 195 mX10_thing 24 [.ref 3, .int kd, .int inn, .ref (paO g p), x4_] [] h (fun x h' => (¬ okTh m tp kd inn ∧ x = some (.int (-1)) ∧ h' = h) ∨ (∃ t kd' p, frS m = some t ∧ kd' < 8 ∧ kd = nI kd' ∧ inn = pI m p ∧ (∀ q, p = some q → mLive m q ∧ mDp m q < 6) ∧ nmB tp = true ∧ x = some (.int (nI t)) ∧ ∃ g', CS g' [] (nT m t kd' p tp) ru fa ps ln fl h' ∧ FX h h')) := by
  have cf := cs.1.2.1
  have wf := cs.1.2.2
  have cm := cs.2.2.1
  have ct := cs.2.1
  refine Ev_hv (fun hv => ?_)
  subst hin_
  have n63_ := cs.1.1
  have pr_ := cm.par cf wf mk p hp
  have hpa_ := (hv (paO g p) (by rw [pr_.1]; decide))
  have dp_ : hI h 643 (paO g p) = nI (pdp m p) := by
    cases p with
    | none => exact cm.2.2.2.2.1
    | some q => exact (cm.th mk (hp q rfl)).1.2.2.2.2.1
  have pd6_ : pdp m p ≤ 6 := by
    cases p with
    | none => show 0 ≤ 6; omega
    | some q => exact (mk.2.1 q (mk.lt (hp q rfl))).2.2.2.1
  have kA3_ : hK (nO h 10) 3 = 11 := (up1_n _ _ (by omega)).trans (ck_3 cf)
  have kA4_ : hK (nO h 10) 4 = 8 := (up1_n _ _ (by omega)).trans (ck_4 cf)
  have rA3_ : hR (nO h 10) 704 3 = some 4 := (if_neg (by omega)).trans (cr_704_3 cf)
  have fA_ : FS g (fun _ => False) h (nO h 10) := FO.nO
  have cfA_ : Cf (nO h 10) := cf.fo hv fA_ wf (fun q hq => if_neg (by have key : ∀ q ∈ cfR, q.2.1 < 60 := (by decide); have := key q hq; omega))
  have ctA_ : CTp tp (nO h 10) := ct.fs wf cf hv fA_ (fun z => z) (fun z => z)
  cases hfs_ : frS m with
  | none =>
    refine Ev_aload_n dX10_thing_24 rfl (by first | exact Or.inr ⟨_, rfl⟩ | exact rv_or _ | exact Or.inl rfl) ?_
    refine Ev_getA dX10_thing_25 fX10_19 (ck_3 cf) (cr_705_3 cf) ?_
    refine Ev_V0 [] dX10_thing_28 vX4_freeSlot kX10_78 (ck_6 cf) rfl rfl rfl (Nat.le_of_ble_eq_true rfl) (by omega) (ec_freeSlot l G g m h cf cm) ?_
    rw [hfs_]
    refine Ev_istore dX10_thing_31 (by decide) ?_
    refine Ev_iload_n dX10_thing_33 rfl ?_
    refine Ev_S0 [.int kd] dX10_thing_34 sX10_isKind kX10_82 rfl rfl rfl (Nat.le_of_ble_eq_true rfl) (by omega) (ec_isKind l G kd h) ?_
    refine Ev_if_eqB 69 dX10_thing_37 (by decide) (fun zb37_ => ?_) (fun zb37_ => ?_)
    · refine Ev_iconst (v := -1) dX10_thing_69 (by decide) ?_
      refine Ev_iret dX10_thing_70 rfl ?_
      refine Or.inl ⟨fun z_ => ?_, rfl, rfl⟩
      first
      | (exact absurd z_.2.1 (of_decide_eq_false zb37_); done)
      | (have := okTh_p mk hp z_; omega)
      | (exact z_.2.2.2 (frS_no hfs_); done)
      | (have z1_ := z_.1; rw [zb66_] at z1_; cases z1_)
    · refine Ev_aload_n dX10_thing_40 rfl (by first | exact Or.inr ⟨_, rfl⟩ | exact rv_or _ | exact Or.inl rfl) ?_
      refine Ev_ifnull (o := some (paO g p)) 69 dX10_thing_41 (by decide) (fun z_ => by cases z_) (fun a_ z_ => ?_)
      refine Ev_aload_n dX10_thing_44 rfl (by first | exact Or.inr ⟨_, rfl⟩ | exact rv_or _ | exact Or.inl rfl) ?_
      refine Ev_getE dX10_thing_45 fX10_86 pr_.1 dp_ ?_
      refine Ev_bipush (v := nI 6) dX10_thing_48 (by decide) ?_
      refine Ev_icmp_geN 69 dX10_thing_50 (by decide) (by omega) (by omega) (fun zb50_ => ?_) (fun zb50_ => ?_)
      · refine Ev_iconst (v := -1) dX10_thing_69 (by decide) ?_
        refine Ev_iret dX10_thing_70 rfl ?_
        refine Or.inl ⟨fun z_ => ?_, rfl, rfl⟩
        first
        | (exact absurd z_.2.1 (of_decide_eq_false zb37_); done)
        | (have := okTh_p mk hp z_; omega)
        | (exact z_.2.2.2 (frS_no hfs_); done)
        | (have z1_ := z_.1; rw [zb66_] at z1_; cases z1_)
      · refine Ev_iload dX10_thing_53 rfl ?_
        refine Ev_iconst (v := -1) dX10_thing_55 (by decide) ?_
        refine Ev_icmp_eqT 69 dX10_thing_56 (by decide) (fun zb56_ => ?_) (fun zb56_ => ?_)
        · refine Ev_iconst (v := -1) dX10_thing_69 (by decide) ?_
          refine Ev_iret dX10_thing_70 rfl ?_
          refine Or.inl ⟨fun z_ => ?_, rfl, rfl⟩
          first
          | (exact absurd z_.2.1 (of_decide_eq_false zb37_); done)
          | (have := okTh_p mk hp z_; omega)
          | (exact z_.2.2.2 (frS_no hfs_); done)
          | (have z1_ := z_.1; rw [zb66_] at z1_; cases z1_)
        · exact absurd rfl zb56_
  | some t =>
    have ht_ := frS_at hfs_
    refine Ev_aload_n dX10_thing_24 rfl (by first | exact Or.inr ⟨_, rfl⟩ | exact rv_or _ | exact Or.inl rfl) ?_
    refine Ev_getA dX10_thing_25 fX10_19 (ck_3 cf) (cr_705_3 cf) ?_
    refine Ev_V0 [] dX10_thing_28 vX4_freeSlot kX10_78 (ck_6 cf) rfl rfl rfl (Nat.le_of_ble_eq_true rfl) (by omega) (ec_freeSlot l G g m h cf cm) ?_
    rw [hfs_]
    refine Ev_top (y := .int (nI t)) rfl ?_
    refine Ev_istore dX10_thing_31 (by decide) ?_
    refine Ev_iload_n dX10_thing_33 rfl ?_
    refine Ev_S0 [.int kd] dX10_thing_34 sX10_isKind kX10_82 rfl rfl rfl (Nat.le_of_ble_eq_true rfl) (by omega) (ec_isKind l G kd h) ?_
    refine Ev_if_eqB 69 dX10_thing_37 (by decide) (fun zb37_ => ?_) (fun zb37_ => ?_)
    · refine Ev_iconst (v := -1) dX10_thing_69 (by decide) ?_
      refine Ev_iret dX10_thing_70 rfl ?_
      refine Or.inl ⟨fun z_ => ?_, rfl, rfl⟩
      first
      | (exact absurd z_.2.1 (of_decide_eq_false zb37_); done)
      | (have := okTh_p mk hp z_; omega)
      | (exact z_.2.2.2 (frS_no hfs_); done)
      | (have z1_ := z_.1; rw [zb66_] at z1_; cases z1_)
    · refine Ev_aload_n dX10_thing_40 rfl (by first | exact Or.inr ⟨_, rfl⟩ | exact rv_or _ | exact Or.inl rfl) ?_
      refine Ev_ifnull (o := some (paO g p)) 69 dX10_thing_41 (by decide) (fun z_ => by cases z_) (fun a_ z_ => ?_)
      refine Ev_aload_n dX10_thing_44 rfl (by first | exact Or.inr ⟨_, rfl⟩ | exact rv_or _ | exact Or.inl rfl) ?_
      refine Ev_getE dX10_thing_45 fX10_86 pr_.1 dp_ ?_
      refine Ev_bipush (v := nI 6) dX10_thing_48 (by decide) ?_
      refine Ev_icmp_geN 69 dX10_thing_50 (by decide) (by omega) (by omega) (fun zb50_ => ?_) (fun zb50_ => ?_)
      · refine Ev_iconst (v := -1) dX10_thing_69 (by decide) ?_
        refine Ev_iret dX10_thing_70 rfl ?_
        refine Or.inl ⟨fun z_ => ?_, rfl, rfl⟩
        first
        | (exact absurd z_.2.1 (of_decide_eq_false zb37_); done)
        | (have := okTh_p mk hp z_; omega)
        | (exact z_.2.2.2 (frS_no hfs_); done)
        | (have z1_ := z_.1; rw [zb66_] at z1_; cases z1_)
      · refine Ev_iload dX10_thing_53 rfl ?_
        refine Ev_iconst (v := -1) dX10_thing_55 (by decide) ?_
        refine Ev_icmp_eqT 69 dX10_thing_56 (by decide) (fun zb56_ => ?_) (fun zb56_ => ?_)
        · exact absurd zb56_ (by rw [hi_n (by omega), tm1]; omega)
        · refine Ev_aload_n dX10_thing_59 rfl (by first | exact Or.inr ⟨_, rfl⟩ | exact rv_or _ | exact Or.inl rfl) ?_
          refine Ev_getA dX10_thing_60 fX10_10 (ck_3 cf) (cr_704_3 cf) ?_
          refine Ev_V0 [] dX10_thing_63 vX7_isName kX10_91 (ck_4 cf) rfl rfl rfl (Nat.le_of_ble_eq_true rfl) (by omega) (ec_isName l G tp h cf ct) ?_
          refine Ev_if_neB 71 dX10_thing_66 (by decide) (fun zb66_ => ?_) (fun zb66_ => ?_)
          · have zk_ : 0 ≤ kd.toInt ∧ kd.toInt ≤ 7 := of_decide_eq_true zb37_
            obtain ⟨kk, hkk_, rfl⟩ := as_nI (n := 7) zk_.1 (by omega)
            refine Ev_aload_n dX10_thing_71 rfl (by first | exact Or.inr ⟨_, rfl⟩ | exact rv_or _ | exact Or.inl rfl) ?_
            refine Ev_getA dX10_thing_72 fX10_19 (ck_3 cf) (cr_705_3 cf) ?_
            refine Ev.wide (mc' := 4 + 1) (ms' := 187 + fn 10) (by omega) (by decide) ?_
            refine Ev_new dX10_thing_75 nX10_87 ?_
            refine Ev_dup dX10_thing_78 (by first | rfl | exact okv_rv _) ?_
            refine Ev_iload dX10_thing_79 rfl ?_
            refine Ev_iload_n dX10_thing_81 rfl ?_
            refine Ev_aload_n dX10_thing_82 rfl (by first | exact Or.inr ⟨_, rfl⟩ | exact rv_or _ | exact Or.inl rfl) ?_
            refine Ev_aload_n dX10_thing_83 rfl (by first | exact Or.inr ⟨_, rfl⟩ | exact rv_or _ | exact Or.inl rfl) ?_
            refine Ev_getA dX10_thing_84 fX10_10 kA3_ rA3_ ?_
            refine Ev_Vg (mc2 := 3) (ms2 := 67) [] dX10_thing_87 vX7_cutAll kX10_95 kA4_ rfl rfl rfl (Nat.le_of_ble_eq_true rfl) (by omega) (by omega) (by omega) (ec_cutAll l G tp (nO h 10) cfA_ ctA_) (fun v_ hB e_ => ?_)
            obtain ⟨rfl, cu_⟩ := e_
            refine Ev_top (y := .ref (hN h + 4)) rfl ?_
            refine Ev_hv (fun hvB_ => ?_)
            have nB_ : hN hB = hN h + 2 := cu_.1
            have kB1_ : hK hB (hN h + 3) = 10 := (cu_.2.2.2.2.1.2 _ (by show hN h + 3 < hN h + 1 + 3; omega)).1.trans (up1_s _ _ _)
            have kBq_ : hK hB (paO g p) = 10 := (cu_.2.2.2.2.1.2 _ (by show paO g p < hN h + 1 + 3; omega)).1.trans ((up1_n _ _ (by omega)).trans pr_.1)
            have q4_ : paO g p ≠ 4 := fun z => by have q := pr_.1; rw [z, ck_4 cf] at q; omega
            have dB_ : hI hB 643 (paO g p) = nI (pdp m p) := ((((cu_.2.2.2.2.1.2 _ (by show paO g p < hN h + 1 + 3; omega)).2.2 q4_).2.2 _).1).trans ((if_neg (by omega)).trans dp_)
            refine Ev_Ig (mc2 := 1) (ms2 := 60) [.int (nI t), .int (nI kk), .ref (paO g p), .ref (hN h + 4)] dX10_thing_90 iX9_init kX10_99 rfl rfl rfl (Nat.le_of_ble_eq_true rfl) (by omega) (by omega) (by omega) (ec_thingInit l G (hN h + 3) (paO g p) (hN h + 4) (pdp m p) (nI t) (nI kk) hB kB1_ kBq_ dB_ (by omega)) (fun v_ hC e_ => ?_)
            obtain ⟨rfl, ti_⟩ := e_
            refine Ev_hv (fun hvC_ => ?_)
            have nC_ : hN hC = hN h + 4 := by rw [ti_.1, nB_]
            obtain ⟨cfC_, axC_, kqC_, elC_, ecC_⟩ := cs.thingC hv mk hp cu_ ti_
            refine Ev_Vg (mc2 := 0) (ms2 := 0) [.ref (hN h + 3)] dX10_thing_93 vX4_put kX10_102 (ck_6 cfC_) rfl rfl rfl (Nat.le_of_ble_eq_true rfl) (by omega) (by omega) (by omega) (ec_put l G (hN h + 3) t (paO g p) (plA g p) (mCnt m) ((mCh m p).map (wA g)) hC cfC_ (by omega) ti_.2.2.1.1 ti_.2.2.2.1.1 ti_.2.2.1.2.1 ht_.1 kqC_ elC_ axC_ (by rw [List.length_map]; exact ch_le mk p) ecC_ (by have : mCnt m ≤ 24 := fb_ct_le _ 24; omega)) (fun v_ hF e_ => ?_)
            obtain ⟨rfl, hE, lp_, rfl⟩ := e_
            refine Ev_iload dX10_thing_96 rfl ?_
            refine Ev_iret dX10_thing_98 rfl ?_
            refine Or.inr ⟨t, kk, p, rfl, by omega, rfl, rfl, fun q hq => ⟨hp q hq, by subst hq; show pdp m (some q) < 6; omega⟩, zb66_, rfl, cs.thing hv hvC_ mk hps ht_.2 ht_.1 hp cu_ ti_ lp_⟩
          · refine Ev_iconst (v := -1) dX10_thing_69 (by decide) ?_
            refine Ev_iret dX10_thing_70 rfl ?_
            refine Or.inl ⟨fun z_ => ?_, rfl, rfl⟩
            first
            | (exact absurd z_.2.1 (of_decide_eq_false zb37_); done)
            | (have := okTh_p mk hp z_; omega)
            | (exact z_.2.2.2 (frS_no hfs_); done)
            | (have z1_ := z_.1; rw [zb66_] at z1_; cases z1_)
theorem ec_thing (l : Launch) (G : aG) (kd inn : Int32) (g : Gh) (tp : List Int32) (m : Md) (ru : Nat → List It) (fa : Int32 × Int32) (ps : List Pc) (ln : List (List Int32 × Nat × Nat)) (fl : Nat) (h : aH) (cs : CS g tp m ru fa ps ln fl h) (mk : MOk m) (hps : ∀ p ∈ ps, pcC p < mCm m) : Ev l G 8 5 195 mX10_thing 0 (en 5 [.ref 3, .int kd, .int inn]) [] h (fun x h' => (¬ okTh m tp kd inn ∧ x = some (.int (-1)) ∧ h' = h) ∨ (∃ t kd' p, frS m = some t ∧ kd' < 8 ∧ kd = nI kd' ∧ inn = pI m p ∧ (∀ q, p = some q → mLive m q ∧ mDp m q < 6) ∧ nmB tp = true ∧ x = some (.int (nI t)) ∧ ∃ g', CS g' [] (nT m t kd' p tp) ru fa ps ln fl h' ∧ FX h h')) := by
  have cf := cs.1.2.1
  have wf := cs.1.2.2
  have cm := cs.2.2.1
  have ct := cs.2.1
  refine Ev_hv (fun hv => ?_)
  by_cases he_ : inn = -1
  · skip
    refine Ev_iload_n dX10_thing_0 rfl ?_
    refine Ev_iconst (v := -1) dX10_thing_1 (by decide) ?_
    refine Ev_icmp_neT 15 dX10_thing_2 (by decide) (fun zb2_ => ?_) (fun zb2_ => ?_)
    · exact absurd (by rw [he_]) zb2_
    · refine Ev_aload_n dX10_thing_5 rfl (by first | exact Or.inr ⟨_, rfl⟩ | exact rv_or _ | exact Or.inl rfl) ?_
      refine Ev_getA dX10_thing_6 fX10_19 (ck_3 cf) (cr_705_3 cf) ?_
      refine Ev_getA dX10_thing_9 fX10_70 (ck_6 cf) (cr_320_6 cf) ?_
      refine Ev_goto 23 dX10_thing_12 (by decide) ?_
      refine Ev_astore_n dX10_thing_23 (by decide) (by first | exact Or.inr ⟨_, rfl⟩ | exact rv_or _ | exact Or.inl rfl) ?_
      exact ec_thing_24 l G kd _ none _ g tp m ru fa ps ln fl h cs mk hps (fun q hq => by cases hq) he_
  · by_cases zt_ : isT m inn
    · obtain ⟨c, hc_, rfl⟩ := zt_
      refine Ev_iload_n dX10_thing_0 rfl ?_
      refine Ev_iconst (v := -1) dX10_thing_1 (by decide) ?_
      refine Ev_icmp_neT 15 dX10_thing_2 (by decide) (fun zb2_ => ?_) (fun zb2_ => ?_)
      · refine Ev_aload_n dX10_thing_15 rfl (by first | exact Or.inr ⟨_, rfl⟩ | exact rv_or _ | exact Or.inl rfl) ?_
        refine Ev_getA dX10_thing_16 fX10_19 (ck_3 cf) (cr_705_3 cf) ?_
        refine Ev_iload_n dX10_thing_19 rfl ?_
        refine Ev_V0 [.int (nI (mSl m c))] dX10_thing_20 vX4_at kX10_74 (ck_6 cf) rfl rfl rfl (Nat.le_of_ble_eq_true rfl) (by omega) (ec_at l G (nI (mSl m c)) g m h cf cm) ?_
        rw [atM_some mk hc_]
        refine Ev_top (y := .ref (wA g c)) rfl ?_
        refine Ev_astore_n dX10_thing_23 (by decide) (by first | exact Or.inr ⟨_, rfl⟩ | exact rv_or _ | exact Or.inl rfl) ?_
        exact ec_thing_24 l G kd _ (some c) _ g tp m ru fa ps ln fl h cs mk hps (fun q hq => by cases hq; exact hc_) rfl
      · exact absurd (Int32.toInt_inj.mp zb2_) he_
    · skip
      refine Ev_iload_n dX10_thing_0 rfl ?_
      refine Ev_iconst (v := -1) dX10_thing_1 (by decide) ?_
      refine Ev_icmp_neT 15 dX10_thing_2 (by decide) (fun zb2_ => ?_) (fun zb2_ => ?_)
      · refine Ev_aload_n dX10_thing_15 rfl (by first | exact Or.inr ⟨_, rfl⟩ | exact rv_or _ | exact Or.inl rfl) ?_
        refine Ev_getA dX10_thing_16 fX10_19 (ck_3 cf) (cr_705_3 cf) ?_
        refine Ev_iload_n dX10_thing_19 rfl ?_
        refine Ev_V0 [.int inn] dX10_thing_20 vX4_at kX10_74 (ck_6 cf) rfl rfl rfl (Nat.le_of_ble_eq_true rfl) (by omega) (ec_at l G inn g m h cf cm) ?_
        rw [atM_none mk zt_]
        refine Ev_astore_n dX10_thing_23 (by decide) (by first | exact Or.inr ⟨_, rfl⟩ | exact rv_or _ | exact Or.inl rfl) ?_
        refine Ev_aload_n dX10_thing_24 rfl (by first | exact Or.inr ⟨_, rfl⟩ | exact rv_or _ | exact Or.inl rfl) ?_
        refine Ev_getA dX10_thing_25 fX10_19 (ck_3 cf) (cr_705_3 cf) ?_
        refine Ev_V0 [] dX10_thing_28 vX4_freeSlot kX10_78 (ck_6 cf) rfl rfl rfl (Nat.le_of_ble_eq_true rfl) (by omega) (ec_freeSlot l G g m h cf cm) ?_
        refine Ev_istore dX10_thing_31 (by decide) ?_
        refine Ev_iload_n dX10_thing_33 rfl ?_
        refine Ev_S0 [.int kd] dX10_thing_34 sX10_isKind kX10_82 rfl rfl rfl (Nat.le_of_ble_eq_true rfl) (by omega) (ec_isKind l G kd h) ?_
        refine Ev_if_eqB 69 dX10_thing_37 (by decide) (fun zb37_ => ?_) (fun zb37_ => ?_)
        · refine Ev_iconst (v := -1) dX10_thing_69 (by decide) ?_
          refine Ev_iret dX10_thing_70 rfl ?_
          refine Or.inl ⟨fun z_ => ?_, rfl, rfl⟩
          obtain ⟨-, -, ⟨p', e', h'⟩, -⟩ := z_
          cases p' with
          | none => exact he_ e'
          | some q => exact zt_ ⟨q, (h' q rfl).1, e'⟩
        · refine Ev_aload_n dX10_thing_40 rfl (by first | exact Or.inr ⟨_, rfl⟩ | exact rv_or _ | exact Or.inl rfl) ?_
          refine Ev_ifnull (o := none) 69 dX10_thing_41 (by decide) (fun _ => ?_) (fun a_ z_ => by cases z_)
          refine Ev_iconst (v := -1) dX10_thing_69 (by decide) ?_
          refine Ev_iret dX10_thing_70 rfl ?_
          refine Or.inl ⟨fun z_ => ?_, rfl, rfl⟩
          obtain ⟨-, -, ⟨p', e', h'⟩, -⟩ := z_
          cases p' with
          | none => exact he_ e'
          | some q => exact zt_ ⟨q, (h' q rfl).1, e'⟩
      · exact absurd (Int32.toInt_inj.mp zb2_) he_
