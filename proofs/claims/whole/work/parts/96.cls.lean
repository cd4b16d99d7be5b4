def setCh (m : Md) (p : Option Nat) (L : List Nat) : Md := (m.1, m.2.1, m.2.2.1, m.2.2.2.1, m.2.2.2.2.1, fun q => if q = p then L else mCh m q)
/-- the cells of one list -/
def SLs (p : Option Nat) (tg : Nat × Nat) : Prop := tg = plT p ∨ tg = plE p ∨ tg = (9, 1)
theorem SLs.md {p : Option Nat} {tg : Nat × Nat} (h : SLs p tg) : SMd tg := by
  rcases h with rfl | rfl | rfl
  · cases p with
    | none => exact Or.inr (Or.inr (Or.inr (Or.inr (by decide))))
    | some q => exact Or.inr (Or.inl rfl)
  · cases p with
    | none => exact Or.inr (Or.inr (Or.inl rfl))
    | some q => exact Or.inr (Or.inr (Or.inl rfl))
  · exact Or.inr (Or.inr (Or.inr (Or.inr (by decide))))
theorem SLs.no {p : Option Nat} {a b : Nat} (h1 : a ≠ 2) (h2 : a ≠ 3) (h3 : a ≠ 9) : ¬ SLs p (a, b) := by
  unfold SLs plT plE
  cases p <;> simp <;> omega
theorem SLs.no9 {p : Option Nat} {b : Nat} (h1 : b ≠ 10) (h2 : b ≠ 1) : ¬ SLs p (9, b) := by
  unfold SLs plT plE
  cases p <;> simp <;> omega
theorem FS.ls {g : Gh} {p : Option Nat} {xs : List Nat} {ci : Nat} {h h' : aH} (wf : OwF (wO g)) (f : FO (LsC (plA g p) h) h h') (i : CLs (wO g) (plA g p) xs ci (plE p) h) (ht : wO g (plA g p) = plT p) : FS g (SLs p) h h' :=
  f.mo (fun b hb z => by
    rcases z with rfl | z
    · show SLs p (wO g (plA g p)); rw [ht]; exact Or.inl rfl
    · rcases i.2.1 b z with rfl | q
      · show SLs p (wO g 1); rw [wf.1 1 (by decide)]; exact Or.inr (Or.inr rfl)
      · show SLs p (wO g b); rw [q]; exact Or.inr (Or.inl rfl))
theorem CM.list {g : Gh} {ow' : Ow} {m : Md} {h h' : aH} {p : Option Nat} {L : List Nat} (cm : CM g m h) (cf : Cf h) (wf : OwF (wO g)) (hv : Hv h) (hp : ∀ q, p = some q → q < mCm m) (f : FS g (SLs p) h h') (e : OwX g ow' h) (nl : CLs ow' (plA g p) (L.map (wA g)) 10 (plE p) h') : CM (gw g ow') (setCh m p L) h' := by
  obtain ⟨a1, a2, a3, a4, a5, a6, a7⟩ := cm
  have s11 := f.s hv (ck_11 cf) (by decide) (by rw [wf.1 11 (by decide)]; exact SLs.no9 (by decide) (by decide))
  have s6 := f.s hv (ck_6 cf) (by decide) (by rw [wf.1 6 (by decide)]; exact SLs.no9 (by decide) (by decide))
  have s7 := f.s hv (ck_7 cf) (by decide) (by rw [wf.1 7 (by decide)]; exact SLs.no9 (by decide) (by decide))
  refine ⟨fun c hc => ?_, fun t ht => (congrFun s11.2.1 t).trans (a2 t ht), (s6.2.2 _).1.trans a3, ?_, (s7.2.2 _).1.trans a5, (s7.2.2 _).2.trans a6, (s7.2.2 _).1.trans a7⟩
  · obtain ⟨⟨t1, t2, t3, t4, t5, t6, t7, t8, t9⟩, ⟨b1, b2, b3⟩, ⟨c1, c2⟩, l⟩ := a1 c hc
    have s1 := f.s hv t1 (by decide) (by rw [t2]; exact SLs.no (by decide) (by decide) (by decide))
    have s2 := f.s hv b1 (by decide) (by rw [b3]; exact SLs.no (by decide) (by decide) (by decide))
    refine ⟨⟨f.k hv t1 (by decide), (e _ (FO.lt hv t1 (by decide))).trans t2, (s1.2.2 _).1.trans t3, (s1.2.2 _).1.trans t4, (s1.2.2 _).1.trans t5, (s1.2.2 _).2.trans t6, (s1.2.2 _).2.trans t7, (s1.2.2 _).2.trans t8, (s1.2.2 _).1.trans t9⟩, ⟨f.k hv b1 (by decide), (f.l hv b1 (by decide)).trans b2, (e _ (FO.lt hv b1 (by decide))).trans b3⟩, ⟨f.k hv c1 (by decide), (e _ (FO.lt hv c1 (by decide))).trans c2⟩, fun hl => ?_⟩
    obtain ⟨l1, ⟨r, l2, l3⟩, l4⟩ := l hl
    refine ⟨fun j hj => (congrFun s2.1 j).trans (l1 j hj), ⟨r, (s1.2.2 _).2.trans l2, l3.fo f hv e (SLs.no (by decide) (by decide) (by decide))⟩, ?_⟩
    show CLs ow' (wL g c) ((if some c = p then L else mCh m (some c)).map (wA g)) 10 (3, c + 1) h'
    by_cases z : some c = p
    · subst z; rw [if_pos rfl]; exact nl
    · rw [if_neg z]
      have n1 : ¬ SLs p (3, c + 1) := by
        unfold SLs plT plE
        cases p with
        | none => simp
        | some q => simp; intro y; exact z (by rw [y])
      have n2 : ¬ SLs p (2, c + 1) := by
        unfold SLs plT plE
        cases p with
        | none => simp
        | some q => simp; intro y; exact z (by rw [y])
      exact l4.fo f hv e n1 (by rw [c2]; exact n2)
  · show CLs ow' 10 ((if none = p then L else mCh m none).map (wA g)) 10 (3, 0) h'
    cases p with
    | none => rw [if_pos rfl]; exact nl
    | some q =>
      rw [if_neg (by simp)]
      refine a4.fo f hv e ?_ (by rw [wf.1 10 (by decide)]; unfold SLs plT plE; simp)
      unfold SLs plT plE; simp
theorem map_er {L : List Nat} {f : Nat → Nat} {i : Nat} : (L.eraseIdx i).map f = (L.map f).eraseIdx i := by
  apply List.ext_getElem?
  intro k
  rw [List.getElem?_map, List.getElem?_eraseIdx, List.getElem?_eraseIdx]
  split <;> rw [List.getElem?_map]
theorem map_in {L : List Nat} {f : Nat → Nat} {i x : Nat} : (L.insertIdx i x).map f = (L.map f).insertIdx i (f x) := by
  apply List.ext_getElem?
  intro k
  rw [List.getElem?_map, List.getElem?_insertIdx, List.getElem?_insertIdx, List.length_map]
  split
  · rw [List.getElem?_map]
  · split
    · split <;> rfl
    · rw [List.getElem?_map]

theorem ec_shift (l : Launch) (G : aG) (c : Nat) (k_ : Int32) (g : Gh) (m : Md) (h : aH) (cf : Cf h) (wf : OwF (wO g)) (mk : MOk m) (cm : CM g m h) (hc : mLive m c) : Ev l G 4 0 0 mX4_shift 0 (en 4 [.ref 6, .ref (wA g c), .int k_]) [] h (fun x h' => (¬ (0 ≤ k_.toInt ∧ k_.toInt < (mCh m (mPa m c)).length) ∧ x = some (.int (nI 0)) ∧ h' = h) ∨ (∃ kk, kk < (mCh m (mPa m c)).length ∧ k_ = nI kk ∧ x = some (.int (nI 1)) ∧ FS g (SLs (mPa m c)) h h' ∧ CM (gw g (wO g)) (setCh m (mPa m c) (mvL (mCh m (mPa m c)) (ix m c) kk c)) h')) := by
  refine Ev_hv (fun hv => ?_)
  have pr_ := cm.par cf wf mk (mPa m c) (mk.2.2.1 c hc).1
  have l24_ := ch_le mk (mPa m c)
  have il_ : (mCh m (mPa m c)).idxOf c < (mCh m (mPa m c)).length := ix_lt mk hc
  have t1_ := cm.th mk hc
  have ti_ : hR h 642 (wA g c) = some (paO g (mPa m c)) := by rw [← paA_eq]; exact t1_.1.2.2.2.2.2.1
  have np_ : ¬ SLs (mPa m c) (wO g (paO g (mPa m c))) := by
    cases hp_ : mPa m c with
    | none => show ¬ SLs none (wO g 7); rw [wf.1 7 (by decide)]; exact SLs.no9 (by decide) (by decide)
    | some q => show ¬ SLs (some q) (wO g (wA g q)); rw [(cm.th mk ((mk.2.2.1 c hc).1 q hp_)).1.2.1]; exact SLs.no (by decide) (by decide) (by decide)
  refine Ev_aload_n dX4_shift_0 rfl (by first | exact Or.inr ⟨_, rfl⟩ | exact rv_or _ | exact Or.inl rfl) ?_
  refine Ev_aload_n dX4_shift_1 rfl (by first | exact Or.inr ⟨_, rfl⟩ | exact rv_or _ | exact Or.inl rfl) ?_
  refine Ev_V0 [.ref (wA g c)] dX4_shift_2 vX4_placeOf kX4_52 (ck_6 cf) rfl rfl rfl (Nat.le_of_ble_eq_true rfl) (by omega) (ec_placeOf l G c g m h cf wf mk cm hc) ?_
  refine Ev_istore_n dX4_shift_5 (by decide) ?_
  refine Ev_iload_n dX4_shift_6 rfl ?_
  refine Ev_iconst (v := -1) dX4_shift_7 (by decide) ?_
  refine Ev_icmp_eqT 29 dX4_shift_8 (by decide) (fun zb8_ => ?_) (fun zb8_ => ?_)
  · exact absurd zb8_ (by rw [hi_n (by omega), tm1]; omega)
  · refine Ev_iload_n dX4_shift_11 rfl ?_
    refine Ev_if_ltT 29 dX4_shift_12 (by decide) (fun zb12_ => ?_) (fun zb12_ => ?_)
    · refine Ev_iconst (v := nI 0) dX4_shift_29 (by decide) ?_
      refine Ev_zret dX4_shift_30 rfl (by decide) ?_
      exact Or.inl ⟨by omega, rfl, rfl⟩
    · refine Ev_iload_n dX4_shift_15 rfl ?_
      refine Ev_aload_n dX4_shift_16 rfl (by first | exact Or.inr ⟨_, rfl⟩ | exact rv_or _ | exact Or.inl rfl) ?_
      refine Ev_getA dX4_shift_17 fX4_24 t1_.1.1 ti_ ?_
      refine Ev_getA dX4_shift_20 fX4_31 pr_.1 pr_.2.1 ?_
      refine Ev_V0 [] dX4_shift_23 vJx4a65c_size_8abf5 kX4_44 pr_.2.2.2.2 rfl rfl rfl (Nat.le_of_ble_eq_true rfl) (by omega) (ej_size l G (plA g (mPa m c)) ((mCh m (mPa m c)).map (wA g)) 10 h pr_.2.2.1.1.1) ?_
      rw [List.length_map]
      refine Ev_icmp_ltT 31 dX4_shift_26 (by decide) (fun zb26_ => ?_) (fun zb26_ => ?_)
      · rw [hi_n (by omega)] at zb26_
        obtain ⟨kk, hkk_, rfl⟩ := as_nI (n := 24) (x := k_) (by omega) (by omega)
        rw [hi_n (by omega)] at zb26_
        refine Ev_aload_n dX4_shift_31 rfl (by first | exact Or.inr ⟨_, rfl⟩ | exact rv_or _ | exact Or.inl rfl) ?_
        refine Ev_getA dX4_shift_32 fX4_24 t1_.1.1 ti_ ?_
        refine Ev_getA dX4_shift_35 fX4_31 pr_.1 pr_.2.1 ?_
        refine Ev_iload_n dX4_shift_38 rfl ?_
        refine Ev_Vz [.int (nI ((mCh m (mPa m c)).idxOf c))] dX4_shift_39 vJx4a65c_remove_915e3 kX4_56 pr_.2.2.2.2 rfl rfl rfl (Nat.le_of_ble_eq_true rfl) (by omega) (ej_remove l G (plA g (mPa m c)) ((mCh m (mPa m c)).idxOf c) ((mCh m (mPa m c)).map (wA g)) 10 h pr_.2.2.1.1 lkd_10 (by rw [List.length_map]; exact il_)) (fun v_ h1 e_ => ?_)
        obtain ⟨⟨x_, rfl⟩, ax1_, fo1_, hr1_, hn1_, e_, he_, h66_, hk1_, hl1_⟩ := e_
        have f1_ := FS.ls wf fo1_ pr_.2.2.1 pr_.2.2.2.1
        have kt1_ : hK h1 (wA g c) = 10 := f1_.k hv t1_.1.1 (by decide)
        have kp1_ : hK h1 (paO g (mPa m c)) = 10 := f1_.k hv pr_.1 (by decide)
        have kl1_ : hK h1 (plA g (mPa m c)) = 0 := f1_.k hv pr_.2.2.2.2 (by decide)
        have st1_ := f1_.s hv t1_.1.1 (by decide) (by rw [t1_.1.2.1]; exact SLs.no (by decide) (by decide) (by decide))
        have sp1_ := f1_.s hv pr_.1 (by decide) np_
        have ti1_ : hR h1 642 (wA g c) = some (paO g (mPa m c)) := (st1_.2.2 _).2.trans ti_
        have pl1_ : hR h1 645 (paO g (mPa m c)) = some (plA g (mPa m c)) := (sp1_.2.2 _).2.trans pr_.2.1
        refine Ev_pop dX4_shift_42 (by first | rfl | exact okv_rv _) ?_
        refine Ev_aload_n dX4_shift_43 rfl (by first | exact Or.inr ⟨_, rfl⟩ | exact rv_or _ | exact Or.inl rfl) ?_
        refine Ev_getA dX4_shift_44 fX4_24 kt1_ ti1_ ?_
        refine Ev_getA dX4_shift_47 fX4_31 kp1_ pl1_ ?_
        refine Ev_iload_n dX4_shift_50 rfl ?_
        refine Ev_aload_n dX4_shift_51 rfl (by first | exact Or.inr ⟨_, rfl⟩ | exact rv_or _ | exact Or.inl rfl) ?_
        refine Ev_Vz [.int (nI kk), .ref (wA g c)] dX4_shift_52 vJx4a65c_add_7a177 kX4_59 kl1_ rfl rfl rfl (Nat.le_of_ble_eq_true rfl) (by omega) (ej_addAt l G (plA g (mPa m c)) kk (wA g c) (((mCh m (mPa m c)).map (wA g)).eraseIdx ((mCh m (mPa m c)).idxOf c)) 10 h1 ax1_ kt1_ lkd_10 (by rw [er_len (by rw [List.length_map]; exact il_), List.length_map]; omega) (by rw [er_len (by rw [List.length_map]; exact il_), List.length_map]; omega) e_ (hr1_.trans he_) h66_ hl1_) (fun v_ h2 z_ => ?_)
        obtain ⟨rfl, ⟨ax2_, fo2_, -⟩, rn2_, -⟩ := z_
        refine Ev_iconst (v := nI 1) dX4_shift_55 (by decide) ?_
        refine Ev_zret dX4_shift_56 rfl (by decide) ?_
        refine Or.inr ⟨kk, by omega, rfl, rfl, ?_⟩
        have f2_ : FS g (SLs (mPa m c)) h1 h2 := fo2_.mo (fun b hb z => by
          rcases z with rfl | z
          · show SLs _ (wO g (plA g (mPa m c))); rw [pr_.2.2.2.1]; exact Or.inl rfl
          · rw [hr1_] at z
            rcases pr_.2.2.1.2.1 b z with rfl | q
            · show SLs _ (wO g 1); rw [wf.1 1 (by decide)]; exact Or.inr (Or.inr rfl)
            · show SLs _ (wO g b); rw [q]; exact Or.inr (Or.inl rfl))
        have hr2_ : hR h2 1 (plA g (mPa m c)) = hR h 1 (plA g (mPa m c)) := rn2_.trans hr1_
        have cm2_ := cm.list (L := mvL (mCh m (mPa m c)) (ix m c) kk c) cf wf hv (fun q hq => mk.lt ((mk.2.2.1 c hc).1 q hq)) (f1_.tr f2_) (fun _ _ => rfl) ⟨by unfold mvL; rw [map_in, map_er]; exact ax2_, fun e2 h2_ => pr_.2.2.1.2.1 e2 (hr2_.symm.trans h2_), by decide⟩
        exact ⟨f1_.tr f2_, cm2_⟩
      · rw [hi_n (by omega)] at zb26_
        refine Ev_iconst (v := nI 0) dX4_shift_29 (by decide) ?_
        refine Ev_zret dX4_shift_30 rfl (by decide) ?_
        exact Or.inl ⟨by omega, rfl, rfl⟩
theorem CTp.fs {g : Gh} {S : Nat × Nat → Prop} {tp : List Int32} {h h' : aH} (ct : CTp tp h) (wf : OwF (wO g)) (cf : Cf h) (hv : Hv h) (f : FS g S h h') (d4 : ¬ S (9, 4)) (d5 : ¬ S (9, 5)) : CTp tp h' :=
  ⟨ct.1, ((f.s hv (ck_4 cf) (by decide) (by rw [wf.1 4 (by decide)]; exact d4)).2.2 _).1.trans ct.2.1, fun k hk => (congrFun (f.s hv (ck_5 cf) (by decide) (by rw [wf.1 5 (by decide)]; exact d5)).1 k).trans (ct.2.2 k hk)⟩
theorem ec_move (l : Launch) (G : aG) (t k_ : Int32) (g : Gh) (tp : List Int32) (m : Md) (ru : Nat → List It) (fa : Int32 × Int32) (ps : List Pc) (ln : List (List Int32 × Nat × Nat)) (fl : Nat) (h : aH) (cs : CS g tp m ru fa ps ln fl h) (mk : MOk m) (hps : ∀ p ∈ ps, pcC p < mCm m) : Ev l G 5 0 0 mX10_move 0 (en 4 [.ref 3, .int t, .int k_]) [] h (fun x h' => (¬ (∃ c2, mLive m c2 ∧ t = nI (mSl m c2) ∧ 0 ≤ k_.toInt ∧ k_.toInt < (mCh m (mPa m c2)).length) ∧ x = some (.int (nI 0)) ∧ h' = h) ∨ (∃ c2 k2, mLive m c2 ∧ k2 < (mCh m (mPa m c2)).length ∧ t = nI (mSl m c2) ∧ k_ = nI k2 ∧ x = some (.int (nI 1)) ∧ CS g tp (mvM m c2 k2) ru fa ps ln fl h' ∧ FX h h')) := by
  have cf := cs.1.2.1
  have wf := cs.1.2.2
  have cm := cs.2.2.1
  have ct := cs.2.1
  refine Ev_hv (fun hv => ?_)
  by_cases zt_ : isT m t
  · obtain ⟨c, hc_, rfl⟩ := zt_
    have t1_ := cm.th mk hc_
    refine Ev_aload_n dX10_move_0 rfl (by first | exact Or.inr ⟨_, rfl⟩ | exact rv_or _ | exact Or.inl rfl) ?_
    refine Ev_getA dX10_move_1 fX10_19 (ck_3 cf) (cr_705_3 cf) ?_
    refine Ev_iload_n dX10_move_4 rfl ?_
    refine Ev_V0 [.int (nI (mSl m c))] dX10_move_5 vX4_at kX10_74 (ck_6 cf) rfl rfl rfl (Nat.le_of_ble_eq_true rfl) (by omega) (ec_at l G (nI (mSl m c)) g m h cf cm) ?_
    rw [atM_some mk hc_]
    refine Ev_top (y := .ref (wA g c)) rfl ?_
    refine Ev_astore_n dX10_move_8 (by decide) (by first | exact Or.inr ⟨_, rfl⟩ | exact rv_or _ | exact Or.inl rfl) ?_
    refine Ev_aload_n dX10_move_9 rfl (by first | exact Or.inr ⟨_, rfl⟩ | exact rv_or _ | exact Or.inl rfl) ?_
    refine Ev_ifnull (o := some (wA g c)) 29 dX10_move_10 (by decide) (fun z_ => by cases z_) (fun a_ z_ => ?_)
    refine Ev_aload_n dX10_move_13 rfl (by first | exact Or.inr ⟨_, rfl⟩ | exact rv_or _ | exact Or.inl rfl) ?_
    refine Ev_getA dX10_move_14 fX10_19 (ck_3 cf) (cr_705_3 cf) ?_
    refine Ev_aload_n dX10_move_17 rfl (by first | exact Or.inr ⟨_, rfl⟩ | exact rv_or _ | exact Or.inl rfl) ?_
    refine Ev_iload_n dX10_move_18 rfl ?_
    refine Ev_Vz [.ref (wA g c), .int k_] dX10_move_19 vX4_shift kX10_117 (ck_6 cf) rfl rfl rfl (Nat.le_of_ble_eq_true rfl) (by omega) (ec_shift l G c k_ g m h cf wf mk cm hc_) (fun v_ h1 e_ => ?_)
    obtain ⟨zn_, rfl, rfl⟩ | ⟨kk, hkk_, rfl, rfl, f1_, cm1_⟩ := e_
    · skip
      refine Ev_if_eqT 29 dX10_move_22 (by decide) (fun zb22_ => ?_) (fun zb22_ => ?_)
      · refine Ev_iconst (v := nI 0) dX10_move_29 (by decide) ?_
        refine Ev_zret dX10_move_30 rfl (by decide) ?_
        refine Or.inl ⟨fun z => ?_, rfl, rfl⟩
        obtain ⟨c2, z1, z2, z3⟩ := z
        have ec_ : c = c2 := sl_inj hc_ z1 (nI_inj (by have := mk.sl hc_; omega) (by have := mk.sl z1; omega) z2)
        subst ec_
        exact zn_ z3
      · exact absurd t0 zb22_
    · skip
      refine Ev_if_eqT 29 dX10_move_22 (by decide) (fun zb22_ => ?_) (fun zb22_ => ?_)
      · exact absurd zb22_ (by decide)
      · refine Ev_iconst (v := nI 1) dX10_move_25 (by decide) ?_
        refine Ev_goto 30 dX10_move_26 (by decide) ?_
        refine Ev_zret dX10_move_30 rfl (by decide) ?_
        refine Or.inr ⟨c, kk, hc_, hkk_, rfl, rfl, rfl, ?_⟩
        have em_ : setCh m (mPa m c) (mvL (mCh m (mPa m c)) (ix m c) kk c) = mvM m c kk := by
          unfold setCh mvM
          refine congrArg (fun F => (m.1, m.2.1, m.2.2.1, m.2.2.2.1, m.2.2.2.2.1, F)) ?_
          funext p
          by_cases z : p = mPa m c
          · rw [if_pos z, if_pos z, z]
          · rw [if_neg z, if_neg z]
        rw [em_] at cm1_
        exact cs.model hv (f1_.mo (fun b _ z => SLs.md z)) (fun _ _ => rfl) (fun _ _ => rfl) hps (fun k => ⟨((f1_.s hv (ck_4 cf) (by decide) (by rw [wf.1 4 (by decide)]; exact SLs.no9 (by decide) (by decide))).2.2 k).2, ((f1_.s hv (ck_6 cf) (by decide) (by rw [wf.1 6 (by decide)]; exact SLs.no9 (by decide) (by decide))).2.2 k).2⟩) (ct.fs wf cf hv f1_ (SLs.no9 (by decide) (by decide)) (SLs.no9 (by decide) (by decide))) cm1_
  · skip
    refine Ev_aload_n dX10_move_0 rfl (by first | exact Or.inr ⟨_, rfl⟩ | exact rv_or _ | exact Or.inl rfl) ?_
    refine Ev_getA dX10_move_1 fX10_19 (ck_3 cf) (cr_705_3 cf) ?_
    refine Ev_iload_n dX10_move_4 rfl ?_
    refine Ev_V0 [.int t] dX10_move_5 vX4_at kX10_74 (ck_6 cf) rfl rfl rfl (Nat.le_of_ble_eq_true rfl) (by omega) (ec_at l G t g m h cf cm) ?_
    rw [atM_none mk zt_]
    refine Ev_astore_n dX10_move_8 (by decide) (by first | exact Or.inr ⟨_, rfl⟩ | exact rv_or _ | exact Or.inl rfl) ?_
    refine Ev_aload_n dX10_move_9 rfl (by first | exact Or.inr ⟨_, rfl⟩ | exact rv_or _ | exact Or.inl rfl) ?_
    refine Ev_ifnull (o := none) 29 dX10_move_10 (by decide) (fun _ => ?_) (fun a_ z_ => by cases z_)
    refine Ev_iconst (v := nI 0) dX10_move_29 (by decide) ?_
    refine Ev_zret dX10_move_30 rfl (by decide) ?_
    exact Or.inl ⟨fun z => by obtain ⟨c2, z1, z2, -⟩ := z; exact zt_ ⟨c2, z1, z2⟩, rfl, rfl⟩
