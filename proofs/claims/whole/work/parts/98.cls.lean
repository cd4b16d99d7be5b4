theorem drop_le {m : Md} {c : Nat} : mCnt (dropM m c) ≤ mCnt m := by
  unfold mCnt
  refine fb_ct_sub (fun k _ hk => ?_)
  rw [dropM_lv] at hk
  cases hl : mLv m k with
  | none => rw [hl] at hk; cases hk
  | some x => rfl
theorem SDr.md {p : Option Nat} {tg : Nat × Nat} (h : SDr p tg) : SMd tg := by
  rcases h with h | h | h | h
  · exact Or.inr (Or.inr (Or.inr (Or.inl h)))
  · exact h.md
  · rw [h]; exact Or.inr (Or.inr (Or.inr (Or.inr (by decide))))
  · rw [h]; exact Or.inr (Or.inr (Or.inr (Or.inr (by decide))))
theorem SDr.no9 {p : Option Nat} {b : Nat} (h1 : b ≠ 10) (h2 : b ≠ 1) (h3 : b ≠ 11) (h4 : b ≠ 6) : ¬ SDr p (9, b) := by
  rintro (h | h | h | h)
  · have z3 : (9 : Nat) = 10 := h
    omega
  · exact SLs.no9 h1 h2 h
  · exact h3 (congrArg Prod.snd h)
  · exact h4 (congrArg Prod.snd h)
theorem ec_remove (l : Launch) (G : aG) (c : Nat) (g : Gh) (m : Md) (h : aH) (n63_ : 63 ≤ hN h) (cf : Cf h) (wf : OwF (wO g)) (mk : MOk m) (cm : CM g m h) (hc : mLive m c) : Ev l G 4 0 0 mX4_remove 0 (en 5 [.ref 6, .ref (wA g c)]) [] h (fun x h' => x = some (.int (nI (mCnt m - mCnt (dropM m c)))) ∧ FS g (SDr (mPa m c)) h h' ∧ CM g (dropM m c) h' ∧ (∀ j, hR h' j 6 = hR h j 6) ∧ Cf h') := by
  refine Ev_hv (fun hv => ?_)
  have pr_ := cm.par cf wf mk (mPa m c) (mk.2.2.1 c hc).1
  have l24_ := ch_le mk (mPa m c)
  have il_ : (mCh m (mPa m c)).idxOf c < (mCh m (mPa m c)).length := ix_lt mk hc
  have t1_ := cm.th mk hc
  have ti_ : hR h 642 (wA g c) = some (paO g (mPa m c)) := by rw [← paA_eq]; exact t1_.1.2.2.2.2.2.1
  refine Ev_aload_n dX4_remove_0 rfl (by first | exact Or.inr ⟨_, rfl⟩ | exact rv_or _ | exact Or.inl rfl) ?_
  refine Ev_getE dX4_remove_1 fX4_41 (ck_6 cf) cm.2.2.1 ?_
  refine Ev_istore_n dX4_remove_4 (by decide) ?_
  refine Ev_aload_n dX4_remove_5 rfl (by first | exact Or.inr ⟨_, rfl⟩ | exact rv_or _ | exact Or.inl rfl) ?_
  refine Ev_aload_n dX4_remove_6 rfl (by first | exact Or.inr ⟨_, rfl⟩ | exact rv_or _ | exact Or.inl rfl) ?_
  refine Ev_V0 [.ref (wA g c)] dX4_remove_7 vX4_placeOf kX4_52 (ck_6 cf) rfl rfl rfl (Nat.le_of_ble_eq_true rfl) (by omega) (ec_placeOf l G c g m h cf wf mk cm hc) ?_
  refine Ev_istore_n dX4_remove_10 (by decide) ?_
  refine Ev_iload_n dX4_remove_11 rfl ?_
  refine Ev_iconst (v := -1) dX4_remove_12 (by decide) ?_
  refine Ev_icmp_eqT 28 dX4_remove_13 (by decide) (fun zb13_ => ?_) (fun zb13_ => ?_)
  · exact absurd zb13_ (by rw [hi_n (by omega), tm1]; omega)
  · refine Ev_aload_n dX4_remove_16 rfl (by first | exact Or.inr ⟨_, rfl⟩ | exact rv_or _ | exact Or.inl rfl) ?_
    refine Ev_getA dX4_remove_17 fX4_24 t1_.1.1 ti_ ?_
    refine Ev_getA dX4_remove_20 fX4_31 pr_.1 pr_.2.1 ?_
    refine Ev_iload_n dX4_remove_23 rfl ?_
    refine Ev_Vz [.int (nI ((mCh m (mPa m c)).idxOf c))] dX4_remove_24 vJx4a65c_remove_915e3 kX4_56 pr_.2.2.2.2 rfl rfl rfl (Nat.le_of_ble_eq_true rfl) (by omega) (ej_remove l G (plA g (mPa m c)) ((mCh m (mPa m c)).idxOf c) ((mCh m (mPa m c)).map (wA g)) 10 h pr_.2.2.1.1 lkd_10 (by rw [List.length_map]; exact il_)) (fun v_ h1 e_ => ?_)
    obtain ⟨⟨x_, rfl⟩, ax1_, fo1_, hr1_, hn1_, -⟩ := e_
    have f1_ := FS.ls wf fo1_ pr_.2.2.1 pr_.2.2.2.1
    have cm1_ := cm.list (L := (mCh m (mPa m c)).eraseIdx (ix m c)) cf wf hv (fun q hq => mk.lt ((mk.2.2.1 c hc).1 q hq)) f1_ (fun _ _ => rfl) ⟨by rw [map_er]; exact ax1_, fun e2 h2_ => pr_.2.2.1.2.1 e2 (hr1_.symm.trans h2_), by decide⟩
    rw [drK_0] at cm1_
    have s6_ := f1_.s hv (ck_6 cf) (by decide) (by rw [wf.1 6 (by decide)]; exact SLs.no9 (by decide) (by decide))
    have cf1_ : Cf h1 := cf.fo hv f1_ wf (fun q hq => by
      have key : ∀ q ∈ cfR, q.2.1 ∈ [3, 4, 6, 24, 26, 18, 21, 7] := by decide
      have key2 : ∀ a ∈ [3, 4, 6, 24, 26, 18, 21, 7], a ≠ 10 ∧ a ≠ 1 ∧ a ∈ [1, 3, 4, 5, 6, 7, 9, 10, 11, 12, 18, 19, 20, 21, 22, 23, 24, 25, 26, 27] ∧ a < 60 := by decide
      have k2 := key2 _ (key q hq)
      exact (((f1_.2 _ (by omega)).2.2 (by show ¬ SLs _ (wO g q.2.1); rw [wf.1 _ k2.2.2.1]; exact SLs.no9 k2.1 k2.2.1)).2.2 _).2)
    refine Ev_pop dX4_remove_27 (by first | rfl | exact okv_rv _) ?_
    refine Ev_iconst (v := nI 0) dX4_remove_28 (by decide) ?_
    refine Ev_istore dX4_remove_29 (by decide) ?_
    refine ec_remove_l l G c g m h1 wf mk hc (fun h2 f2_ cm2_ hr2_ cf2_ => ?_) 25 0 (by omega) (by omega) h1 FO.rf cm1_ (fun _ => rfl) cf1_
    have dl_ := drop_le (m := m) (c := c)
    have m24_ : mCnt m ≤ 24 := fb_ct_le _ 24
    refine Ev_iload_n dX4_remove_97 rfl ?_
    refine Ev_aload_n dX4_remove_98 rfl (by first | exact Or.inr ⟨_, rfl⟩ | exact rv_or _ | exact Or.inl rfl) ?_
    refine Ev_getE dX4_remove_99 fX4_41 (ck_6 cf2_) cm2_.2.2.1 ?_
    refine Ev_isubN dX4_remove_102 (by omega) ?_
    refine Ev_iret dX4_remove_103 rfl ?_
    exact ⟨rfl, (f1_.mo (fun b _ z => Or.inr (Or.inl z))).tr f2_, cm2_, fun j => (hr2_ j).trans (s6_.2.2 j).2, cf2_⟩
theorem ec_drop (l : Launch) (G : aG) (t : Int32) (g : Gh) (tp : List Int32) (m : Md) (ru : Nat → List It) (fa : Int32 × Int32) (ps : List Pc) (ln : List (List Int32 × Nat × Nat)) (fl : Nat) (h : aH) (cs : CS g tp m ru fa ps ln fl h) (mk : MOk m) (hps : ∀ p ∈ ps, pcC p < mCm m) : Ev l G 5 0 0 mX10_drop 0 (en 3 [.ref 3, .int t]) [] h (fun x h' => (¬ isT m t ∧ x = some (.int (-1)) ∧ h' = h) ∨ (∃ c, mLive m c ∧ t = nI (mSl m c) ∧ x = some (.int (nI (mCnt m - mCnt (dropM m c)))) ∧ CS g tp (dropM m c) ru fa ps ln fl h' ∧ FX h h')) := by
  have cf := cs.1.2.1
  have wf := cs.1.2.2
  have cm := cs.2.2.1
  have ct := cs.2.1
  refine Ev_hv (fun hv => ?_)
  by_cases zt_ : isT m t
  · obtain ⟨c, hc_, rfl⟩ := zt_
    have t1_ := cm.th mk hc_
    refine Ev_aload_n dX10_drop_0 rfl (by first | exact Or.inr ⟨_, rfl⟩ | exact rv_or _ | exact Or.inl rfl) ?_
    refine Ev_getA dX10_drop_1 fX10_19 (ck_3 cf) (cr_705_3 cf) ?_
    refine Ev_iload_n dX10_drop_4 rfl ?_
    refine Ev_V0 [.int (nI (mSl m c))] dX10_drop_5 vX4_at kX10_74 (ck_6 cf) rfl rfl rfl (Nat.le_of_ble_eq_true rfl) (by omega) (ec_at l G (nI (mSl m c)) g m h cf cm) ?_
    rw [atM_some mk hc_]
    refine Ev_top (y := .ref (wA g c)) rfl ?_
    refine Ev_astore_n dX10_drop_8 (by decide) (by first | exact Or.inr ⟨_, rfl⟩ | exact rv_or _ | exact Or.inl rfl) ?_
    refine Ev_aload_n dX10_drop_9 rfl (by first | exact Or.inr ⟨_, rfl⟩ | exact rv_or _ | exact Or.inl rfl) ?_
    refine Ev_ifnonnull (o := some (wA g c)) 17 dX10_drop_10 (by decide) (fun a_ z_ => ?_) (fun z_ => by cases z_)
    refine Ev_aload_n dX10_drop_17 rfl (by first | exact Or.inr ⟨_, rfl⟩ | exact rv_or _ | exact Or.inl rfl) ?_
    refine Ev_getA dX10_drop_18 fX10_19 (ck_3 cf) (cr_705_3 cf) ?_
    refine Ev_aload_n dX10_drop_21 rfl (by first | exact Or.inr ⟨_, rfl⟩ | exact rv_or _ | exact Or.inl rfl) ?_
    refine Ev_Vz [.ref (wA g c)] dX10_drop_22 vX4_remove kX10_121 (ck_6 cf) rfl rfl rfl (Nat.le_of_ble_eq_true rfl) (by omega) (ec_remove l G c g m h cs.1.1 cf wf mk cm hc_) (fun v_ h1 e_ => ?_)
    obtain ⟨rfl, f1_, cm1_, hr1_, cf1_⟩ := e_
    refine Ev_iret dX10_drop_25 rfl ?_
    refine Or.inr ⟨c, hc_, rfl, rfl, ?_⟩
    exact cs.model hv (f1_.mo (fun b _ z => SDr.md z)) (fun _ _ => rfl) (fun _ _ => rfl) hps (fun k => ⟨((f1_.s hv (ck_4 cf) (by decide) (by rw [wf.1 4 (by decide)]; exact SDr.no9 (by decide) (by decide) (by decide) (by decide))).2.2 k).2, hr1_ k⟩) (ct.fs wf cf hv f1_ (SDr.no9 (by decide) (by decide) (by decide) (by decide)) (SDr.no9 (by decide) (by decide) (by decide) (by decide))) cm1_
  · skip
    refine Ev_aload_n dX10_drop_0 rfl (by first | exact Or.inr ⟨_, rfl⟩ | exact rv_or _ | exact Or.inl rfl) ?_
    refine Ev_getA dX10_drop_1 fX10_19 (ck_3 cf) (cr_705_3 cf) ?_
    refine Ev_iload_n dX10_drop_4 rfl ?_
    refine Ev_V0 [.int t] dX10_drop_5 vX4_at kX10_74 (ck_6 cf) rfl rfl rfl (Nat.le_of_ble_eq_true rfl) (by omega) (ec_at l G t g m h cf cm) ?_
    rw [atM_none mk zt_]
    refine Ev_astore_n dX10_drop_8 (by decide) (by first | exact Or.inr ⟨_, rfl⟩ | exact rv_or _ | exact Or.inl rfl) ?_
    refine Ev_aload_n dX10_drop_9 rfl (by first | exact Or.inr ⟨_, rfl⟩ | exact rv_or _ | exact Or.inl rfl) ?_
    refine Ev_ifnonnull (o := none) 17 dX10_drop_10 (by decide) (fun a_ z_ => by cases z_) (fun _ => ?_)
    refine Ev_iconst (v := -1) dX10_drop_13 (by decide) ?_
    refine Ev_goto 25 dX10_drop_14 (by decide) ?_
    refine Ev_iret dX10_drop_25 rfl ?_
    exact Or.inl ⟨zt_, rfl, rfl⟩
/-- a thing behind its constructor -/
def TIn (a : Nat) (sl kd dep : Int32) (pin : Option Nat) (lt : Nat) (h h' : aH) : Prop := hN h' = hN h + 2 ∧ FO (fun b => b = a) h h' ∧ (hK h' a = 10 ∧ hI h' 640 a = sl ∧ hI h' 641 a = kd ∧ hI h' 643 a = dep ∧ hI h' 647 a = hI h 647 a) ∧ (hR h' 642 a = pin ∧ hR h' 644 a = some (hN h + 3) ∧ hR h' 645 a = some (hN h + 4) ∧ hR h' 646 a = some lt) ∧ (hK h' (hN h + 3) = 13 ∧ hL h' (hN h + 3) = 4 ∧ hX h' (hN h + 3) = fun _ => 0) ∧ AX (hN h + 4) [] 10 h' ∧ hR h' 1 (hN h + 4) = some 1
theorem ec_thingInit (l : Launch) (G : aG) (a q lt dp : Nat) (sl kd : Int32) (h : aH) (k0_ : hK h a = 10) (hq_ : hK h q = 10) (dq0_ : hI h 643 q = nI dp) (hne_ : q ≠ a) : Ev l G 4 2 7 mX9_init 0 (en 5 [.ref a, .int sl, .int kd, .ref q, .ref lt]) [] h (fun x h' => x = none ∧ TIn a sl kd (nI (dp + 1)) (some q) lt h h') := by
  refine Ev_hv (fun hv => ?_)
  have ha_ := (hv a (by rw [k0_]; decide))
  have kB_ : hK (nA h 13 4) a = 10 := (up1_n _ _ (by omega)).trans k0_
  have kC_ : hK (nO (sR (nA h 13 4) 644 a (some (hN h + 3))) 0) a = 10 := (up1_n _ _ (by show a ≠ hN h + 1 + 3; omega)).trans kB_
  have hq3_ := (hv q (by rw [hq_]; decide))
  have kq_ : hK (nO (sR (nA h 13 4) 644 a (some (hN h + 3))) 0) q = 10 := (up1_n _ _ (by show q ≠ hN h + 1 + 3; omega)).trans ((up1_n _ _ (by omega)).trans hq_)
  have dq_ : hI (sR (sI (sI (sR (sR (sI (nO (sR (nA h 13 4) 644 a (some (hN h + 3))) 0) 0 (hN h + 4) 0) 1 (hN h + 4) (some 1)) 645 a (some (hN h + 4))) 640 a sl) 641 a kd) 642 a (some q)) 643 q = nI dp := by
    refine (gI_R _ _ _ _ _ _).trans ((hI_o _ _ (by decide)).trans ((hI_o _ _ (by decide)).trans ((gI_R _ _ _ _ _ _).trans ((gI_R _ _ _ _ _ _).trans ((hI_o _ _ (by decide)).trans ?_)))))
    show (if q = hN h + 1 + 3 then 0 else hI h 643 q) = _
    rw [if_neg (by omega)]; exact dq0_
  refine Ev_aload_n dX9_init_0 rfl (Or.inr ⟨_, rfl⟩) ?_
  refine Ev_objI dX9_init_1 (by omega) rfl (Nat.le_of_ble_eq_true rfl) kX9_3 ob_1 ob_2 ?_
  refine Ev_aload_n dX9_init_4 rfl (by first | exact Or.inr ⟨_, rfl⟩ | exact rv_or _ | exact Or.inl rfl) ?_
  refine Ev_iconst (v := nI 4) dX9_init_5 (by decide) ?_
  refine Ev.wide (mc' := 1 + 1) (ms' := 3 + 4) (by omega) (by omega) ?_
  refine Ev_newa (kd := 13) 4 dX9_init_6 rfl (Or.inl rfl) ai_1 (by decide) (by decide) ?_
  refine Ev_putR (x := some (hN h + 3)) dX9_init_8 fX9_9 ⟨_, rfl, Or.inr ⟨rfl, rfl⟩⟩ kB_ rfl ?_
  refine Ev_aload_n dX9_init_11 rfl (by first | exact Or.inr ⟨_, rfl⟩ | exact rv_or _ | exact Or.inl rfl) ?_
  refine Ev.wide (mc' := 0 + 1) (ms' := 0 + fn 0) (by omega) (by decide) ?_
  refine Ev_new dX9_init_12 nX9_15 ?_
  refine Ev_top (y := .ref (hN h + 4)) rfl ?_
  refine Ev_dup dX9_init_15 (by first | rfl | exact okv_rv _) ?_
  refine Ev_I0 [] dX9_init_16 iJx4a65c_init_da8c8 kX9_17 rfl rfl rfl (Nat.le_of_ble_eq_true rfl) (by omega) (ej_init l G (hN h + 4) (nO (sR (nA h 13 4) 644 a (some (hN h + 3))) 0) (up1_s _ _ _)) ?_
  refine Ev_putR (x := some (hN h + 4)) dX9_init_19 fX9_18 ⟨_, rfl, Or.inr ⟨rfl, rfl⟩⟩ kC_ rfl ?_
  refine Ev_aload_n dX9_init_22 rfl (by first | exact Or.inr ⟨_, rfl⟩ | exact rv_or _ | exact Or.inl rfl) ?_
  refine Ev_iload_n dX9_init_23 rfl ?_
  refine Ev_putI dX9_init_24 fX9_22 ⟨_, rfl, Or.inr ⟨rfl, rfl⟩⟩ (Or.inl rfl) kC_ ?_
  refine Ev_aload_n dX9_init_27 rfl (by first | exact Or.inr ⟨_, rfl⟩ | exact rv_or _ | exact Or.inl rfl) ?_
  refine Ev_iload_n dX9_init_28 rfl ?_
  refine Ev_putI dX9_init_29 fX9_26 ⟨_, rfl, Or.inr ⟨rfl, rfl⟩⟩ (Or.inl rfl) kC_ ?_
  refine Ev_aload_n dX9_init_32 rfl (by first | exact Or.inr ⟨_, rfl⟩ | exact rv_or _ | exact Or.inl rfl) ?_
  refine Ev_aload_n dX9_init_33 rfl (by first | exact Or.inr ⟨_, rfl⟩ | exact rv_or _ | exact Or.inl rfl) ?_
  refine Ev_putR (x := some q) dX9_init_34 fX9_29 ⟨_, rfl, Or.inr ⟨rfl, rfl⟩⟩ kC_ rfl ?_
  refine Ev_aload_n dX9_init_37 rfl (by first | exact Or.inr ⟨_, rfl⟩ | exact rv_or _ | exact Or.inl rfl) ?_
  refine Ev_aload_n dX9_init_38 rfl (by first | exact Or.inr ⟨_, rfl⟩ | exact rv_or _ | exact Or.inl rfl) ?_
  refine Ev_ifnonnull (o := some (q)) 46 dX9_init_39 (by decide) (fun a_ z_ => ?_) (fun z_ => by cases z_)
  refine Ev_aload_n dX9_init_46 rfl (by first | exact Or.inr ⟨_, rfl⟩ | exact rv_or _ | exact Or.inl rfl) ?_
  refine Ev_getE dX9_init_47 fX9_33 kq_ dq_ ?_
  refine Ev_iconst (v := nI 1) dX9_init_50 (by decide) ?_
  refine Ev_iaddN dX9_init_51 ?_
  refine Ev_putI dX9_init_52 fX9_33 ⟨_, rfl, Or.inr ⟨rfl, rfl⟩⟩ (Or.inl rfl) kC_ ?_
  refine Ev_aload_n dX9_init_55 rfl (by first | exact Or.inr ⟨_, rfl⟩ | exact rv_or _ | exact Or.inl rfl) ?_
  refine Ev_aload dX9_init_56 rfl (by first | exact Or.inr ⟨_, rfl⟩ | exact rv_or _ | exact Or.inl rfl) ?_
  refine Ev_putR (x := some lt) dX9_init_58 fX9_36 ⟨_, rfl, Or.inl rfl⟩ kC_ rfl ?_
  refine Ev_vret dX9_init_61 rfl ?_
  have kA_ : hK (sR (sI (sR (sI (sI (sR (sR (sI (nO (sR (nA h 13 4) 644 a (some (hN h + 3))) 0) 0 (hN h + 4) 0) 1 (hN h + 4) (some 1)) 645 a (some (hN h + 4))) 640 a sl) 641 a kd) 642 a (some q)) 643 a (nI (dp + 1))) 646 a (some lt)) a = 10 := kC_
  have hr1_ : hR (sR (sI (sR (sI (sI (sR (sR (sI (nO (sR (nA h 13 4) 644 a (some (hN h + 3))) 0) 0 (hN h + 4) 0) 1 (hN h + 4) (some 1)) 645 a (some (hN h + 4))) 640 a sl) 641 a kd) 642 a (some q)) 643 a (nI (dp + 1))) 646 a (some lt)) 1 (hN h + 4) = some 1 := (hR_o _ _ (by decide)).trans ((gR_I _ _ _ _ _ _).trans ((hR_o _ _ (by decide)).trans ((gR_I _ _ _ _ _ _).trans ((gR_I _ _ _ _ _ _).trans ((hR_o _ _ (by decide)).trans (hR_s _ _ _ _))))))
  refine ⟨rfl, rfl, ?_, ⟨kA_, ?_, ?_, ?_, ?_⟩, ⟨?_, ?_, ?_, hR_s _ _ _ _⟩, ⟨?_, up1_s _ _ _, up1_s _ _ _⟩, ⟨⟨?_, ?_, by simp, fun x hx => by simp at hx, 1, ?_, Or.inl ⟨rfl, rfl⟩⟩, fun e2_ h2_ => ?_⟩, ?_⟩
  · refine FO.mo (C := fun b => b = a ∨ b = hN h + 3 ∨ b = hN h + 4) ?_ (fun b hb z => z.elim id (fun z => by omega))
    exact ((((((((((FO.nA).tr (FO.sR (Or.inl rfl))).tr FO.nO).tr (FO.sI (Or.inr (Or.inr rfl)))).tr (FO.sR (Or.inr (Or.inr rfl)))).tr (FO.sR (Or.inl rfl))).tr (FO.sI (Or.inl rfl))).tr (FO.sI (Or.inl rfl))).tr (FO.sR (Or.inl rfl))).tr (FO.sI (Or.inl rfl))).tr (FO.sR (Or.inl rfl))
  · exact (gI_R _ _ _ _ _ _).trans ((hI_o _ _ (by decide)).trans ((gI_R _ _ _ _ _ _).trans ((hI_o _ _ (by decide)).trans (hI_s _ _ _ _))))
  · exact (gI_R _ _ _ _ _ _).trans ((hI_o _ _ (by decide)).trans ((gI_R _ _ _ _ _ _).trans (hI_s _ _ _ _)))
  · exact (gI_R _ _ _ _ _ _).trans (hI_s _ _ _ _)
  · refine (gI_R _ _ _ _ _ _).trans ((hI_o _ _ (by decide)).trans ((gI_R _ _ _ _ _ _).trans ((hI_o _ _ (by decide)).trans ((hI_o _ _ (by decide)).trans ((gI_R _ _ _ _ _ _).trans ((gI_R _ _ _ _ _ _).trans ((hI_o _ _ (by decide)).trans ?_)))))))
    show (if a = hN h + 1 + 3 then 0 else hI h 647 a) = _
    rw [if_neg (by omega)]
  · exact (hR_o _ _ (by decide)).trans ((gR_I _ _ _ _ _ _).trans (hR_s _ _ _ _))
  · refine (hR_o _ _ (by decide)).trans ((gR_I _ _ _ _ _ _).trans ((hR_o _ _ (by decide)).trans ((gR_I _ _ _ _ _ _).trans ((gR_I _ _ _ _ _ _).trans ((hR_o _ _ (by decide)).trans ((hR_o _ _ (by decide)).trans ((gR_I _ _ _ _ _ _).trans ?_)))))))
    show (if a = hN h + 1 + 3 then none else up2 (hR h) 644 a (some (hN h + 3)) 644 a) = _
    rw [if_neg (by omega), up2_s]
  · exact (hR_o _ _ (by decide)).trans ((gR_I _ _ _ _ _ _).trans ((hR_o _ _ (by decide)).trans ((gR_I _ _ _ _ _ _).trans ((gR_I _ _ _ _ _ _).trans (hR_s _ _ _ _)))))
  · show up1 (up1 (hK h) (hN h + 3) 13) (hN h + 4) 0 (hN h + 3) = 13
    rw [up1_n _ _ (by omega), up1_s]
  · exact up1_s _ _ _
  · refine (gI_R _ _ _ _ _ _).trans ((hI_o _ _ (by decide)).trans ((gI_R _ _ _ _ _ _).trans ((hI_o _ _ (by decide)).trans ((hI_o _ _ (by decide)).trans ((gI_R _ _ _ _ _ _).trans ((gI_R _ _ _ _ _ _).trans ((hI_o _ _ (by decide)).trans ?_)))))))
    show (if hN h + 4 = hN h + 1 + 3 then 0 else hI h 2 (hN h + 4)) = _
    rw [if_pos rfl]; rfl
  · exact hr1_
  · exact Or.inl (Option.some.inj (h2_.symm.trans hr1_))
  · exact hr1_
theorem ec_thingInit0 (l : Launch) (G : aG) (a lt : Nat) (sl kd : Int32) (h : aH) (k0_ : hK h a = 10) : Ev l G 4 2 7 mX9_init 0 (en 5 [.ref a, .int sl, .int kd, .null, .ref lt]) [] h (fun x h' => x = none ∧ TIn a sl kd (nI 0) none lt h h') := by
  refine Ev_hv (fun hv => ?_)
  have ha_ := (hv a (by rw [k0_]; decide))
  have kB_ : hK (nA h 13 4) a = 10 := (up1_n _ _ (by omega)).trans k0_
  have kC_ : hK (nO (sR (nA h 13 4) 644 a (some (hN h + 3))) 0) a = 10 := (up1_n _ _ (by show a ≠ hN h + 1 + 3; omega)).trans kB_
  refine Ev_aload_n dX9_init_0 rfl (Or.inr ⟨_, rfl⟩) ?_
  refine Ev_objI dX9_init_1 (by omega) rfl (Nat.le_of_ble_eq_true rfl) kX9_3 ob_1 ob_2 ?_
  refine Ev_aload_n dX9_init_4 rfl (by first | exact Or.inr ⟨_, rfl⟩ | exact rv_or _ | exact Or.inl rfl) ?_
  refine Ev_iconst (v := nI 4) dX9_init_5 (by decide) ?_
  refine Ev.wide (mc' := 1 + 1) (ms' := 3 + 4) (by omega) (by omega) ?_
  refine Ev_newa (kd := 13) 4 dX9_init_6 rfl (Or.inl rfl) ai_1 (by decide) (by decide) ?_
  refine Ev_putR (x := some (hN h + 3)) dX9_init_8 fX9_9 ⟨_, rfl, Or.inr ⟨rfl, rfl⟩⟩ kB_ rfl ?_
  refine Ev_aload_n dX9_init_11 rfl (by first | exact Or.inr ⟨_, rfl⟩ | exact rv_or _ | exact Or.inl rfl) ?_
  refine Ev.wide (mc' := 0 + 1) (ms' := 0 + fn 0) (by omega) (by decide) ?_
  refine Ev_new dX9_init_12 nX9_15 ?_
  refine Ev_top (y := .ref (hN h + 4)) rfl ?_
  refine Ev_dup dX9_init_15 (by first | rfl | exact okv_rv _) ?_
  refine Ev_I0 [] dX9_init_16 iJx4a65c_init_da8c8 kX9_17 rfl rfl rfl (Nat.le_of_ble_eq_true rfl) (by omega) (ej_init l G (hN h + 4) (nO (sR (nA h 13 4) 644 a (some (hN h + 3))) 0) (up1_s _ _ _)) ?_
  refine Ev_putR (x := some (hN h + 4)) dX9_init_19 fX9_18 ⟨_, rfl, Or.inr ⟨rfl, rfl⟩⟩ kC_ rfl ?_
  refine Ev_aload_n dX9_init_22 rfl (by first | exact Or.inr ⟨_, rfl⟩ | exact rv_or _ | exact Or.inl rfl) ?_
  refine Ev_iload_n dX9_init_23 rfl ?_
  refine Ev_putI dX9_init_24 fX9_22 ⟨_, rfl, Or.inr ⟨rfl, rfl⟩⟩ (Or.inl rfl) kC_ ?_
  refine Ev_aload_n dX9_init_27 rfl (by first | exact Or.inr ⟨_, rfl⟩ | exact rv_or _ | exact Or.inl rfl) ?_
  refine Ev_iload_n dX9_init_28 rfl ?_
  refine Ev_putI dX9_init_29 fX9_26 ⟨_, rfl, Or.inr ⟨rfl, rfl⟩⟩ (Or.inl rfl) kC_ ?_
  refine Ev_aload_n dX9_init_32 rfl (by first | exact Or.inr ⟨_, rfl⟩ | exact rv_or _ | exact Or.inl rfl) ?_
  refine Ev_aload_n dX9_init_33 rfl (by first | exact Or.inr ⟨_, rfl⟩ | exact rv_or _ | exact Or.inl rfl) ?_
  refine Ev_putR (x := none) dX9_init_34 fX9_29 ⟨_, rfl, Or.inr ⟨rfl, rfl⟩⟩ kC_ rfl ?_
  refine Ev_aload_n dX9_init_37 rfl (by first | exact Or.inr ⟨_, rfl⟩ | exact rv_or _ | exact Or.inl rfl) ?_
  refine Ev_aload_n dX9_init_38 rfl (by first | exact Or.inr ⟨_, rfl⟩ | exact rv_or _ | exact Or.inl rfl) ?_
  refine Ev_ifnonnull (o := none) 46 dX9_init_39 (by decide) (fun a_ z_ => by cases z_) (fun _ => ?_)
  refine Ev_iconst (v := nI 0) dX9_init_42 (by decide) ?_
  refine Ev_goto 52 dX9_init_43 (by decide) ?_
  refine Ev_putI dX9_init_52 fX9_33 ⟨_, rfl, Or.inr ⟨rfl, rfl⟩⟩ (Or.inl rfl) kC_ ?_
  refine Ev_aload_n dX9_init_55 rfl (by first | exact Or.inr ⟨_, rfl⟩ | exact rv_or _ | exact Or.inl rfl) ?_
  refine Ev_aload dX9_init_56 rfl (by first | exact Or.inr ⟨_, rfl⟩ | exact rv_or _ | exact Or.inl rfl) ?_
  refine Ev_putR (x := some lt) dX9_init_58 fX9_36 ⟨_, rfl, Or.inl rfl⟩ kC_ rfl ?_
  refine Ev_vret dX9_init_61 rfl ?_
  have kA_ : hK (sR (sI (sR (sI (sI (sR (sR (sI (nO (sR (nA h 13 4) 644 a (some (hN h + 3))) 0) 0 (hN h + 4) 0) 1 (hN h + 4) (some 1)) 645 a (some (hN h + 4))) 640 a sl) 641 a kd) 642 a none) 643 a (nI 0)) 646 a (some lt)) a = 10 := kC_
  have hr1_ : hR (sR (sI (sR (sI (sI (sR (sR (sI (nO (sR (nA h 13 4) 644 a (some (hN h + 3))) 0) 0 (hN h + 4) 0) 1 (hN h + 4) (some 1)) 645 a (some (hN h + 4))) 640 a sl) 641 a kd) 642 a none) 643 a (nI 0)) 646 a (some lt)) 1 (hN h + 4) = some 1 := (hR_o _ _ (by decide)).trans ((gR_I _ _ _ _ _ _).trans ((hR_o _ _ (by decide)).trans ((gR_I _ _ _ _ _ _).trans ((gR_I _ _ _ _ _ _).trans ((hR_o _ _ (by decide)).trans (hR_s _ _ _ _))))))
  refine ⟨rfl, rfl, ?_, ⟨kA_, ?_, ?_, ?_, ?_⟩, ⟨?_, ?_, ?_, hR_s _ _ _ _⟩, ⟨?_, up1_s _ _ _, up1_s _ _ _⟩, ⟨⟨?_, ?_, by simp, fun x hx => by simp at hx, 1, ?_, Or.inl ⟨rfl, rfl⟩⟩, fun e2_ h2_ => ?_⟩, ?_⟩
  · refine FO.mo (C := fun b => b = a ∨ b = hN h + 3 ∨ b = hN h + 4) ?_ (fun b hb z => z.elim id (fun z => by omega))
    exact ((((((((((FO.nA).tr (FO.sR (Or.inl rfl))).tr FO.nO).tr (FO.sI (Or.inr (Or.inr rfl)))).tr (FO.sR (Or.inr (Or.inr rfl)))).tr (FO.sR (Or.inl rfl))).tr (FO.sI (Or.inl rfl))).tr (FO.sI (Or.inl rfl))).tr (FO.sR (Or.inl rfl))).tr (FO.sI (Or.inl rfl))).tr (FO.sR (Or.inl rfl))
  · exact (gI_R _ _ _ _ _ _).trans ((hI_o _ _ (by decide)).trans ((gI_R _ _ _ _ _ _).trans ((hI_o _ _ (by decide)).trans (hI_s _ _ _ _))))
  · exact (gI_R _ _ _ _ _ _).trans ((hI_o _ _ (by decide)).trans ((gI_R _ _ _ _ _ _).trans (hI_s _ _ _ _)))
  · exact (gI_R _ _ _ _ _ _).trans (hI_s _ _ _ _)
  · refine (gI_R _ _ _ _ _ _).trans ((hI_o _ _ (by decide)).trans ((gI_R _ _ _ _ _ _).trans ((hI_o _ _ (by decide)).trans ((hI_o _ _ (by decide)).trans ((gI_R _ _ _ _ _ _).trans ((gI_R _ _ _ _ _ _).trans ((hI_o _ _ (by decide)).trans ?_)))))))
    show (if a = hN h + 1 + 3 then 0 else hI h 647 a) = _
    rw [if_neg (by omega)]
  · exact (hR_o _ _ (by decide)).trans ((gR_I _ _ _ _ _ _).trans (hR_s _ _ _ _))
  · refine (hR_o _ _ (by decide)).trans ((gR_I _ _ _ _ _ _).trans ((hR_o _ _ (by decide)).trans ((gR_I _ _ _ _ _ _).trans ((gR_I _ _ _ _ _ _).trans ((hR_o _ _ (by decide)).trans ((hR_o _ _ (by decide)).trans ((gR_I _ _ _ _ _ _).trans ?_)))))))
    show (if a = hN h + 1 + 3 then none else up2 (hR h) 644 a (some (hN h + 3)) 644 a) = _
    rw [if_neg (by omega), up2_s]
  · exact (hR_o _ _ (by decide)).trans ((gR_I _ _ _ _ _ _).trans ((hR_o _ _ (by decide)).trans ((gR_I _ _ _ _ _ _).trans ((gR_I _ _ _ _ _ _).trans (hR_s _ _ _ _)))))
  · show up1 (up1 (hK h) (hN h + 3) 13) (hN h + 4) 0 (hN h + 3) = 13
    rw [up1_n _ _ (by omega), up1_s]
  · exact up1_s _ _ _
  · refine (gI_R _ _ _ _ _ _).trans ((hI_o _ _ (by decide)).trans ((gI_R _ _ _ _ _ _).trans ((hI_o _ _ (by decide)).trans ((hI_o _ _ (by decide)).trans ((gI_R _ _ _ _ _ _).trans ((gI_R _ _ _ _ _ _).trans ((hI_o _ _ (by decide)).trans ?_)))))))
    show (if hN h + 4 = hN h + 1 + 3 then 0 else hI h 2 (hN h + 4)) = _
    rw [if_pos rfl]; rfl
  · exact hr1_
  · exact Or.inl (Option.some.inj (h2_.symm.trans hr1_))
  · exact hr1_
