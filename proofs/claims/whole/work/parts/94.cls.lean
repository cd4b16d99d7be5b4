theorem CM.nm {g : Gh} {m : Md} {h : aH} {c r : Nat} {n : List Int32} (cm : CM g m h) (cf : Cf h) (wf : OwF (wO g)) (hv : Hv h) (hc : c < mCm m) (hr : IR (wO g) r n h) : CM g (sNm m c n) (sR h 646 (wA g c) (some r)) := by
  have f : FS g (fun tg => tg = (10, c)) h (sR h 646 (wA g c) (some r)) := FO.sR (cm.1 c hc).1.2.1
  have e : OwX g (wO g) h := fun _ _ => rfl
  have n7 : (7 : Nat) ≠ wA g c := fun z => by
    have q := (cm.1 c hc).1.2.1
    rw [← z, wf.1 7 (by decide)] at q
    exact absurd (congrArg Prod.fst q) (fun z2 => by have z3 : (9 : Nat) = 10 := z2; omega)
  obtain ⟨a1, a2, a3, a4, a5, a6, a7⟩ := cm
  refine ⟨fun x hx => ?_, a2, a3, ?_, a5, (hR_o _ _ (by decide)).trans a6, a7⟩
  · have t := a1 x hx
    by_cases z : x = c
    · subst z
      obtain ⟨⟨t1, t2, t3, t4, t5, t6, t7, t8, t9⟩, b, d, l⟩ := t
      refine ⟨⟨t1, t2, t3, t4, t5, (hR_o _ _ (by decide)).trans t6, (hR_o _ _ (by decide)).trans t7, (hR_o _ _ (by decide)).trans t8, t9⟩, b, d, fun hl => ?_⟩
      obtain ⟨l1, -, l4⟩ := l hl
      refine ⟨l1, ⟨r, hR_s _ _ _ _, ?_⟩, l4.fo f hv e (by simp) (by rw [d.2]; simp)⟩
      show IR (wO g) r (up1 m.2.2.2.1 x n x) _
      rw [up1_s]; exact hr.fo f hv e (by simp)
    · have t5 := t.fo f hv e (by simp) (by simp) (by simp) (by simp) (by simp [z])
      obtain ⟨t1, t2, t3, t4⟩ := t5
      refine ⟨t1, t2, t3, fun hl => ?_⟩
      obtain ⟨l1, ⟨r2, l2, l3⟩, l4⟩ := t4 hl
      refine ⟨l1, ⟨r2, l2, ?_⟩, l4⟩
      show IR _ r2 (up1 m.2.2.2.1 c n x) _
      rw [up1_n _ _ z]; exact l3
  · exact a4.fo f hv e (by simp) (by rw [wf.1 10 (by decide)]; simp)
/-- the tape is cut: the rest of the class, with the new row -/
theorem CuT.cs {g : Gh} {tp : List Int32} {m : Md} {h h1 : aH} (c : CuT tp h h1) (cf : Cf h) (wf : OwF (wO g)) (hv : Hv h) : FS g (fun tg => tg = (9, 4)) h h1 ∧ OwX g (up1 (wO g) (hN h + 3) (0, 0)) h ∧ IR (up1 (wO g) (hN h + 3) (0, 0)) (hN h + 3) tp h1 ∧ (CM g m h → CM (gw g (up1 (wO g) (hN h + 3) (0, 0))) m h1) := by
  have f : FS g (fun tg => tg = (9, 4)) h h1 := c.2.2.2.2.1.mo (fun b hb z => by rw [z]; exact wf.1 4 (by decide))
  have e : OwX g (up1 (wO g) (hN h + 3) (0, 0)) h := fun b hb => up1_n _ _ (by omega)
  refine ⟨f, e, ⟨c.2.1, c.2.2.1, up1_s _ _ _, c.2.2.2.1⟩, fun cm => cm.fo cf wf f hv e (fun tg ht z => ?_)⟩
  subst z
  simp at ht
theorem ec_name (l : Launch) (G : aG) (t : Int32) (g : Gh) (tp : List Int32) (m : Md) (ru : Nat → List It) (fa : Int32 × Int32) (ps : List Pc) (ln : List (List Int32 × Nat × Nat)) (fl : Nat) (h : aH) (cs : CS g tp m ru fa ps ln fl h) (mk : MOk m) (hps : ∀ p ∈ ps, pcC p < mCm m) : Ev l G 2 1 120 mX10_name 0 (en 3 [.ref 3, .int t]) [] h (fun x h' => (¬ (isT m t ∧ nmB tp = true) ∧ x = some (.int (nI 0)) ∧ h' = h) ∨ (∃ c, mLive m c ∧ t = nI (mSl m c) ∧ nmB tp = true ∧ x = some (.int (nI 1)) ∧ ∃ g', CS g' [] (sNm m c tp) ru fa ps ln fl h' ∧ FX h h')) := by
  have cf := cs.1.2.1
  have wf := cs.1.2.2
  have cm := cs.2.2.1
  have ct := cs.2.1
  refine Ev_hv (fun hv => ?_)
  by_cases zt_ : isT m t
  · obtain ⟨c, hc_, rfl⟩ := zt_
    have t1_ := cm.th mk hc_
    refine Ev_aload_n dX10_name_0 rfl (by first | exact Or.inr ⟨_, rfl⟩ | exact rv_or _ | exact Or.inl rfl) ?_
    refine Ev_getA dX10_name_1 fX10_19 (ck_3 cf) (cr_705_3 cf) ?_
    refine Ev_iload_n dX10_name_4 rfl ?_
    refine Ev_V0 [.int (nI (mSl m c))] dX10_name_5 vX4_at kX10_74 (ck_6 cf) rfl rfl rfl (Nat.le_of_ble_eq_true rfl) (by omega) (ec_at l G (nI (mSl m c)) g m h cf cm) ?_
    rw [atM_some mk hc_]
    refine Ev_top (y := .ref (wA g c)) rfl ?_
    refine Ev_astore_n dX10_name_8 (by decide) (by first | exact Or.inr ⟨_, rfl⟩ | exact rv_or _ | exact Or.inl rfl) ?_
    refine Ev_aload_n dX10_name_9 rfl (by first | exact Or.inr ⟨_, rfl⟩ | exact rv_or _ | exact Or.inl rfl) ?_
    refine Ev_ifnull (o := some (wA g c)) 23 dX10_name_10 (by decide) (fun z_ => by cases z_) (fun a_ z_ => ?_)
    refine Ev_aload_n dX10_name_13 rfl (by first | exact Or.inr ⟨_, rfl⟩ | exact rv_or _ | exact Or.inl rfl) ?_
    refine Ev_getA dX10_name_14 fX10_10 (ck_3 cf) (cr_704_3 cf) ?_
    refine Ev_V0 [] dX10_name_17 vX7_isName kX10_91 (ck_4 cf) rfl rfl rfl (Nat.le_of_ble_eq_true rfl) (by omega) (ec_isName l G tp h cf ct) ?_
    refine Ev_if_neB 25 dX10_name_20 (by decide) (fun zb20_ => ?_) (fun zb20_ => ?_)
    · refine Ev_aload_n dX10_name_25 rfl (by first | exact Or.inr ⟨_, rfl⟩ | exact rv_or _ | exact Or.inl rfl) ?_
      refine Ev_aload_n dX10_name_26 rfl (by first | exact Or.inr ⟨_, rfl⟩ | exact rv_or _ | exact Or.inl rfl) ?_
      refine Ev_getA dX10_name_27 fX10_10 (ck_3 cf) (cr_704_3 cf) ?_
      refine Ev_Vg (mc2 := 0) (ms2 := 0) [] dX10_name_30 vX7_cutAll kX10_95 (ck_4 cf) rfl rfl rfl (Nat.le_of_ble_eq_true rfl) (by omega) (by omega) (by omega) (ec_cutAll l G tp h cf ct) (fun v_ h1 e_ => ?_)
      obtain ⟨rfl, cu_⟩ := e_
      obtain ⟨f1_, ow1_, ir1_, cm1_⟩ := cu_.cs (m := m) cf wf hv
      have k1_ : hK h1 (wA g c) = 10 := cu_.2.2.2.2.1.k hv t1_.1.1 (by decide)
      refine Ev_hv (fun hv1_ => ?_)
      refine Ev_putR (x := some (hN h + 3)) dX10_name_33 fX10_114 ⟨_, rfl, Or.inl rfl⟩ k1_ rfl ?_
      refine Ev_iconst (v := nI 1) dX10_name_36 (by decide) ?_
      refine Ev_zret dX10_name_37 rfl (by decide) ?_
      refine Or.inr ⟨c, hc_, rfl, zb20_, rfl, ?_⟩
      have cf1_ : Cf h1 := cf.fo hv f1_ wf (fun q hq => cu_.2.2.2.2.2.2 _ _ (by have key : ∀ q ∈ cfR, q.2.1 < 60 := (by decide); have := key q hq; have := cs.1.1; omega))
      have wf1_ : OwF (wO (gw g (up1 (wO g) (hN h + 3) (0, 0)))) := ⟨fun a ha => (ow1_ a (by have key : a ≤ 27 := (by revert ha; revert a; decide); have := cs.1.1; omega)).trans (wf.1 a ha), fun a h1_ h2_ => (ow1_ a (by have := cs.1.1; omega)).trans (wf.2 a h1_ h2_)⟩
      refine ⟨gw g (up1 (wO g) (hN h + 3) (0, 0)), cs.model hv ((f1_.mo (C' := fun b => SMd (wO g b)) (fun b _ z => ?_)).tr (FO.sR ?_)) ow1_ (fun _ _ => rfl) hps (fun k => ?_) ⟨cu_.2.2.2.2.2.1.1, cu_.2.2.2.2.2.1.2.1, cu_.2.2.2.2.2.1.2.2⟩ (CM.nm (cm1_ cm) cf1_ wf1_ hv1_ (mk.lt hc_) ir1_)⟩
      · show SMd (wO g b); rw [z]; exact Or.inr (Or.inr (Or.inr (Or.inr (by decide))))
      · show SMd (wO g (wA g c)); rw [t1_.1.2.1]; exact Or.inr (Or.inr (Or.inr (Or.inl rfl)))
      · have a4_ : (4 : Nat) ≠ wA g c := fun z => (by have q := t1_.1.2.1; rw [← z, wf.1 4 (by decide)] at q; exact absurd (congrArg Prod.fst q) (fun z2 => by have z3 : (9 : Nat) = 10 := z2; omega))
        have a6_ : (6 : Nat) ≠ wA g c := fun z => (by have q := t1_.1.2.1; rw [← z, wf.1 6 (by decide)] at q; exact absurd (congrArg Prod.fst q) (fun z2 => by have z3 : (9 : Nat) = 10 := z2; omega))
        exact ⟨(hR_a _ _ a4_).trans (cu_.2.2.2.2.2.2 _ _ (by have := cs.1.1; omega)), (hR_a _ _ a6_).trans (cu_.2.2.2.2.2.2 _ _ (by have := cs.1.1; omega))⟩
    · refine Ev_iconst (v := nI 0) dX10_name_23 (by decide) ?_
      refine Ev_zret dX10_name_24 rfl (by decide) ?_
      exact Or.inl ⟨fun z => by rw [zb20_] at z; exact absurd z.2 (by decide), rfl, rfl⟩
  · skip
    refine Ev_aload_n dX10_name_0 rfl (by first | exact Or.inr ⟨_, rfl⟩ | exact rv_or _ | exact Or.inl rfl) ?_
    refine Ev_getA dX10_name_1 fX10_19 (ck_3 cf) (cr_705_3 cf) ?_
    refine Ev_iload_n dX10_name_4 rfl ?_
    refine Ev_V0 [.int t] dX10_name_5 vX4_at kX10_74 (ck_6 cf) rfl rfl rfl (Nat.le_of_ble_eq_true rfl) (by omega) (ec_at l G t g m h cf cm) ?_
    rw [atM_none mk zt_]
    refine Ev_astore_n dX10_name_8 (by decide) (by first | exact Or.inr ⟨_, rfl⟩ | exact rv_or _ | exact Or.inl rfl) ?_
    refine Ev_aload_n dX10_name_9 rfl (by first | exact Or.inr ⟨_, rfl⟩ | exact rv_or _ | exact Or.inl rfl) ?_
    refine Ev_ifnull (o := none) 23 dX10_name_10 (by decide) (fun _ => ?_) (fun a_ z_ => by cases z_)
    refine Ev_iconst (v := nI 0) dX10_name_23 (by decide) ?_
    refine Ev_zret dX10_name_24 rfl (by decide) ?_
    exact Or.inl ⟨fun z => zt_ z.1, rfl, rfl⟩
