/-- the class as a whole -/
def CS (g : Gh) (tp : List Int32) (m : Md) (ru : Nat → List It) (fa : Int32 × Int32) (ps : List Pc) (ln : List (List Int32 × Nat × Nat)) (fl : Nat) (h : aH) : Prop := (63 ≤ hN h ∧ Cf h ∧ OwF (wO g)) ∧ CTp tp h ∧ CM g m h ∧ CRu g ru h ∧ CFa g fa h ∧ (∃ T T', ((T = 18 ∧ T' = 21) ∨ (T = 21 ∧ T' = 18)) ∧ hR h 710 3 = some T ∧ hR h 711 3 = some T' ∧ CTx g T ps h ∧ JK g T' h) ∧ CLn g ln fl h
/-- the reference's cells are as they were -/
def FX (h h' : aH) : Prop := hN h ≤ hN h' ∧ ∀ b, 28 ≤ b → b ≤ 65 → hK h' b = hK h b ∧ hL h' b = hL h b ∧ Sm b h h'
theorem FX.rf {h : aH} : FX h h := ⟨Nat.le_refl _, fun _ _ _ => ⟨rfl, rfl, Sm.rf⟩⟩
theorem FX.tr {h h1 h2 : aH} (a : FX h h1) (b : FX h1 h2) : FX h h2 := ⟨Nat.le_trans a.1 b.1, fun x h1 h2 => ⟨(b.2 x h1 h2).1.trans (a.2 x h1 h2).1, (b.2 x h1 h2).2.1.trans (a.2 x h1 h2).2.1, (a.2 x h1 h2).2.2.tr (b.2 x h1 h2).2.2⟩⟩
theorem FX.of {g : Gh} {S : Nat × Nat → Prop} {h h' : aH} (f : FS g S h h') (wf : OwF (wO g)) (hn : 63 ≤ hN h) (d : ∀ a, ¬ S (8, a)) : FX h h' := ⟨f.1, fun b h1 h2 => by
  have a := f.2 b (by omega)
  exact ⟨a.1, a.2.1, a.2.2 (by show ¬ S (wO g b); rw [wf.2 b h1 h2]; exact d b)⟩⟩
section GG
variable {g1 g2 : Gh} {h : aH}
theorem CRu.g {ru : Nat → List It} (i : CRu g1 ru h) (e : wO g2 = wO g1) : CRu g2 ru h := by unfold CRu; rw [e]; exact i
theorem CFa.g {fa : Int32 × Int32} (i : CFa g1 fa h) (e : wO g2 = wO g1) : CFa g2 fa h := by unfold CFa; rw [e]; exact i
theorem JK.g {T : Nat} (i : JK g1 T h) (e : wO g2 = wO g1) : JK g2 T h := by unfold JK; rw [e]; exact i
theorem CLn.g {ln : List (List Int32 × Nat × Nat)} {fl : Nat} (i : CLn g1 ln fl h) (e : wO g2 = wO g1) : CLn g2 ln fl h := by unfold CLn; rw [e]; exact i
theorem CTx.g {T : Nat} {ps : List Pc} (i : CTx g1 T ps h) (e : wO g2 = wO g1) (e2 : ∀ p ∈ ps, wA g2 (pcC p) = wA g1 (pcC p)) : CTx g2 T ps h := by
  obtain ⟨a1, a2, a3, a4, a5, a6⟩ := i
  refine ⟨a1.g e, a2, a3, a4, fun k p hp => ?_, a6⟩
  obtain ⟨b, q, c1, c2⟩ := a5 k p hp
  refine ⟨b, q, c1, ?_⟩
  unfold CPc
  rw [e, e2 p (List.mem_of_getElem? hp)]
  exact c2
end GG
/-- cells of the model and of the tape -/
def SMd (tg : Nat × Nat) : Prop := tg.1 = 1 ∨ tg.1 = 2 ∨ tg.1 = 3 ∨ tg.1 = 10 ∨ tg ∈ [(9, 1), (9, 4), (9, 5), (9, 6), (9, 10), (9, 11)]
theorem SMd.no {a b : Nat} (h1 : a ≠ 1) (h2 : a ≠ 2) (h3 : a ≠ 3) (h4 : a ≠ 10) (h5 : (a, b) ∉ [(9, 1), (9, 4), (9, 5), (9, 6), (9, 10), (9, 11)]) : ¬ SMd (a, b) := by
  rintro (h | h | h | h | h)
  · exact h1 h
  · exact h2 h
  · exact h3 h
  · exact h4 h
  · exact h5 h
theorem CS.model {g g2 : Gh} {tp tp' : List Int32} {m m' : Md} {ru : Nat → List It} {fa : Int32 × Int32} {ps : List Pc} {ln : List (List Int32 × Nat × Nat)} {fl : Nat} {h h' : aH} (cs : CS g tp m ru fa ps ln fl h) (hv : Hv h) (f : FS g SMd h h') (e : OwX g (wO g2) h) (hA : ∀ c, c < mCm m → wA g2 c = wA g c) (hps : ∀ p ∈ ps, pcC p < mCm m) (hr : ∀ k, hR h' k 4 = hR h k 4 ∧ hR h' k 6 = hR h k 6) (ct : CTp tp' h') (cm : CM g2 m' h') : CS g2 tp' m' ru fa ps ln fl h' ∧ FX h h' := by
  obtain ⟨⟨n63, cf, wf⟩, -, -, cr, ca, ⟨T, T', hT, q1, q2, tx, jk⟩, cl⟩ := cs
  have nt : ∀ a, a ∈ [3, 7, 12, 18, 19, 20, 21, 22, 23, 24, 25, 26, 27] → ¬ SMd (9, a) := by
    intro a ha
    refine SMd.no (by decide) (by decide) (by decide) (by decide) ?_
    revert a; decide
  have n0 : ¬ SMd (0, 0) := SMd.no (by decide) (by decide) (by decide) (by decide) (by decide)
  have sm : ∀ a ∈ [3, 7, 12, 18, 19, 20, 21, 22, 23, 24, 25, 26, 27], Sm a h h' := fun a ha => (f.2 a (by have : a ≤ 27 := (by clear nt; revert ha; revert a; decide); omega)).2.2 (by show ¬ SMd (wO g a); rw [wf.1 a (by clear nt; revert ha; revert a; decide)]; exact nt a ha)
  have s3 := sm 3 (by decide)
  have wf2 : OwF (wO g2) := ⟨fun a ha => (e a (by have : a ≤ 27 := (by clear nt sm; revert ha; revert a; decide); omega)).trans (wf.1 a ha), fun a h1 h2 => (e a (by omega)).trans (wf.2 a h1 h2)⟩
  refine ⟨⟨⟨by have := f.1; omega, cf.fo hv f wf (fun q hq => ?_), wf2⟩, ct, cm, (cr.fo cf wf f hv e n0 (nt _ (by decide))).g rfl, (ca.fo f hv e n0 (s3.2.2 _).2).g rfl, ⟨T, T', hT, (s3.2.2 _).2.trans q1, (s3.2.2 _).2.trans q2, ?_, ?_⟩, (cl.fo cf wf f hv e (fun tg ht => ?_)).g rfl⟩, FX.of f wf n63 (fun a => SMd.no (by decide) (by decide) (by decide) (by decide) (by simp))⟩
  · have key : ∀ q ∈ cfR, q.2.1 = 4 ∨ q.2.1 = 6 ∨ q.2.1 ∈ [3, 7, 12, 18, 19, 20, 21, 22, 23, 24, 25, 26, 27] := by decide
    rcases key q hq with z | z | z
    · rw [z]; exact (hr _).1
    · rw [z]; exact (hr _).2
    · exact ((sm _ z).2.2 _).2
  · have hT2 : T ∈ [3, 7, 12, 18, 19, 20, 21, 22, 23, 24, 25, 26, 27] ∧ T + 1 ∈ [3, 7, 12, 18, 19, 20, 21, 22, 23, 24, 25, 26, 27] ∧ T + 2 ∈ [3, 7, 12, 18, 19, 20, 21, 22, 23, 24, 25, 26, 27] := by
      rcases hT with ⟨rfl, -⟩ | ⟨rfl, -⟩ <;> decide
    refine (tx.fo f hv e n0 (fun k => ?_) (sm _ hT2.2.1).2.1 ((sm _ hT2.1).2.2 _).1 (sm _ hT2.2.2).1).g rfl (fun p hp => hA _ (hps p hp))
    unfold tTg
    split <;> exact SMd.no (by decide) (by decide) (by decide) (by decide) (by simp)
  · have hT2 : T' + 1 ∈ [3, 7, 12, 18, 19, 20, 21, 22, 23, 24, 25, 26, 27] := by
      rcases hT with ⟨-, rfl⟩ | ⟨-, rfl⟩ <;> decide
    exact (jk.fo f hv e (sm _ hT2).2.1).g rfl
  · rcases ht with rfl | rfl | rfl | rfl
    · exact n0
    · exact SMd.no (by decide) (by decide) (by decide) (by decide) (by decide)
    · exact nt _ (by decide)
    · exact nt _ (by decide)
theorem CM.nu {g : Gh} {m : Md} {h : aH} {c j : Nat} {v : Int32} (cm : CM g m h) (cf : Cf h) (wf : OwF (wO g)) (hv : Hv h) (hc : c < mCm m) (hj : j < 4) : CM g (sNu m c j v) (sX h (wN g c) j v) := by
  have f : FS g (fun tg => tg = (1, c)) h (sX h (wN g c) j v) := FO.sX (cm.1 c hc).2.1.2.2
  have e : OwX g (wO g) h := fun _ _ => rfl
  obtain ⟨a1, a2, a3, a4, a5⟩ := cm
  refine ⟨fun x hx => ?_, a2, a3, ?_, a5⟩
  · have t := a1 x hx
    by_cases z : x = c
    · subst z
      obtain ⟨t1, t2, t3, t4⟩ := t
      refine ⟨t1, t2, t3, fun hl => ?_⟩
      obtain ⟨l1, ⟨r, l2, l3⟩, l4⟩ := t4 hl
      refine ⟨fun i hi => ?_, ⟨r, l2, l3.fo f hv e (by simp)⟩, l4.fo f hv e (by simp) (by rw [t3.2]; simp)⟩
      show hX (sX h (wN g x) j v) (wN g x) i = up2 m.2.2.2.2.1 x j v x i
      by_cases y : i = j
      · subst y; rw [hX_s, up2_s]
      · rw [hX_n _ _ y, up2_n _ _ y]; exact l1 i hi
    · have t5 := t.fo f hv e (by simp) (by simp [z]) (by simp) (by simp) (by simp)
      obtain ⟨t1, t2, t3, t4⟩ := t5
      refine ⟨t1, t2, t3, fun hl => ?_⟩
      obtain ⟨l1, l2, l3⟩ := t4 hl
      refine ⟨fun i hi => ?_, l2, l3⟩
      show _ = up2 m.2.2.2.2.1 c j v x i
      rw [up2_k _ _ z]; exact l1 i hi
  · exact a4.fo f hv e (by simp) (by rw [wf.1 10 (by decide)]; simp)
theorem ec_number (l : Launch) (G : aG) (t j v : Int32) (g : Gh) (tp : List Int32) (m : Md) (ru : Nat → List It) (fa : Int32 × Int32) (ps : List Pc) (ln : List (List Int32 × Nat × Nat)) (fl : Nat) (h : aH) (cs : CS g tp m ru fa ps ln fl h) (mk : MOk m) (hps : ∀ p ∈ ps, pcC p < mCm m) : Ev l G 2 0 0 mX10_number 0 (en 5 [.ref 3, .int t, .int j, .int v]) [] h (fun x h' => (¬ okNum m t j v ∧ x = some (.int (nI 0)) ∧ h' = h) ∨ (∃ c jj, mLive m c ∧ jj < 4 ∧ t = nI (mSl m c) ∧ j = nI jj ∧ (0 ≤ v.toInt ∧ v.toInt ≤ 99999) ∧ x = some (.int (nI 1)) ∧ CS g tp (sNu m c jj v) ru fa ps ln fl h' ∧ FX h h')) := by
  have cf := cs.1.2.1
  have wf := cs.1.2.2
  have cm := cs.2.2.1
  have ct := cs.2.1
  refine Ev_hv (fun hv => ?_)
  by_cases zt_ : isT m t
  · obtain ⟨c, hc_, rfl⟩ := zt_
    have t1_ := cm.th mk hc_
    refine Ev_aload_n dX10_number_0 rfl (by first | exact Or.inr ⟨_, rfl⟩ | exact rv_or _ | exact Or.inl rfl) ?_
    refine Ev_getA dX10_number_1 fX10_19 (ck_3 cf) (cr_705_3 cf) ?_
    refine Ev_iload_n dX10_number_4 rfl ?_
    refine Ev_V0 [.int (nI (mSl m c))] dX10_number_5 vX4_at kX10_74 (ck_6 cf) rfl rfl rfl (Nat.le_of_ble_eq_true rfl) (by omega) (ec_at l G (nI (mSl m c)) g m h cf cm) ?_
    rw [atM_some mk hc_]
    refine Ev_top (y := .ref (wA g c)) rfl ?_
    refine Ev_astore dX10_number_8 (by decide) (by first | exact Or.inr ⟨_, rfl⟩ | exact rv_or _ | exact Or.inl rfl) ?_
    refine Ev_aload dX10_number_10 rfl (by first | exact Or.inr ⟨_, rfl⟩ | exact rv_or _ | exact Or.inl rfl) ?_
    refine Ev_ifnull (o := some (wA g c)) 23 dX10_number_12 (by decide) (fun z_ => by cases z_) (fun a_ z_ => ?_)
    refine Ev_iload_n dX10_number_15 rfl ?_
    refine Ev_iload_n dX10_number_16 rfl ?_
    refine Ev_S0 [.int j, .int v] dX10_number_17 sX10_canBeNumber kX10_106 rfl rfl rfl (Nat.le_of_ble_eq_true rfl) (by omega) (ec_canBeNumber l G j v h) ?_
    refine Ev_if_neB 25 dX10_number_20 (by decide) (fun zb20_ => ?_) (fun zb20_ => ?_)
    · have zc_ : (0 ≤ j.toInt ∧ j.toInt ≤ 3) ∧ 0 ≤ v.toInt ∧ v.toInt ≤ 99999 := of_decide_eq_true zb20_
      obtain ⟨jj, hj_, rfl⟩ := as_nI (n := 3) zc_.1.1 (by omega)
      refine Ev_aload dX10_number_25 rfl (by first | exact Or.inr ⟨_, rfl⟩ | exact rv_or _ | exact Or.inl rfl) ?_
      refine Ev_getA dX10_number_27 fX10_110 t1_.1.1 t1_.1.2.2.2.2.2.2.1 ?_
      refine Ev_iload_n dX10_number_30 rfl ?_
      refine Ev_iload_n dX10_number_31 rfl ?_
      refine Ev_iastL jj dX10_number_32 t1_.2.1.1 t1_.2.1.2.1 (hi_n (by omega)) (by omega) ?_
      refine Ev_iconst (v := nI 1) dX10_number_33 (by decide) ?_
      refine Ev_zret dX10_number_34 rfl (by decide) ?_
      refine Or.inr ⟨c, jj, hc_, by omega, rfl, rfl, zc_.2, rfl, ?_⟩
      exact cs.model hv (FO.sX (Or.inl (by rw [t1_.2.1.2.2]))) (fun _ _ => rfl) (fun _ _ => rfl) hps (fun k => ⟨rfl, rfl⟩) ⟨ct.1, ct.2.1, fun k hk => (gX_X _ (fun z => by have q := t1_.2.1.2.2; rw [← z, wf.1 5 (by decide)] at q; exact absurd (congrArg Prod.fst q) (fun z2 => by have z3 : (9 : Nat) = 1 := z2; omega))).trans (ct.2.2 k hk)⟩ (cm.nu cf wf hv (mk.lt hc_) (by omega))
    · have zc_ : ¬ ((0 ≤ j.toInt ∧ j.toInt ≤ 3) ∧ 0 ≤ v.toInt ∧ v.toInt ≤ 99999) := of_decide_eq_false zb20_
      refine Ev_iconst (v := nI 0) dX10_number_23 (by decide) ?_
      refine Ev_zret dX10_number_24 rfl (by decide) ?_
      exact Or.inl ⟨fun z => zc_ ⟨z.2.1, z.2.2⟩, rfl, rfl⟩
  · skip
    refine Ev_aload_n dX10_number_0 rfl (by first | exact Or.inr ⟨_, rfl⟩ | exact rv_or _ | exact Or.inl rfl) ?_
    refine Ev_getA dX10_number_1 fX10_19 (ck_3 cf) (cr_705_3 cf) ?_
    refine Ev_iload_n dX10_number_4 rfl ?_
    refine Ev_V0 [.int t] dX10_number_5 vX4_at kX10_74 (ck_6 cf) rfl rfl rfl (Nat.le_of_ble_eq_true rfl) (by omega) (ec_at l G t g m h cf cm) ?_
    rw [atM_none mk zt_]
    refine Ev_astore dX10_number_8 (by decide) (by first | exact Or.inr ⟨_, rfl⟩ | exact rv_or _ | exact Or.inl rfl) ?_
    refine Ev_aload dX10_number_10 rfl (by first | exact Or.inr ⟨_, rfl⟩ | exact rv_or _ | exact Or.inl rfl) ?_
    refine Ev_ifnull (o := none) 23 dX10_number_12 (by decide) (fun _ => ?_) (fun a_ z_ => by cases z_)
    refine Ev_iconst (v := nI 0) dX10_number_23 (by decide) ?_
    refine Ev_zret dX10_number_24 rfl (by decide) ?_
    exact Or.inl ⟨fun z => zt_ z.1, rfl, rfl⟩
