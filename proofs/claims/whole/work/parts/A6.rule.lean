/-- the cells that a new rule changes -/
def SRu (tg : Nat × Nat) : Prop := tg = (9, 4) ∨ tg = (9, 3) ∨ tg = (9, 12)
theorem SRu.no {a b : Nat} (h : (a, b) ∉ [(9, 4), (9, 3), (9, 12)]) : ¬ SRu (a, b) := by
  rintro (z | z | z) <;> exact h (by rw [z]; simp)
theorem CS.rule {g : Gh} {tp : List Int32} {m : Md} {ru : Nat → List It} {fa : Int32 × Int32} {ps : List Pc} {ln : List (List Int32 × Nat × Nat)} {fl : Nat} {h : aH} (cs : CS g tp m ru fa ps ln fl h) (hv : Hv h) {ow' : Ow} {ru' : Nat → List It} {fa' : Int32 × Int32} {h' : aH} (f : FS g SRu h h') (e : OwX g ow' h) (h3 : ∀ k, k ≠ 709 → hR h' k 3 = hR h k 3) (h4 : ∀ k, hR h' k 4 = hR h k 4) (ct : CTp [] h') (cr : CRu (gw g ow') ru' h') (ca : CFa (gw g ow') fa' h') : CS (gw g ow') [] m ru' fa' ps ln fl h' ∧ FX h h' := by
  obtain ⟨⟨n63, cf, wf⟩, -, cm, -, -, ⟨T, T', hT, q1, q2, tx, jk⟩, cl⟩ := cs
  have nt : ∀ a, a ∈ [6, 7, 10, 11, 18, 19, 20, 21, 22, 23, 24, 25, 26, 27] → ¬ SRu (9, a) := by
    intro a ha
    refine SRu.no ?_
    revert a; decide
  have n0 : ¬ SRu (0, 0) := SRu.no (by decide)
  have sm : ∀ a ∈ [6, 7, 10, 11, 18, 19, 20, 21, 22, 23, 24, 25, 26, 27], Sm a h h' := fun a ha => (f.2 a (by have : a ≤ 27 := (by clear nt; revert ha; revert a; decide); omega)).2.2 (by show ¬ SRu (wO g a); rw [wf.1 a (by clear nt; revert ha; revert a; decide)]; exact nt a ha)
  have wf2 : OwF (wO (gw g ow')) := ⟨fun a ha => (e a (by have : a ≤ 27 := (by clear nt sm; revert ha; revert a; decide); omega)).trans (wf.1 a ha), fun a h1 h2 => (e a (by omega)).trans (wf.2 a h1 h2)⟩
  refine ⟨⟨⟨by have := f.1; omega, cf.fo hv f wf (fun q hq => ?_), wf2⟩, ct, cm.fo cf wf f hv e (fun tg ht => ?_), cr, ca, ⟨T, T', hT, (h3 _ (by decide)).trans q1, (h3 _ (by decide)).trans q2, ?_, ?_⟩, cl.fo cf wf f hv e (fun tg ht => ?_)⟩, FX.of f wf n63 (fun a => SRu.no (by simp))⟩
  · have key : ∀ q ∈ cfR, q.2.1 = 4 ∨ (q.2.1 = 3 ∧ q.1 ≠ 709) ∨ q.2.1 ∈ [6, 7, 10, 11, 18, 19, 20, 21, 22, 23, 24, 25, 26, 27] := by decide
    rcases key q hq with z | z | z
    · rw [z]; exact h4 _
    · rw [z.1]; exact h3 _ z.2
    · exact ((sm _ z).2.2 _).2
  · rintro (z | z | z) <;> subst z <;> simp at ht
  · have hT2 : T ∈ [6, 7, 10, 11, 18, 19, 20, 21, 22, 23, 24, 25, 26, 27] ∧ T + 1 ∈ [6, 7, 10, 11, 18, 19, 20, 21, 22, 23, 24, 25, 26, 27] ∧ T + 2 ∈ [6, 7, 10, 11, 18, 19, 20, 21, 22, 23, 24, 25, 26, 27] := by
      rcases hT with ⟨rfl, -⟩ | ⟨rfl, -⟩ <;> decide
    refine tx.fo f hv e n0 (fun k => ?_) (sm _ hT2.2.1).2.1 ((sm _ hT2.1).2.2 _).1 (sm _ hT2.2.2).1
    unfold tTg
    split <;> exact SRu.no (by simp)
  · have hT2 : T' + 1 ∈ [6, 7, 10, 11, 18, 19, 20, 21, 22, 23, 24, 25, 26, 27] := by
      rcases hT with ⟨-, rfl⟩ | ⟨-, rfl⟩ <;> decide
    exact jk.fo f hv e (sm _ hT2).2.1
  · rcases ht with rfl | rfl | rfl | rfl
    · exact n0
    · exact SRu.no (by decide)
    · exact nt _ (by decide)
    · exact nt _ (by decide)
def ow5 (g : Gh) (N : Nat) : Ow := fun b => if N + 3 ≤ b then (0, 0) else wO g b
theorem ow5_o {g : Gh} {N b : Nat} (h : b < N + 3) : ow5 g N b = wO g b := if_neg (by omega)
theorem ow5_n {g : Gh} {N b : Nat} (h : N + 3 ≤ b) : ow5 g N b = (0, 0) := if_pos h
/-- a rule that was read stands in its object -/
theorem RuO.mk {ow : Ow} {r b s f e_ : Nat} {bs : List Int32} {its : List It} {wn : Bool} {fl : Int32 × Int32} {h h' : aH} (x : RdX r b s f e_ bs h) (i : RdI r s f e_ bs its wn fl h) (hl : its.length ≤ bs.length) (o : ow r = (0, 0) ∧ ow b = (0, 0) ∧ ow s = (0, 0) ∧ ow f = (0, 0) ∧ ow e_ = (0, 0)) (e1 : hK h' = hK h) (e2 : hL h' = hL h) (e3 : hX h' = hX h) (e4 : hI h' = hI h) (e5 : ∀ k, k ≠ 709 → hR h' k r = hR h k r) : RuO ow its r h' := by
  obtain ⟨⟨x1, x2, x3, x4, x5⟩, ⟨b1, b2, b3⟩, ⟨⟨s1, s2⟩, ⟨f1, f2⟩, ⟨t1, t2⟩⟩, -, l120⟩ := x
  obtain ⟨i1, i2, -, -, -, i6⟩ := i
  obtain ⟨o1, o2, o3, o4, o5⟩ := o
  refine ⟨⟨by rw [e1]; exact x1, o1, i2, by rw [e4]; exact i1⟩, bs, b, s, f, e_, ⟨(e5 _ (by decide)).trans x2, (e5 _ (by decide)).trans x3, (e5 _ (by decide)).trans x4, (e5 _ (by decide)).trans x5⟩, ⟨by rw [e1]; exact b1, by rw [e2]; exact b2, o2, by rw [e3]; exact b3⟩, fun q hq => ?_, l120, by rw [e3]; exact i6⟩
  rw [e1, e2]
  rcases List.mem_cons.mp hq with rfl | hq
  · exact ⟨s1, o3, by rw [s2]; omega⟩
  rcases List.mem_cons.mp hq with rfl | hq
  · exact ⟨f1, o4, by rw [f2]; omega⟩
  rcases List.mem_cons.mp hq with rfl | hq
  · exact ⟨t1, o5, by rw [t2]; omega⟩
  · cases hq
theorem CS.ruE {g : Gh} {tp : List Int32} {m : Md} {ru : Nat → List It} {fa : Int32 × Int32} {ps : List Pc} {ln : List (List Int32 × Nat × Nat)} {fl : Nat} {h : aH} (cs : CS g tp m ru fa ps ln fl h) (hv : Hv h) {hB hC hD : aH} (cu : CuT tp (nO h 7) hB) (nC : hN hC = hN h + 5) (fC : FO (fun c => c = hN h + 3) hB hC) (fD : FO (Rd4 (hN h + 3) (hN h + 5) (hN h + 6) (hN h + 7)) hC hD) : FS g (fun tg => tg = (9, 4) ∨ tg = (9, 3)) h (sR hD 709 3 (some (hN h + 3))) ∧ CTp [] (sR hD 709 3 (some (hN h + 3))) ∧ (∀ k, k ≠ 709 → hR (sR hD 709 3 (some (hN h + 3))) k 3 = hR h k 3) ∧ (∀ k, hR (sR hD 709 3 (some (hN h + 3))) k 4 = hR h k 4) := by
  have n63 := cs.1.1
  have wf := cs.1.2.2
  have nB : hN hB = hN h + 2 := cu.1
  have fBD : FO (fun b => hN h + 3 ≤ b) hB hD := (fC.mo (fun b _ z => by omega)).tr (fD.mo (fun b _ z => by rcases z with z | z | z | z <;> omega))
  have f0 : FO (fun b => b = 4 ∨ hN h + 3 ≤ b) h hD := (FO.nO.tr (cu.2.2.2.2.1.mo (fun b _ z => Or.inl z))).tr (fBD.mo (fun b _ z => Or.inr z))
  have q4 := (fBD.2 4 (by omega)).2.2 (by omega)
  have r4 : ∀ k, hR hD k 4 = hR h k 4 := fun k => by
    have q2 := cu.2.2.2.2.2.2 k 4 (by show 4 < hN h + 1 + 3; omega)
    have q3 : hR (nO h 7) k 4 = hR h k 4 := if_neg (by omega)
    exact (q4.2.2 k).2.trans (q2.trans q3)
  have s3 := (f0.2 3 (by omega)).2.2 (by omega)
  have fA : FO (fun b => b = 3 ∨ b = 4 ∨ hN h + 3 ≤ b) h (sR hD 709 3 (some (hN h + 3))) := (f0.mo (fun b _ z => Or.inr z)).tr (FO.sR (Or.inl rfl))
  refine ⟨fA.mo (fun b hb z => ?_), ⟨by simp, (gI_R _ _ _ _ _ _).trans ((q4.2.2 _).1.trans cu.2.2.2.2.2.1.2.1), fun j hj => by simp at hj⟩, fun k hk => (up2_k _ _ hk).trans (s3.2.2 k).2, fun k => (up2_n _ _ (by decide)).trans (r4 k)⟩
  rcases z with rfl | rfl | z
  · exact Or.inr (wf.1 3 (by decide))
  · exact Or.inl (wf.1 4 (by decide))
  · omega
theorem ec_rule (l : Launch) (G : aG) (kd : Int32) (g : Gh) (tp : List Int32) (m : Md) (ru : Nat → List It) (fa : Int32 × Int32) (ps : List Pc) (ln : List (List Int32 × Nat × Nat)) (fl : Nat) (h : aH) (cs : CS g tp m ru fa ps ln fl h) (mk : MOk m) (hps : ∀ p ∈ ps, pcC p < mCm m) : Ev l G 6 5 188 mX10_rule 0 (en 3 [.ref 3, .int kd]) [] h (fun x h' => (¬ (0 ≤ kd.toInt ∧ kd.toInt ≤ 7) ∧ x = some (.int (-1)) ∧ h' = h) ∨ (∃ k, k < 8 ∧ kd = nI k ∧ ∃ g', FX h h' ∧ ((∃ f pl, rdF tp = .inl (f, pl) ∧ x = some (.int (-1)) ∧ CS g' [] m ru (nI f, nI pl) ps ln fl h') ∨ (∃ its, rdF tp = .inr its ∧ x = some (.int (nI its.length)) ∧ CS g' [] m (up1 ru k its) (nI 0, -1) ps ln fl h')))) := by
  have cf := cs.1.2.1
  have wf := cs.1.2.2
  have cm := cs.2.2.1
  have ct := cs.2.1
  refine Ev_hv (fun hv => ?_)
  have n63_ := cs.1.1
  have kA3_ : hK (nO h 7) 3 = 11 := (up1_n _ _ (by omega)).trans (ck_3 cf)
  have kA4_ : hK (nO h 7) 4 = 8 := (up1_n _ _ (by omega)).trans (ck_4 cf)
  have rA3_ : hR (nO h 7) 704 3 = some 4 := (if_neg (by omega)).trans (cr_704_3 cf)
  have fA_ : FS g (fun _ => False) h (nO h 7) := FO.nO
  have cfA_ : Cf (nO h 7) := cf.fo hv fA_ wf (fun q hq => if_neg (by have key : ∀ q ∈ cfR, q.2.1 < 60 := (by decide); have := key q hq; omega))
  have ctA_ : CTp tp (nO h 7) := ct.fs wf cf hv fA_ (fun z => z) (fun z => z)
  refine Ev_iload_n dX10_rule_0 rfl ?_
  refine Ev_S0 [.int kd] dX10_rule_1 sX10_isKind kX10_82 rfl rfl rfl (Nat.le_of_ble_eq_true rfl) (by omega) (ec_isKind l G kd h) ?_
  refine Ev_if_neB 9 dX10_rule_4 (by decide) (fun zb4_ => ?_) (fun zb4_ => ?_)
  · have zk_ : 0 ≤ kd.toInt ∧ kd.toInt ≤ 7 := of_decide_eq_true zb4_
    obtain ⟨k, hk_, rfl⟩ := as_nI (n := 7) zk_.1 (by omega)
    refine Ev.wide (mc' := 4 + 1) (ms' := 180 + fn 7) (by omega) (by decide) ?_
    refine Ev_new dX10_rule_9 nX10_23 ?_
    refine Ev_dup dX10_rule_12 (by first | rfl | exact okv_rv _) ?_
    refine Ev_aload_n dX10_rule_13 rfl (by first | exact Or.inr ⟨_, rfl⟩ | exact rv_or _ | exact Or.inl rfl) ?_
    refine Ev_getA dX10_rule_14 fX10_10 kA3_ rA3_ ?_
    refine Ev_Vg (mc2 := 3) (ms2 := 60) [] dX10_rule_17 vX7_cutAll kX10_95 kA4_ rfl rfl rfl (Nat.le_of_ble_eq_true rfl) (by omega) (by omega) (by omega) (ec_cutAll l G tp (nO h 7) cfA_ ctA_) (fun v_ hB z_ => ?_)
    obtain ⟨rfl, cu_⟩ := z_
    refine Ev_top (y := .ref (hN h + 4)) rfl ?_
    have nB_ : hN hB = hN h + 2 := cu_.1
    have sB_ := cu_.2.2.2.2.1.2 (hN h + 3) (by show hN h + 3 < hN h + 1 + 3; omega)
    have kB1_ : hK hB (hN h + 3) = 7 := sB_.1.trans (up1_s _ _ _)
    have iB_ : ∀ k, hI hB k (hN h + 3) = nI 0 := fun k => ((sB_.2.2 (by omega)).2.2 k).1.trans (if_pos rfl)
    refine Ev_Ig (mc2 := 0) (ms2 := 0) [.ref (hN h + 4)] dX10_rule_20 iX6_init kX10_29 rfl rfl rfl (Nat.le_of_ble_eq_true rfl) (by omega) (by omega) (by omega) (ec_ruleInit l G (hN h + 3) (hN h + 4) tp hB kB1_ cu_.2.1 cu_.2.2.1 cu_.2.2.2.1 ct.1 (iB_ _) (iB_ _) (iB_ _)) (fun v_ hC z_ => ?_)
    obtain ⟨rfl, nC0_, fC_, rx0_, ri0_⟩ := z_
    rw [nB_] at nC0_ rx0_ ri0_
    have nC_ : hN hC = hN h + 5 := nC0_
    have rx_ : RdX (hN h + 3) (hN h + 4) (hN h + 5) (hN h + 6) (hN h + 7) tp hC := rx0_
    have ri_ : RdI (hN h + 3) (hN h + 5) (hN h + 6) (hN h + 7) tp [] false (nI 0, -1) hC := ri0_
    refine Ev_astore_n dX10_rule_23 (by decide) (by first | exact Or.inr ⟨_, rfl⟩ | exact rv_or _ | exact Or.inl rfl) ?_
    refine Ev_aload_n dX10_rule_24 rfl (by first | exact Or.inr ⟨_, rfl⟩ | exact rv_or _ | exact Or.inl rfl) ?_
    refine Ev_Vz [] dX10_rule_25 vX6_readItems kX10_125 rx_.1.1 rfl rfl rfl (Nat.le_of_ble_eq_true rfl) (by omega) (ec_readItems l G (hN h + 3) (hN h + 4) (hN h + 5) (hN h + 6) (hN h + 7) tp hC rx_ ri_) (fun v_ hD z_ => ?_)
    obtain ⟨rfl, fD_, rxD_, od_⟩ := z_
    obtain ⟨fE_, ctE_, e3_, e4_⟩ := cs.ruE hv cu_ nC_ fC_ fD_
    have oe_ : OwX g (ow5 g (hN h)) h := fun b hb => ow5_o hb
    have crE_ := cs.2.2.2.1.fo cf wf fE_ hv oe_ (by simp) (by simp)
    have kE_ : hK (sR hD 709 3 (some (hN h + 3))) (hN h + 3) = 7 := rxD_.1.1
    have kF_ : hK (sY (sR hD 709 3 (some (hN h + 3))) 12 k (some (hN h + 3))) (hN h + 3) = 7 := rxD_.1.1
    have kE3_ : hK (sR hD 709 3 (some (hN h + 3))) 3 = 11 := (fE_.2 3 (by omega)).1.trans (ck_3 cf)
    have kD3_ : hK hD 3 = 11 := kE3_
    have kE12_ : hK (sR hD 709 3 (some (hN h + 3))) 12 = 17 := (fE_.2 12 (by omega)).1.trans (ck_12 cf)
    have lE12_ : hL (sR hD 709 3 (some (hN h + 3))) 12 = 8 := (fE_.2 12 (by omega)).2.1.trans (cl_12 cf)
    have rE3_ : hR (sR hD 709 3 (some (hN h + 3))) 706 3 = some 12 := (e3_ _ (by decide)).trans (cr_706_3 cf)
    rcases od_ with ⟨g_, p_, rd_, g0_, g10_, p120_, f1_, f2_⟩ | ⟨its_, rd_, lb_, rii_⟩
    · skip
      refine Ev_aload_n dX10_rule_28 rfl (by first | exact Or.inr ⟨_, rfl⟩ | exact rv_or _ | exact Or.inl rfl) ?_
      refine Ev_aload_n dX10_rule_29 rfl (by first | exact Or.inr ⟨_, rfl⟩ | exact rv_or _ | exact Or.inl rfl) ?_
      refine Ev_putR (x := some (hN h + 3)) dX10_rule_30 fX10_58 ⟨_, rfl, Or.inl rfl⟩ kD3_ rfl ?_
      refine Ev_aload_n dX10_rule_33 rfl (by first | exact Or.inr ⟨_, rfl⟩ | exact rv_or _ | exact Or.inl rfl) ?_
      refine Ev_getE dX10_rule_34 fX10_128 kE_ ((gI_R _ _ _ _ _ _).trans f1_) ?_
      refine Ev_if_eqT 42 dX10_rule_37 (by decide) (fun zb37_ => ?_) (fun zb37_ => ?_)
      · exact absurd zb37_ (by rw [hi_n (by omega)]; omega)
      · refine Ev_iconst (v := -1) dX10_rule_40 (by decide) ?_
        refine Ev_iret dX10_rule_41 rfl ?_
        have cs2_ := cs.rule hv (fE_.mo (fun b _ z => z.elim Or.inl (fun z => Or.inr (Or.inl z)))) oe_ e3_ e4_ ctE_ crE_ (fa' := (nI g_, nI p_)) (Or.inr ⟨hN h + 3, hR_s _ _ _ _, kE_, ow5_n (Nat.le_refl _), (gI_R _ _ _ _ _ _).trans f1_, (gI_R _ _ _ _ _ _).trans f2_⟩)
        exact Or.inr ⟨k, by omega, rfl, _, cs2_.2, Or.inl ⟨g_, p_, rd_, rfl, cs2_.1⟩⟩
    · skip
      refine Ev_aload_n dX10_rule_28 rfl (by first | exact Or.inr ⟨_, rfl⟩ | exact rv_or _ | exact Or.inl rfl) ?_
      refine Ev_aload_n dX10_rule_29 rfl (by first | exact Or.inr ⟨_, rfl⟩ | exact rv_or _ | exact Or.inl rfl) ?_
      refine Ev_putR (x := some (hN h + 3)) dX10_rule_30 fX10_58 ⟨_, rfl, Or.inl rfl⟩ kD3_ rfl ?_
      refine Ev_aload_n dX10_rule_33 rfl (by first | exact Or.inr ⟨_, rfl⟩ | exact rv_or _ | exact Or.inl rfl) ?_
      refine Ev_getE dX10_rule_34 fX10_128 kE_ ((gI_R _ _ _ _ _ _).trans rii_.2.2.1) ?_
      refine Ev_if_eqT 42 dX10_rule_37 (by decide) (fun zb37_ => ?_) (fun zb37_ => ?_)
      · refine Ev_aload_n dX10_rule_42 rfl (by first | exact Or.inr ⟨_, rfl⟩ | exact rv_or _ | exact Or.inl rfl) ?_
        refine Ev_getA dX10_rule_43 fX10_25 kE3_ rE3_ ?_
        refine Ev_iload_n dX10_rule_46 rfl ?_
        refine Ev_aload_n dX10_rule_47 rfl (by first | exact Or.inr ⟨_, rfl⟩ | exact rv_or _ | exact Or.inl rfl) ?_
        refine Ev_hv (fun hvE_ => ?_)
        refine Ev_aast (kd := 17) k dX10_rule_48 kE12_ (by omega) (by omega) rfl kE_ (show vwCl[7]? = some _ from rfl) (Or.inl rfl) (hi_n (by omega)) (by rw [lE12_]; omega) ?_
        refine Ev_aload_n dX10_rule_49 rfl (by first | exact Or.inr ⟨_, rfl⟩ | exact rv_or _ | exact Or.inl rfl) ?_
        refine Ev_getE dX10_rule_50 fX10_131 kF_ ((gI_Y _ _ _ _ _ _).trans ((gI_R _ _ _ _ _ _).trans rii_.1)) ?_
        refine Ev_iret dX10_rule_53 rfl ?_
        have kF0_ := kF_
        have fF_ : FS (gw g (ow5 g (hN h))) (fun tg => tg = (9, 12)) (sR hD 709 3 (some (hN h + 3))) (sY (sR hD 709 3 (some (hN h + 3))) 12 k (some (hN h + 3))) := FO.sY ((oe_ 12 (by omega)).trans (wf.1 12 (by decide)))
        have crF_ : CRu (gw g (ow5 g (hN h))) (up1 ru k its_) (sY (sR hD 709 3 (some (hN h + 3))) 12 k (some (hN h + 3))) := fun j hj => by
          by_cases ej_ : j = k
          · subst ej_
            rw [up1_s]
            exact ⟨hN h + 3, hY_s _ _ _ _, RuO.mk rxD_ rii_ lb_ ⟨ow5_n (by omega), ow5_n (by omega), ow5_n (by omega), ow5_n (by omega), ow5_n (by omega)⟩ rfl rfl rfl rfl (fun k' e => up2_k _ _ e)⟩
          · rw [up1_n _ _ ej_]
            obtain ⟨r_, a1_, a2_⟩ := crE_ j hj
            exact ⟨r_, (hY_n _ _ ej_).trans a1_, a2_.fo (ow' := ow5 g (hN h)) fF_ hvE_ (fun _ _ => rfl) (by simp)⟩
        have cs2_ := cs.rule hv ((fE_.mo (fun b _ z => z.elim Or.inl (fun z => Or.inr (Or.inl z)))).tr (FO.sY (show SRu (wO g 12) by rw [wf.1 12 (by decide)]; exact Or.inr (Or.inr rfl)))) oe_ e3_ e4_ ctE_ crF_ (fa' := (nI 0, -1)) (Or.inr ⟨hN h + 3, (show hR (sR hD 709 3 (some (hN h + 3))) 709 3 = some (hN h + 3) from hR_s _ _ _ _), kF_, ow5_n (Nat.le_refl _), (gI_Y _ _ _ _ _ _).trans ((gI_R _ _ _ _ _ _).trans rii_.2.2.1), (gI_Y _ _ _ _ _ _).trans ((gI_R _ _ _ _ _ _).trans rii_.2.2.2.1)⟩)
        exact Or.inr ⟨k, by omega, rfl, _, cs2_.2, Or.inr ⟨its_, rd_, rfl, cs2_.1⟩⟩
      · exact absurd t0 zb37_
  · refine Ev_iconst (v := -1) dX10_rule_7 (by decide) ?_
    refine Ev_iret dX10_rule_8 rfl ?_
    exact Or.inl ⟨of_decide_eq_false zb4_, rfl, rfl⟩
theorem ec_fault (l : Launch) (G : aG) (wh : Int32) (g : Gh) (fa : Int32 × Int32) (h : aH) (cf : Cf h) (ca : CFa g fa h) : Ev l G 0 0 0 mX10_fault 0 (en 2 [.ref 3, .int wh]) [] h (Ex (some (.int (faF fa wh.toInt))) h) := by
  rcases ca with ⟨a1_, a2_⟩ | ⟨r_, a1_, a2_, a3_, a4_, a5_⟩
  · skip
    refine Ev_aload_n dX10_fault_0 rfl (by first | exact Or.inr ⟨_, rfl⟩ | exact rv_or _ | exact Or.inl rfl) ?_
    refine Ev_getR dX10_fault_1 fX10_58 (ck_3 cf) ?_
    refine Ev_ifnonnull 9 dX10_fault_4 (by decide) (fun zx4_ zb4_ => ?_) (fun zb4_ => ?_)
    · rw [a1_] at zb4_
      cases zb4_
    · refine Ev_iconst (v := -1) dX10_fault_7 (by decide) ?_
      refine Ev_iret dX10_fault_8 rfl ?_
      refine ⟨?_, rfl⟩
      rw [a2_]
      unfold faF
      split
      · rfl
      split <;> rfl
  · skip
    refine Ev_aload_n dX10_fault_0 rfl (by first | exact Or.inr ⟨_, rfl⟩ | exact rv_or _ | exact Or.inl rfl) ?_
    refine Ev_getR dX10_fault_1 fX10_58 (ck_3 cf) ?_
    refine Ev_ifnonnull 9 dX10_fault_4 (by decide) (fun zx4_ zb4_ => ?_) (fun zb4_ => ?_)
    · refine Ev_iload_n dX10_fault_9 rfl ?_
      by_cases y1_ : wh.toInt = 0
      · refine Ev_lookup 36 dX10_fault_10 (by decide) (off := 26) (by rw [y1_]; decide) (by decide) ?_
        refine Ev_aload_n dX10_fault_36 rfl (by first | exact Or.inr ⟨_, rfl⟩ | exact rv_or _ | exact Or.inl rfl) ?_
        refine Ev_getA dX10_fault_37 fX10_58 (ck_3 cf) a1_ ?_
        refine Ev_getE dX10_fault_40 fX10_128 a2_ a4_ ?_
        refine Ev_iret dX10_fault_43 rfl ?_
        exact ⟨by unfold faF; rw [if_pos y1_], rfl⟩
      by_cases y2_ : wh.toInt = 1
      · refine Ev_lookup 44 dX10_fault_10 (by decide) (off := 34) (by rw [y2_]; decide) (by decide) ?_
        refine Ev_aload_n dX10_fault_44 rfl (by first | exact Or.inr ⟨_, rfl⟩ | exact rv_or _ | exact Or.inl rfl) ?_
        refine Ev_getA dX10_fault_45 fX10_58 (ck_3 cf) a1_ ?_
        refine Ev_getE dX10_fault_48 fX10_134 a2_ a5_ ?_
        refine Ev_iret dX10_fault_51 rfl ?_
        exact ⟨by unfold faF; rw [if_neg y1_, if_pos y2_], rfl⟩
      refine Ev_lookup 52 dX10_fault_10 (by decide) (off := 42) ?_ (by decide) ?_
      · show (if (0 : Int) = wh.toInt then (26 : Int) else if (1 : Int) = wh.toInt then 34 else 42) = 42
        rw [if_neg (fun z => y1_ z.symm), if_neg (fun z => y2_ z.symm)]
      refine Ev_iconst (v := -1) dX10_fault_52 (by decide) ?_
      refine Ev_iret dX10_fault_53 rfl ?_
      exact ⟨by unfold faF; rw [if_neg y1_, if_neg y2_], rfl⟩
    · rw [a1_] at zb4_
      cases zb4_
