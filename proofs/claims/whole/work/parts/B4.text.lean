theorem stE_0 {u : Nat} {ps : List Pc} {p : Pc} (h : ¬ ps.length < 250) : stE (u, ps) (some p) = none := if_neg (fun z => h z.1)
theorem stE_1 {u : Nat} {ps : List Pc} {p : Pc} (h : ps.length < 250) (h2 : (flat ps).length + (pcM p).length ≤ 3000) : stE (u, ps) (some p) = some (u, ps ++ [p]) := if_pos ⟨h, h2⟩
theorem stE_2 {u : Nat} {ps : List Pc} {p : Pc} (h2 : ¬ (flat ps).length + (pcM p).length ≤ 3000) : stE (u, ps) (some p) = none := if_neg (fun z => h2 z.2)
theorem FlF.d25 {g : Gh} {T : Nat} {h h' : aH} (fo : FO (fun b => b = 25) h h') (wf : OwF (wO g)) (n63 : 63 ≤ hN h) : FlF g (wO g) T h h' ∧ FS g (fun tg => tg = (9, 25)) h h' := by
  have w25 : wO g 25 = (9, 25) := wf.1 25 (by decide)
  refine ⟨⟨fun _ _ => rfl, fo.mo (fun b _ z => ?_), fun k a ha => ?_⟩, fo.mo (fun b _ z => by rw [z]; exact w25)⟩
  · rw [z]; exact Or.inr (Or.inr (Or.inr (Or.inr (Or.inr w25))))
  · have a26 : a ≤ 26 ∧ a ≠ 25 := by revert ha; revert a; decide
    exact (((fo.2 a (by omega)).2.2 a26.2).2.2 k).2
theorem FlF.full {g : Gh} {T : Nat} {h : aH} (wf : OwF (wO g)) (hT : T = 18 ∨ T = 21) : FlF g (wO g) T h (sI h 580 T (nI 1)) := ⟨fun _ _ => rfl, FO.sI (Or.inl (wf.1 _ (by rcases hT with rfl | rfl <;> decide))), fun _ _ _ => rfl⟩
theorem CBf.of {g : Gh} {T : Nat} {h : aH} (j : JK g T h) : CBf g T (sI h 580 T (nI 1)) := ⟨j, hI_s _ _ _ _⟩
theorem ec_mpF (l : Launch) (G : aG) (an wy : List Nat) (c i r : Nat) (it : It) (its : List It) (u : Nat) (ps : List Pc) (g : Gh) (m : Md) (ru : Nat → List It) (T : Nat) (h : aH) (w : WBd g m ru h) (mk : MOk m) (hT : T = 18 ∨ T = 21) (tg_ : hR h 258 24 = some T) (b : CBt g T u ps h) (hc_ : mLive m c) (ro : RuO (wO g) its r h) (hit : its[i]? = some it) (h4_ : it.1 ≤ 4) (pb : PcB (mkP m an wy c i it)) (zn_ : ¬ ps.length < 250) : Ev l G 3 0 0 mX3_makePiece 0 (en 10 [.ref 24, .ref (wA g c), .ref r, .int (nI i), .int (nI (wyE wy))]) [] h (FlP g T h (stE (u, ps) (some (mkP m an wy c i it)))) := by
  refine Ev_hv (fun hv => ?_)
  obtain ⟨n63_, cf, wf, cm, cr⟩ := id w
  obtain ⟨⟨kr_, or_, l20_, cnr_⟩, bs, b_, s_, f_, e_, ⟨b1_, b2_, b3_, b4_⟩, b5_, b6_, b7_, b8_⟩ := id ro
  obtain ⟨ok_, on, tw, x1_, x2_, x3_, ir_⟩ := b8_ i it hit
  have hi_ := (List.getElem?_eq_some_iff.mp hit).1
  have k24_ := ck_24 cf
  have kT_ := (tx_f cf hT).1
  have t1_ := cm.1 c (mk.lt hc_)
  have wT_ : wO g T = (9, T) := wf.1 _ (by rcases hT with rfl | rfl <;> decide)
  have cn250_ : hI h 579 T = nI 250 := by
    rw [b.1.2.2.2.1, show ps.length = 250 by have := b.1.2.1; omega]
  refine Ev_aload_n dX3_makePiece_0 rfl (by first | exact Or.inr ⟨_, rfl⟩ | exact rv_or _ | exact Or.inl rfl) ?_
  refine Ev_getA dX3_makePiece_1 fX3_68 kr_ b2_ ?_
  refine Ev_iload_n dX3_makePiece_4 rfl ?_
  refine Ev_ialdE i dX3_makePiece_5 (b6_ s_ (by simp)).1 rfl (hi_n (by omega)) (by have := (b6_ s_ (by simp)).2.2; omega) x1_ ?_
  refine Ev_istore dX3_makePiece_6 (by decide) ?_
  refine Ev_aload_n dX3_makePiece_8 rfl (by first | exact Or.inr ⟨_, rfl⟩ | exact rv_or _ | exact Or.inl rfl) ?_
  refine Ev_getA dX3_makePiece_9 fX3_74 kr_ b3_ ?_
  refine Ev_iload_n dX3_makePiece_12 rfl ?_
  refine Ev_ialdE i dX3_makePiece_13 (b6_ f_ (by simp)).1 rfl (hi_n (by omega)) (by have := (b6_ f_ (by simp)).2.2; omega) x2_ ?_
  refine Ev_istore dX3_makePiece_14 (by decide) ?_
  refine Ev_aload_n dX3_makePiece_16 rfl (by first | exact Or.inr ⟨_, rfl⟩ | exact rv_or _ | exact Or.inl rfl) ?_
  refine Ev_getA dX3_makePiece_17 fX3_89 kr_ b4_ ?_
  refine Ev_iload_n dX3_makePiece_20 rfl ?_
  refine Ev_ialdE i dX3_makePiece_21 (b6_ e_ (by simp)).1 rfl (hi_n (by omega)) (by have := (b6_ e_ (by simp)).2.2; omega) x3_ ?_
  refine Ev_istore dX3_makePiece_22 (by decide) ?_
  refine Ev_aload_n dX3_makePiece_24 rfl (by first | exact Or.inr ⟨_, rfl⟩ | exact rv_or _ | exact Or.inl rfl) ?_
  refine Ev_getA dX3_makePiece_25 fX3_19 k24_ tg_ ?_
  refine Ev_aload_n dX3_makePiece_28 rfl (by first | exact Or.inr ⟨_, rfl⟩ | exact rv_or _ | exact Or.inl rfl) ?_
  refine Ev_iload_n dX3_makePiece_29 rfl ?_
  refine Ev_iload dX3_makePiece_30 rfl ?_
  refine Ev_iload dX3_makePiece_32 rfl ?_
  refine Ev_iload dX3_makePiece_34 rfl ?_
  refine Ev_V0 [.ref (wA g c), .int (nI i), .int (nI it.1), .int (nI on), .int (nI (wyE wy))] dX3_makePiece_36 vX8_open kX3_92 kT_ rfl rfl rfl (Nat.le_of_ble_eq_true rfl) (by omega) (ec_openF l G T (wA g c) (nI i) (nI it.1) (nI on) (nI (wyE wy)) h cf hT cn250_) ?_
  have fA_ : FlF g (wO g) T h (sI h 580 T (nI 1)) := FlF.full wf hT
  have cfA_ : Cf (sI h 580 T (nI 1)) := fA_.cf cf hv wf
  have t1A_ := (fA_.wb w hv hT).2.2.2.1.1 c (mk.lt hc_)
  have ibA_ := b5_.fo fA_.2.1 hv fA_.1 (SOp.no (by decide) (by decide) (by decide))
  refine Ev.deep (d' := 2) (by omega) ?_
  refine ec_mpTail l G c its r i on tw it.1 b_ it bs _ _ _ g m T (sI h 580 T (nI 1)) n63_ cfA_ mk hc_ t1A_ hT tg_ kr_ b1_ ibA_ b7_ ok_ ir_ rfl h4_ ?_ ?_
  · intro r2 f2 h1 fo1 k1 l1 l2 x1
    obtain ⟨f1_, fs1_⟩ := FlF.d25 (T := T) fo1 wf (show 63 ≤ hN h from n63_)
    have cf1_ := f1_.cf cfA_ (fun b hb => hv b hb) wf
    have fu1_ : hI h1 580 T = nI 1 := ((fs1_.s (b := T) (n := 9) (fun b hb => hv b hb) kT_ (by decide) (by rw [wT_]; rcases hT with rfl | rfl <;> decide)).2.2 580).1.trans (hI_s _ _ _ _)
    refine Ev.ex (ec_putMade_f l G T r2 f2 (mdF m c it).length h1 cf1_ hT k1 l1 l2 fu1_) ⟨rfl, rfl, wO g, (fA_.tr f1_).tr (FlF.full wf hT), ?_⟩
    rw [stE_0 zn_]
    refine CBf.of ?_
    have j1_ := b.1.1.fo fA_.2.1 hv fA_.1 rfl
    exact j1_.fo fs1_ (fun b hb => hv b hb) (fun _ _ => rfl) (fs1_.s (b := T + 1) (n := 16) (fun b hb => hv b hb) (tx_f cf hT).2.2.2.1.1 (by decide) (by rw [wf.1 (T + 1) (by rcases hT with rfl | rfl <;> decide)]; rcases hT with rfl | rfl <;> decide)).2.1
  · intro z4
    refine ⟨rfl, wO g, fA_, ?_⟩
    rw [stE_0 zn_]
    exact CBf.of b.1.1
theorem ec_mpS (l : Launch) (G : aG) (an wy : List Nat) (c i r : Nat) (it : It) (its : List It) (u : Nat) (ps : List Pc) (g : Gh) (m : Md) (ru : Nat → List It) (T : Nat) (h : aH) (w : WBd g m ru h) (mk : MOk m) (hT : T = 18 ∨ T = 21) (tg_ : hR h 258 24 = some T) (b : CBt g T u ps h) (hc_ : mLive m c) (ro : RuO (wO g) its r h) (hit : its[i]? = some it) (h4_ : it.1 ≤ 4) (pb : PcB (mkP m an wy c i it)) (zn_ : ps.length < 250) : Ev l G 3 1 9 mX3_makePiece 0 (en 10 [.ref 24, .ref (wA g c), .ref r, .int (nI i), .int (nI (wyE wy))]) [] h (FlP g T h (stE (u, ps) (some (mkP m an wy c i it)))) := by
  refine Ev_hv (fun hv => ?_)
  obtain ⟨n63_, cf, wf, cm, cr⟩ := id w
  obtain ⟨⟨kr_, or_, l20_, cnr_⟩, bs, b_, s_, f_, e_, ⟨b1_, b2_, b3_, b4_⟩, b5_, b6_, b7_, b8_⟩ := id ro
  obtain ⟨ok_, on, tw, x1_, x2_, x3_, ir_⟩ := b8_ i it hit
  have hi_ := (List.getElem?_eq_some_iff.mp hit).1
  have k24_ := ck_24 cf
  have kT_ := (tx_f cf hT).1
  have t1_ := cm.1 c (mk.lt hc_)
  have wT_ : wO g T = (9, T) := wf.1 _ (by rcases hT with rfl | rfl <;> decide)
  have pb0_ : PcB (setM (mkP m an wy c i it) []) := ⟨pb.1, pb.2.1, pb.2.2.1, pb.2.2.2.1, pb.2.2.2.2.1, pb.2.2.2.2.2.1, Nat.zero_le _, pb.2.2.2.2.2.2.2⟩
  have hnu_ : pcT (setM (mkP m an wy c i it) []) = 2 → on = pcN (setM (mkP m an wy c i it) []) := fun z => (ir_.2 (by have z2 : it.1 = 2 := z; omega)).1
  refine Ev_aload_n dX3_makePiece_0 rfl (by first | exact Or.inr ⟨_, rfl⟩ | exact rv_or _ | exact Or.inl rfl) ?_
  refine Ev_getA dX3_makePiece_1 fX3_68 kr_ b2_ ?_
  refine Ev_iload_n dX3_makePiece_4 rfl ?_
  refine Ev_ialdE i dX3_makePiece_5 (b6_ s_ (by simp)).1 rfl (hi_n (by omega)) (by have := (b6_ s_ (by simp)).2.2; omega) x1_ ?_
  refine Ev_istore dX3_makePiece_6 (by decide) ?_
  refine Ev_aload_n dX3_makePiece_8 rfl (by first | exact Or.inr ⟨_, rfl⟩ | exact rv_or _ | exact Or.inl rfl) ?_
  refine Ev_getA dX3_makePiece_9 fX3_74 kr_ b3_ ?_
  refine Ev_iload_n dX3_makePiece_12 rfl ?_
  refine Ev_ialdE i dX3_makePiece_13 (b6_ f_ (by simp)).1 rfl (hi_n (by omega)) (by have := (b6_ f_ (by simp)).2.2; omega) x2_ ?_
  refine Ev_istore dX3_makePiece_14 (by decide) ?_
  refine Ev_aload_n dX3_makePiece_16 rfl (by first | exact Or.inr ⟨_, rfl⟩ | exact rv_or _ | exact Or.inl rfl) ?_
  refine Ev_getA dX3_makePiece_17 fX3_89 kr_ b4_ ?_
  refine Ev_iload_n dX3_makePiece_20 rfl ?_
  refine Ev_ialdE i dX3_makePiece_21 (b6_ e_ (by simp)).1 rfl (hi_n (by omega)) (by have := (b6_ e_ (by simp)).2.2; omega) x3_ ?_
  refine Ev_istore dX3_makePiece_22 (by decide) ?_
  refine Ev_aload_n dX3_makePiece_24 rfl (by first | exact Or.inr ⟨_, rfl⟩ | exact rv_or _ | exact Or.inl rfl) ?_
  refine Ev_getA dX3_makePiece_25 fX3_19 k24_ tg_ ?_
  refine Ev_aload_n dX3_makePiece_28 rfl (by first | exact Or.inr ⟨_, rfl⟩ | exact rv_or _ | exact Or.inl rfl) ?_
  refine Ev_iload_n dX3_makePiece_29 rfl ?_
  refine Ev_iload dX3_makePiece_30 rfl ?_
  refine Ev_iload dX3_makePiece_32 rfl ?_
  refine Ev_iload dX3_makePiece_34 rfl ?_
  refine Ev_Vg (mc2 := 0) (ms2 := 0) [.ref (wA g c), .int (nI i), .int (nI it.1), .int (nI on), .int (nI (wyE wy))] dX3_makePiece_36 vX8_open kX3_92 kT_ rfl rfl rfl (Nat.le_of_ble_eq_true rfl) (by omega) (by omega) (by omega) (ec_open l G (setM (mkP m an wy c i it) []) on g T ps h cf wf n63_ hT b.1 b.2.1 zn_ pb0_ rfl rfl hnu_) (fun v_ hA e_ => ?_)
  obtain ⟨rfl, o1_, fA_, txA_, btA_, fuA_, usA_⟩ := e_
  refine Ev_hv (fun hvA_ => ?_)
  have wA_ := fA_.wb w hv hT
  obtain ⟨nA_, cfA_, wfA_, cmA_, crA_⟩ := id wA_
  have t1A_ := cmA_.1 c (mk.lt hc_)
  have nS0_ : ¬ SOp T (0, 0) := SOp.no (by decide) (by decide) (by decide)
  have srA_ := fA_.2.1.s hv kr_ (by decide) (by rw [or_]; exact nS0_)
  have ibA_ := b5_.fo fA_.2.1 hv fA_.1 nS0_
  have tgA_ : hR hA 258 24 = some T := (fA_.2.2 _ _ (by decide)).trans tg_
  have krA_ := fA_.2.1.k hv kr_ (by decide)
  refine Ev.deep (d' := 2) (by omega) ?_
  refine ec_mpTail l G c its r i on tw it.1 b_ it bs _ _ _ (gw g o1_) m T hA nA_ cfA_ mk hc_ t1A_ hT tgA_ krA_ ((srA_.2.2 _).2.trans b1_) ibA_ b7_ ok_ ir_ rfl h4_ ?_ ?_
  · intro r2 f2 h1 fo1 k1 l1 l2 x1
    refine Ev_hv (fun hv1_ => ?_)
    obtain ⟨f1_, fs1_⟩ := FlF.d25 (T := T) fo1 wfA_ nA_
    have cf1_ := f1_.cf cfA_ hvA_ wfA_
    have wTA_ : wO (gw g o1_) T = (9, T) := wfA_.1 _ (by rcases hT with rfl | rfl <;> decide)
    have wT1_ : wO (gw g o1_) (T + 1) = (9, T + 1) := wfA_.1 _ (by rcases hT with rfl | rfl <;> decide)
    have wT2_ : wO (gw g o1_) (T + 2) = (9, T + 2) := wfA_.1 _ (by rcases hT with rfl | rfl <;> decide)
    have tfA_ := tx_f cfA_ hT
    have sT_ := fs1_.s hvA_ tfA_.1 (by decide) (by rw [wTA_]; rcases hT with rfl | rfl <;> decide)
    have sT1_ := fs1_.s hvA_ tfA_.2.2.2.1.1 (by decide) (by rw [wT1_]; rcases hT with rfl | rfl <;> decide)
    have sT2_ := fs1_.s hvA_ tfA_.2.2.2.2.1 (by decide) (by rw [wT2_]; rcases hT with rfl | rfl <;> decide)
    have s24_ := fs1_.s hvA_ (ck_24 cfA_) (by decide) (by rw [wfA_.1 24 (by decide)]; decide)
    have t45_ := tTg_45 T
    have tx1_ : CTx (gw g o1_) T (ps ++ [(setM (mkP m an wy c i it) [])]) h1 := txA_.fo fs1_ hvA_ (fun _ _ => rfl) (by decide) (fun k z => by have z2 : tTg T = 9 := congrArg Prod.fst z; omega) sT1_.2.1 (sT_.2.2 _).1 sT2_.1
    have fu1_ : hI h1 580 T = nI 0 := (sT_.2.2 _).1.trans (fuA_.trans b.2.2.1)
    have bt1_ : hI h1 578 T = nI (flat ps).length := (sT_.2.2 _).1.trans (btA_.trans b.2.1)
    have us1_ : hI h1 259 24 = nI u := (s24_.2.2 _).1.trans (usA_.trans b.2.2.2.1)
    have cn1_ : hI h1 579 T = nI (ps.length + 1) := by rw [tx1_.2.2.2.1]; simp
    obtain ⟨-, q1_, y1_, cp1_⟩ := tx1_.2.2.2.2.1 ps.length (setM (mkP m an wy c i it) []) (by rw [List.getElem?_append_right (Nat.le_refl _), Nat.sub_self]; rfl)
    by_cases zb_ : (flat ps).length + (mdF m c it).length ≤ 3000
    · obtain ⟨tx2_, fs2_⟩ := tx1_.put (r := r2) (f := f2) (xs := mdF m c it) hv1_ wfA_ hT rfl y1_ zb_ pb.2.2.2.2.2.2.1 x1
      refine Ev.ex (ec_putMade_s l G T r2 f2 (mdF m c it).length h1 cf1_ hT k1 l1 l2 ps.length (flat ps).length q1_ fu1_ cn1_ zn_ bt1_ zb_ y1_ cp1_.1.1) ⟨rfl, rfl, o1_, (fA_.tr f1_).tr ⟨fun _ _ => rfl, fs2_, fun _ _ _ => rfl⟩, ?_⟩
      rw [stE_1 (p := mkP m an wy c i it) zn_ zb_]
      refine ⟨tx2_, ?_, (hI_o _ _ (by decide)).trans ((hI_o _ _ (by decide)).trans fu1_), (hI_o _ _ (by decide)).trans ((hI_o _ _ (by decide)).trans us1_), b.2.2.2.2⟩
      rw [flat_add, List.length_append]
      exact (hI_o _ _ (by decide)).trans (hI_s _ _ _ _)
    · refine Ev.ex (ec_putMade_l l G T r2 f2 (mdF m c it).length h1 cf1_ hT k1 l1 l2 ps.length (flat ps).length fu1_ cn1_ zn_ bt1_ b.1.2.2.1 zb_) ⟨rfl, rfl, o1_, (fA_.tr f1_).tr (FlF.full wfA_ hT), ?_⟩
      rw [stE_2 (p := mkP m an wy c i it) zb_]
      exact CBf.of tx1_.1
  · intro z4
    have em_ : mdF m c it = [] := by unfold mdF; rw [if_neg (by omega), if_neg (by omega), if_neg (by omega), if_neg (by omega)]
    have ep_ : (setM (mkP m an wy c i it) []) = mkP m an wy c i it := by unfold mkP; rw [em_]; rfl
    refine ⟨rfl, o1_, fA_, ?_⟩
    rw [stE_1 (p := mkP m an wy c i it) zn_ (show (flat ps).length + (mdF m c it).length ≤ 3000 by rw [em_]; exact b.1.2.2.1)]
    rw [ep_] at txA_
    refine ⟨txA_, ?_, fuA_.trans b.2.2.1, usA_.trans b.2.2.2.1, b.2.2.2.2⟩
    rw [flat_add, show pcM (mkP m an wy c i it) = [] from em_, List.append_nil]
    exact btA_.trans b.2.1
def cst (r : Option (Nat × List Pc)) (n : Nat) : Nat := match r with
  | some b => b.2.length - n
  | none => 250 - n
theorem ec_makePiece (l : Launch) (G : aG) (an wy : List Nat) (c i r : Nat) (it : It) (its : List It) (u : Nat) (ps : List Pc) (g : Gh) (m : Md) (ru : Nat → List It) (T : Nat) (h : aH) (w : WBd g m ru h) (mk : MOk m) (hT : T = 18 ∨ T = 21) (tg_ : hR h 258 24 = some T) (b : CBt g T u ps h) (hc_ : mLive m c) (ro : RuO (wO g) its r h) (hit : its[i]? = some it) (h4_ : it.1 ≤ 4) (pb : PcB (mkP m an wy c i it)) : Ev l G 3 (cst (stE (u, ps) (some (mkP m an wy c i it))) ps.length) (9 * cst (stE (u, ps) (some (mkP m an wy c i it))) ps.length) mX3_makePiece 0 (en 10 [.ref 24, .ref (wA g c), .ref r, .int (nI i), .int (nI (wyE wy))]) [] h (FlP g T h (stE (u, ps) (some (mkP m an wy c i it)))) := by
  by_cases zn_ : ps.length < 250
  · have e1_ : 1 ≤ cst (stE (u, ps) (some (mkP m an wy c i it))) ps.length := by
      by_cases zb_ : (flat ps).length + (pcM (mkP m an wy c i it)).length ≤ 3000
      · rw [stE_1 zn_ zb_]
        show 1 ≤ (ps ++ [mkP m an wy c i it]).length - ps.length
        simp
      · rw [stE_2 zb_]
        show 1 ≤ 250 - ps.length
        omega
    exact Ev.wide e1_ (by omega) (ec_mpS l G an wy c i r it its u ps g m ru T h w mk hT tg_ b hc_ ro hit h4_ pb zn_)
  · exact Ev.wide (by omega) (by omega) (ec_mpF l G an wy c i r it its u ps g m ru T h w mk hT tg_ b hc_ ro hit h4_ pb zn_)
