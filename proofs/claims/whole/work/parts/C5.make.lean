theorem FS.tr2 {g : Gh} {o1 : Ow} {S : Nat × Nat → Prop} {h h1 h2 : aH} (a : FS g S h h1) (e : OwX g o1 h) (b : FS (gw g o1) S h1 h2) : FS g S h h2 := by
  have n1 := a.1
  refine ⟨Nat.le_trans n1 b.1, fun x hx => ?_⟩
  have p := a.2 x hx
  have q := b.2 x (by omega)
  refine ⟨q.1.trans p.1, q.2.1.trans p.2.1, fun z => (p.2.2 z).tr (q.2.2 (fun y => z ?_))⟩
  have e2 : wO (gw g o1) x = wO g x := e x hx
  show S (wO g x)
  rw [← e2]; exact y
theorem SOp.st {T : Nat} {tg : Nat × Nat} (hT : T = 18 ∨ T = 21) (z : SOp T tg) : STx tg := by
  rcases z with z | z | z | z | z | z
  · exact Or.inr (Or.inr (Or.inr (by rw [z]; rcases hT with rfl | rfl <;> decide)))
  · exact Or.inr (Or.inr (Or.inr (by rw [z]; rcases hT with rfl | rfl <;> decide)))
  · exact Or.inr (Or.inr (Or.inr (by rw [z]; rcases hT with rfl | rfl <;> decide)))
  · rcases tTg_45 T with y | y
    · exact Or.inl (z.trans y)
    · exact Or.inr (Or.inl (z.trans y))
  · exact Or.inr (Or.inr (Or.inr (by rw [z]; decide)))
  · exact Or.inr (Or.inr (Or.inr (by rw [z]; decide)))
/-- the other text is made anew: what stays -/
theorem CS.filled {g : Gh} {tp : List Int32} {m : Md} {ru : Nat → List It} {fa : Int32 × Int32} {ps : List Pc} {ln : List (List Int32 × Nat × Nat)} {fl : Nat} {h : aH} (cs : CS g tp m ru fa ps ln fl h) (hv : Hv h) {T T' : Nat} {o1 : Ow} {h1 : aH} (hTT : (T = 18 ∧ T' = 21) ∨ (T = 21 ∧ T' = 18)) (q1 : hR h 710 3 = some T) (q2 : hR h 711 3 = some T') (e1 : OwX g o1 h) (f1 : FS g (SOp T') h h1) (r1 : ∀ k a, a ∈ [3, 4, 6, 7, 18, 21, 24, 26] → ¬ (k = 258 ∧ a = 24) → hR h1 k a = hR h k a) (jk1 : JK (gw g o1) T' h1) : CS (gw g o1) tp m ru fa ps ln fl h1 ∧ FX h h1 ∧ hR h1 710 3 = some T ∧ hR h1 711 3 = some T' ∧ CTx (gw g o1) T ps h1 ∧ hY h1 (T + 1) = hY h (T + 1) := by
  obtain ⟨T0, T0', hT0, q10, q20, tx, jk⟩ := cs.2.2.2.2.2.1
  have : T0 = T := Option.some.inj (q10.symm.trans q1)
  subst this
  have cf := cs.1.2.1
  have wf := cs.1.2.2
  have hT : T0 = 18 ∨ T0 = 21 := by omega
  have hT' : T' = 18 ∨ T' = 21 := by omega
  have tf := tx_f cf hT
  have n0 : ¬ SOp T' (0, 0) := SOp.no (by decide) (by decide) (by decide)
  have ns : ∀ a ∈ [T0, T0 + 1, T0 + 2], ¬ SOp T' (wO g a) := fun a ha => by
    have hw : wO g a = (9, a) := wf.1 a (by rcases hT with rfl | rfl <;> revert ha <;> revert a <;> decide)
    rw [hw]
    clear hw
    rcases hTT with ⟨rfl, rfl⟩ | ⟨rfl, rfl⟩
    all_goals (
      simp at ha
      rintro (z | z | z | z | z | z)
      all_goals first
        | (have z2 : (9 : Nat) = tTg _ := z; rcases tTg_45 _ with y | y <;> (rw [y] at z2; omega))
        | (have z2 := congrArg Prod.snd z; simp only at z2; omega))
  have nt : ∀ k, ¬ SOp T' (tTg T0, k) := fun k => by
    rcases hTT with ⟨rfl, rfl⟩ | ⟨rfl, rfl⟩
    all_goals (
      rintro (z | z | z | z | z | z)
      all_goals first
        | exact absurd (congrArg Prod.fst z) (show ¬ tTg 18 = 9 by decide)
        | exact absurd (congrArg Prod.fst z) (show ¬ tTg 21 = 9 by decide)
        | exact absurd z (show ¬ tTg 18 = tTg 21 by decide)
        | exact absurd z (show ¬ tTg 21 = tTg 18 by decide))
  have s0 := f1.s hv tf.1 (by decide) (ns T0 (by simp))
  have s1 := f1.s hv tf.2.2.2.1.1 (by decide) (ns (T0 + 1) (by simp))
  have s2 := f1.s hv tf.2.2.2.2.1 (by decide) (ns (T0 + 2) (by simp))
  have tx1 : CTx (gw g o1) T0 ps h1 := tx.fo f1 hv e1 n0 nt s1.2.1 (s0.2.2 _).1 s2.1
  have q11 : hR h1 710 3 = some T0 := (r1 _ _ (by decide) (by decide)).trans q1
  have q21 : hR h1 711 3 = some T' := (r1 _ _ (by decide) (by decide)).trans q2
  have r := cs.text hv (f1.mo (fun b _ z => z.st hT')) e1 (fun q hq => r1 _ _ (by revert hq; revert q; decide) (by have key : ∀ q ∈ cfR, ¬ (q.1 = 258 ∧ q.2.1 = 24) := (by decide); exact key q hq)) (r1 _ _ (by decide) (by decide)) ⟨T0, T', hTT, q11, q21, tx1, jk1⟩ (cs.2.2.2.2.2.2.fo cf wf f1 hv e1 (fun tg ht => by
    rcases ht with rfl | rfl | rfl | rfl
    · exact n0
    · exact SOp.no (by decide) (by decide) (by decide)
    · exact SOp.no9 hT' (by decide)
    · exact SOp.no9 hT' (by decide)))
  exact ⟨r.1, r.2, q11, q21, tx1, s1.2.1⟩
theorem CS.turned {g : Gh} {tp : List Int32} {m : Md} {ru : Nat → List It} {fa : Int32 × Int32} {ps : List Pc} {ln : List (List Int32 × Nat × Nat)} {fl : Nat} {h : aH} (cs : CS g tp m ru fa ps ln fl h) (hv : Hv h) {T T' : Nat} {ps1 : List Pc} {x : Option Value} {h' : aH} (hTT : (T = 18 ∧ T' = 21) ∨ (T = 21 ∧ T' = 18)) (tu : TuP T T' ps ps1 g ln fl h x h') : x = some (.int (nI ps1.length)) ∧ ∃ g', CS g' tp m ru fa (tkA ps ps1) (lnA ps ps1 (ln, fl)).1 (lnA ps ps1 (ln, fl)).2 h' ∧ FX h h' := by
  obtain ⟨rfl, o1, e1, f1, r1, r7, q1, q2, tx, jk, cl⟩ := tu
  exact ⟨rfl, gw g o1, cs.text hv f1 e1 r1 r7 ⟨T', T, by omega, q1, q2, tx, jk⟩ cl⟩
theorem ec_make (l : Launch) (G : aG) (g : Gh) (tp : List Int32) (m : Md) (ru : Nat → List It) (fa : Int32 × Int32) (ps : List Pc) (ln : List (List Int32 × Nat × Nat)) (fl : Nat) (h : aH) (cs : CS g tp m ru fa ps ln fl h) (mk : MOk m) (hcm : mCm m ≤ 600) (mp_ : ∀ p ∈ ps, PcM m p) (md_ : MkD ps) : Ev l G 18 750 13750 mX10_make 0 (en 1 [.ref 3]) [] h (fun x h' => (mkNew m ru = none ∧ x = some (.int (-1)) ∧ ∃ g', CS g' tp m ru fa ps ln fl h' ∧ FX h h') ∨ (∃ ps1, mkNew m ru = some ps1 ∧ x = some (.int (nI ps1.length)) ∧ ∃ g', CS g' tp m ru fa (tkA ps ps1) (lnA ps ps1 (ln, fl)).1 (lnA ps ps1 (ln, fl)).2 h' ∧ FX h h')) := by
  have n63_ := cs.1.1
  have cf := cs.1.2.1
  have wf := cs.1.2.2
  have cm := cs.2.2.1
  have ct := cs.2.1
  obtain ⟨T, T', hTT_, q1_, q2_, tx, jk_⟩ := cs.2.2.2.2.2.1
  have hT : T = 18 ∨ T = 21 := by omega
  have hT'_ : T' = 18 ∨ T' = 21 := by omega
  have tf_ := tx_f cf hT
  have n250_ := tx.2.1
  refine Ev_hv (fun hv => ?_)
  refine Ev_aload_n dX10_make_0 rfl (by first | exact Or.inr ⟨_, rfl⟩ | exact rv_or _ | exact Or.inl rfl) ?_
  refine Ev_getA dX10_make_1 fX10_47 (ck_3 cf) (cr_707_3 cf) ?_
  refine Ev_aload_n dX10_make_4 rfl (by first | exact Or.inr ⟨_, rfl⟩ | exact rv_or _ | exact Or.inl rfl) ?_
  refine Ev_getA dX10_make_5 fX10_39 (ck_3 cf) q2_ ?_
  refine Ev_aload_n dX10_make_8 rfl (by first | exact Or.inr ⟨_, rfl⟩ | exact rv_or _ | exact Or.inl rfl) ?_
  refine Ev_getA dX10_make_9 fX10_19 (ck_3 cf) (cr_705_3 cf) ?_
  refine Ev_getA dX10_make_12 fX10_70 (ck_6 cf) (cr_320_6 cf) ?_
  refine Ev_Vg (mc2 := 500) (ms2 := 11500) [.ref T', .ref 7] dX10_make_15 vX3_fill kX10_137 (ck_24 cf) rfl rfl rfl (Nat.le_of_ble_eq_true rfl) (by omega) (by omega) (by omega) (ec_fill l G g m ru T' h ⟨n63_, cf, wf, cm, cs.2.2.2.1⟩ mk hcm hT'_ jk_) (fun v_ h1 e_ => ?_)
  obtain ⟨rfl, o1_, e1_, f1_, r1_, hm_⟩ := e_
  refine Ev_hv (fun hv1_ => ?_)
  rcases hm_ with ⟨ps1, em_, tx1_, fu_⟩ | ⟨em_, jk1_, fu_⟩
  · have mo_ := mkNew_ok mk em_
    obtain ⟨cs1_, fx1_, q11_, q21_, t0_, hy1_⟩ := cs.filled hv hTT_ q1_ q2_ e1_ f1_ r1_ tx1_.1
    have cf1_ := cs1_.1.2.1
    refine Ev_aload_n dX10_make_18 rfl (by first | exact Or.inr ⟨_, rfl⟩ | exact rv_or _ | exact Or.inl rfl) ?_
    refine Ev_getA dX10_make_19 fX10_39 (ck_3 cf1_) q21_ ?_
    refine Ev_getE dX10_make_22 fX10_141 (tx_f cf1_ hT'_).1 fu_ ?_
    refine Ev_if_eqT 32 dX10_make_25 (by decide) (fun zb25_ => ?_) (fun zb25_ => ?_)
    · refine Ev_aload_n dX10_make_32 rfl (by first | exact Or.inr ⟨_, rfl⟩ | exact rv_or _ | exact Or.inl rfl) ?_
      refine Ev_Vg (mc2 := 0) (ms2 := 0) [] dX10_make_33 vX10_turnToSpare kX10_145 (ck_3 cf1_) rfl rfl rfl (Nat.le_of_ble_eq_true rfl) (by omega) (by omega) (by omega) (ec_turn l G T T' ps ps1 m (gw g o1_) ln fl h1 cs1_.1.1 cf1_ cs1_.1.2.2 cs1_.2.2.1 hTT_ q11_ q21_ t0_ tx1_ cs1_.2.2.2.2.2.2 mp_ mo_.1 md_ mo_.2.2 mo_.2.1) (fun v_ h2 e_ => ?_)
      obtain ⟨rfl, g2_, cs2_, fx2_⟩ := cs1_.turned hv1_ hTT_ e_
      refine Ev_iret dX10_make_36 rfl ?_
      exact Or.inr ⟨ps1, em_, rfl, g2_, cs2_, fx1_.tr fx2_⟩
    · exact absurd (by decide) zb25_
  · obtain ⟨cs1_, fx1_, q11_, q21_, t0_, hy1_⟩ := cs.filled hv hTT_ q1_ q2_ e1_ f1_ r1_ jk1_
    have cf1_ := cs1_.1.2.1
    refine Ev_aload_n dX10_make_18 rfl (by first | exact Or.inr ⟨_, rfl⟩ | exact rv_or _ | exact Or.inl rfl) ?_
    refine Ev_getA dX10_make_19 fX10_39 (ck_3 cf1_) q21_ ?_
    refine Ev_getE dX10_make_22 fX10_141 (tx_f cf1_ hT'_).1 fu_ ?_
    refine Ev_if_eqT 32 dX10_make_25 (by decide) (fun zb25_ => ?_) (fun zb25_ => ?_)
    · exact absurd zb25_ (by decide)
    · refine Ev_iconst (v := -1) dX10_make_28 (by decide) ?_
      refine Ev_goto 36 dX10_make_29 (by decide) ?_
      refine Ev_iret dX10_make_36 rfl ?_
      exact Or.inl ⟨em_, rfl, gw g o1_, cs1_, fx1_⟩
def FsP (g : Gh) (m : Md) (ru : Nat → List It) (T' : Nat) (h : aH) (x : Option Value) (h' : aH) : Prop := x = some (.int (bI (mkNew m ru).isSome)) ∧ ∃ ow', OwX g ow' h ∧ FS g (SOp T') h h' ∧ (∀ k a, a ∈ [3, 4, 6, 7, 18, 21, 24, 26] → ¬ (k = 258 ∧ a = 24) → hR h' k a = hR h k a) ∧ ((∃ ps, mkNew m ru = some ps ∧ CTx (gw g ow') T' ps h') ∨ (mkNew m ru = none ∧ JK (gw g ow') T' h'))
theorem ec_fillSpareWith (l : Launch) (G : aG) (c j : Nat) (v : Int32) (g : Gh) (tp : List Int32) (m : Md) (ru : Nat → List It) (fa : Int32 × Int32) (ps : List Pc) (ln : List (List Int32 × Nat × Nat)) (fl : Nat) (h : aH) (cs : CS g tp m ru fa ps ln fl h) (mk : MOk m) (hcm : mCm m ≤ 600) (hps : ∀ p ∈ ps, pcC p < mCm m) (hc_ : mLive m c) (hj_ : j < 4) (hv9_ : 0 ≤ v.toInt ∧ v.toInt ≤ 99999) (T' : Nat) (hT'_ : T' = 18 ∨ T' = 21) (q2_ : hR h 711 3 = some T') : Ev l G 18 250 2250 mX10_fillSpareWith 0 (en 5 [.ref 3, .ref (wA g c), .int (nI j), .int v]) [] h (FsP g (sNu m c j v) ru T' h) := by
  have n63_ := cs.1.1
  have cf := cs.1.2.1
  have wf := cs.1.2.2
  have cm := cs.2.2.1
  have ct := cs.2.1
  refine Ev_hv (fun hv => ?_)
  have t1_ := cm.1 c (mk.lt hc_)
  obtain ⟨l1_, -, -⟩ := t1_.2.2.2 hc_
  have csA_ : CS g tp (sNu m c j v) ru fa ps ln fl (sX h (wN g c) j v) := (cs.model hv (FO.sX (Or.inl (by rw [t1_.2.1.2.2]))) (fun _ _ => rfl) (fun _ _ => rfl) hps (fun k => ⟨rfl, rfl⟩) ⟨ct.1, ct.2.1, fun k hk => (gX_X _ (fun z => by have q := t1_.2.1.2.2; rw [← z, wf.1 5 (by decide)] at q; exact absurd (congrArg Prod.fst q) (fun z2 => by have z3 : (9 : Nat) = 1 := z2; omega))).trans (ct.2.2 k hk)⟩ (cm.nu cf wf hv (mk.lt hc_) hj_)).1
  have cfA_ := csA_.1.2.1
  have hvA_ : Hv (sX h (wN g c) j v) := fun b hb => hv b hb
  have jkA_ : JK g T' (sX h (wN g c) j v) := by
    obtain ⟨T0, T0', hT0, q10, q20, tx0, jk0⟩ := cs.2.2.2.2.2.1
    have : T0' = T' := Option.some.inj (q20.symm.trans q2_)
    subst this
    exact jk0
  refine Ev_aload_n dX10_fillSpareWith_0 rfl (by first | exact Or.inr ⟨_, rfl⟩ | exact rv_or _ | exact Or.inl rfl) ?_
  refine Ev_getA dX10_fillSpareWith_1 fX10_110 t1_.1.1 t1_.1.2.2.2.2.2.2.1 ?_
  refine Ev_iload_n dX10_fillSpareWith_4 rfl ?_
  refine Ev_ialdE j dX10_fillSpareWith_5 t1_.2.1.1 t1_.2.1.2.1 (hi_n (by omega)) (by omega) (l1_ j (by omega)) ?_
  refine Ev_istore dX10_fillSpareWith_6 (by decide) ?_
  refine Ev_aload_n dX10_fillSpareWith_8 rfl (by first | exact Or.inr ⟨_, rfl⟩ | exact rv_or _ | exact Or.inl rfl) ?_
  refine Ev_getA dX10_fillSpareWith_9 fX10_110 t1_.1.1 t1_.1.2.2.2.2.2.2.1 ?_
  refine Ev_iload_n dX10_fillSpareWith_12 rfl ?_
  refine Ev_iload_n dX10_fillSpareWith_13 rfl ?_
  refine Ev_iastL j dX10_fillSpareWith_14 t1_.2.1.1 t1_.2.1.2.1 (hi_n (by omega)) (by omega) ?_
  have zz_ : True := trivial
  refine Ev_aload_n dX10_fillSpareWith_15 rfl (by first | exact Or.inr ⟨_, rfl⟩ | exact rv_or _ | exact Or.inl rfl) ?_
  refine Ev_getA dX10_fillSpareWith_16 fX10_47 (ck_3 cfA_) (cr_707_3 cfA_) ?_
  refine Ev_aload_n dX10_fillSpareWith_19 rfl (by first | exact Or.inr ⟨_, rfl⟩ | exact rv_or _ | exact Or.inl rfl) ?_
  refine Ev_getA dX10_fillSpareWith_20 fX10_39 (ck_3 cfA_) q2_ ?_
  refine Ev_aload_n dX10_fillSpareWith_23 rfl (by first | exact Or.inr ⟨_, rfl⟩ | exact rv_or _ | exact Or.inl rfl) ?_
  refine Ev_getA dX10_fillSpareWith_24 fX10_19 (ck_3 cfA_) (cr_705_3 cfA_) ?_
  refine Ev_getA dX10_fillSpareWith_27 fX10_70 (ck_6 cfA_) (cr_320_6 cfA_) ?_
  refine Ev_Vg (mc2 := 0) (ms2 := 0) [.ref T', .ref 7] dX10_fillSpareWith_30 vX3_fill kX10_137 (ck_24 cfA_) rfl rfl rfl (Nat.le_of_ble_eq_true rfl) (by omega) (by omega) (by omega) (ec_fill l G g (sNu m c j v) ru T' (sX h (wN g c) j v) ⟨n63_, cfA_, wf, csA_.2.2.1, csA_.2.2.2.1⟩ (mk.nu hv9_) hcm hT'_ jkA_) (fun v_ h1 e_ => ?_)
  obtain ⟨rfl, o1_, e1_, f1_, r1_, hm_⟩ := e_
  refine Ev_hv (fun hv1_ => ?_)
  have w1_ : wO g (wN g c) = (1, c) := t1_.2.1.2.2
  have kA_ : hK (sX h (wN g c) j v) (wN g c) = 13 := t1_.2.1.1
  have sN_ := f1_.s (h := (sX h (wN g c) j v)) hvA_ kA_ (by decide) (by rw [w1_]; exact SOp.no (by decide) (by decide) (by decide))
  have kN1_ : hK h1 (wN g c) = 13 := f1_.k hvA_ kA_ (by decide)
  have lN1_ : hL h1 (wN g c) = 4 := (f1_.l hvA_ kA_ (by decide)).trans t1_.2.1.2.1
  have kA10_ : hK h1 (wA g c) = 10 := f1_.k (h := (sX h (wN g c) j v)) hvA_ t1_.1.1 (by decide)
  have sA_ := f1_.s (h := (sX h (wN g c) j v)) (b := wA g c) (n := 10) hvA_ t1_.1.1 (by decide) (by rw [t1_.1.2.1]; exact SOp.no (by decide) (by decide) (by decide))
  have rN1_ : hR h1 644 (wA g c) = some (wN g c) := (sA_.2.2 _).2.trans t1_.1.2.2.2.2.2.2.1
  have cf1_ : Cf h1 := cfA_.fo hvA_ f1_ wf (fun q hq => r1_ _ _ (by revert hq; revert q; decide) (by have key : ∀ q ∈ cfR, ¬ (q.1 = 258 ∧ q.2.1 = 24) := (by decide); exact key q hq))
  have q21_ : hR h1 711 3 = some T' := (r1_ _ _ (by decide) (by decide)).trans q2_
  refine Ev_aload_n dX10_fillSpareWith_33 rfl (by first | exact Or.inr ⟨_, rfl⟩ | exact rv_or _ | exact Or.inl rfl) ?_
  refine Ev_getA dX10_fillSpareWith_34 fX10_110 kA10_ rN1_ ?_
  refine Ev_iload_n dX10_fillSpareWith_37 rfl ?_
  refine Ev_iload dX10_fillSpareWith_38 rfl ?_
  refine Ev_iastL j dX10_fillSpareWith_40 kN1_ lN1_ (hi_n (by omega)) (by omega) ?_
  have k3B_ := ck_3 cf1_
  have kTB_ := (tx_f cf1_ hT'_).1
  have w1B_ : wO (gw g o1_) (wN g c) = (1, c) := (e1_ _ (FO.lt (h := (sX h (wN g c) j v)) hvA_ kA_ (by decide))).trans w1_
  rcases hm_ with ⟨ps1, em_, tx1_, fu_⟩ | ⟨em_, jk1_, fu_⟩
  · skip
    refine Ev_aload_n dX10_fillSpareWith_41 rfl (by first | exact Or.inr ⟨_, rfl⟩ | exact rv_or _ | exact Or.inl rfl) ?_
    refine Ev_getA dX10_fillSpareWith_42 fX10_39 k3B_ q21_ ?_
    refine Ev_getE dX10_fillSpareWith_45 fX10_141 kTB_ fu_ ?_
    refine Ev_if_neT 55 dX10_fillSpareWith_48 (by decide) (fun zb48_ => ?_) (fun zb48_ => ?_)
    · exact absurd zb48_ (by decide)
    · refine Ev_iconst (v := nI 1) dX10_fillSpareWith_51 (by decide) ?_
      refine Ev_goto 56 dX10_fillSpareWith_52 (by decide) ?_
      refine Ev_zret dX10_fillSpareWith_56 rfl (by decide) ?_
      have fB_ : FS g (SOp T') h (sX h1 (wN g c) j (mNu m c j)) := by
        refine ⟨f1_.1, fun b hb => ⟨(f1_.2 b hb).1, (f1_.2 b hb).2.1, fun z => ?_⟩⟩
        have s1 := (f1_.2 b hb).2.2 z
        by_cases y : b = wN g c
        · subst y
          refine ⟨?_, s1.2.1, s1.2.2⟩
          funext i
          by_cases yi : i = j
          · subst yi
            rw [hX_s, l1_ i (by omega)]
          · rw [hX_n _ _ yi, s1.1, hX_n _ _ yi]
        · refine ⟨?_, s1.2.1, s1.2.2⟩
          rw [hX_o _ _ y, s1.1, hX_o _ _ y]
      have nT_ : ∀ b, b = 19 ∨ b = 20 ∨ b = 22 ∨ b = 23 → b ≠ wN g c := fun b hb z => by
        have q := w1_
        rw [← z, wf.1 b (by rcases hb with rfl | rfl | rfl | rfl <;> decide)] at q
        exact absurd (congrArg Prod.fst q) (fun z2 => by have z3 : (9 : Nat) = 1 := z2; omega)
      refine ⟨?_, o1_, e1_, fB_, r1_, ?_⟩
      · rw [em_]; rfl
      · exact Or.inl ⟨ps1, em_, tx1_.fo (h := h1) (S := fun tg => tg = (1, c)) (FO.sX w1B_) hv1_ (fun _ _ => rfl) (by simp) (fun k z => by have z2 : tTg T' = 1 := congrArg Prod.fst z; have := tTg_45 T'; omega) rfl rfl (hX_o _ _ (nT_ _ (by omega)))⟩
  · skip
    refine Ev_aload_n dX10_fillSpareWith_41 rfl (by first | exact Or.inr ⟨_, rfl⟩ | exact rv_or _ | exact Or.inl rfl) ?_
    refine Ev_getA dX10_fillSpareWith_42 fX10_39 k3B_ q21_ ?_
    refine Ev_getE dX10_fillSpareWith_45 fX10_141 kTB_ fu_ ?_
    refine Ev_if_neT 55 dX10_fillSpareWith_48 (by decide) (fun zb48_ => ?_) (fun zb48_ => ?_)
    · refine Ev_iconst (v := nI 0) dX10_fillSpareWith_55 (by decide) ?_
      refine Ev_zret dX10_fillSpareWith_56 rfl (by decide) ?_
      have fB_ : FS g (SOp T') h (sX h1 (wN g c) j (mNu m c j)) := by
        refine ⟨f1_.1, fun b hb => ⟨(f1_.2 b hb).1, (f1_.2 b hb).2.1, fun z => ?_⟩⟩
        have s1 := (f1_.2 b hb).2.2 z
        by_cases y : b = wN g c
        · subst y
          refine ⟨?_, s1.2.1, s1.2.2⟩
          funext i
          by_cases yi : i = j
          · subst yi
            rw [hX_s, l1_ i (by omega)]
          · rw [hX_n _ _ yi, s1.1, hX_n _ _ yi]
        · refine ⟨?_, s1.2.1, s1.2.2⟩
          rw [hX_o _ _ y, s1.1, hX_o _ _ y]
      have nT_ : ∀ b, b = 19 ∨ b = 20 ∨ b = 22 ∨ b = 23 → b ≠ wN g c := fun b hb z => by
        have q := w1_
        rw [← z, wf.1 b (by rcases hb with rfl | rfl | rfl | rfl <;> decide)] at q
        exact absurd (congrArg Prod.fst q) (fun z2 => by have z3 : (9 : Nat) = 1 := z2; omega)
      refine ⟨?_, o1_, e1_, fB_, r1_, ?_⟩
      · rw [em_]; rfl
      · exact Or.inr ⟨em_, jk1_⟩
    · exact absurd zb48_ (by decide)
