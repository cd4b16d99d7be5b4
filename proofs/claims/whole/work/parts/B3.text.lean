def WBd (g : Gh) (m : Md) (ru : Nat → List It) (h : aH) : Prop := 63 ≤ hN h ∧ Cf h ∧ OwF (wO g) ∧ CM g m h ∧ CRu g ru h
theorem SOp.no {T a b : Nat} (h1 : a ≠ 4) (h2 : a ≠ 5) (h3 : a ≠ 9) : ¬ SOp T (a, b) := by
  have t45 := tTg_45 T
  rintro (z | z | z | z | z | z)
  · exact h3 (congrArg Prod.fst z)
  · exact h3 (congrArg Prod.fst z)
  · exact h3 (congrArg Prod.fst z)
  · have z2 : a = tTg T := z
    omega
  · exact h3 (congrArg Prod.fst z)
  · exact h3 (congrArg Prod.fst z)
theorem SOp.no9 {T b : Nat} (hT : T = 18 ∨ T = 21) (h : b ∉ [18, 19, 20, 21, 22, 23, 24, 25]) : ¬ SOp T (9, b) := by
  have t45 := tTg_45 T
  rintro (z | z | z | z | z | z)
  all_goals first
    | (have z2 : (9 : Nat) = tTg T := z; omega)
    | (have z2 := congrArg Prod.snd z
       simp only at z2
       refine h ?_
       rw [z2]
       rcases hT with rfl | rfl <;> decide)
theorem FlF.cf {g : Gh} {ow' : Ow} {T : Nat} {h h' : aH} (f : FlF g ow' T h h') (cf : Cf h) (hv : Hv h) (wf : OwF (wO g)) : Cf h' := cf.fo hv f.2.1 wf (fun q hq => f.2.2 _ _ (by revert hq; revert q; decide))
theorem FlF.wb {g : Gh} {m : Md} {ru : Nat → List It} {ow' : Ow} {T : Nat} {h h' : aH} (f : FlF g ow' T h h') (w : WBd g m ru h) (hv : Hv h) (hT : T = 18 ∨ T = 21) : WBd (gw g ow') m ru h' := by
  obtain ⟨n63, cf, wf, cm, cr⟩ := w
  have e := f.1
  refine ⟨by have := f.2.1.1; omega, f.cf cf hv wf, ⟨fun a ha => (e a (by have : a ≤ 27 := (by revert ha; revert a; decide); omega)).trans (wf.1 a ha), fun a h1 h2 => (e a (by omega)).trans (wf.2 a h1 h2)⟩, cm.fo cf wf f.2.1 hv e (fun tg ht => ?_), cr.fo cf wf f.2.1 hv e (SOp.no (by decide) (by decide) (by decide)) (SOp.no9 hT (by decide))⟩
  obtain ⟨a, b⟩ := tg
  rcases ht with z | z | z | z | z | z
  all_goals first
    | (have z2 : a = 0 := z; subst z2; exact SOp.no (by decide) (by decide) (by decide))
    | (have z2 : a = 1 := z; subst z2; exact SOp.no (by decide) (by decide) (by decide))
    | (have z2 : a = 2 := z; subst z2; exact SOp.no (by decide) (by decide) (by decide))
    | (have z2 : a = 3 := z; subst z2; exact SOp.no (by decide) (by decide) (by decide))
    | (have z2 : a = 10 := z; subst z2; exact SOp.no (by decide) (by decide) (by decide))
    | (have key : ∀ q ∈ [((9 : Nat), (6 : Nat)), (9, 7), (9, 10), (9, 11)], q.1 = 9 ∧ q.2 ∉ [18, 19, 20, 21, 22, 23, 24, 25] := by decide
       have k := key _ z
       have k1 : a = 9 := k.1
       subst k1
       exact SOp.no9 hT k.2)
theorem FlF.tr {g : Gh} {o1 o2 : Ow} {T : Nat} {h h1 h2 : aH} (a : FlF g o1 T h h1) (b : FlF (gw g o1) o2 T h1 h2) : FlF g o2 T h h2 := by
  have n1 := a.2.1.1
  refine ⟨fun x hx => (b.1 x (by omega)).trans (a.1 x hx), ⟨Nat.le_trans n1 b.2.1.1, fun x hx => ?_⟩, fun k x hx => (b.2.2 k x hx).trans (a.2.2 k x hx)⟩
  have p := a.2.1.2 x hx
  have q := b.2.1.2 x (by omega)
  refine ⟨q.1.trans p.1, q.2.1.trans p.2.1, fun z => (p.2.2 z).tr (q.2.2 (fun y => z ?_))⟩
  have e : wO (gw g o1) x = wO g x := a.1 x hx
  show SOp T (wO g x)
  rw [← e]; exact y
theorem FlF.rf {g : Gh} {T : Nat} {h : aH} : FlF g (wO g) T h h := ⟨fun _ _ => rfl, FO.rf, fun _ _ _ => rfl⟩
/-- the text that is being made: all is well so far; or it is full -/
def CBt (g : Gh) (T u : Nat) (ps : List Pc) (h : aH) : Prop := CTx g T ps h ∧ hI h 578 T = nI (flat ps).length ∧ hI h 580 T = nI 0 ∧ hI h 259 24 = nI u ∧ u ≤ 2000
def CBf (g : Gh) (T : Nat) (h : aH) : Prop := JK g T h ∧ hI h 580 T = nI 1
def CBo (g : Gh) (T : Nat) (r : Option (Nat × List Pc)) (h : aH) : Prop := match r with
  | some b => CBt g T b.1 b.2 h
  | none => CBf g T h
def FlP (g : Gh) (T : Nat) (h : aH) (r : Option (Nat × List Pc)) : Option Value → aH → Prop := fun x h' => x = none ∧ ∃ ow', FlF g ow' T h h' ∧ CBo (gw g ow') T r h'
theorem nuV_n {m : Md} (k : MOk m) {c j : Nat} (hc : mLive m c) (hj : j < 4) : mNu m c j = nI (nuV m c j) ∧ nuV m c j ≤ 99999 := by
  have h := (k.2.2.1 c hc).2.2 j hj
  refine ⟨Int32.toInt_inj.mp ?_, ?_⟩
  · unfold nuV
    rw [hi_n (by omega)]; omega
  · unfold nuV; omega
theorem ec_mpTail (l : Launch) (G : aG) (c : Nat) (its : List It) (r i on tw s b_ : Nat) (it : It) (bs : List Int32) (v4_ v8_ v9_ : Value) (g : Gh) (m : Md) (T : Nat) (h : aH) (h63_ : 63 ≤ hN h) (cf : Cf h) (mk : MOk m) (hc_ : mLive m c) (t1_ : CT1 g m c h) (hT : T = 18 ∨ T = 21) (tg_ : hR h 258 24 = some T) (kr_ : hK h r = 7) (rb_ : hR h 448 r = some b_) (ib_ : IR (wO g) b_ bs h) (hbs_ : bs.length ≤ 120) (ok_ : itOk it) (ir0_ : itR bs it on tw) (hs0_ : it.1 = s) (h4_ : s ≤ 4) {Q : Option Value → aH → Prop} (kP_ : ∀ (r f : Nat) (h1 : aH), FO (fun b => b = 25) h h1 → hK h1 r = 13 → f + (mdF m c it).length ≤ hL h1 r → hL h1 r ≤ 10000 → (∀ k, k < (mdF m c it).length → hX h1 r (f + k) = (mdF m c it).getD k 0) → Ev l G 1 0 0 mX8_putMade 0 (en 5 [.ref T, .ref r, .int (nI f), .int (nI (mdF m c it).length)]) [] h1 (fun x h2 => x = none ∧ Q none h2)) (k4_ : it.1 = 4 → Q none h) : Ev l G 2 0 0 mX3_makePiece 39 [.ref 24, .ref (wA g c), .ref r, .int (nI i), v4_, .int (nI s), .int (nI on), .int (nI tw), v8_, v9_] [] h Q := by
  have k24_ := ck_24 cf
  have kT_ := (tx_f cf hT).1
  have b120_ := (t1_.2.2.2 hc_)
  obtain ⟨l1_, ⟨r_, l2_, l3_⟩, -⟩ := b120_
  have n6_ := (mk.2.2.1 c hc_).2.1.2
  rcases (show s = 0 ∨ s = 1 ∨ s = 2 ∨ s = 3 ∨ s = 4 by omega) with hs_ | hs_ | hs_ | hs_ | hs_ <;> subst hs_ <;> have hs_ := hs0_
  · skip
    have ir_ := ir0_.1 hs_
    have em_ : mdF m c it = it.2.2.2 := by unfold mdF; rw [if_pos hs_]
    have pw_ := kP_ b_ on h FO.rf ib_.1 (by rw [ib_.2.1, em_]; omega) (by rw [ib_.2.1]; omega) (fun k hk => by rw [em_] at hk ⊢; exact (ib_.2.2.2 _ (by omega)).trans (ir_.2.2 k (by omega)))
    rw [em_, ← ir_.1] at pw_
    refine Ev_iload dX3_makePiece_39 rfl ?_
    refine Ev_if_neT 62 dX3_makePiece_41 (by decide) (fun zb41_ => ?_) (fun zb41_ => ?_)
    · exact absurd zb41_ (by decide)
    · refine Ev_aload_n dX3_makePiece_44 rfl (by first | exact Or.inr ⟨_, rfl⟩ | exact rv_or _ | exact Or.inl rfl) ?_
      refine Ev_getA dX3_makePiece_45 fX3_19 k24_ tg_ ?_
      refine Ev_aload_n dX3_makePiece_48 rfl (by first | exact Or.inr ⟨_, rfl⟩ | exact rv_or _ | exact Or.inl rfl) ?_
      refine Ev_getA dX3_makePiece_49 fX3_96 kr_ rb_ ?_
      refine Ev_iload dX3_makePiece_52 rfl ?_
      refine Ev_iload dX3_makePiece_54 rfl ?_
      refine Ev_Vz [.ref b_, .int (nI on), .int (nI tw)] dX3_makePiece_56 vX8_putMade kX3_99 kT_ rfl rfl rfl (Nat.le_of_ble_eq_true rfl) (by omega) (pw_) (fun v_ h1 e_ => ?_)
      obtain ⟨rfl, q_⟩ := e_
      refine Ev_goto 157 dX3_makePiece_59 (by decide) ?_
      refine Ev_vret dX3_makePiece_157 rfl ?_
      exact q_
  · skip
    have em_ : mdF m c it = mNm m c := by unfold mdF; rw [if_neg (by omega), if_pos hs_]
    have pn_ := kP_ r_ 0 h FO.rf l3_.1 (by rw [l3_.2.1, em_]; omega) (by rw [l3_.2.1]; omega) (fun k hk => by rw [em_] at hk ⊢; rw [Nat.zero_add]; exact l3_.2.2.2 k hk)
    rw [em_] at pn_
    refine Ev_iload dX3_makePiece_39 rfl ?_
    refine Ev_if_neT 62 dX3_makePiece_41 (by decide) (fun zb41_ => ?_) (fun zb41_ => ?_)
    · refine Ev_iload dX3_makePiece_62 rfl ?_
      refine Ev_iconst (v := nI 1) dX3_makePiece_64 (by decide) ?_
      refine Ev_icmp_neN 88 dX3_makePiece_65 (by decide) (by omega) (by omega) (fun zb65_ => ?_) (fun zb65_ => ?_)
      · exact absurd zb65_ (by decide)
      · refine Ev_aload_n dX3_makePiece_68 rfl (by first | exact Or.inr ⟨_, rfl⟩ | exact rv_or _ | exact Or.inl rfl) ?_
        refine Ev_getA dX3_makePiece_69 fX3_19 k24_ tg_ ?_
        refine Ev_aload_n dX3_makePiece_72 rfl (by first | exact Or.inr ⟨_, rfl⟩ | exact rv_or _ | exact Or.inl rfl) ?_
        refine Ev_getA dX3_makePiece_73 fX3_103 t1_.1.1 l2_ ?_
        refine Ev_iconst (v := nI 0) dX3_makePiece_76 (by decide) ?_
        refine Ev_aload_n dX3_makePiece_77 rfl (by first | exact Or.inr ⟨_, rfl⟩ | exact rv_or _ | exact Or.inl rfl) ?_
        refine Ev_getA dX3_makePiece_78 fX3_103 t1_.1.1 l2_ ?_
        refine Ev_alen dX3_makePiece_81 l3_.1 (by omega) (by omega) ?_
        rw [l3_.2.1]
        refine Ev_Vz [.ref r_, .int (nI 0), .int (nI (mNm m c).length)] dX3_makePiece_82 vX8_putMade kX3_99 kT_ rfl rfl rfl (Nat.le_of_ble_eq_true rfl) (by omega) (pn_) (fun v_ h1 e_ => ?_)
        obtain ⟨rfl, q_⟩ := e_
        refine Ev_goto 157 dX3_makePiece_85 (by decide) ?_
        refine Ev_vret dX3_makePiece_157 rfl ?_
        exact q_
    · exact absurd zb41_ (by decide)
  · skip
    obtain ⟨rfl, rfl⟩ := ir0_.2 (by omega)
    have j1_ := ok_.2.1 (Or.inl hs_)
    have nv1_ := (nuV_n mk hc_ j1_).2
    have em_ : mdF m c it = digs (nuV m c it.2.1) := by unfold mdF; rw [if_neg (by omega), if_neg (by omega), if_pos hs_]
    refine Ev_iload dX3_makePiece_39 rfl ?_
    refine Ev_if_neT 62 dX3_makePiece_41 (by decide) (fun zb41_ => ?_) (fun zb41_ => ?_)
    · refine Ev_iload dX3_makePiece_62 rfl ?_
      refine Ev_iconst (v := nI 1) dX3_makePiece_64 (by decide) ?_
      refine Ev_icmp_neN 88 dX3_makePiece_65 (by decide) (by omega) (by omega) (fun zb65_ => ?_) (fun zb65_ => ?_)
      · refine Ev_iload dX3_makePiece_88 rfl ?_
        refine Ev_iconst (v := nI 2) dX3_makePiece_90 (by decide) ?_
        refine Ev_icmp_eqN 100 dX3_makePiece_91 (by decide) (by omega) (by omega) (fun zb91_ => ?_) (fun zb91_ => ?_)
        · refine Ev_iload dX3_makePiece_100 rfl ?_
          refine Ev_iconst (v := nI 3) dX3_makePiece_102 (by decide) ?_
          refine Ev_icmp_neN 118 dX3_makePiece_103 (by decide) (by omega) (by omega) (fun zb103_ => ?_) (fun zb103_ => ?_)
          · refine Ev_iconst (v := nI 0) dX3_makePiece_118 (by decide) ?_
            refine Ev_istore dX3_makePiece_119 (by decide) ?_
            refine Ev_aload_n dX3_makePiece_121 rfl (by first | exact Or.inr ⟨_, rfl⟩ | exact rv_or _ | exact Or.inl rfl) ?_
            refine Ev_aload_n dX3_makePiece_122 rfl (by first | exact Or.inr ⟨_, rfl⟩ | exact rv_or _ | exact Or.inl rfl) ?_
            refine Ev_getA dX3_makePiece_123 fX3_71 t1_.1.1 t1_.1.2.2.2.2.2.2.1 ?_
            refine Ev_iload dX3_makePiece_126 rfl ?_
            refine Ev_SN0 [.ref (wN g c), .int (nI it.2.1)] dX3_makePiece_128 sX10_elementOf kX3_77 rfl rfl rfl (Nat.le_of_ble_eq_true rfl) (by omega) (ec_elementIn l G (wN g c) it.2.1 (nI (nuV m c it.2.1)) h t1_.2.1.1 (by rw [t1_.2.1.2.1]; omega) (by rw [t1_.2.1.2.1]; omega) ((l1_ it.2.1 (by omega)).trans (nuV_n mk hc_ (by omega)).1)) ?_
            refine Ev_iload dX3_makePiece_131 rfl ?_
            refine Ev_iaddN dX3_makePiece_133 ?_
            rw [Nat.add_zero]
            refine Ev_Vz [.int (nI (nuV m c it.2.1))] dX3_makePiece_134 vX3_spell kX3_106 k24_ rfl rfl rfl (Nat.le_of_ble_eq_true rfl) (by omega) (ec_spell l G (nuV m c it.2.1) (by have := nv1_; omega) h cf) (fun v_ h2_ e_ => ?_)
            obtain ⟨rfl, fo2_, dg2_⟩ := e_
            have lg5_ := lg_le (nuV m c it.2.1)
            have k242_ : hK h2_ 24 = 4 := (fo2_.2 24 (by omega)).1.trans k24_
            have s24_ := (fo2_.2 24 (by omega)).2.2 (by omega)
            have tg2_ : hR h2_ 258 24 = some T := (s24_.2.2 _).2.trans tg_
            have r252_ : hR h2_ 256 24 = some 25 := (s24_.2.2 _).2.trans (cr_256_24 cf)
            have kT_ : hK h2_ T = 9 := (fo2_.2 T (by omega)).1.trans kT_
            have k252_ : hK h2_ 25 = 13 := (fo2_.2 25 (by omega)).1.trans (ck_25 cf)
            have l252_ : hL h2_ 25 = 6 := (fo2_.2 25 (by omega)).2.1.trans (cl_25 cf)
            have pd_ := kP_ 25 (5 - lg (nuV m c it.2.1)) h2_ fo2_ k252_ (by rw [l252_, em_, digs_len]; omega) (by rw [l252_]; omega) (fun k hk => by rw [em_] at hk ⊢; rw [digs_len] at hk; exact dg2_ k (by omega))
            rw [em_] at pd_
            refine Ev_istore dX3_makePiece_137 (by decide) ?_
            refine Ev_aload_n dX3_makePiece_139 rfl (by first | exact Or.inr ⟨_, rfl⟩ | exact rv_or _ | exact Or.inl rfl) ?_
            refine Ev_getA dX3_makePiece_140 fX3_19 k242_ tg2_ ?_
            refine Ev_aload_n dX3_makePiece_143 rfl (by first | exact Or.inr ⟨_, rfl⟩ | exact rv_or _ | exact Or.inl rfl) ?_
            refine Ev_getA dX3_makePiece_144 fX3_9 k242_ r252_ ?_
            refine Ev_iload dX3_makePiece_147 rfl ?_
            refine Ev_bipush (v := nI 6) dX3_makePiece_149 (by decide) ?_
            refine Ev_iload dX3_makePiece_151 rfl ?_
            refine Ev_isubN dX3_makePiece_153 (by omega) ?_
            rw [show 6 - (5 - lg (nuV m c it.2.1)) = (digs (nuV m c it.2.1)).length by rw [digs_len]; omega]
            refine Ev_Vz [.ref 25, .int (nI (5 - lg (nuV m c it.2.1))), .int (nI (digs (nuV m c it.2.1)).length)] dX3_makePiece_154 vX8_putMade kX3_99 kT_ rfl rfl rfl (Nat.le_of_ble_eq_true rfl) (by omega) (pd_) (fun v_ h1 e_ => ?_)
            obtain ⟨rfl, q_⟩ := e_
            refine Ev_vret dX3_makePiece_157 rfl ?_
            exact q_
          · exact absurd zb103_ (by decide)
        · exact absurd rfl zb91_
      · exact absurd zb65_ (by decide)
    · exact absurd zb41_ (by decide)
  · skip
    obtain ⟨rfl, rfl⟩ := ir0_.2 (by omega)
    have j1_ := ok_.2.1 (Or.inr (Or.inl hs_))
    have j2_ := ok_.2.2.1 hs_
    have nv1_ := (nuV_n mk hc_ j1_).2
    have nv2_ := (nuV_n mk hc_ j2_).2
    have em_ : mdF m c it = digs (nuV m c it.2.1 + nuV m c it.2.2.1) := by unfold mdF; rw [if_neg (by omega), if_neg (by omega), if_neg (by omega), if_pos hs_]
    refine Ev_iload dX3_makePiece_39 rfl ?_
    refine Ev_if_neT 62 dX3_makePiece_41 (by decide) (fun zb41_ => ?_) (fun zb41_ => ?_)
    · refine Ev_iload dX3_makePiece_62 rfl ?_
      refine Ev_iconst (v := nI 1) dX3_makePiece_64 (by decide) ?_
      refine Ev_icmp_neN 88 dX3_makePiece_65 (by decide) (by omega) (by omega) (fun zb65_ => ?_) (fun zb65_ => ?_)
      · refine Ev_iload dX3_makePiece_88 rfl ?_
        refine Ev_iconst (v := nI 2) dX3_makePiece_90 (by decide) ?_
        refine Ev_icmp_eqN 100 dX3_makePiece_91 (by decide) (by omega) (by omega) (fun zb91_ => ?_) (fun zb91_ => ?_)
        · exact absurd zb91_ (by decide)
        · refine Ev_iload dX3_makePiece_94 rfl ?_
          refine Ev_iconst (v := nI 3) dX3_makePiece_96 (by decide) ?_
          refine Ev_icmp_neN 157 dX3_makePiece_97 (by decide) (by omega) (by omega) (fun zb97_ => ?_) (fun zb97_ => ?_)
          · exact absurd zb97_ (by decide)
          · refine Ev_iload dX3_makePiece_100 rfl ?_
            refine Ev_iconst (v := nI 3) dX3_makePiece_102 (by decide) ?_
            refine Ev_icmp_neN 118 dX3_makePiece_103 (by decide) (by omega) (by omega) (fun zb103_ => ?_) (fun zb103_ => ?_)
            · exact absurd zb103_ (by decide)
            · refine Ev_aload_n dX3_makePiece_106 rfl (by first | exact Or.inr ⟨_, rfl⟩ | exact rv_or _ | exact Or.inl rfl) ?_
              refine Ev_getA dX3_makePiece_107 fX3_71 t1_.1.1 t1_.1.2.2.2.2.2.2.1 ?_
              refine Ev_iload dX3_makePiece_110 rfl ?_
              refine Ev_SN0 [.ref (wN g c), .int (nI it.2.2.1)] dX3_makePiece_112 sX10_elementOf kX3_77 rfl rfl rfl (Nat.le_of_ble_eq_true rfl) (by omega) (ec_elementIn l G (wN g c) it.2.2.1 (nI (nuV m c it.2.2.1)) h t1_.2.1.1 (by rw [t1_.2.1.2.1]; omega) (by rw [t1_.2.1.2.1]; omega) ((l1_ it.2.2.1 (by omega)).trans (nuV_n mk hc_ (by omega)).1)) ?_
              refine Ev_goto 119 dX3_makePiece_115 (by decide) ?_
              refine Ev_istore dX3_makePiece_119 (by decide) ?_
              refine Ev_aload_n dX3_makePiece_121 rfl (by first | exact Or.inr ⟨_, rfl⟩ | exact rv_or _ | exact Or.inl rfl) ?_
              refine Ev_aload_n dX3_makePiece_122 rfl (by first | exact Or.inr ⟨_, rfl⟩ | exact rv_or _ | exact Or.inl rfl) ?_
              refine Ev_getA dX3_makePiece_123 fX3_71 t1_.1.1 t1_.1.2.2.2.2.2.2.1 ?_
              refine Ev_iload dX3_makePiece_126 rfl ?_
              refine Ev_SN0 [.ref (wN g c), .int (nI it.2.1)] dX3_makePiece_128 sX10_elementOf kX3_77 rfl rfl rfl (Nat.le_of_ble_eq_true rfl) (by omega) (ec_elementIn l G (wN g c) it.2.1 (nI (nuV m c it.2.1)) h t1_.2.1.1 (by rw [t1_.2.1.2.1]; omega) (by rw [t1_.2.1.2.1]; omega) ((l1_ it.2.1 (by omega)).trans (nuV_n mk hc_ (by omega)).1)) ?_
              refine Ev_iload dX3_makePiece_131 rfl ?_
              refine Ev_iaddN dX3_makePiece_133 ?_
              refine Ev_Vz [.int (nI (nuV m c it.2.1 + nuV m c it.2.2.1))] dX3_makePiece_134 vX3_spell kX3_106 k24_ rfl rfl rfl (Nat.le_of_ble_eq_true rfl) (by omega) (ec_spell l G (nuV m c it.2.1 + nuV m c it.2.2.1) (by have := nv1_; have := nv2_; omega) h cf) (fun v_ h2_ e_ => ?_)
              obtain ⟨rfl, fo2_, dg2_⟩ := e_
              have lg5_ := lg_le (nuV m c it.2.1 + nuV m c it.2.2.1)
              have k242_ : hK h2_ 24 = 4 := (fo2_.2 24 (by omega)).1.trans k24_
              have s24_ := (fo2_.2 24 (by omega)).2.2 (by omega)
              have tg2_ : hR h2_ 258 24 = some T := (s24_.2.2 _).2.trans tg_
              have r252_ : hR h2_ 256 24 = some 25 := (s24_.2.2 _).2.trans (cr_256_24 cf)
              have kT_ : hK h2_ T = 9 := (fo2_.2 T (by omega)).1.trans kT_
              have k252_ : hK h2_ 25 = 13 := (fo2_.2 25 (by omega)).1.trans (ck_25 cf)
              have l252_ : hL h2_ 25 = 6 := (fo2_.2 25 (by omega)).2.1.trans (cl_25 cf)
              have pd_ := kP_ 25 (5 - lg (nuV m c it.2.1 + nuV m c it.2.2.1)) h2_ fo2_ k252_ (by rw [l252_, em_, digs_len]; omega) (by rw [l252_]; omega) (fun k hk => by rw [em_] at hk ⊢; rw [digs_len] at hk; exact dg2_ k (by omega))
              rw [em_] at pd_
              refine Ev_istore dX3_makePiece_137 (by decide) ?_
              refine Ev_aload_n dX3_makePiece_139 rfl (by first | exact Or.inr ⟨_, rfl⟩ | exact rv_or _ | exact Or.inl rfl) ?_
              refine Ev_getA dX3_makePiece_140 fX3_19 k242_ tg2_ ?_
              refine Ev_aload_n dX3_makePiece_143 rfl (by first | exact Or.inr ⟨_, rfl⟩ | exact rv_or _ | exact Or.inl rfl) ?_
              refine Ev_getA dX3_makePiece_144 fX3_9 k242_ r252_ ?_
              refine Ev_iload dX3_makePiece_147 rfl ?_
              refine Ev_bipush (v := nI 6) dX3_makePiece_149 (by decide) ?_
              refine Ev_iload dX3_makePiece_151 rfl ?_
              refine Ev_isubN dX3_makePiece_153 (by omega) ?_
              rw [show 6 - (5 - lg (nuV m c it.2.1 + nuV m c it.2.2.1)) = (digs (nuV m c it.2.1 + nuV m c it.2.2.1)).length by rw [digs_len]; omega]
              refine Ev_Vz [.ref 25, .int (nI (5 - lg (nuV m c it.2.1 + nuV m c it.2.2.1))), .int (nI (digs (nuV m c it.2.1 + nuV m c it.2.2.1)).length)] dX3_makePiece_154 vX8_putMade kX3_99 kT_ rfl rfl rfl (Nat.le_of_ble_eq_true rfl) (by omega) (pd_) (fun v_ h1 e_ => ?_)
              obtain ⟨rfl, q_⟩ := e_
              refine Ev_vret dX3_makePiece_157 rfl ?_
              exact q_
      · exact absurd zb65_ (by decide)
    · exact absurd zb41_ (by decide)
  · skip
    refine Ev_iload dX3_makePiece_39 rfl ?_
    refine Ev_if_neT 62 dX3_makePiece_41 (by decide) (fun zb41_ => ?_) (fun zb41_ => ?_)
    · refine Ev_iload dX3_makePiece_62 rfl ?_
      refine Ev_iconst (v := nI 1) dX3_makePiece_64 (by decide) ?_
      refine Ev_icmp_neN 88 dX3_makePiece_65 (by decide) (by omega) (by omega) (fun zb65_ => ?_) (fun zb65_ => ?_)
      · refine Ev_iload dX3_makePiece_88 rfl ?_
        refine Ev_iconst (v := nI 2) dX3_makePiece_90 (by decide) ?_
        refine Ev_icmp_eqN 100 dX3_makePiece_91 (by decide) (by omega) (by omega) (fun zb91_ => ?_) (fun zb91_ => ?_)
        · exact absurd zb91_ (by decide)
        · refine Ev_iload dX3_makePiece_94 rfl ?_
          refine Ev_iconst (v := nI 3) dX3_makePiece_96 (by decide) ?_
          refine Ev_icmp_neN 157 dX3_makePiece_97 (by decide) (by omega) (by omega) (fun zb97_ => ?_) (fun zb97_ => ?_)
          · refine Ev_vret dX3_makePiece_157 rfl ?_
            exact k4_ hs_
          · exact absurd zb97_ (by decide)
      · exact absurd zb65_ (by decide)
    · exact absurd zb41_ (by decide)

