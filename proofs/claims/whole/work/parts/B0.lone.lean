/-! texts and lone texts change: the rest of the class stays -/
def STx (tg : Nat × Nat) : Prop := tg.1 = 4 ∨ tg.1 = 5 ∨ tg.1 = 6 ∨ (tg.1 = 9 ∧ tg.2 ∈ [3, 18, 19, 20, 21, 22, 23, 24, 25, 26, 27, 1])
theorem STx.no {a b : Nat} (h1 : a ≠ 4) (h2 : a ≠ 5) (h3 : a ≠ 6) (h4 : ¬ (a = 9 ∧ b ∈ [3, 18, 19, 20, 21, 22, 23, 24, 25, 26, 27, 1])) : ¬ STx (a, b) := by
  rintro (h | h | h | h)
  · exact h1 h
  · exact h2 h
  · exact h3 h
  · exact h4 h
theorem CS.text {g : Gh} {tp : List Int32} {m : Md} {ru : Nat → List It} {fa : Int32 × Int32} {ps ps' : List Pc} {ln ln' : List (List Int32 × Nat × Nat)} {fl fl' : Nat} {ow' : Ow} {h h' : aH} (cs : CS g tp m ru fa ps ln fl h) (hv : Hv h) (f : FS g STx h h') (e : OwX g ow' h) (hr : ∀ q ∈ cfR, hR h' q.1 q.2.1 = hR h q.1 q.2.1) (h7 : hR h' 709 3 = hR h 709 3) (tx : ∃ T T', ((T = 18 ∧ T' = 21) ∨ (T = 21 ∧ T' = 18)) ∧ hR h' 710 3 = some T ∧ hR h' 711 3 = some T' ∧ CTx (gw g ow') T ps' h' ∧ JK (gw g ow') T' h') (cl : CLn (gw g ow') ln' fl' h') : CS (gw g ow') tp m ru fa ps' ln' fl' h' ∧ FX h h' := by
  obtain ⟨⟨n63, cf, wf⟩, ct, cm, cr, ca, -, -⟩ := cs
  have n0 : ¬ STx (0, 0) := STx.no (by decide) (by decide) (by decide) (by decide)
  have wf2 : OwF (wO (gw g ow')) := ⟨fun a ha => (e a (by have : a ≤ 27 := (by revert ha; revert a; decide); omega)).trans (wf.1 a ha), fun a h1 h2 => (e a (by omega)).trans (wf.2 a h1 h2)⟩
  refine ⟨⟨⟨by have := f.1; omega, cf.fo hv f wf hr, wf2⟩, ct.fs wf cf hv f (STx.no (by decide) (by decide) (by decide) (by decide)) (STx.no (by decide) (by decide) (by decide) (by decide)), cm.fo cf wf f hv e (fun tg ht => ?_), cr.fo cf wf f hv e n0 (STx.no (by decide) (by decide) (by decide) (by decide)), ca.fo f hv e n0 h7, tx, cl⟩, FX.of f wf n63 (fun a => STx.no (by decide) (by decide) (by decide) (fun z => by have := z.1; omega))⟩
  obtain ⟨a, b⟩ := tg
  rcases ht with z | z | z | z | z | z
  all_goals first
    | (have z2 : a = 0 := z; subst z2; exact STx.no (by decide) (by decide) (by decide) (fun z => by have := z.1; omega))
    | (have z2 : a = 1 := z; subst z2; exact STx.no (by decide) (by decide) (by decide) (fun z => by have := z.1; omega))
    | (have z2 : a = 2 := z; subst z2; exact STx.no (by decide) (by decide) (by decide) (fun z => by have := z.1; omega))
    | (have z2 : a = 3 := z; subst z2; exact STx.no (by decide) (by decide) (by decide) (fun z => by have := z.1; omega))
    | (have z2 : a = 10 := z; subst z2; exact STx.no (by decide) (by decide) (by decide) (fun z => by have := z.1; omega))
    | (have key : ∀ q ∈ [((9 : Nat), (6 : Nat)), (9, 7), (9, 10), (9, 11)], q.1 ≠ 4 ∧ q.1 ≠ 5 ∧ q.1 ≠ 6 ∧ ¬ (q.1 = 9 ∧ q.2 ∈ [3, 18, 19, 20, 21, 22, 23, 24, 25, 26, 27, 1]) := by decide
       have k := key _ z
       exact STx.no k.1 k.2.1 k.2.2.1 k.2.2.2)
def SLn (tg : Nat × Nat) : Prop := tg = (6, 0) ∨ tg = (9, 27) ∨ tg = (9, 1) ∨ tg = (9, 26)
theorem SLn.no {a b : Nat} (h : (a, b) ∉ [(6, 0), (9, 27), (9, 1), (9, 26)]) : ¬ SLn (a, b) := by
  rintro (z | z | z | z) <;> exact h (by rw [z]; simp)
/-- only the lone texts change -/
theorem CS.lones {g : Gh} {tp : List Int32} {m : Md} {ru : Nat → List It} {fa : Int32 × Int32} {ps : List Pc} {ln ln' : List (List Int32 × Nat × Nat)} {fl fl' : Nat} {ow' : Ow} {h h' : aH} (cs : CS g tp m ru fa ps ln fl h) (hv : Hv h) (f : FS g SLn h h') (e : OwX g ow' h) (hr : hR h' 192 26 = hR h 192 26) (cl : CLn (gw g ow') ln' fl' h') : CS (gw g ow') tp m ru fa ps ln' fl' h' ∧ FX h h' := by
  have n63 := cs.1.1
  have cf := cs.1.2.1
  have wf := cs.1.2.2
  obtain ⟨T, T', hT, q1, q2, tx, jk⟩ := cs.2.2.2.2.2.1
  have nt : ∀ a, a ∈ [3, 4, 6, 7, 18, 19, 20, 21, 22, 23, 24] → ¬ SLn (9, a) := by
    intro a ha
    refine SLn.no ?_
    revert a; decide
  have sm : ∀ a ∈ [3, 4, 6, 7, 18, 19, 20, 21, 22, 23, 24], Sm a h h' := fun a ha => (f.2 a (by have : a ≤ 27 := (by clear nt; revert ha; revert a; decide); omega)).2.2 (by show ¬ SLn (wO g a); rw [wf.1 a (by clear nt; revert ha; revert a; decide)]; exact nt a ha)
  have n0 : ¬ SLn (0, 0) := SLn.no (by decide)
  refine cs.text hv (f.mo (fun b _ z => ?_)) e (fun q hq => ?_) ((sm 3 (by decide)).2.2 _).2 ⟨T, T', hT, ((sm 3 (by decide)).2.2 _).2.trans q1, ((sm 3 (by decide)).2.2 _).2.trans q2, ?_, ?_⟩ cl
  · rcases z with z | z | z | z
    · exact Or.inr (Or.inr (Or.inl (congrArg Prod.fst z)))
    all_goals (refine Or.inr (Or.inr (Or.inr ?_)); rw [z]; decide)
  · have key : ∀ q ∈ cfR, (q.1 = 192 ∧ q.2.1 = 26) ∨ q.2.1 ∈ [3, 4, 6, 7, 18, 19, 20, 21, 22, 23, 24] := by decide
    rcases key q hq with z | z
    · rw [z.1, z.2]; exact hr
    · exact ((sm _ z).2.2 _).2
  · have hT2 : T ∈ [3, 4, 6, 7, 18, 19, 20, 21, 22, 23, 24] ∧ T + 1 ∈ [3, 4, 6, 7, 18, 19, 20, 21, 22, 23, 24] ∧ T + 2 ∈ [3, 4, 6, 7, 18, 19, 20, 21, 22, 23, 24] := by
      rcases hT with ⟨rfl, -⟩ | ⟨rfl, -⟩ <;> decide
    refine tx.fo f hv e n0 (fun k => ?_) (sm _ hT2.2.1).2.1 ((sm _ hT2.1).2.2 _).1 (sm _ hT2.2.2).1
    unfold tTg
    split <;> exact SLn.no (by simp)
  · have hT2 : T' + 1 ∈ [3, 4, 6, 7, 18, 19, 20, 21, 22, 23, 24] := by
      rcases hT with ⟨-, rfl⟩ | ⟨-, rfl⟩ <;> decide
    exact jk.fo f hv e (sm _ hT2).2.1
theorem ec_lnAt (l : Launch) (G : aG) (v : Int32) (xs : List Nat) (h : aH) (cf : Cf h) (ax : AX 27 xs 2 h) : Ev l G 3 0 0 mX2_at 0 (en 2 [.ref 26, .int v]) [] h (Ex (some (rv (if 0 ≤ v.toInt ∧ v.toInt < xs.length then xs[v.toInt.toNat]? else none))) h) := by
  have n40_ := ax.1.2.2.1
  refine Ev_iload_n dX2_at_0 rfl ?_
  refine Ev_if_ltT 29 dX2_at_1 (by decide) (fun zb1_ => ?_) (fun zb1_ => ?_)
  · refine Ev_null dX2_at_29 ?_
    refine Ev_aret dX2_at_30 rfl (Or.inl ⟨_, rfl⟩) (by first | exact Or.inr ⟨_, rfl⟩ | exact rv_or _ | exact Or.inl rfl) ?_
    refine ⟨?_, rfl⟩
    first
    | (rw [hi_n (by omega), if_pos ⟨by omega, by omega⟩, Int.toNat_natCast, hx_]; rfl)
    | (rw [if_neg (by omega)]; rfl)
  · refine Ev_iload_n dX2_at_4 rfl ?_
    refine Ev_aload_n dX2_at_5 rfl (by first | exact Or.inr ⟨_, rfl⟩ | exact rv_or _ | exact Or.inl rfl) ?_
    refine Ev_getA dX2_at_6 fX2_12 (ck_26 cf) (cr_192_26 cf) ?_
    refine Ev_V0 [] dX2_at_9 vJx4a65c_size_8abf5 kX2_18 (ck_27 cf) rfl rfl rfl (Nat.le_of_ble_eq_true rfl) (by omega) (ej_size l G 27 xs 2 h ax.1) ?_
    refine Ev_icmp_geT 29 dX2_at_12 (by decide) (fun zb12_ => ?_) (fun zb12_ => ?_)
    · rw [hi_n (by omega)] at zb12_
      refine Ev_null dX2_at_29 ?_
      refine Ev_aret dX2_at_30 rfl (Or.inl ⟨_, rfl⟩) (by first | exact Or.inr ⟨_, rfl⟩ | exact rv_or _ | exact Or.inl rfl) ?_
      refine ⟨?_, rfl⟩
      first
      | (rw [hi_n (by omega), if_pos ⟨by omega, by omega⟩, Int.toNat_natCast, hx_]; rfl)
      | (rw [if_neg (by omega)]; rfl)
    · rw [hi_n (by omega)] at zb12_
      obtain ⟨k, hk_, rfl⟩ := as_nI (n := 40) (x := v) (by omega) (by omega)
      rw [hi_n (by omega)] at zb12_
      obtain ⟨x, hx_⟩ : ∃ x, xs[k]? = some x := ⟨_, List.getElem?_eq_getElem (by omega)⟩
      have kx_ := ax.1.2.2.2.1 x (List.mem_of_getElem? hx_)
      refine Ev_aload_n dX2_at_15 rfl (by first | exact Or.inr ⟨_, rfl⟩ | exact rv_or _ | exact Or.inl rfl) ?_
      refine Ev_getA dX2_at_16 fX2_12 (ck_26 cf) (cr_192_26 cf) ?_
      refine Ev_iload_n dX2_at_19 rfl ?_
      refine Ev_V0 [.int (nI k)] dX2_at_20 vJx4a65c_get_915e3 kX2_22 (ck_27 cf) rfl rfl rfl (Nat.le_of_ble_eq_true rfl) (by omega) (ej_get l G 27 k x xs 2 h ax.1 hx_) ?_
      refine Ev_cast dX2_at_23 kx_ rfl qX2_26 ?_
      refine Ev_goto 30 dX2_at_26 (by decide) ?_
      refine Ev_aret dX2_at_30 rfl (Or.inl ⟨_, rfl⟩) (by first | exact Or.inr ⟨_, rfl⟩ | exact rv_or _ | exact Or.inl rfl) ?_
      refine ⟨?_, rfl⟩
      first
      | (rw [hi_n (by omega), if_pos ⟨by omega, by omega⟩, Int.toNat_natCast, hx_]; rfl)
      | (rw [if_neg (by omega)]; rfl)
def lonF (ln : List (List Int32 × Nat × Nat)) (v w i : Int32) : Int32 := if 0 ≤ v.toInt ∧ v.toInt < ln.length then loF (ln.getD v.toInt.toNat ([], 0, 0)) w.toInt i.toInt else -1
theorem ec_lone (l : Launch) (G : aG) (l_ wh i_ : Int32) (g : Gh) (tp : List Int32) (m : Md) (ru : Nat → List It) (fa : Int32 × Int32) (ps : List Pc) (ln : List (List Int32 × Nat × Nat)) (fl : Nat) (h : aH) (cs : CS g tp m ru fa ps ln fl h) : Ev l G 4 0 0 mX10_lone 0 (en 5 [.ref 3, .int l_, .int wh, .int i_]) [] h (Ex (some (.int (lonF ln l_ wh i_))) h) := by
  have cf := cs.1.2.1
  obtain ⟨xs_, cl_⟩ := cs.2.2.2.2.2.2
  have n40_ := cl_.2.2.1
  by_cases zi_ : 0 ≤ l_.toInt ∧ l_.toInt < ln.length
  · obtain ⟨k, hk_, rfl⟩ := as_nI (n := 40) (x := l_) (by omega) (by omega)
    rw [hi_n (by omega)] at zi_
    obtain ⟨q, hq_⟩ : ∃ q, ln[k]? = some q := ⟨_, List.getElem?_eq_getElem (by omega)⟩
    have eq_ : ln.getD k ([], 0, 0) = q := by rw [List.getD_eq_getElem?_getD, hq_]; rfl
    have el_ := cl_.2.1
    obtain ⟨a_, b1_, b2_, b3_, b4_, b5_, b6_, r_, b7_, b8_⟩ := cl_.2.2.2.1 k q hq_
    refine Ev_aload_n dX10_lone_0 rfl (by first | exact Or.inr ⟨_, rfl⟩ | exact rv_or _ | exact Or.inl rfl) ?_
    refine Ev_getA dX10_lone_1 fX10_54 (ck_3 cf) (cr_708_3 cf) ?_
    refine Ev_iload_n dX10_lone_4 rfl ?_
    refine Ev_V0 [.int (nI k)] dX10_lone_5 vX2_at kX10_242 (ck_26 cf) rfl rfl rfl (Nat.le_of_ble_eq_true rfl) (by omega) (ec_lnAt l G (nI k) xs_ h cf cl_.1.1) ?_
    rw [hi_n (by omega), if_pos ⟨by omega, by omega⟩, Int.toNat_natCast, b1_]
    refine Ev_top (y := .ref a_) rfl ?_
    refine Ev_astore dX10_lone_8 (by decide) (by first | exact Or.inr ⟨_, rfl⟩ | exact rv_or _ | exact Or.inl rfl) ?_
    refine Ev_aload dX10_lone_10 rfl (by first | exact Or.inr ⟨_, rfl⟩ | exact rv_or _ | exact Or.inl rfl) ?_
    refine Ev_ifnonnull (o := some (a_)) 17 dX10_lone_12 (by decide) (fun a_ z_ => ?_) (fun z_ => by cases z_)
    refine Ev_iload_n dX10_lone_17 rfl ?_
    by_cases zs_ : wh.toInt < 0 ∨ 3 < wh.toInt
    · refine Ev_tableOut 77 dX10_lone_18 zs_ (by decide) ?_
      refine Ev_iconst (v := -1) dX10_lone_77 (by decide) ?_
      refine Ev_iret dX10_lone_78 rfl ?_
      refine ⟨?_, rfl⟩
      unfold lonF
      rw [hi_n (by omega), if_pos ⟨by omega, by omega⟩, Int.toNat_natCast, eq_]
      unfold loF
      rw [if_neg (by omega), if_neg (by omega), if_neg (by omega), if_neg (by omega)]
    · rcases (show wh.toInt = 0 ∨ wh.toInt = 1 ∨ wh.toInt = 2 ∨ wh.toInt = 3 by omega) with zw_ | zw_ | zw_ | zw_
      · refine Ev_tableIn (off := 30) 48 dX10_lone_18 (by rw [zw_]; decide) (by rw [zw_]; decide) (by rw [zw_]; rfl) (by decide) ?_
        refine Ev_aload dX10_lone_48 rfl (by first | exact Or.inr ⟨_, rfl⟩ | exact rv_or _ | exact Or.inl rfl) ?_
        refine Ev_getA dX10_lone_50 fX10_245 b3_ b7_ ?_
        refine Ev_iload_n dX10_lone_53 rfl ?_
        refine Ev_S0 [.ref r_, .int i_] dX10_lone_54 sX10_elementOf kX10_195 rfl rfl rfl (Nat.le_of_ble_eq_true rfl) (by omega) (ec_elementOf l G r_ q.1 i_ h b8_.1 b8_.2.1 b8_.2.2.2 (by omega)) ?_
        refine Ev_iret dX10_lone_57 rfl ?_
        refine ⟨?_, rfl⟩
        unfold lonF
        rw [hi_n (by omega), if_pos ⟨by omega, by omega⟩, Int.toNat_natCast, eq_]
        rw [zw_]
        unfold loF
        rw [if_pos rfl]
        unfold elO
        rfl
      · refine Ev_tableIn (off := 40) 58 dX10_lone_18 (by rw [zw_]; decide) (by rw [zw_]; decide) (by rw [zw_]; rfl) (by decide) ?_
        refine Ev_aload dX10_lone_58 rfl (by first | exact Or.inr ⟨_, rfl⟩ | exact rv_or _ | exact Or.inl rfl) ?_
        refine Ev_getE dX10_lone_60 fX10_248 b3_ b5_ ?_
        refine Ev_iret dX10_lone_63 rfl ?_
        refine ⟨?_, rfl⟩
        unfold lonF
        rw [hi_n (by omega), if_pos ⟨by omega, by omega⟩, Int.toNat_natCast, eq_]
        rw [zw_]
        unfold loF
        rw [if_neg (by decide), if_pos rfl]
      · refine Ev_tableIn (off := 46) 64 dX10_lone_18 (by rw [zw_]; decide) (by rw [zw_]; decide) (by rw [zw_]; rfl) (by decide) ?_
        refine Ev_aload dX10_lone_64 rfl (by first | exact Or.inr ⟨_, rfl⟩ | exact rv_or _ | exact Or.inl rfl) ?_
        refine Ev_getE dX10_lone_66 fX10_249 b3_ b6_ ?_
        refine Ev_iret dX10_lone_69 rfl ?_
        refine ⟨?_, rfl⟩
        unfold lonF
        rw [hi_n (by omega), if_pos ⟨by omega, by omega⟩, Int.toNat_natCast, eq_]
        rw [zw_]
        unfold loF
        rw [if_neg (by decide), if_neg (by decide), if_pos rfl]
      · refine Ev_tableIn (off := 52) 70 dX10_lone_18 (by rw [zw_]; decide) (by rw [zw_]; decide) (by rw [zw_]; rfl) (by decide) ?_
        refine Ev_aload dX10_lone_70 rfl (by first | exact Or.inr ⟨_, rfl⟩ | exact rv_or _ | exact Or.inl rfl) ?_
        refine Ev_getA dX10_lone_72 fX10_245 b3_ b7_ ?_
        refine Ev_alen dX10_lone_75 b8_.1 (by omega) (by omega) ?_
        rw [b8_.2.1]
        refine Ev_iret dX10_lone_76 rfl ?_
        refine ⟨?_, rfl⟩
        unfold lonF
        rw [hi_n (by omega), if_pos ⟨by omega, by omega⟩, Int.toNat_natCast, eq_]
        rw [zw_]
        unfold loF
        rw [if_neg (by decide), if_neg (by decide), if_neg (by decide), if_pos rfl]
  · skip
    refine Ev_aload_n dX10_lone_0 rfl (by first | exact Or.inr ⟨_, rfl⟩ | exact rv_or _ | exact Or.inl rfl) ?_
    refine Ev_getA dX10_lone_1 fX10_54 (ck_3 cf) (cr_708_3 cf) ?_
    refine Ev_iload_n dX10_lone_4 rfl ?_
    refine Ev_V0 [.int l_] dX10_lone_5 vX2_at kX10_242 (ck_26 cf) rfl rfl rfl (Nat.le_of_ble_eq_true rfl) (by omega) (ec_lnAt l G l_ xs_ h cf cl_.1.1) ?_
    rw [if_neg (by rw [cl_.2.1]; exact zi_)]
    refine Ev_astore dX10_lone_8 (by decide) (by first | exact Or.inr ⟨_, rfl⟩ | exact rv_or _ | exact Or.inl rfl) ?_
    refine Ev_aload dX10_lone_10 rfl (by first | exact Or.inr ⟨_, rfl⟩ | exact rv_or _ | exact Or.inl rfl) ?_
    refine Ev_ifnonnull (o := none) 17 dX10_lone_12 (by decide) (fun a_ z_ => by cases z_) (fun _ => ?_)
    refine Ev_iconst (v := -1) dX10_lone_15 (by decide) ?_
    refine Ev_iret dX10_lone_16 rfl ?_
    exact ⟨by unfold lonF; rw [if_neg zi_], rfl⟩
theorem lkd2_ : lkd 2 := lkd_2
theorem ec_lnRemove (l : Launch) (G : aG) (v : Int32) (xs : List Nat) (h : aH) (cf : Cf h) (ax : AX 27 xs 2 h) : Ev l G 3 0 0 mX2_remove 0 (en 2 [.ref 26, .int v]) [] h (fun x h' => (¬ (0 ≤ v.toInt ∧ v.toInt < xs.length) ∧ x = some (.int (nI 0)) ∧ h' = h) ∨ (∃ k, k < xs.length ∧ v = nI k ∧ x = some (.int (nI 1)) ∧ LrA 27 k xs 2 h h')) := by
  have n40_ := ax.1.2.2.1
  refine Ev_iload_n dX2_remove_0 rfl ?_
  refine Ev_if_ltT 15 dX2_remove_1 (by decide) (fun zb1_ => ?_) (fun zb1_ => ?_)
  · refine Ev_iconst (v := nI 0) dX2_remove_15 (by decide) ?_
    refine Ev_zret dX2_remove_16 rfl (by decide) ?_
    exact Or.inl ⟨by omega, rfl, rfl⟩
  · refine Ev_iload_n dX2_remove_4 rfl ?_
    refine Ev_aload_n dX2_remove_5 rfl (by first | exact Or.inr ⟨_, rfl⟩ | exact rv_or _ | exact Or.inl rfl) ?_
    refine Ev_getA dX2_remove_6 fX2_12 (ck_26 cf) (cr_192_26 cf) ?_
    refine Ev_V0 [] dX2_remove_9 vJx4a65c_size_8abf5 kX2_18 (ck_27 cf) rfl rfl rfl (Nat.le_of_ble_eq_true rfl) (by omega) (ej_size l G 27 xs 2 h ax.1) ?_
    refine Ev_icmp_ltT 17 dX2_remove_12 (by decide) (fun zb12_ => ?_) (fun zb12_ => ?_)
    · rw [hi_n (by omega)] at zb12_
      obtain ⟨k, hk_, rfl⟩ := as_nI (n := 40) (x := v) (by omega) (by omega)
      rw [hi_n (by omega)] at zb12_
      refine Ev_aload_n dX2_remove_17 rfl (by first | exact Or.inr ⟨_, rfl⟩ | exact rv_or _ | exact Or.inl rfl) ?_
      refine Ev_getA dX2_remove_18 fX2_12 (ck_26 cf) (cr_192_26 cf) ?_
      refine Ev_iload_n dX2_remove_21 rfl ?_
      refine Ev_Vz [.int (nI k)] dX2_remove_22 vJx4a65c_remove_915e3 kX2_67 (ck_27 cf) rfl rfl rfl (Nat.le_of_ble_eq_true rfl) (by omega) (ej_remove l G 27 k xs 2 h ax lkd2_ (by omega)) (fun v_ h1 e_ => ?_)
      obtain ⟨⟨x_, rfl⟩, lr_⟩ := e_
      refine Ev_pop dX2_remove_25 (by first | rfl | exact okv_rv _) ?_
      refine Ev_iconst (v := nI 1) dX2_remove_26 (by decide) ?_
      refine Ev_zret dX2_remove_27 rfl (by decide) ?_
      exact Or.inr ⟨k, by omega, rfl, rfl, lr_⟩
    · rw [hi_n (by omega)] at zb12_
      refine Ev_iconst (v := nI 0) dX2_remove_15 (by decide) ?_
      refine Ev_zret dX2_remove_16 rfl (by decide) ?_
      exact Or.inl ⟨by omega, rfl, rfl⟩
def SLs27 (tg : Nat × Nat) : Prop := tg = (6, 0) ∨ tg = (9, 27) ∨ tg = (9, 1)
theorem ls_fs {g : Gh} {xs : List Nat} {h h' : aH} (c : CLs (wO g) 27 xs 2 (6, 0) h) (wf : OwF (wO g)) (f : FO (LsC 27 h) h h') : FS g SLs27 h h' := f.mo (fun b _ z => by
  rcases z with rfl | z
  · exact Or.inr (Or.inl (wf.1 27 (by decide)))
  · rcases c.2.1 b z with rfl | z2
    · exact Or.inr (Or.inr (wf.1 1 (by decide)))
    · exact Or.inl z2)
theorem ec_drops (l : Launch) (G : aG) (l_ : Int32) (g : Gh) (tp : List Int32) (m : Md) (ru : Nat → List It) (fa : Int32 × Int32) (ps : List Pc) (ln : List (List Int32 × Nat × Nat)) (fl : Nat) (h : aH) (cs : CS g tp m ru fa ps ln fl h) : Ev l G 4 0 0 mX10_drops 0 (en 2 [.ref 3, .int l_]) [] h (fun x h' => (¬ (0 ≤ l_.toInt ∧ l_.toInt < ln.length) ∧ x = some (.int (nI 0)) ∧ h' = h) ∨ (∃ k, k < ln.length ∧ l_ = nI k ∧ x = some (.int (nI 1)) ∧ ∃ g', CS g' tp m ru fa ps (ln.eraseIdx k) fl h' ∧ FX h h')) := by
  have cf := cs.1.2.1
  have wf := cs.1.2.2
  obtain ⟨xs_, cl_⟩ := cs.2.2.2.2.2.2
  refine Ev_hv (fun hv => ?_)
  refine Ev_aload_n dX10_drops_0 rfl (by first | exact Or.inr ⟨_, rfl⟩ | exact rv_or _ | exact Or.inl rfl) ?_
  refine Ev_getA dX10_drops_1 fX10_54 (ck_3 cf) (cr_708_3 cf) ?_
  refine Ev_iload_n dX10_drops_4 rfl ?_
  refine Ev_Vz [.int l_] dX10_drops_5 vX2_remove kX10_250 (ck_26 cf) rfl rfl rfl (Nat.le_of_ble_eq_true rfl) (by omega) (ec_lnRemove l G l_ xs_ h cf cl_.1.1) (fun v_ h1 e_ => ?_)
  rcases e_ with ⟨z_, rfl, e1_⟩ | ⟨k, hk_, rfl, rfl, lr_⟩
  · skip
    refine Ev_zret dX10_drops_8 rfl (by decide) ?_
    exact Or.inl ⟨by rw [← cl_.2.1]; exact z_, rfl, e1_⟩
  · skip
    refine Ev_zret dX10_drops_8 rfl (by decide) ?_
    refine Or.inr ⟨k, by rw [← cl_.2.1]; exact hk_, rfl, rfl, g, ?_⟩
    have lf_ := ls_fs cl_.1 wf lr_.2.1
    have s26_ := lf_.s hv (ck_26 cf) (by decide) (by show ¬ SLs27 (wO g 26); rw [wf.1 26 (by decide)]; exact (by unfold SLs27; simp))
    refine cs.lones hv (lf_.mo (fun b _ z => ?_)) (fun _ _ => rfl) (s26_.2.2 _).2 ⟨xs_.eraseIdx k, ⟨lr_.1, fun e2_ he2_ => cl_.1.2.1 e2_ (by rw [← lr_.2.2.1]; exact he2_), by decide⟩, ?_, ?_, fun i q hq => ?_, (s26_.2.2 _).1.trans cl_.2.2.2.2⟩
    · rcases z with z | z | z
      · exact Or.inl z
      · exact Or.inr (Or.inl z)
      · exact Or.inr (Or.inr (Or.inl z))
    · rw [List.length_eraseIdx, List.length_eraseIdx, cl_.2.1]
    · have l1_ := cl_.2.2.1
      rw [List.length_eraseIdx]; split <;> omega
    · rw [List.getElem?_eraseIdx] at hq
      have key : ∀ j, ln[j]? = some q → xs_[j]? = (xs_.eraseIdx k)[i]? → ∃ a : Nat, (xs_.eraseIdx k)[i]? = some a ∧ (q.1.length ≤ 60 ∧ q.2.1 ≤ 4 ∧ q.2.2 ≤ 19) ∧ hK h1 a = 2 ∧ wO g a = (0, 0) ∧ hI h1 129 a = nI q.2.1 ∧ hI h1 130 a = nI q.2.2 ∧ ∃ r, hR h1 128 a = some r ∧ IR (wO g) r q.1 h1 := fun j hj he => by
        obtain ⟨a, b1, b2, b3, b4, b5, b6, r, b7, b8⟩ := cl_.2.2.2.1 j q hj
        have sa := lf_.s hv b3 (by decide) (by show ¬ SLs27 (wO g a); rw [b4]; unfold SLs27; simp)
        exact ⟨a, by rw [← he]; exact b1, b2, lf_.k hv b3 (by decide), b4, (sa.2.2 _).1.trans b5, (sa.2.2 _).1.trans b6, r, (sa.2.2 _).2.trans b7, b8.fo lf_ hv (fun _ _ => rfl) (by unfold SLs27; simp)⟩
      split at hq
      · next z => exact key i hq (by rw [List.getElem?_eraseIdx, if_pos z])
      · next z => exact key (i + 1) hq (by rw [List.getElem?_eraseIdx, if_neg z])
