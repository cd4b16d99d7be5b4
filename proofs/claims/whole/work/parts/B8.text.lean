theorem CP1.fo {g : Gh} {ow' : Ow} {S : Nat × Nat → Prop} {T q : Nat} {p : Pc} {h h' : aH} (cp : CP1 g T q p h) (f : FS g S h h') (hv : Hv h) (e : OwX g ow' h) (d : ¬ S (0, 0)) (d2 : ¬ S (wO g q)) (ex : hX h' (T + 2) = hX h (T + 2)) : CP1 (gw g ow') T q p h' := by
  obtain ⟨⟨k6, il, l120⟩, ch, hbl, st, is, sl, xs⟩ := cp
  have s := f.s hv k6 (by decide) d2
  exact ⟨⟨f.k hv k6 (by decide), (s.2.2 _).1.trans il, l120⟩, ch.fo f hv e d (s.2.2 _).2, hbl, st, (s.2.2 _).1.trans is, sl, fun k hk => by rw [ex]; exact xs k hk⟩
/-- a hand's text is put onto a piece, or taken away -/
theorem CTx.setH {g : Gh} {T i q : Nat} {ps : List Pc} {p : Pc} {nb : Option (List Int32 × List Int32)} {v : Option Nat} {h : aH} (tx : CTx g T ps h) (hv : Hv h) (hp : ps[i]? = some p) (hy : hY h (T + 1) i = some q) (hb : ∀ x, nb = some x → x.1.length ≤ 60 ∧ x.2.length ≤ 120) (cd : CHd (wO g) nb q (sR h 391 q v)) : CTx g T (ps.set i (setH p nb)) (sR h 391 q v) := by
  obtain ⟨a1, a2, a3, a4, a5, a6⟩ := tx
  have t45 := tTg_45 T
  have hi := (List.getElem?_eq_some_iff.mp hp).1
  have jq := a1 i q (by omega) hy
  have f : FS g (fun tg => tg = (tTg T, i)) h (sR h 391 q v) := FO.sR jq.2
  refine ⟨a1, by rw [List.length_set]; exact a2, by rw [flat_set hp]; exact a3, by rw [List.length_set]; exact a4, fun j p' hp' => ?_, fun k hk => ?_⟩
  · rw [stt_set hp]
    by_cases z : j = i
    · subst z
      rw [List.getElem?_set_self hi] at hp'
      cases hp'
      obtain ⟨b, q', c1, c2⟩ := a5 j p hp
      have : q' = q := Option.some.inj (c1.symm.trans hy)
      subst this
      obtain ⟨⟨b1, b2, b3, b4, b5, b6, b7, b8, b9⟩, -⟩ := c2
      exact ⟨⟨b.1, b.2.1, b.2.2.1, b.2.2.2.1, b.2.2.2.2.1, b.2.2.2.2.2.1, b.2.2.2.2.2.2.1, b.2.2.2.2.2.2.2.1, b.2.2.2.2.2.2.2.2.1, b.2.2.2.2.2.2.2.2.2.1, b.2.2.2.2.2.2.2.2.2.2.1, hb⟩, q', c1, ⟨b1, b2, (hR_o _ _ (by decide)).trans b3, b4, b5, b6, b7, b8, b9⟩, cd⟩
    · rw [List.getElem?_set_ne (fun y => z y.symm)] at hp'
      obtain ⟨b, q', c1, c2⟩ := a5 j p' hp'
      refine ⟨b, q', c1, c2.fo f hv (fun _ _ => rfl) (fun y => ?_) (fun y => z (congrArg Prod.snd y))⟩
      have z3 : (0 : Nat) = tTg T := congrArg Prod.fst y
      omega
  · rw [flat_set hp] at hk ⊢
    exact a6 k hk
theorem CS.setH {g : Gh} {tp : List Int32} {m : Md} {ru : Nat → List It} {fa : Int32 × Int32} {ps : List Pc} {ln : List (List Int32 × Nat × Nat)} {fl : Nat} {h : aH} (cs : CS g tp m ru fa ps ln fl h) (hv : Hv h) {T i q : Nat} {p : Pc} {nb : Option (List Int32 × List Int32)} {v : Option Nat} (q1 : hR h 710 3 = some T) (hp : ps[i]? = some p) (hy : hY h (T + 1) i = some q) (hb : ∀ x, nb = some x → x.1.length ≤ 60 ∧ x.2.length ≤ 120) (cd : CHd (wO g) nb q (sR h 391 q v)) : CS g tp m ru fa (ps.set i (setH p nb)) ln fl (sR h 391 q v) ∧ FX h (sR h 391 q v) := by
  obtain ⟨T0, T', hT, q10, q2, tx, jk⟩ := cs.2.2.2.2.2.1
  have : T0 = T := Option.some.inj (q10.symm.trans q1)
  subst this
  have cf := cs.1.2.1
  have wf := cs.1.2.2
  have t45 := tTg_45 T0
  have hi := (List.getElem?_eq_some_iff.mp hp).1
  have jq := tx.1 i q (by have := tx.2.1; omega) hy
  have f : FS g (fun tg => tg = (tTg T0, i)) h (sR h 391 q v) := FO.sR jq.2
  have key : ∀ q ∈ cfR, q.1 ≠ 391 := by decide
  refine cs.text hv (f.mo (fun b _ z => ?_)) (fun _ _ => rfl) (fun q' hq' => hR_o _ _ (key q' hq')) (hR_o _ _ (by decide)) ⟨T0, T', hT, (hR_o _ _ (by decide)).trans q10, (hR_o _ _ (by decide)).trans q2, tx.setH hv hp hy hb cd, jk.fo f hv (fun _ _ => rfl) rfl⟩ (cs.2.2.2.2.2.2.fo cf wf f hv (fun _ _ => rfl) (fun tg ht z => ?_))
  · have z2 : (wO g b).1 = tTg T0 := congrArg Prod.fst z
    rcases t45 with y | y
    · exact Or.inl (by rw [z2]; exact y)
    · exact Or.inr (Or.inl (by rw [z2]; exact y))
  · have z2 : tg.1 = tTg T0 := congrArg Prod.fst z
    rcases ht with rfl | rfl | rfl | rfl
    · have z3 : (0 : Nat) = tTg T0 := z2
      omega
    · have z3 : (6 : Nat) = tTg T0 := z2
      omega
    · have z3 : (9 : Nat) = tTg T0 := z2
      omega
    · have z3 : (9 : Nat) = tTg T0 := z2
      omega
/-- only the tape changes, and there are new cells that will never change -/
theorem CS.tape {g : Gh} {tp : List Int32} {m : Md} {ru : Nat → List It} {fa : Int32 × Int32} {ps : List Pc} {ln : List (List Int32 × Nat × Nat)} {fl : Nat} {h : aH} (cs : CS g tp m ru fa ps ln fl h) (hv : Hv h) {tp' : List Int32} {h' : aH} (hps : ∀ p ∈ ps, pcC p < mCm m) (f : FO (fun b => b = 4) h h') (hr : ∀ k b, b < hN h + 3 → hR h' k b = hR h k b) (ct : CTp tp' h') : CS (gw g (ow5 g (hN h))) tp' m ru fa ps ln fl h' ∧ FX h h' := by
  have n63 := cs.1.1
  have cf := cs.1.2.1
  have wf := cs.1.2.2
  have w4 : wO g 4 = (9, 4) := wf.1 4 (by decide)
  have e : OwX g (ow5 g (hN h)) h := fun b hb => ow5_o hb
  refine cs.model (g2 := gw g (ow5 g (hN h))) hv (f.mo (fun b _ z => ?_)) e (fun _ _ => rfl) hps (fun k => ⟨hr k 4 (by omega), hr k 6 (by omega)⟩) ct (cs.2.2.1.fo cf wf (S := fun tg => tg = (9, 4)) (f.mo (fun b _ z => by rw [z]; exact w4)) hv e (fun tg ht z => ?_))
  · rw [z]
    show SMd (wO g 4)
    rw [w4]
    exact Or.inr (Or.inr (Or.inr (Or.inr (by decide))))
  · subst z
    revert ht; decide
def CoP (p : Pc) (h : aH) (x : Option Value) (h' : aH) : Prop := x = some (.ref (hN h + 3)) ∧ hN h' = hN h + 1 ∧ FO (fun _ => False) h h' ∧ hK h' (hN h + 3) = 13 ∧ hL h' (hN h + 3) = (pcM p).length ∧ ∀ k, k < (pcM p).length → hX h' (hN h + 3) k = (pcM p).getD k 0
theorem ec_copyOfMade_l (l : Launch) (G : aG) (g : Gh) (T q : Nat) (p : Pc) (h : aH) (cp : CP1 g T q p h) (cf : Cf h) (hT : T = 18 ∨ T = 21) (hv : Hv h) (ms : Nat) : ∀ k, (pcM p).length - k < ms → k ≤ (pcM p).length → ∀ h1, hN h1 = hN h + 1 → FO (fun _ => False) h h1 → hK h1 (hN h + 3) = 13 → hL h1 (hN h + 3) = (pcM p).length → (∀ j, j < k → hX h1 (hN h + 3) j = (pcM p).getD j 0) → Ev l G 2 0 0 mX8_copyOfMade 9 [.ref T, .ref q, .ref (hN h + 3), .int (nI k)] [] h1 (CoP p h) := by
  have l120_ := cp.1.2.2
  induction ms with
  | zero => intro k hk; omega
  | succ ms ih_ =>
    intro k hk1_ hk2_ h1 n1_ f1_ k1_ l1_ x1_
    have fs_ : FS g (fun _ => False) h h1 := f1_.mo (fun _ _ z => z)
    have cf1_ : Cf h1 := ⟨fun q hq => by
      have kq := cf.1 q hq
      have key : ∀ q ∈ cfR, ∃ r ∈ cfK, r.1 = q.2.1 ∧ r.2 ≠ 99 := by decide
      obtain ⟨r, r1, r2, r3⟩ := key q hq
      exact ((fs_.s hv (b := q.2.1) (n := r.2) (by rw [← r2]; exact cf.2.1 r r1) r3 id).2.2 _).2.trans kq, fun q hq => f1_.k hv (cf.2.1 q hq) (by revert hq; revert q; decide), fun q hq => by
      have key : ∀ q ∈ cfL, ∃ r ∈ cfK, r.1 = q.1 ∧ r.2 ≠ 99 := by decide
      obtain ⟨r, r1, r2, r3⟩ := key q hq
      rw [f1_.l hv (b := q.1) (n := r.2) (by rw [← r2]; exact cf.2.1 r r1) r3]
      exact cf.2.2 q hq⟩
    have cp1_ : CP1 g T q p h1 := cp.fo fs_ hv (fun _ _ => rfl) id id (fs_.s hv (tx_f cf hT).2.2.2.2.1 (by decide) id).1
    refine Ev_iload_n dX8_copyOfMade_9 rfl ?_
    refine Ev_aload_n dX8_copyOfMade_10 rfl (by first | exact Or.inr ⟨_, rfl⟩ | exact rv_or _ | exact Or.inl rfl) ?_
    refine Ev_alen dX8_copyOfMade_11 k1_ (by omega) (by omega) ?_
    rw [l1_]
    refine Ev_icmp_geN 30 dX8_copyOfMade_12 (by decide) (by omega) (by omega) (fun zb12_ => ?_) (fun zb12_ => ?_)
    · refine Ev_aload_n dX8_copyOfMade_30 rfl (by first | exact Or.inr ⟨_, rfl⟩ | exact rv_or _ | exact Or.inl rfl) ?_
      refine Ev_aret dX8_copyOfMade_31 rfl (Or.inr ⟨_, rfl⟩) (by first | exact Or.inr ⟨_, rfl⟩ | exact rv_or _ | exact Or.inl rfl) ?_
      exact ⟨rfl, n1_, f1_, k1_, l1_, fun j hj => x1_ j (by omega)⟩
    · refine Ev_aload_n dX8_copyOfMade_15 rfl (by first | exact Or.inr ⟨_, rfl⟩ | exact rv_or _ | exact Or.inl rfl) ?_
      refine Ev_iload_n dX8_copyOfMade_16 rfl ?_
      refine Ev_aload_n dX8_copyOfMade_17 rfl (by first | exact Or.inr ⟨_, rfl⟩ | exact rv_or _ | exact Or.inl rfl) ?_
      refine Ev_aload_n dX8_copyOfMade_18 rfl (by first | exact Or.inr ⟨_, rfl⟩ | exact rv_or _ | exact Or.inl rfl) ?_
      refine Ev_iload_n dX8_copyOfMade_19 rfl ?_
      refine Ev_V0 [.ref q, .int (nI k)] dX8_copyOfMade_20 vX8_madeByte kX8_71 (tx_f cf1_ hT).1 rfl rfl rfl (Nat.le_of_ble_eq_true rfl) (by omega) (ec_madeByte l G (nI k) g T q p h1 cp1_ cf1_ hT) ?_
      rw [elO_n (by omega) (by omega)]
      refine Ev_iastL k dX8_copyOfMade_23 k1_ l1_ (hi_n (by omega)) (by omega) ?_
      refine Ev_iincN 1 dX8_copyOfMade_24 (by decide) (by decide) rfl ?_
      refine Ev_goto 9 dX8_copyOfMade_27 (by decide) ?_
      refine ih_ (k + 1) (by omega) (by omega) _ n1_ ((f1_.mo (C' := fun b => b = hN h + 3) (fun _ _ z => z.elim)).tr (FO.sX rfl) |>.mo (fun b hb z => by omega)) k1_ l1_ (fun j hj => ?_)
      by_cases z : j = k
      · subst z; exact hX_s _ _ _ _
      · rw [hX_n _ _ z]; exact x1_ j (by omega)
theorem ec_copyOfMade (l : Launch) (G : aG) (g : Gh) (T q : Nat) (p : Pc) (h : aH) (cp : CP1 g T q p h) (cf : Cf h) (hT : T = 18 ∨ T = 21) : Ev l G 2 1 120 mX8_copyOfMade 0 (en 4 [.ref T, .ref q]) [] h (CoP p h) := by
  refine Ev_hv (fun hv => ?_)
  have l120_ := cp.1.2.2
  refine Ev_aload_n dX8_copyOfMade_0 rfl (by first | exact Or.inr ⟨_, rfl⟩ | exact rv_or _ | exact Or.inl rfl) ?_
  refine Ev_getE dX8_copyOfMade_1 fX8_54 cp.1.1 cp.1.2.1 ?_
  refine Ev.wide (mc' := 0 + 1) (ms' := 0 + (pcM p).length) (by omega) (by omega) ?_
  refine Ev_newa (kd := 13) (pcM p).length dX8_copyOfMade_4 rfl (Or.inl rfl) ai_1 (hi_n (by omega)) (by omega) ?_
  refine Ev_astore_n dX8_copyOfMade_6 (by decide) (by first | exact Or.inr ⟨_, rfl⟩ | exact rv_or _ | exact Or.inl rfl) ?_
  refine Ev_iconst (v := nI 0) dX8_copyOfMade_7 (by decide) ?_
  refine Ev_istore_n dX8_copyOfMade_8 (by decide) ?_
  exact ec_copyOfMade_l l G g T q p h cp cf hT hv ((pcM p).length + 1) 0 (by omega) (by omega) (nA h 13 (pcM p).length) rfl (FO.nA.mo (fun _ _ z => z)) (up1_s _ _ _) (up1_s _ _ _) (fun j hj => absurd hj (by omega))
theorem ec_handInit (l : Launch) (G : aG) (d_ r b : Nat) (h : aH) (kd_ : hK h d_ = 1) : Ev l G 1 0 0 mX0_init 0 (en 3 [.ref d_, .ref r, .ref b]) [] h (Ex none (sR (sR h 64 d_ (some r)) 65 d_ (some b))) := by
  refine Ev_aload_n dX0_init_0 rfl (by first | exact Or.inr ⟨_, rfl⟩ | exact rv_or _ | exact Or.inl rfl) ?_
  refine Ev_objI dX0_init_1 (by omega) rfl (Nat.le_of_ble_eq_true rfl) kX0_1 ob_1 ob_2 ?_
  refine Ev_aload_n dX0_init_4 rfl (by first | exact Or.inr ⟨_, rfl⟩ | exact rv_or _ | exact Or.inl rfl) ?_
  refine Ev_aload_n dX0_init_5 rfl (by first | exact Or.inr ⟨_, rfl⟩ | exact rv_or _ | exact Or.inl rfl) ?_
  refine Ev_putR (x := some r) dX0_init_6 fX0_7 ⟨_, rfl, Or.inr ⟨rfl, rfl⟩⟩ kd_ rfl ?_
  refine Ev_aload_n dX0_init_9 rfl (by first | exact Or.inr ⟨_, rfl⟩ | exact rv_or _ | exact Or.inl rfl) ?_
  refine Ev_aload_n dX0_init_10 rfl (by first | exact Or.inr ⟨_, rfl⟩ | exact rv_or _ | exact Or.inl rfl) ?_
  refine Ev_putR (x := some b) dX0_init_11 fX0_13 ⟨_, rfl, Or.inr ⟨rfl, rfl⟩⟩ kd_ rfl ?_
  refine Ev_vret dX0_init_14 rfl ?_
  exact ⟨rfl, rfl⟩
theorem ec_hand (l : Launch) (G : aG) (p_ : Int32) (g : Gh) (tp : List Int32) (m : Md) (ru : Nat → List It) (fa : Int32 × Int32) (ps : List Pc) (ln : List (List Int32 × Nat × Nat)) (fl : Nat) (h : aH) (cs : CS g tp m ru fa ps ln fl h) (hps : ∀ p ∈ ps, pcC p < mCm m) : Ev l G 5 3 242 mX10_hand 0 (en 4 [.ref 3, .int p_]) [] h (fun x h' => (handL ps tp p_ = none ∧ x = some (.int (nI 0)) ∧ h' = h) ∨ (∃ ps', handL ps tp p_ = some ps' ∧ x = some (.int (nI 1)) ∧ ∃ g', CS g' [] m ru fa ps' ln fl h' ∧ FX h h')) := by
  have cf := cs.1.2.1
  have wf := cs.1.2.2
  have cm := cs.2.2.1
  have ct := cs.2.1
  obtain ⟨T, T', hTT_, q1_, q2_, tx, jk_⟩ := cs.2.2.2.2.2.1
  have hT : T = 18 ∨ T = 21 := by omega
  have tf_ := tx_f cf hT
  have n250_ := tx.2.1
  refine Ev_hv (fun hv => ?_)
  have ctl_ := ct.1
  by_cases zi_ : 0 ≤ p_.toInt ∧ p_.toInt < ps.length
  · skip
    obtain ⟨i, hi_, rfl⟩ := as_nI (n := 249) (x := p_) (by omega) (by omega)
    rw [hi_n (by omega)] at zi_
    obtain ⟨p, hp_⟩ : ∃ p, ps[i]? = some p := ⟨_, List.getElem?_eq_getElem (by omega)⟩
    obtain ⟨q, hy_, cpc_, cp_⟩ := tx.p hp_
    have ha_ : txA T ps (nI i) h = some q := by unfold txA; rw [hi_n (by omega), if_pos ⟨by omega, by omega⟩]; exact hy_
    have at_ := atP_n hp_ (by omega)
    have hpm_ : p ∈ ps := List.mem_of_getElem? hp_
    refine Ev_aload_n dX10_hand_0 rfl (by first | exact Or.inr ⟨_, rfl⟩ | exact rv_or _ | exact Or.inl rfl) ?_
    refine Ev_getA dX10_hand_1 fX10_35 (ck_3 cf) q1_ ?_
    refine Ev_iload_n dX10_hand_4 rfl ?_
    refine Ev_V0 [.int (nI i)] dX10_hand_5 vX8_at kX10_148 tf_.1 rfl rfl rfl (Nat.le_of_ble_eq_true rfl) (by omega) (ec_txAt l G (nI i) g T ps h cf hT tx) ?_
    rw [ha_]
    refine Ev_top (y := .ref q) rfl ?_
    refine Ev_astore_n dX10_hand_8 (by decide) (by first | exact Or.inr ⟨_, rfl⟩ | exact rv_or _ | exact Or.inl rfl) ?_
    refine Ev_aload_n dX10_hand_9 rfl (by first | exact Or.inr ⟨_, rfl⟩ | exact rv_or _ | exact Or.inl rfl) ?_
    refine Ev_ifnull (o := some (q)) 25 dX10_hand_10 (by decide) (fun z_ => by cases z_) (fun a_ z_ => ?_)
    refine Ev_aload_n dX10_hand_13 rfl (by first | exact Or.inr ⟨_, rfl⟩ | exact rv_or _ | exact Or.inl rfl) ?_
    refine Ev_getA dX10_hand_14 fX10_10 (ck_3 cf) (cr_704_3 cf) ?_
    refine Ev_getE dX10_hand_17 fX10_62 (ck_4 cf) ct.2.1 ?_
    refine Ev_bipush (v := nI 60) dX10_hand_20 (by decide) ?_
    refine Ev_icmp_leN 27 dX10_hand_22 (by decide) (by omega) (by omega) (fun zb22_ => ?_) (fun zb22_ => ?_)
    · refine Ev_aload_n dX10_hand_27 rfl (by first | exact Or.inr ⟨_, rfl⟩ | exact rv_or _ | exact Or.inl rfl) ?_
      refine Ev_getA dX10_hand_28 fX10_10 (ck_3 cf) (cr_704_3 cf) ?_
      refine Ev_Vg (mc2 := 2) (ms2 := 122) [] dX10_hand_31 vX7_cutAll kX10_95 (ck_4 cf) rfl rfl rfl (Nat.le_of_ble_eq_true rfl) (by omega) (by omega) (by omega) (ec_cutAll l G tp h cf ct) (fun v_ h1 e_ => ?_)
      obtain ⟨rfl, cu_⟩ := e_
      refine Ev_hv (fun hv1_ => ?_)
      have n1_ := cu_.1
      have e1_ : OwX g (ow5 g (hN h)) h := fun b hb => ow5_o hb
      have cs1_ := cs.tape hv hps cu_.2.2.2.2.1 cu_.2.2.2.2.2.2 cu_.2.2.2.2.2.1
      have cf1_ := cs1_.1.1.2.1
      have wf1_ := cs1_.1.1.2.2
      have f4_ : FS g (fun tg => tg = (9, 4)) h h1 := cu_.2.2.2.2.1.mo (fun b _ z => by rw [z]; exact wf.1 4 (by decide))
      have q11_ : hR h1 710 3 = some T := (cu_.2.2.2.2.2.2 _ _ (by have := cs.1.1; omega)).trans q1_
      have tf1_ := tx_f cf1_ hT
      have t45_ := tTg_45 T
      have kT2_ := f4_.s hv tf_.2.2.2.2.1 (by decide) (by rw [wf.1 (T + 2) (by rcases hT with rfl | rfl <;> decide)]; rcases hT with rfl | rfl <;> decide)
      have kT1_ := f4_.s hv tf_.2.2.2.1.1 (by decide) (by rw [wf.1 (T + 1) (by rcases hT with rfl | rfl <;> decide)]; rcases hT with rfl | rfl <;> decide)
      have cp1_ : CP1 (gw g (ow5 g (hN h))) T q p h1 := cp_.fo f4_ hv e1_ (by decide) (by rw [cpc_.1.2.1]; intro z; have z2 : tTg T = 9 := congrArg Prod.fst z; omega) kT2_.1
      have hy1_ : hY h1 (T + 1) i = some q := by rw [kT1_.2.1]; exact hy_
      have ir1_ : IR (wO (gw g (ow5 g (hN h)))) (hN h + 3) tp h1 := ⟨cu_.2.1, cu_.2.2.1, ow5_n (by omega), cu_.2.2.2.1⟩
      refine Ev_astore_n dX10_hand_34 (by decide) (by first | exact Or.inr ⟨_, rfl⟩ | exact rv_or _ | exact Or.inl rfl) ?_
      refine Ev_aload_n dX10_hand_35 rfl (by first | exact Or.inr ⟨_, rfl⟩ | exact rv_or _ | exact Or.inl rfl) ?_
      refine Ev_aload_n dX10_hand_36 rfl (by first | exact Or.inr ⟨_, rfl⟩ | exact rv_or _ | exact Or.inl rfl) ?_
      refine Ev_getA dX10_hand_37 fX10_35 (ck_3 cf1_) q11_ ?_
      refine Ev_aload_n dX10_hand_40 rfl (by first | exact Or.inr ⟨_, rfl⟩ | exact rv_or _ | exact Or.inl rfl) ?_
      refine Ev_aload_n dX10_hand_41 rfl (by first | exact Or.inr ⟨_, rfl⟩ | exact rv_or _ | exact Or.inl rfl) ?_
      refine Ev_V0 [.ref q, .ref (hN h + 3)] dX10_hand_42 vX8_madeIs kX10_199 tf1_.1 rfl rfl rfl (Nat.le_of_ble_eq_true rfl) (by omega) (ec_madeIs l G (hN h + 3) tp (by omega) (gw g (ow5 g (hN h))) T q p h1 cp1_ cf1_ hT ir1_) ?_
      refine Ev_if_eqB 52 dX10_hand_45 (by decide) (fun zb45_ => ?_) (fun zb45_ => ?_)
      · refine Ev.wide (mc' := 1 + 1) (ms' := 120 + fn 1) (by omega) (by decide) ?_
        refine Ev_new dX10_hand_52 nX10_191 ?_
        have fB_ : FS (gw g (ow5 g (hN h))) (fun _ => False) h1 (nO h1 1) := FO.nO
        have cfB_ : Cf (nO h1 1) := cf1_.fo hv1_ fB_ wf1_ (fun q' hq' => if_neg (by have key : ∀ q ∈ cfR, q.2.1 < 60 := (by decide); have := key q' hq'; have := cs.1.1; omega))
        have cpB_ : CP1 (gw g (ow5 g (hN h))) T q p (nO h1 1) := cp1_.fo fB_ hv1_ (fun _ _ => rfl) id id rfl
        have q1B_ : hR (nO h1 1) 710 3 = some T := (if_neg (by have := cs.1.1; omega)).trans q11_
        refine Ev_dup dX10_hand_55 (by first | rfl | exact okv_rv _) ?_
        refine Ev_aload_n dX10_hand_56 rfl (by first | exact Or.inr ⟨_, rfl⟩ | exact rv_or _ | exact Or.inl rfl) ?_
        refine Ev_aload_n dX10_hand_57 rfl (by first | exact Or.inr ⟨_, rfl⟩ | exact rv_or _ | exact Or.inl rfl) ?_
        refine Ev_getA dX10_hand_58 fX10_35 (ck_3 cfB_) q1B_ ?_
        refine Ev_aload_n dX10_hand_61 rfl (by first | exact Or.inr ⟨_, rfl⟩ | exact rv_or _ | exact Or.inl rfl) ?_
        refine Ev_Vg (mc2 := 0) (ms2 := 0) [.ref q] dX10_hand_62 vX8_copyOfMade kX10_203 (tx_f cfB_ hT).1 rfl rfl rfl (Nat.le_of_ble_eq_true rfl) (by omega) (by omega) (by omega) (ec_copyOfMade l G (gw g (ow5 g (hN h))) T q p (nO h1 1) cpB_ cfB_ hT) (fun v_ hC e_ => ?_)
        obtain ⟨rfl, nC_, fC_, kC_, lC_, xC_⟩ := e_
        refine Ev_top (y := .ref (hN h1 + 4)) rfl ?_
        have kdC_ : hK hC (hN h1 + 3) = 1 := (fC_.2 _ (by show hN h1 + 3 < hN h1 + 1 + 3; omega)).1.trans (up1_s _ _ _)
        refine Ev_hv (fun hvC0_ => ?_)
        refine Ev_I0 [.ref (hN h + 3), .ref (hN h1 + 4)] dX10_hand_65 iX0_init kX10_207 rfl rfl rfl (Nat.le_of_ble_eq_true rfl) (by omega) (ec_handInit l G (hN h1 + 3) (hN h + 3) (hN h1 + 4) hC kdC_) ?_
        refine Ev_hv (fun hvC_ => ?_)
        have kq68_ : hK hC q = 6 := (fC_.2 q (by have := FO.lt hv1_ cp1_.1.1 (by decide); show q < hN h1 + 1 + 3; omega)).1.trans ((up1_n _ _ (by have := FO.lt hv1_ cp1_.1.1 (by decide); omega)).trans cp1_.1.1)
        refine Ev_putR (x := some (hN h1 + 3)) dX10_hand_68 fX10_172 ⟨_, rfl, Or.inl rfl⟩ kq68_ rfl ?_
        refine Ev_iconst (v := nI 1) dX10_hand_71 (by decide) ?_
        refine Ev_zret dX10_hand_72 rfl (by decide) ?_
        refine Or.inr ⟨ps.set i (setH p (if pcM p = tp then none else some (tp, pcM p))), ?_, rfl, ?_⟩
        · unfold handL
          rw [if_pos (by omega), at_, hi_n (by omega), Int.toNat_natCast]
        · rw [if_neg (of_decide_eq_false zb45_)]
          refine ⟨(gw g (ow5 g (hN h))), ?_⟩
          have l1_ : ∀ b, b < hN h1 + 3 → Sm b h1 (sR (sR hC 64 (hN h1 + 3) (some (hN h + 3))) 65 (hN h1 + 3) (some (hN h1 + 4))) := fun b hb => by
            have s1 : Sm b h1 (nO h1 1) := (FO.nO (C := fun _ => False) (h := h1) (ci := 1)).2 b hb |>.2.2 id
            have s2 := (fC_.2 b (by show b < hN h1 + 1 + 3; omega)).2.2 id
            exact (s1.tr s2).tr ⟨rfl, rfl, fun k => ⟨rfl, (hR_a _ _ (by omega)).trans (hR_a _ _ (by omega))⟩⟩
          have lK_ : ∀ b, b < hN h1 + 3 → hK (sR (sR hC 64 (hN h1 + 3) (some (hN h + 3))) 65 (hN h1 + 3) (some (hN h1 + 4))) b = hK h1 b ∧ hL (sR (sR hC 64 (hN h1 + 3) (some (hN h + 3))) 65 (hN h1 + 3) (some (hN h1 + 4))) b = hL h1 b := fun b hb => by
            have s2 := fC_.2 b (by show b < hN h1 + 1 + 3; omega)
            exact ⟨s2.1.trans (up1_n _ _ (by omega)), s2.2.1⟩
          have nD_ : hN (sR (sR hC 64 (hN h1 + 3) (some (hN h + 3))) 65 (hN h1 + 3) (some (hN h1 + 4))) = hN h1 + 2 := nC_
          have f4D_ : FO (fun b => b = 4) h (sR (sR hC 64 (hN h1 + 3) (some (hN h + 3))) 65 (hN h1 + 3) (some (hN h1 + 4))) := ⟨by omega, fun b hb => ⟨(lK_ b (by omega)).1.trans (cu_.2.2.2.2.1.2 b hb).1, (lK_ b (by omega)).2.trans (cu_.2.2.2.2.1.2 b hb).2.1, fun z => ((cu_.2.2.2.2.1.2 b hb).2.2 z).tr (l1_ b (by omega))⟩⟩
          have s4_ := l1_ 4 (by have := cs.1.1; omega)
          have hvD_ : Hv (sR (sR hC 64 (hN h1 + 3) (some (hN h + 3))) 65 (hN h1 + 3) (some (hN h1 + 4))) := hvC_
          obtain ⟨csD_, xD_⟩ := cs.tape hv hps f4D_ (fun k b hb => ((l1_ b (by omega)).2.2 k).2.trans (cu_.2.2.2.2.2.2 k b hb)) (tp' := []) ⟨by simp, (s4_.2.2 _).1.trans cu_.2.2.2.2.2.1.2.1, fun k hk => by simp at hk⟩
          have s3_ := l1_ 3 (by have := cs.1.1; omega)
          have sr_ := l1_ (hN h + 3) (by omega)
          obtain ⟨c1_, x1_⟩ := csD_.setH hvD_ (v := some (hN h1 + 3)) (nb := some (tp, pcM p)) ((s3_.2.2 _).2.trans q11_) hp_ (by rw [(l1_ (T + 1) (by have := cs.1.1; omega)).2.1]; exact hy1_) (fun x z => by cases z; exact ⟨by omega, cp_.1.2.2⟩) (by
            have qn_ : q ≠ hN h1 + 3 := by have := FO.lt hv cp_.1.1 (by decide); omega
            refine ⟨hN h1 + 3, hR_s _ _ _ _, kdC_, ow5_n (by omega), ⟨hN h + 3, ?_, ?_⟩, hN h1 + 4, ?_, ?_⟩
            · exact (hR_o _ _ (by decide)).trans ((hR_o _ _ (by decide)).trans (hR_s _ _ _ _))
            · exact ⟨(lK_ _ (by omega)).1.trans cu_.2.1, (lK_ _ (by omega)).2.trans cu_.2.2.1, ow5_n (by omega), fun k hk => (congrFun sr_.1 k).trans (cu_.2.2.2.1 k hk)⟩
            · exact (hR_o _ _ (by decide)).trans (hR_s _ _ _ _)
            · exact ⟨kC_, lC_, ow5_n (by omega), xC_⟩)
          exact ⟨c1_, xD_.tr x1_⟩
      · have kq68_ : hK h1 q = 6 := cp1_.1.1
        refine Ev_null dX10_hand_48 ?_
        refine Ev_goto 68 dX10_hand_49 (by decide) ?_
        refine Ev_putR (x := none) dX10_hand_68 fX10_172 ⟨_, rfl, Or.inl rfl⟩ kq68_ rfl ?_
        refine Ev_iconst (v := nI 1) dX10_hand_71 (by decide) ?_
        refine Ev_zret dX10_hand_72 rfl (by decide) ?_
        refine Or.inr ⟨ps.set i (setH p (if pcM p = tp then none else some (tp, pcM p))), ?_, rfl, ?_⟩
        · unfold handL
          rw [if_pos (by omega), at_, hi_n (by omega), Int.toNat_natCast]
        · rw [if_pos (of_decide_eq_true zb45_)]
          refine ⟨(gw g (ow5 g (hN h))), ?_⟩
          obtain ⟨c1_, x1_⟩ := cs1_.1.setH hv1_ (v := none) (nb := none) q11_ hp_ hy1_ (fun x z => by cases z) (hR_s _ _ _ _)
          exact ⟨c1_, cs1_.2.tr x1_⟩
    · refine Ev_iconst (v := nI 0) dX10_hand_25 (by decide) ?_
      refine Ev_zret dX10_hand_26 rfl (by decide) ?_
      refine Or.inl ⟨?_, rfl, rfl⟩
      unfold handL
      rw [if_neg (by omega)]
  · skip
    refine Ev_aload_n dX10_hand_0 rfl (by first | exact Or.inr ⟨_, rfl⟩ | exact rv_or _ | exact Or.inl rfl) ?_
    refine Ev_getA dX10_hand_1 fX10_35 (ck_3 cf) q1_ ?_
    refine Ev_iload_n dX10_hand_4 rfl ?_
    refine Ev_V0 [.int p_] dX10_hand_5 vX8_at kX10_148 tf_.1 rfl rfl rfl (Nat.le_of_ble_eq_true rfl) (by omega) (ec_txAt l G p_ g T ps h cf hT tx) ?_
    rw [show txA T ps p_ h = none from if_neg zi_]
    refine Ev_astore_n dX10_hand_8 (by decide) (by first | exact Or.inr ⟨_, rfl⟩ | exact rv_or _ | exact Or.inl rfl) ?_
    refine Ev_aload_n dX10_hand_9 rfl (by first | exact Or.inr ⟨_, rfl⟩ | exact rv_or _ | exact Or.inl rfl) ?_
    refine Ev_ifnull (o := none) 25 dX10_hand_10 (by decide) (fun _ => ?_) (fun a_ z_ => by cases z_)
    refine Ev_iconst (v := nI 0) dX10_hand_25 (by decide) ?_
    refine Ev_zret dX10_hand_26 rfl (by decide) ?_
    refine Or.inl ⟨?_, rfl, rfl⟩
    unfold handL
    split
    · rw [atP_no zi_]
    · rfl
theorem ec_take (l : Launch) (G : aG) (p_ wh : Int32) (g : Gh) (tp : List Int32) (m : Md) (ru : Nat → List It) (fa : Int32 × Int32) (ps : List Pc) (ln : List (List Int32 × Nat × Nat)) (fl : Nat) (h : aH) (cs : CS g tp m ru fa ps ln fl h) (hps : ∀ p ∈ ps, pcC p < mCm m) : Ev l G 5 2 122 mX10_take 0 (en 4 [.ref 3, .int p_, .int wh]) [] h (fun x h' => (takeL ps p_ wh.toInt = none ∧ x = some (.int (nI 0)) ∧ h' = h) ∨ (∃ ps', takeL ps p_ wh.toInt = some ps' ∧ x = some (.int (nI 1)) ∧ ∃ g', CS g' tp m ru fa ps' ln fl h' ∧ FX h h')) := by
  have cf := cs.1.2.1
  have wf := cs.1.2.2
  have cm := cs.2.2.1
  have ct := cs.2.1
  obtain ⟨T, T', hTT_, q1_, q2_, tx, jk_⟩ := cs.2.2.2.2.2.1
  have hT : T = 18 ∨ T = 21 := by omega
  have tf_ := tx_f cf hT
  have n250_ := tx.2.1
  refine Ev_hv (fun hv => ?_)
  by_cases zi_ : 0 ≤ p_.toInt ∧ p_.toInt < ps.length
  · skip
    obtain ⟨i, hi_, rfl⟩ := as_nI (n := 249) (x := p_) (by omega) (by omega)
    rw [hi_n (by omega)] at zi_
    obtain ⟨p, hp_⟩ : ∃ p, ps[i]? = some p := ⟨_, List.getElem?_eq_getElem (by omega)⟩
    obtain ⟨q, hy_, cpc_, cp_⟩ := tx.p hp_
    have ha_ : txA T ps (nI i) h = some q := by unfold txA; rw [hi_n (by omega), if_pos ⟨by omega, by omega⟩]; exact hy_
    have at_ := atP_n hp_ (by omega)
    have hpm_ : p ∈ ps := List.mem_of_getElem? hp_
    refine Ev_aload_n dX10_take_0 rfl (by first | exact Or.inr ⟨_, rfl⟩ | exact rv_or _ | exact Or.inl rfl) ?_
    refine Ev_getA dX10_take_1 fX10_35 (ck_3 cf) q1_ ?_
    refine Ev_iload_n dX10_take_4 rfl ?_
    refine Ev_V0 [.int (nI i)] dX10_take_5 vX8_at kX10_148 tf_.1 rfl rfl rfl (Nat.le_of_ble_eq_true rfl) (by omega) (ec_txAt l G (nI i) g T ps h cf hT tx) ?_
    rw [ha_]
    refine Ev_top (y := .ref q) rfl ?_
    refine Ev_astore_n dX10_take_8 (by decide) (by first | exact Or.inr ⟨_, rfl⟩ | exact rv_or _ | exact Or.inl rfl) ?_
    refine Ev_aload_n dX10_take_9 rfl (by first | exact Or.inr ⟨_, rfl⟩ | exact rv_or _ | exact Or.inl rfl) ?_
    refine Ev_ifnull (o := some (q)) 33 dX10_take_10 (by decide) (fun z_ => by cases z_) (fun a_ z_ => ?_)
    refine Ev_iload_n dX10_take_13 rfl ?_
    refine Ev_if_ltT 33 dX10_take_14 (by decide) (fun zb14_ => ?_) (fun zb14_ => ?_)
    · refine Ev_iconst (v := nI 0) dX10_take_33 (by decide) ?_
      refine Ev_zret dX10_take_34 rfl (by decide) ?_
      refine Or.inl ⟨?_, rfl, rfl⟩
      unfold takeL
      rw [at_]
      show (if clB p = true ∧ 0 ≤ wh.toInt ∧ wh.toInt ≤ 1 then _ else none) = none
      rw [if_neg ?_]
      rintro ⟨z1, z2, z3⟩
      first
      | omega
      | (rw [zb30_] at z1; cases z1)
    · refine Ev_iload_n dX10_take_17 rfl ?_
      refine Ev_iconst (v := nI 1) dX10_take_18 (by decide) ?_
      refine Ev_icmp_gtT 33 dX10_take_19 (by decide) (fun zb19_ => ?_) (fun zb19_ => ?_)
      · rw [show (nI 1).toInt = 1 from by decide] at zb19_
        refine Ev_iconst (v := nI 0) dX10_take_33 (by decide) ?_
        refine Ev_zret dX10_take_34 rfl (by decide) ?_
        refine Or.inl ⟨?_, rfl, rfl⟩
        unfold takeL
        rw [at_]
        show (if clB p = true ∧ 0 ≤ wh.toInt ∧ wh.toInt ≤ 1 then _ else none) = none
        rw [if_neg ?_]
        rintro ⟨z1, z2, z3⟩
        first
        | omega
        | (rw [zb30_] at z1; cases z1)
      · rw [show (nI 1).toInt = 1 from by decide] at zb19_
        refine Ev_aload_n dX10_take_22 rfl (by first | exact Or.inr ⟨_, rfl⟩ | exact rv_or _ | exact Or.inl rfl) ?_
        refine Ev_getA dX10_take_23 fX10_35 (ck_3 cf) q1_ ?_
        refine Ev_aload_n dX10_take_26 rfl (by first | exact Or.inr ⟨_, rfl⟩ | exact rv_or _ | exact Or.inl rfl) ?_
        refine Ev_V0 [.ref q] dX10_take_27 vX8_isClash kX10_176 tf_.1 rfl rfl rfl (Nat.le_of_ble_eq_true rfl) (by omega) (ec_isClash l G g T q p h cp_ cf hT) ?_
        refine Ev_if_neB 35 dX10_take_30 (by decide) (fun zb30_ => ?_) (fun zb30_ => ?_)
        · obtain ⟨hb, hp2_⟩ : ∃ hb, pcH p = some hb := by
            unfold clB at zb30_
            cases hp3_ : pcH p with
            | none => rw [hp3_] at zb30_; cases zb30_
            | some hb => exact ⟨hb, rfl⟩
          have hb2_ := cp_.2.2.1 hb hp2_
          have c2_ := cpc_.2
          rw [hp2_] at c2_
          obtain ⟨d_, hd_, k1_, -, ⟨r_, h64_, ir_⟩, b_, h65_, ib_⟩ := c2_
          refine Ev_aload_n dX10_take_35 rfl (by first | exact Or.inr ⟨_, rfl⟩ | exact rv_or _ | exact Or.inl rfl) ?_
          refine Ev_iload_n dX10_take_36 rfl ?_
          refine Ev_iconst (v := nI 1) dX10_take_37 (by decide) ?_
          refine Ev_icmp_neT 45 dX10_take_38 (by decide) (fun zb38_ => ?_) (fun zb38_ => ?_)
          · rw [show (nI 1).toInt = 1 from by decide] at zb38_
            refine Ev.wide (mc' := 1 + 1) (ms' := 120 + fn 1) (by omega) (by decide) ?_
            refine Ev_new dX10_take_45 nX10_191 ?_
            have fB_ : FS g (fun _ => False) h (nO h 1) := FO.nO
            have cfB_ : Cf (nO h 1) := cf.fo hv fB_ wf (fun q' hq' => if_neg (by have key : ∀ q ∈ cfR, q.2.1 < 60 := (by decide); have := key q' hq'; have := cs.1.1; omega))
            have cpB_ : CP1 g T q p (nO h 1) := cp_.fo fB_ hv (fun _ _ => rfl) id id rfl
            have q1B_ : hR (nO h 1) 710 3 = some T := (if_neg (by have := cs.1.1; omega)).trans q1_
            have ql_ := FO.lt hv cp_.1.1 (by decide)
            have dl_ := FO.lt hv k1_ (by decide)
            have kqB_ : hK (nO h 1) q = 6 := (up1_n _ _ (by omega)).trans cp_.1.1
            have kdB_ : hK (nO h 1) d_ = 1 := (up1_n _ _ (by omega)).trans k1_
            have hdB_ : hR (nO h 1) 391 q = some d_ := (if_neg (by omega)).trans hd_
            have h64B_ : hR (nO h 1) 64 d_ = some r_ := (if_neg (by omega)).trans h64_
            refine Ev_dup dX10_take_48 (by first | rfl | exact okv_rv _) ?_
            refine Ev_aload_n dX10_take_49 rfl (by first | exact Or.inr ⟨_, rfl⟩ | exact rv_or _ | exact Or.inl rfl) ?_
            refine Ev_getA dX10_take_50 fX10_172 kqB_ hdB_ ?_
            refine Ev_getA dX10_take_53 fX10_210 kdB_ h64B_ ?_
            refine Ev_aload_n dX10_take_56 rfl (by first | exact Or.inr ⟨_, rfl⟩ | exact rv_or _ | exact Or.inl rfl) ?_
            refine Ev_getA dX10_take_57 fX10_35 (ck_3 cfB_) q1B_ ?_
            refine Ev_aload_n dX10_take_60 rfl (by first | exact Or.inr ⟨_, rfl⟩ | exact rv_or _ | exact Or.inl rfl) ?_
            refine Ev_Vg (mc2 := 0) (ms2 := 0) [.ref q] dX10_take_61 vX8_copyOfMade kX10_203 (tx_f cfB_ hT).1 rfl rfl rfl (Nat.le_of_ble_eq_true rfl) (by omega) (by omega) (by omega) (ec_copyOfMade l G g T q p (nO h 1) cpB_ cfB_ hT) (fun v_ hC e_ => ?_)
            obtain ⟨rfl, nC_, fC_, kC_, lC_, xC_⟩ := e_
            refine Ev_top (y := .ref (hN h + 4)) rfl ?_
            have kdC_ : hK hC (hN h + 3) = 1 := (fC_.2 _ (by show hN h + 3 < hN h + 1 + 3; omega)).1.trans (up1_s _ _ _)
            refine Ev_I0 [.ref r_, .ref (hN h + 4)] dX10_take_64 iX0_init kX10_207 rfl rfl rfl (Nat.le_of_ble_eq_true rfl) (by omega) (ec_handInit l G (hN h + 3) r_ (hN h + 4) hC kdC_) ?_
            refine Ev_hv (fun hvC_ => ?_)
            have kq68_ : hK hC q = 6 := (fC_.2 q (by show q < hN h + 1 + 3; omega)).1.trans kqB_
            refine Ev_putR (x := some (hN h + 3)) dX10_take_67 fX10_172 ⟨_, rfl, Or.inl rfl⟩ kq68_ rfl ?_
            refine Ev_iconst (v := nI 1) dX10_take_70 (by decide) ?_
            refine Ev_zret dX10_take_71 rfl (by decide) ?_
            refine Or.inr ⟨ps.set i (setH p (if wh.toInt = 1 then none else (pcH p).map (fun hb => (hb.1, pcM p)))), ?_, rfl, ?_⟩
            · unfold takeL
              rw [at_]
              show (if clB p = true ∧ 0 ≤ wh.toInt ∧ wh.toInt ≤ 1 then _ else none) = _
              rw [if_pos ⟨zb30_, by omega, by omega⟩, hi_n (by omega), Int.toNat_natCast]
            · rw [if_neg (by omega), hp2_]
              refine ⟨gw g (ow5 g (hN h)), ?_⟩
              have l1_ : ∀ b, b < hN h + 3 → Sm b h (sR (sR hC 64 (hN h + 3) (some r_)) 65 (hN h + 3) (some (hN h + 4))) := fun b hb => by
                have s1 : Sm b h (nO h 1) := (FO.nO (C := fun _ => False) (h := h) (ci := 1)).2 b hb |>.2.2 id
                have s2 := (fC_.2 b (by show b < hN h + 1 + 3; omega)).2.2 id
                exact (s1.tr s2).tr ⟨rfl, rfl, fun k => ⟨rfl, (hR_a _ _ (by omega)).trans (hR_a _ _ (by omega))⟩⟩
              have lK_ : ∀ b, b < hN h + 3 → hK (sR (sR hC 64 (hN h + 3) (some r_)) 65 (hN h + 3) (some (hN h + 4))) b = hK h b ∧ hL (sR (sR hC 64 (hN h + 3) (some r_)) 65 (hN h + 3) (some (hN h + 4))) b = hL h b := fun b hb => by
                have s2 := fC_.2 b (by show b < hN h + 1 + 3; omega)
                exact ⟨s2.1.trans (up1_n _ _ (by omega)), s2.2.1⟩
              have nD_ : hN (sR (sR hC 64 (hN h + 3) (some r_)) 65 (hN h + 3) (some (hN h + 4))) = hN h + 2 := nC_
              have f4D_ : FO (fun b => b = 4) h (sR (sR hC 64 (hN h + 3) (some r_)) 65 (hN h + 3) (some (hN h + 4))) := ⟨by omega, fun b hb => ⟨(lK_ b hb).1, (lK_ b hb).2, fun z => l1_ b hb⟩⟩
              have s4_ := l1_ 4 (by have := cs.1.1; omega)
              have s5_ := l1_ 5 (by have := cs.1.1; omega)
              have hvD_ : Hv (sR (sR hC 64 (hN h + 3) (some r_)) 65 (hN h + 3) (some (hN h + 4))) := hvC_
              obtain ⟨csD_, xD_⟩ := cs.tape hv hps f4D_ (fun k b hb => ((l1_ b hb).2.2 k).2) (tp' := tp) ⟨ct.1, (s4_.2.2 _).1.trans ct.2.1, fun k hk => (congrFun s5_.1 k).trans (ct.2.2 k hk)⟩
              have s3_ := l1_ 3 (by have := cs.1.1; omega)
              have rl_ := FO.lt hv ir_.1 (by decide)
              have sr_ := l1_ r_ rl_
              obtain ⟨c1_, x1_⟩ := csD_.setH hvD_ (v := some (hN h + 3)) (nb := some (hb.1, pcM p)) ((s3_.2.2 _).2.trans q1_) hp_ (by rw [(l1_ (T + 1) (by have := cs.1.1; omega)).2.1]; exact hy_) (fun x z => by cases z; exact ⟨hb2_.1, cp_.1.2.2⟩) (by
                refine ⟨hN h + 3, hR_s _ _ _ _, kdC_, ow5_n (by omega), ⟨r_, ?_, ?_⟩, hN h + 4, ?_, ?_⟩
                · exact (hR_o _ _ (by decide)).trans ((hR_o _ _ (by decide)).trans (hR_s _ _ _ _))
                · exact ⟨(lK_ _ rl_).1.trans ir_.1, (lK_ _ rl_).2.trans ir_.2.1, (ow5_o rl_).trans ir_.2.2.1, fun k hk => (congrFun sr_.1 k).trans (ir_.2.2.2 k hk)⟩
                · exact (hR_o _ _ (by decide)).trans (hR_s _ _ _ _)
                · exact ⟨kC_, lC_, ow5_n (by omega), xC_⟩)
              exact ⟨c1_, xD_.tr x1_⟩
          · rw [show (nI 1).toInt = 1 from by decide] at zb38_
            have kq68_ := cp_.1.1
            refine Ev_null dX10_take_41 ?_
            refine Ev_goto 67 dX10_take_42 (by decide) ?_
            refine Ev_putR (x := none) dX10_take_67 fX10_172 ⟨_, rfl, Or.inl rfl⟩ kq68_ rfl ?_
            refine Ev_iconst (v := nI 1) dX10_take_70 (by decide) ?_
            refine Ev_zret dX10_take_71 rfl (by decide) ?_
            refine Or.inr ⟨ps.set i (setH p (if wh.toInt = 1 then none else (pcH p).map (fun hb => (hb.1, pcM p)))), ?_, rfl, ?_⟩
            · unfold takeL
              rw [at_]
              show (if clB p = true ∧ 0 ≤ wh.toInt ∧ wh.toInt ≤ 1 then _ else none) = _
              rw [if_pos ⟨zb30_, by omega, by omega⟩, hi_n (by omega), Int.toNat_natCast]
            · rw [if_pos (by omega)]
              exact ⟨g, cs.setH hv (v := none) (nb := none) q1_ hp_ hy_ (fun x z => by cases z) (hR_s _ _ _ _)⟩
        · refine Ev_iconst (v := nI 0) dX10_take_33 (by decide) ?_
          refine Ev_zret dX10_take_34 rfl (by decide) ?_
          refine Or.inl ⟨?_, rfl, rfl⟩
          unfold takeL
          rw [at_]
          show (if clB p = true ∧ 0 ≤ wh.toInt ∧ wh.toInt ≤ 1 then _ else none) = none
          rw [if_neg ?_]
          rintro ⟨z1, z2, z3⟩
          first
          | omega
          | (rw [zb30_] at z1; cases z1)
  · skip
    refine Ev_aload_n dX10_take_0 rfl (by first | exact Or.inr ⟨_, rfl⟩ | exact rv_or _ | exact Or.inl rfl) ?_
    refine Ev_getA dX10_take_1 fX10_35 (ck_3 cf) q1_ ?_
    refine Ev_iload_n dX10_take_4 rfl ?_
    refine Ev_V0 [.int p_] dX10_take_5 vX8_at kX10_148 tf_.1 rfl rfl rfl (Nat.le_of_ble_eq_true rfl) (by omega) (ec_txAt l G p_ g T ps h cf hT tx) ?_
    rw [show txA T ps p_ h = none from if_neg zi_]
    refine Ev_astore_n dX10_take_8 (by decide) (by first | exact Or.inr ⟨_, rfl⟩ | exact rv_or _ | exact Or.inl rfl) ?_
    refine Ev_aload_n dX10_take_9 rfl (by first | exact Or.inr ⟨_, rfl⟩ | exact rv_or _ | exact Or.inl rfl) ?_
    refine Ev_ifnull (o := none) 33 dX10_take_10 (by decide) (fun _ => ?_) (fun a_ z_ => by cases z_)
    refine Ev_iconst (v := nI 0) dX10_take_33 (by decide) ?_
    refine Ev_zret dX10_take_34 rfl (by decide) ?_
    exact Or.inl ⟨by unfold takeL; rw [atP_no zi_], rfl, rfl⟩
