/-! the class takes hands' texts over -/
def TkF (g : Gh) (h h' : aH) : Prop := (hN h' = hN h ∧ hK h' = hK h ∧ hL h' = hL h ∧ hX h' = hX h ∧ hY h' = hY h) ∧ (∀ k b, k ≠ 391 → hR h' k b = hR h k b) ∧ (∀ k b, k ≠ 392 → hI h' k b = hI h k b) ∧ FS g (fun tg => tg.1 = 4 ∨ tg.1 = 5) h h'
theorem TkF.rf {g : Gh} {h : aH} : TkF g h h := ⟨⟨rfl, rfl, rfl, rfl, rfl⟩, fun _ _ _ => rfl, fun _ _ _ => rfl, FO.rf⟩
theorem TkF.tr {g : Gh} {h h1 h2 : aH} (a : TkF g h h1) (b : TkF g h1 h2) : TkF g h h2 := ⟨⟨b.1.1.trans a.1.1, b.1.2.1.trans a.1.2.1, b.1.2.2.1.trans a.1.2.2.1, b.1.2.2.2.1.trans a.1.2.2.2.1, b.1.2.2.2.2.trans a.1.2.2.2.2⟩, fun k x z => (b.2.1 k x z).trans (a.2.1 k x z), fun k x z => (b.2.2.1 k x z).trans (a.2.2.1 k x z), a.2.2.2.tr b.2.2.2⟩
theorem TkF.i {g : Gh} {h : aH} {q : Nat} {v : Int32} (w : (wO g q).1 = 4 ∨ (wO g q).1 = 5) : TkF g h (sI h 392 q v) := ⟨⟨rfl, rfl, rfl, rfl, rfl⟩, fun _ _ _ => rfl, fun _ _ z => hI_o _ _ z, FO.sI w⟩
theorem TkF.r {g : Gh} {h : aH} {q : Nat} {v : Option Nat} (w : (wO g q).1 = 4 ∨ (wO g q).1 = 5) : TkF g h (sR h 391 q v) := ⟨⟨rfl, rfl, rfl, rfl, rfl⟩, fun _ _ z => hR_o _ _ z, fun _ _ _ => rfl, FO.sR w⟩
theorem TkF.cf {g : Gh} {h h' : aH} (t : TkF g h h') (cf : Cf h) (hv : Hv h) (wf : OwF (wO g)) : Cf h' := cf.fo hv t.2.2.2 wf (fun q hq => t.2.1 _ _ (by have key : ∀ q ∈ cfR, q.1 ≠ 391 := (by decide); exact key q hq))
theorem TkF.no {a b : Nat} (h1 : a ≠ 4) (h2 : a ≠ 5) : ¬ ((a, b).1 = 4 ∨ (a, b).1 = 5) := fun z => z.elim h1 h2
theorem TkF.cm {g : Gh} {m : Md} {h h' : aH} (t : TkF g h h') (cm : CM g m h) (cf : Cf h) (hv : Hv h) (wf : OwF (wO g)) : CM g m h' := cm.fo cf wf t.2.2.2 hv (fun _ _ => rfl) (fun tg ht => by
  obtain ⟨a, b⟩ := tg
  rcases ht with z | z | z | z | z | z
  all_goals first
    | (have z2 : a = 0 := z; subst z2; exact TkF.no (by decide) (by decide))
    | (have z2 : a = 1 := z; subst z2; exact TkF.no (by decide) (by decide))
    | (have z2 : a = 2 := z; subst z2; exact TkF.no (by decide) (by decide))
    | (have z2 : a = 3 := z; subst z2; exact TkF.no (by decide) (by decide))
    | (have z2 : a = 10 := z; subst z2; exact TkF.no (by decide) (by decide))
    | (have key : ∀ q ∈ [((9 : Nat), (6 : Nat)), (9, 7), (9, 10), (9, 11)], q.1 ≠ 4 ∧ q.1 ≠ 5 := by decide
       have k := key _ z
       exact TkF.no k.1 k.2))
theorem CTx.lost {g : Gh} {T q : Nat} {ps : List Pc} {v : Int32} {h : aH} (tx : CTx g T ps h) : CTx g T ps (sI h 392 q v) := by
  obtain ⟨a1, a2, a3, a4, a5, a6⟩ := tx
  refine ⟨a1, a2, a3, (hI_o _ _ (by decide)).trans a4, fun i p hp => ?_, a6⟩
  obtain ⟨b, q', c1, ⟨b1, b2, b3, b4, b5, b6, b7, b8, b9⟩, b10⟩ := a5 i p hp
  exact ⟨b, q', c1, ⟨b1, b2, b3, (hI_o _ _ (by decide)).trans b4, (hI_o _ _ (by decide)).trans b5, fun z => (hI_o _ _ (by decide)).trans (b6 z), (hI_o _ _ (by decide)).trans b7, (hI_o _ _ (by decide)).trans b8, (hI_o _ _ (by decide)).trans b9⟩, b10⟩
theorem tkO_n {ps : List Pc} {p : Pc} (h : pcH p = none) : tkO ps p = ps := by
  unfold tkO
  cases fnd ps p with
  | none => rfl
  | some j =>
    simp only
    cases ps[j]? with
    | none => rfl
    | some q => simp only; rw [h]; rfl
theorem tkO_f {ps : List Pc} {p : Pc} (h : fnd ps p = none) : tkO ps p = ps := by
  unfold tkO
  rw [h]
theorem tkO_s {ps : List Pc} {p q : Pc} {j : Nat} (h : fnd ps p = some j) (hj : ps[j]? = some q) : tkO ps p = tkS ps j q (pcH p) := by
  unfold tkO
  rw [h]
  simp only [hj]
theorem set_same {ps : List Pc} {j : Nat} {N : Pc} (h : ps[j]? = some N) : ps.set j N = ps := by
  apply List.ext_getElem?
  intro i
  rw [List.getElem?_set]
  by_cases z : j = i
  · subst z
    rw [if_pos rfl, if_pos (List.getElem?_eq_some_iff.mp h).1, h]
  · rw [if_neg z]
theorem tkO_mem {ps : List Pc} {p N : Pc} (h : N ∈ tkO ps p) : N ∈ ps ∨ ∃ N0 hb, N0 ∈ ps ∧ N = setH N0 hb ∧ smA p N0 = true := by
  cases hf : fnd ps p with
  | none => rw [tkO_f hf] at h; exact Or.inl h
  | some j =>
    obtain ⟨q, hq, he⟩ := fnd_at hf
    rw [tkO_s hf hq] at h
    unfold tkS at h
    cases hh : pcH p with
    | none => rw [hh] at h; exact Or.inl h
    | some hb =>
      rw [hh] at h
      simp only at h
      split at h
      · exact Or.inl h
      · rcases List.mem_or_eq_of_mem_set h with z | z
        · exact Or.inl z
        · exact Or.inr ⟨q, some hb, List.mem_of_getElem? hq, z, he⟩
/-- a piece that has a hand's text by now has the maker of an old piece -/
theorem tkA_h : ∀ (old new : List Pc) (R : Pc → Prop), (∀ N ∈ new, pcH N = none ∨ R N) → ∀ N ∈ old.foldl tkO new, pcH N = none ∨ R N ∨ ∃ p ∈ old, smA p N = true := by
  intro old
  induction old with
  | nil => intro new R h N hN; rcases h N hN with z | z; exact Or.inl z; exact Or.inr (Or.inl z)
  | cons p old ih_ =>
    intro new R h N hN
    have h2 : ∀ N ∈ tkO new p, pcH N = none ∨ (R N ∨ smA p N = true) := fun N hN => by
      rcases tkO_mem hN with z | ⟨N0, hb, z1, z2, z3⟩
      · rcases h N z with y | y
        · exact Or.inl y
        · exact Or.inr (Or.inl y)
      · subst z2
        exact Or.inr (Or.inr z3)
    rcases ih_ (tkO new p) (fun N => R N ∨ smA p N = true) h2 N hN with z | (z | z) | ⟨q, z1, z2⟩
    · exact Or.inl z
    · exact Or.inr (Or.inl z)
    · exact Or.inr (Or.inr ⟨p, by simp, z⟩)
    · exact Or.inr (Or.inr ⟨q, by simp [z1], z2⟩)
theorem tkA_m {m : Md} : ∀ (old new : List Pc), (∀ N ∈ new, PcM m N) → ∀ N ∈ old.foldl tkO new, PcM m N := by
  intro old
  induction old with
  | nil => intro new h; exact h
  | cons p old ih_ =>
    intro new h
    refine ih_ (tkO new p) (fun N hN => ?_)
    rcases tkO_mem hN with z | ⟨N0, hb, z1, z2, z3⟩
    · exact h N z
    · subst z2; exact h N0 z1
theorem MkD.tk {new : List Pc} (d : MkD new) (old : List Pc) : MkD (old.foldl tkO new) := by
  have k := tkA_key old new
  intro i j p q hi hj e
  have e1 : smJ new q i = true := by
    rw [← k.2 i q]
    unfold smJ
    rw [show (tkA old new)[i]? = some p from hi]
    show smA q p = true
    rw [smA_c]; exact e
  have e2 : smJ new q j = true := by
    rw [← k.2 j q]
    unfold smJ
    rw [show (tkA old new)[j]? = some q from hj]
    show smA q q = true
    rw [smA_iff]; exact ⟨rfl, rfl, rfl, rfl⟩
  unfold smJ at e1 e2
  cases h1 : new[i]? with
  | none => rw [h1] at e1; cases e1
  | some x =>
    cases h2 : new[j]? with
    | none => rw [h2] at e2; cases e2
    | some y =>
      rw [h1] at e1
      rw [h2] at e2
      refine d i j x y h1 h2 ?_
      have a := smA_iff.mp e1
      have b := smA_iff.mp e2
      exact smA_iff.mpr ⟨a.1.symm.trans b.1, a.2.1.symm.trans b.2.1, a.2.2.1.symm.trans b.2.2.1, a.2.2.2.symm.trans b.2.2.2⟩
def TkP (T T' : Nat) (ps0 ps1 : List Pc) (g : Gh) (h : aH) (x : Option Value) (h' : aH) : Prop := x = some (.int (nI (ps0.filter (lsB ps1)).length)) ∧ TkF g h h' ∧ CTx g T ps0 h' ∧ CTx g T' (tkA ps0 ps1) h' ∧ ∀ (j : Nat) (p : Pc) (q : Nat), ps0[j]? = some p → hY h (T + 1) j = some q → hI h' 392 q = bI (lsB ps1 p)
theorem ec_tk_l (l : Launch) (G : aG) (T T' : Nat) (ps0 ps1 : List Pc) (m : Md) (g : Gh) (h : aH) (cf : Cf h) (wf : OwF (wO g)) (cm : CM g m h) (hv : Hv h) (hT_ : (T = 18 ∧ T' = 21) ∨ (T = 21 ∧ T' = 18)) (mp0 : ∀ p ∈ ps0, PcM m p) (mp1 : ∀ p ∈ ps1, PcM m p) (md0 : MkD ps0) (md1 : MkD ps1) (nh1 : ∀ p ∈ ps1, pcH p = none) (ms : Nat) : ∀ i, ps0.length - i < ms → i ≤ ps0.length → ∀ (n nx : Nat) (h1 : aH) (v5_ v6_ : Value), TkF g h h1 → CTx g T ps0 h1 → CTx g T' ((ps0.take i).foldl tkO ps1) h1 → (∀ (j : Nat) (p : Pc) (q : Nat), j < i → ps0[j]? = some p → hY h (T + 1) j = some q → hI h1 392 q = bI (lsB ps1 p)) → n = ((ps0.take i).filter (lsB ps1)).length → (nx < ps1.length ∨ ps1.length = 0) → Ev l G 3 0 0 mX8_takeHands 7 [.ref T', .ref T, .int (nI n), .int (nI nx), .int (nI i), v5_, v6_] [] h1 (TkP T T' ps0 ps1 g h) := by
  induction ms with
  | zero => intro i hi; omega
  | succ ms ih_ =>
    intro i hi1_ hi2_ n nx h1 v5_ v6_ tk_ t0_ t1_ lo_ hn_ nx0_
    have hT1_ : T = 18 ∨ T = 21 := by omega
    have hT2_ : T' = 18 ∨ T' = 21 := by omega
    have t45a_ := tTg_45 T
    have t45b_ := tTg_45 T'
    have tne_ : tTg T ≠ tTg T' := by
      rcases hT_ with ⟨rfl, rfl⟩ | ⟨rfl, rfl⟩ <;> decide
    have cf1_ := tk_.cf cf hv wf
    have tf_ := tx_f cf1_ hT1_
    have tg_ := tx_f cf1_ hT2_
    have n250_ := t0_.2.1
    have m250_ := t1_.2.1
    have ky_ : keyL ((ps0.take i).foldl tkO ps1) ps1 := tkA_key (ps0.take i) ps1
    have nle_ : n ≤ 250 := by
      rw [hn_]
      have := List.length_filter_le (lsB ps1) (ps0.take i)
      rw [List.length_take] at this
      omega
    by_cases zi_ : i < ps0.length
    · obtain ⟨P, hp_⟩ : ∃ P, ps0[i]? = some P := ⟨_, List.getElem?_eq_getElem zi_⟩
      have mP_ : P ∈ ps0 := List.mem_of_getElem? hp_
      obtain ⟨q, hy_, cpc_, cp_⟩ := t0_.p hp_
      have pb_ := (t0_.2.2.2.2.1 i P hp_).1
      have wq_ : (wO g q).1 = 4 ∨ (wO g q).1 = 5 := by rw [cpc_.1.2.1]; exact t45a_
      cases hp2_ : pcH P with
      | none =>
        have hd_ : hR h1 391 q = none := by have c2_ := cpc_.2; rw [hp2_] at c2_; exact c2_
        have els_ : lsB ps1 P = false := by unfold lsB; rw [hp2_]; rfl
        refine Ev_iload dX8_takeHands_7 rfl ?_
        refine Ev_aload_n dX8_takeHands_9 rfl (by first | exact Or.inr ⟨_, rfl⟩ | exact rv_or _ | exact Or.inl rfl) ?_
        refine Ev_getE dX8_takeHands_10 fX8_25 tf_.1 t0_.2.2.2.1 ?_
        refine Ev_icmp_geN 137 dX8_takeHands_13 (by decide) (by omega) (by omega) (fun zb13_ => ?_) (fun zb13_ => ?_)
        · exact False.elim (by omega)
        · refine Ev_aload_n dX8_takeHands_16 rfl (by first | exact Or.inr ⟨_, rfl⟩ | exact rv_or _ | exact Or.inl rfl) ?_
          refine Ev_getA dX8_takeHands_17 fX8_11 tf_.1 tf_.2.1 ?_
          refine Ev_iload dX8_takeHands_20 rfl ?_
          refine Ev_aald i dX8_takeHands_22 tf_.2.2.2.1.1 (by omega) (by omega) (hi_n (by omega)) (by rw [tf_.2.2.2.1.2]; omega) ?_
          rw [hy_]
          refine Ev_top (y := .ref q) rfl ?_
          refine Ev_astore dX8_takeHands_23 (by decide) (by first | exact Or.inr ⟨_, rfl⟩ | exact rv_or _ | exact Or.inl rfl) ?_
          refine Ev_aload dX8_takeHands_25 rfl (by first | exact Or.inr ⟨_, rfl⟩ | exact rv_or _ | exact Or.inl rfl) ?_
          refine Ev_getR dX8_takeHands_27 fX8_57 cp_.1.1 ?_
          refine Ev_ifnonnull 37 dX8_takeHands_30 (by decide) (fun zx30_ zb30_ => ?_) (fun zb30_ => ?_)
          · rw [hd_] at zb30_
            cases zb30_
          · refine Ev_iconst (v := -1) dX8_takeHands_33 (by decide) ?_
            refine Ev_goto 44 dX8_takeHands_34 (by decide) ?_
            refine Ev_istore dX8_takeHands_44 (by decide) ?_
            refine Ev_aload dX8_takeHands_46 rfl (by first | exact Or.inr ⟨_, rfl⟩ | exact rv_or _ | exact Or.inl rfl) ?_
            refine Ev_aload dX8_takeHands_48 rfl (by first | exact Or.inr ⟨_, rfl⟩ | exact rv_or _ | exact Or.inl rfl) ?_
            refine Ev_getR dX8_takeHands_50 fX8_57 cp_.1.1 ?_
            refine Ev_ifnull 66 dX8_takeHands_53 (by decide) (fun zb53_ => ?_) (fun zx53_ zb53_ => ?_)
            · refine Ev_iconst (v := nI 0) dX8_takeHands_66 (by decide) ?_
              refine Ev_putI dX8_takeHands_67 fX8_98 ⟨_, rfl, Or.inl rfl⟩ (Or.inr ⟨rfl, (by decide)⟩) cp_.1.1 ?_
              refine Ev_aload dX8_takeHands_70 rfl (by first | exact Or.inr ⟨_, rfl⟩ | exact rv_or _ | exact Or.inl rfl) ?_
              refine Ev_getE dX8_takeHands_72 fX8_98 cp_.1.1 (hI_s _ _ _ _) ?_
              refine Ev_if_eqT 81 dX8_takeHands_75 (by decide) (fun zb75_ => ?_) (fun zb75_ => ?_)
              · refine Ev_iload dX8_takeHands_81 rfl ?_
                refine Ev_iconst (v := -1) dX8_takeHands_83 (by decide) ?_
                refine Ev_icmp_eqT 131 dX8_takeHands_84 (by decide) (fun zb84_ => ?_) (fun zb84_ => ?_)
                · refine Ev_iincN 1 dX8_takeHands_131 (by decide) (by decide) rfl ?_
                  refine Ev_goto 7 dX8_takeHands_134 (by decide) ?_
                  refine ih_ (i + 1) (by omega) (by omega) (n) nx (sI h1 392 q (nI 0)) _ _ (tk_.tr (TkF.i wq_)) t0_.lost ?_ (fun k p' q' hk hp' hq' => by
                    by_cases z : k = i
                    · subst z
                      rw [hp_] at hp'
                      cases hp'
                      have eq_ : q = q' := Option.some.inj (((congrFun (congrFun tk_.1.2.2.2.2 (T + 1)) k).symm.trans hy_).symm.trans hq') |> fun e => e
                      subst eq_
                      rw [els_]
                      exact hI_s _ _ _ _
                    · have oq_ := (t0_.1 k q' (by have := t0_.2.1; omega) ((congrFun (congrFun tk_.1.2.2.2.2 (T + 1)) k).trans hq')).2
                      have nq_ : q' ≠ q := fun e => by
                        rw [e, cpc_.1.2.1] at oq_
                        exact z (congrArg Prod.snd oq_).symm
                      exact (hI_a _ _ nq_).trans (lo_ k p' q' (by omega) hp' hq')) ?_ nx0_
                  · rw [take_ps hp_, List.foldl_append]
                    show CTx g T' (tkO ((ps0.take i).foldl tkO ps1) P) _
                    rw [tkO_n hp2_]; exact t1_.lost
                  · rw [take_ps hp_, List.filter_append, List.length_append]
                    rw [List.filter_cons, els_, if_neg (by decide)]
                    exact hn_
                · exact absurd rfl zb84_
              · exact absurd (by decide) zb75_
            · rw [hd_] at zb53_
              cases zb53_
      | some hb =>
        have hb2_ := cp_.2.2.1 hb hp2_
        have c2_ := cpc_.2
        rw [hp2_] at c2_
        obtain ⟨d_, hd_, k1_, od_, ⟨r_, h64_, ir_⟩, b_, h65_, ib_⟩ := c2_
        have cm1_ := tk_.cm cm cf hv wf
        have mc_ : ∀ p ∈ ((ps0.take i).foldl tkO ps1), PcM m p := tkA_m _ _ mp1
        have mdc_ : MkD ((ps0.take i).foldl tkO ps1) := md1.tk _
        have nx1_ : nx < ((ps0.take i).foldl tkO ps1).length ∨ ((ps0.take i).foldl tkO ps1).length = 0 := by rw [ky_.1]; exact nx0_
        have ef_ : fnd ((ps0.take i).foldl tkO ps1) P = fnd ps1 P := keyL_fnd ky_ P
        cases hfc_ : fnd ((ps0.take i).foldl tkO ps1) P with
        | none =>
          have els_ : lsB ps1 P = true := by unfold lsB; rw [hp2_, ← ef_, hfc_]; rfl
          refine Ev_iload dX8_takeHands_7 rfl ?_
          refine Ev_aload_n dX8_takeHands_9 rfl (by first | exact Or.inr ⟨_, rfl⟩ | exact rv_or _ | exact Or.inl rfl) ?_
          refine Ev_getE dX8_takeHands_10 fX8_25 tf_.1 t0_.2.2.2.1 ?_
          refine Ev_icmp_geN 137 dX8_takeHands_13 (by decide) (by omega) (by omega) (fun zb13_ => ?_) (fun zb13_ => ?_)
          · exact False.elim (by omega)
          · refine Ev_aload_n dX8_takeHands_16 rfl (by first | exact Or.inr ⟨_, rfl⟩ | exact rv_or _ | exact Or.inl rfl) ?_
            refine Ev_getA dX8_takeHands_17 fX8_11 tf_.1 tf_.2.1 ?_
            refine Ev_iload dX8_takeHands_20 rfl ?_
            refine Ev_aald i dX8_takeHands_22 tf_.2.2.2.1.1 (by omega) (by omega) (hi_n (by omega)) (by rw [tf_.2.2.2.1.2]; omega) ?_
            rw [hy_]
            refine Ev_top (y := .ref q) rfl ?_
            refine Ev_astore dX8_takeHands_23 (by decide) (by first | exact Or.inr ⟨_, rfl⟩ | exact rv_or _ | exact Or.inl rfl) ?_
            refine Ev_aload dX8_takeHands_25 rfl (by first | exact Or.inr ⟨_, rfl⟩ | exact rv_or _ | exact Or.inl rfl) ?_
            refine Ev_getR dX8_takeHands_27 fX8_57 cp_.1.1 ?_
            refine Ev_ifnonnull 37 dX8_takeHands_30 (by decide) (fun zx30_ zb30_ => ?_) (fun zb30_ => ?_)
            · refine Ev_aload_n dX8_takeHands_37 rfl (by first | exact Or.inr ⟨_, rfl⟩ | exact rv_or _ | exact Or.inl rfl) ?_
              refine Ev_aload dX8_takeHands_38 rfl (by first | exact Or.inr ⟨_, rfl⟩ | exact rv_or _ | exact Or.inl rfl) ?_
              refine Ev_iload_n dX8_takeHands_40 rfl ?_
              refine Ev_V0 [.ref q, .int (nI nx)] dX8_takeHands_41 vX8_find kX8_95 tg_.1 rfl rfl rfl (Nat.le_of_ble_eq_true rfl) (by omega) (ec_find l G nx g T' ((ps0.take i).foldl tkO ps1) h1 cf1_ hT2_ t1_ nx1_ P (stt ps0 i) q (tTg T, i) m cm1_ cpc_ (mp0 P mP_) pb_ mc_ mdc_) ?_
              rw [hfc_]
              refine Ev_top (y := .int (-1)) rfl ?_
              refine Ev_istore dX8_takeHands_44 (by decide) ?_
              refine Ev_aload dX8_takeHands_46 rfl (by first | exact Or.inr ⟨_, rfl⟩ | exact rv_or _ | exact Or.inl rfl) ?_
              refine Ev_aload dX8_takeHands_48 rfl (by first | exact Or.inr ⟨_, rfl⟩ | exact rv_or _ | exact Or.inl rfl) ?_
              refine Ev_getR dX8_takeHands_50 fX8_57 cp_.1.1 ?_
              refine Ev_ifnull 66 dX8_takeHands_53 (by decide) (fun zb53_ => ?_) (fun zx53_ zb53_ => ?_)
              · rw [hd_] at zb53_
                cases zb53_
              · refine Ev_iload dX8_takeHands_56 rfl ?_
                refine Ev_iconst (v := -1) dX8_takeHands_58 (by decide) ?_
                refine Ev_icmp_neT 66 dX8_takeHands_59 (by decide) (fun zb59_ => ?_) (fun zb59_ => ?_)
                · exact absurd rfl zb59_
                · refine Ev_iconst (v := nI 1) dX8_takeHands_62 (by decide) ?_
                  refine Ev_goto 67 dX8_takeHands_63 (by decide) ?_
                  refine Ev_putI dX8_takeHands_67 fX8_98 ⟨_, rfl, Or.inl rfl⟩ (Or.inr ⟨rfl, (by decide)⟩) cp_.1.1 ?_
                  refine Ev_aload dX8_takeHands_70 rfl (by first | exact Or.inr ⟨_, rfl⟩ | exact rv_or _ | exact Or.inl rfl) ?_
                  refine Ev_getE dX8_takeHands_72 fX8_98 cp_.1.1 (hI_s _ _ _ _) ?_
                  refine Ev_if_eqT 81 dX8_takeHands_75 (by decide) (fun zb75_ => ?_) (fun zb75_ => ?_)
                  · exact absurd zb75_ (by decide)
                  · refine Ev_iincN 1 dX8_takeHands_78 (by decide) (by decide) rfl ?_
                    refine Ev_iload dX8_takeHands_81 rfl ?_
                    refine Ev_iconst (v := -1) dX8_takeHands_83 (by decide) ?_
                    refine Ev_icmp_eqT 131 dX8_takeHands_84 (by decide) (fun zb84_ => ?_) (fun zb84_ => ?_)
                    · refine Ev_iincN 1 dX8_takeHands_131 (by decide) (by decide) rfl ?_
                      refine Ev_goto 7 dX8_takeHands_134 (by decide) ?_
                      refine ih_ (i + 1) (by omega) (by omega) (n + 1) nx (sI h1 392 q (nI 1)) _ _ (tk_.tr (TkF.i wq_)) t0_.lost ?_ (fun k p' q' hk hp' hq' => by
                        by_cases z : k = i
                        · subst z
                          rw [hp_] at hp'
                          cases hp'
                          have eq_ : q = q' := Option.some.inj (((congrFun (congrFun tk_.1.2.2.2.2 (T + 1)) k).symm.trans hy_).symm.trans hq') |> fun e => e
                          subst eq_
                          rw [els_]
                          exact hI_s _ _ _ _
                        · have oq_ := (t0_.1 k q' (by have := t0_.2.1; omega) ((congrFun (congrFun tk_.1.2.2.2.2 (T + 1)) k).trans hq')).2
                          have nq_ : q' ≠ q := fun e => by
                            rw [e, cpc_.1.2.1] at oq_
                            exact z (congrArg Prod.snd oq_).symm
                          exact (hI_a _ _ nq_).trans (lo_ k p' q' (by omega) hp' hq')) ?_ nx0_
                      · rw [take_ps hp_, List.foldl_append]
                        show CTx g T' (tkO ((ps0.take i).foldl tkO ps1) P) _
                        rw [tkO_f hfc_]; exact t1_.lost
                      · rw [take_ps hp_, List.filter_append, List.length_append]
                        rw [List.filter_cons, els_, if_pos rfl, hn_]
                        rfl
                    · exact absurd rfl zb84_
            · rw [hd_] at zb30_
              cases zb30_
        | some j =>
          have els_ : lsB ps1 P = false := by unfold lsB; rw [hp2_, ← ef_, hfc_]; rfl
          obtain ⟨N, hN_, sm_⟩ := fnd_at hfc_
          have jl_ := (List.getElem?_eq_some_iff.mp hN_).1
          have jl2_ := ky_.1
          obtain ⟨q2, hy2_, cpc2_, -⟩ := t1_.p hN_
          have jq2_ := t1_.1 j q2 (by omega) hy2_
          have wq2_ : (wO g q2).1 = 4 ∨ (wO g q2).1 = 5 := by rw [jq2_.2]; exact t45b_
          have kq2_ : hK h1 q2 = 6 := jq2_.1
          have hNn_ : pcH N = none := by
            rcases tkA_h (ps0.take i) ps1 (fun _ => False) (fun N hN => Or.inl (nh1 N hN)) N (List.mem_of_getElem? hN_) with z | z | ⟨p', z1, z2⟩
            · exact z
            · exact z.elim
            · exfalso
              obtain ⟨k, hk⟩ := List.getElem?_of_mem z1
              rw [List.getElem?_take] at hk
              split at hk
              · next y =>
                have a := smA_iff.mp z2
                have b := smA_iff.mp sm_
                have := md0 k i p' P hk hp_ (smA_iff.mpr ⟨a.1.trans b.1.symm, a.2.1.trans b.2.1.symm, a.2.2.1.trans b.2.2.1.symm, a.2.2.2.trans b.2.2.2.symm⟩)
                omega
              · cases hk
          have tx2_ : CTx g T' ((ps0.take i).foldl tkO ps1) (sI h1 392 q (nI 0)) := t1_.lost
          obtain ⟨q3_, hy3_, -, cp2_⟩ := tx2_.p hN_
          have e3_ : q2 = q3_ := Option.some.inj (hy2_.symm.trans hy3_)
          subst e3_
          have cf2_ : Cf (sI h1 392 q (nI 0)) := (tk_.tr (TkF.i wq_)).cf cf hv wf
          have hv2_ : Hv (sI h1 392 q (nI 0)) := fun b hb => (by
            have e1 : hK (sI h1 392 q (nI 0)) = hK h := tk_.1.2.1
            have e2 : hN (sI h1 392 q (nI 0)) = hN h := tk_.1.1
            rw [e1] at hb
            rw [e2]
            exact hv b hb)
          refine Ev_iload dX8_takeHands_7 rfl ?_
          refine Ev_aload_n dX8_takeHands_9 rfl (by first | exact Or.inr ⟨_, rfl⟩ | exact rv_or _ | exact Or.inl rfl) ?_
          refine Ev_getE dX8_takeHands_10 fX8_25 tf_.1 t0_.2.2.2.1 ?_
          refine Ev_icmp_geN 137 dX8_takeHands_13 (by decide) (by omega) (by omega) (fun zb13_ => ?_) (fun zb13_ => ?_)
          · exact False.elim (by omega)
          · refine Ev_aload_n dX8_takeHands_16 rfl (by first | exact Or.inr ⟨_, rfl⟩ | exact rv_or _ | exact Or.inl rfl) ?_
            refine Ev_getA dX8_takeHands_17 fX8_11 tf_.1 tf_.2.1 ?_
            refine Ev_iload dX8_takeHands_20 rfl ?_
            refine Ev_aald i dX8_takeHands_22 tf_.2.2.2.1.1 (by omega) (by omega) (hi_n (by omega)) (by rw [tf_.2.2.2.1.2]; omega) ?_
            rw [hy_]
            refine Ev_top (y := .ref q) rfl ?_
            refine Ev_astore dX8_takeHands_23 (by decide) (by first | exact Or.inr ⟨_, rfl⟩ | exact rv_or _ | exact Or.inl rfl) ?_
            refine Ev_aload dX8_takeHands_25 rfl (by first | exact Or.inr ⟨_, rfl⟩ | exact rv_or _ | exact Or.inl rfl) ?_
            refine Ev_getR dX8_takeHands_27 fX8_57 cp_.1.1 ?_
            refine Ev_ifnonnull 37 dX8_takeHands_30 (by decide) (fun zx30_ zb30_ => ?_) (fun zb30_ => ?_)
            · refine Ev_aload_n dX8_takeHands_37 rfl (by first | exact Or.inr ⟨_, rfl⟩ | exact rv_or _ | exact Or.inl rfl) ?_
              refine Ev_aload dX8_takeHands_38 rfl (by first | exact Or.inr ⟨_, rfl⟩ | exact rv_or _ | exact Or.inl rfl) ?_
              refine Ev_iload_n dX8_takeHands_40 rfl ?_
              refine Ev_V0 [.ref q, .int (nI nx)] dX8_takeHands_41 vX8_find kX8_95 tg_.1 rfl rfl rfl (Nat.le_of_ble_eq_true rfl) (by omega) (ec_find l G nx g T' ((ps0.take i).foldl tkO ps1) h1 cf1_ hT2_ t1_ nx1_ P (stt ps0 i) q (tTg T, i) m cm1_ cpc_ (mp0 P mP_) pb_ mc_ mdc_) ?_
              rw [hfc_]
              refine Ev_top (y := .int (nI j)) rfl ?_
              refine Ev_istore dX8_takeHands_44 (by decide) ?_
              refine Ev_aload dX8_takeHands_46 rfl (by first | exact Or.inr ⟨_, rfl⟩ | exact rv_or _ | exact Or.inl rfl) ?_
              refine Ev_aload dX8_takeHands_48 rfl (by first | exact Or.inr ⟨_, rfl⟩ | exact rv_or _ | exact Or.inl rfl) ?_
              refine Ev_getR dX8_takeHands_50 fX8_57 cp_.1.1 ?_
              refine Ev_ifnull 66 dX8_takeHands_53 (by decide) (fun zb53_ => ?_) (fun zx53_ zb53_ => ?_)
              · rw [hd_] at zb53_
                cases zb53_
              · refine Ev_iload dX8_takeHands_56 rfl ?_
                refine Ev_iconst (v := -1) dX8_takeHands_58 (by decide) ?_
                refine Ev_icmp_neT 66 dX8_takeHands_59 (by decide) (fun zb59_ => ?_) (fun zb59_ => ?_)
                · refine Ev_iconst (v := nI 0) dX8_takeHands_66 (by decide) ?_
                  refine Ev_putI dX8_takeHands_67 fX8_98 ⟨_, rfl, Or.inl rfl⟩ (Or.inr ⟨rfl, (by decide)⟩) cp_.1.1 ?_
                  refine Ev_aload dX8_takeHands_70 rfl (by first | exact Or.inr ⟨_, rfl⟩ | exact rv_or _ | exact Or.inl rfl) ?_
                  refine Ev_getE dX8_takeHands_72 fX8_98 cp_.1.1 (hI_s _ _ _ _) ?_
                  refine Ev_if_eqT 81 dX8_takeHands_75 (by decide) (fun zb75_ => ?_) (fun zb75_ => ?_)
                  · refine Ev_iload dX8_takeHands_81 rfl ?_
                    refine Ev_iconst (v := -1) dX8_takeHands_83 (by decide) ?_
                    refine Ev_icmp_eqT 131 dX8_takeHands_84 (by decide) (fun zb84_ => ?_) (fun zb84_ => ?_)
                    · exact absurd zb84_ (by rw [hi_n (by omega), tm1]; omega)
                    · refine Ev_aload_n dX8_takeHands_87 rfl (by first | exact Or.inr ⟨_, rfl⟩ | exact rv_or _ | exact Or.inl rfl) ?_
                      refine Ev_getA dX8_takeHands_88 fX8_11 tg_.1 tg_.2.1 ?_
                      refine Ev_iload dX8_takeHands_91 rfl ?_
                      refine Ev_aald j dX8_takeHands_93 tg_.2.2.2.1.1 (by omega) (by omega) (hi_n (by omega)) (by show j < hL h1 (T' + 1); rw [tg_.2.2.2.1.2]; omega) ?_
                      refine Ev_top (y := .ref q2) (by show rv (hY h1 (T' + 1) j) = _; rw [hy2_]; rfl) ?_
                      refine Ev_aload_n dX8_takeHands_94 rfl (by first | exact Or.inr ⟨_, rfl⟩ | exact rv_or _ | exact Or.inl rfl) ?_
                      refine Ev_aload_n dX8_takeHands_95 rfl (by first | exact Or.inr ⟨_, rfl⟩ | exact rv_or _ | exact Or.inl rfl) ?_
                      refine Ev_getA dX8_takeHands_96 fX8_11 tg_.1 tg_.2.1 ?_
                      refine Ev_iload dX8_takeHands_99 rfl ?_
                      refine Ev_aald j dX8_takeHands_101 tg_.2.2.2.1.1 (by omega) (by omega) (hi_n (by omega)) (by show j < hL h1 (T' + 1); rw [tg_.2.2.2.1.2]; omega) ?_
                      refine Ev_top (y := .ref q2) (by show rv (hY h1 (T' + 1) j) = _; rw [hy2_]; rfl) ?_
                      refine Ev_aload dX8_takeHands_102 rfl (by first | exact Or.inr ⟨_, rfl⟩ | exact rv_or _ | exact Or.inl rfl) ?_
                      refine Ev_getA dX8_takeHands_104 fX8_57 cp_.1.1 hd_ ?_
                      refine Ev_getA dX8_takeHands_107 fX8_75 k1_ h64_ ?_
                      refine Ev_V0 [.ref q2, .ref r_] dX8_takeHands_110 vX8_madeIs kX8_83 tg_.1 rfl rfl rfl (Nat.le_of_ble_eq_true rfl) (by omega) (ec_madeIs l G r_ hb.1 (by omega) g T' q2 N (sI h1 392 q (nI 0)) cp2_ cf2_ hT2_ ir_) ?_
                      refine Ev_if_eqB 120 dX8_takeHands_113 (by decide) (fun zb113_ => ?_) (fun zb113_ => ?_)
                      · refine Ev_aload dX8_takeHands_120 rfl (by first | exact Or.inr ⟨_, rfl⟩ | exact rv_or _ | exact Or.inl rfl) ?_
                        refine Ev_getA dX8_takeHands_122 fX8_57 cp_.1.1 hd_ ?_
                        refine Ev_putR (x := some d_) dX8_takeHands_125 fX8_57 ⟨_, rfl, Or.inl rfl⟩ kq2_ rfl ?_
                        refine Ev_iload dX8_takeHands_128 rfl ?_
                        refine Ev_istore_n dX8_takeHands_130 (by decide) ?_
                        refine Ev_iincN 1 dX8_takeHands_131 (by decide) (by decide) rfl ?_
                        refine Ev_goto 7 dX8_takeHands_134 (by decide) ?_
                        refine ih_ (i + 1) (by omega) (by omega) (n) j (sR (sI h1 392 q (nI 0)) 391 q2 (some d_)) _ _ ((tk_.tr (TkF.i wq_)).tr (TkF.r wq2_)) (t0_.lost.fo (S := fun tg => tg = (tTg T', j)) (FO.sR jq2_.2) hv2_ (fun _ _ => rfl) (fun y => by have z3 : (0 : Nat) = tTg T' := congrArg Prod.fst y; omega) (fun k y => by have z3 : tTg T = tTg T' := congrArg Prod.fst y; omega) rfl rfl rfl) ?_ (fun k p' q' hk hp' hq' => by
                          by_cases z : k = i
                          · subst z
                            rw [hp_] at hp'
                            cases hp'
                            have eq_ : q = q' := Option.some.inj (((congrFun (congrFun tk_.1.2.2.2.2 (T + 1)) k).symm.trans hy_).symm.trans hq') |> fun e => e
                            subst eq_
                            rw [els_]
                            exact (gI_R _ _ _ _ _ _).trans (hI_s _ _ _ _)
                          · have oq_ := (t0_.1 k q' (by have := t0_.2.1; omega) ((congrFun (congrFun tk_.1.2.2.2.2 (T + 1)) k).trans hq')).2
                            have nq_ : q' ≠ q := fun e => by
                              rw [e, cpc_.1.2.1] at oq_
                              exact z (congrArg Prod.snd oq_).symm
                            exact (gI_R _ _ _ _ _ _).trans ((hI_a _ _ nq_).trans (lo_ k p' q' (by omega) hp' hq'))) ?_ (Or.inl (by omega))
                        · rw [take_ps hp_, List.foldl_append]
                          show CTx g T' (tkO ((ps0.take i).foldl tkO ps1) P) _
                          rw [tkO_s hfc_ hN_, hp2_]
                          show CTx g T' (if pcM N = hb.1 then _ else _) _
                          rw [if_neg (of_decide_eq_false zb113_)]
                          exact t1_.lost.setH (v := some d_) (nb := some hb) hv2_ hN_ hy2_ (fun x z => by cases z; exact hb2_) ⟨d_, hR_s _ _ _ _, k1_, od_, ⟨r_, (hR_o _ _ (by decide)).trans h64_, ir_⟩, b_, (hR_o _ _ (by decide)).trans h65_, ib_⟩
                        · rw [take_ps hp_, List.filter_append, List.length_append]
                          rw [List.filter_cons, els_, if_neg (by decide)]
                          exact hn_
                      · refine Ev_null dX8_takeHands_116 ?_
                        refine Ev_goto 125 dX8_takeHands_117 (by decide) ?_
                        refine Ev_putR (x := none) dX8_takeHands_125 fX8_57 ⟨_, rfl, Or.inl rfl⟩ kq2_ rfl ?_
                        refine Ev_iload dX8_takeHands_128 rfl ?_
                        refine Ev_istore_n dX8_takeHands_130 (by decide) ?_
                        refine Ev_iincN 1 dX8_takeHands_131 (by decide) (by decide) rfl ?_
                        refine Ev_goto 7 dX8_takeHands_134 (by decide) ?_
                        refine ih_ (i + 1) (by omega) (by omega) (n) j (sR (sI h1 392 q (nI 0)) 391 q2 none) _ _ ((tk_.tr (TkF.i wq_)).tr (TkF.r wq2_)) (t0_.lost.fo (S := fun tg => tg = (tTg T', j)) (FO.sR jq2_.2) hv2_ (fun _ _ => rfl) (fun y => by have z3 : (0 : Nat) = tTg T' := congrArg Prod.fst y; omega) (fun k y => by have z3 : tTg T = tTg T' := congrArg Prod.fst y; omega) rfl rfl rfl) ?_ (fun k p' q' hk hp' hq' => by
                          by_cases z : k = i
                          · subst z
                            rw [hp_] at hp'
                            cases hp'
                            have eq_ : q = q' := Option.some.inj (((congrFun (congrFun tk_.1.2.2.2.2 (T + 1)) k).symm.trans hy_).symm.trans hq') |> fun e => e
                            subst eq_
                            rw [els_]
                            exact (gI_R _ _ _ _ _ _).trans (hI_s _ _ _ _)
                          · have oq_ := (t0_.1 k q' (by have := t0_.2.1; omega) ((congrFun (congrFun tk_.1.2.2.2.2 (T + 1)) k).trans hq')).2
                            have nq_ : q' ≠ q := fun e => by
                              rw [e, cpc_.1.2.1] at oq_
                              exact z (congrArg Prod.snd oq_).symm
                            exact (gI_R _ _ _ _ _ _).trans ((hI_a _ _ nq_).trans (lo_ k p' q' (by omega) hp' hq'))) ?_ (Or.inl (by omega))
                        · rw [take_ps hp_, List.foldl_append]
                          show CTx g T' (tkO ((ps0.take i).foldl tkO ps1) P) _
                          rw [tkO_s hfc_ hN_, hp2_]
                          show CTx g T' (if pcM N = hb.1 then _ else _) _
                          rw [if_pos (of_decide_eq_true zb113_)]
                          have c3_ := t1_.lost.setH (v := none) (nb := none) hv2_ hN_ hy2_ (fun x z => by cases z) (hR_s _ _ _ _)
                          rw [show setH N none = N by unfold setH; rw [← hNn_]; rfl, set_same hN_] at c3_
                          exact c3_
                        · rw [take_ps hp_, List.filter_append, List.length_append]
                          rw [List.filter_cons, els_, if_neg (by decide)]
                          exact hn_
                  · exact absurd (by decide) zb75_
                · exact absurd zb59_ (by rw [hi_n (by omega), tm1]; omega)
            · rw [hd_] at zb30_
              cases zb30_
    · skip
      refine Ev_iload dX8_takeHands_7 rfl ?_
      refine Ev_aload_n dX8_takeHands_9 rfl (by first | exact Or.inr ⟨_, rfl⟩ | exact rv_or _ | exact Or.inl rfl) ?_
      refine Ev_getE dX8_takeHands_10 fX8_25 tf_.1 t0_.2.2.2.1 ?_
      refine Ev_icmp_geN 137 dX8_takeHands_13 (by decide) (by omega) (by omega) (fun zb13_ => ?_) (fun zb13_ => ?_)
      · refine Ev_iload_n dX8_takeHands_137 rfl ?_
        refine Ev_iret dX8_takeHands_138 rfl ?_
        have ei_ : i = ps0.length := by omega
        subst ei_
        rw [List.take_length] at t1_ hn_
        exact ⟨by rw [hn_], tk_, t0_, t1_, fun j p q hp hq => lo_ j p q (List.getElem?_eq_some_iff.mp hp).1 hp hq⟩
      · exact False.elim (by omega)
theorem ec_takeHands (l : Launch) (G : aG) (T T' : Nat) (ps0 ps1 : List Pc) (m : Md) (g : Gh) (h : aH) (cf : Cf h) (wf : OwF (wO g)) (cm : CM g m h) (hv : Hv h) (hT_ : (T = 18 ∧ T' = 21) ∨ (T = 21 ∧ T' = 18)) (mp0 : ∀ p ∈ ps0, PcM m p) (mp1 : ∀ p ∈ ps1, PcM m p) (md0 : MkD ps0) (md1 : MkD ps1) (nh1 : ∀ p ∈ ps1, pcH p = none) (t0_ : CTx g T ps0 h) (t1_ : CTx g T' ps1 h) : Ev l G 3 0 0 mX8_takeHands 0 (en 7 [.ref T', .ref T]) [] h (TkP T T' ps0 ps1 g h) := by
  refine Ev_iconst (v := nI 0) dX8_takeHands_0 (by decide) ?_
  refine Ev_istore_n dX8_takeHands_1 (by decide) ?_
  refine Ev_iconst (v := nI 0) dX8_takeHands_2 (by decide) ?_
  refine Ev_istore_n dX8_takeHands_3 (by decide) ?_
  refine Ev_iconst (v := nI 0) dX8_takeHands_4 (by decide) ?_
  refine Ev_istore dX8_takeHands_5 (by decide) ?_
  exact ec_tk_l l G T T' ps0 ps1 m g h cf wf cm hv hT_ mp0 mp1 md0 md1 nh1 (ps0.length + 1) 0 (by omega) (by omega) 0 0 h _ _ TkF.rf t0_ t1_ (fun j p q hj => absurd hj (by omega)) rfl (by omega)
