theorem pth_u {m : Md} : ∀ (xs ys : List Nat) (o_ : Option Nat), PthR m xs o_ → PthR m ys o_ → xs = ys := by
  intro xs
  induction xs with
  | nil =>
    intro ys o_ h1 h2
    have e : o_ = none := h1
    subst e
    cases ys with
    | nil => rfl
    | cons y ys => exact absurd h2.1 (by intro z; cases z)
  | cons x xs ih_ =>
    intro ys o_ h1 h2
    have e : o_ = some x := h1.1
    subst e
    cases ys with
    | nil => exact absurd (show some x = none from h2) (by intro z; cases z)
    | cons y ys =>
      have e2 : x = y := Option.some.inj h2.1
      subst e2
      rw [ih_ ys _ h1.2.2 h2.2.2]
theorem wy_f : ∀ (xs ys : List Nat) (a b : Nat), xs.length = ys.length → (∀ x ∈ xs, x < 32) → (∀ y ∈ ys, y < 32) → xs.foldl (fun a i => a * 32 + i) a = ys.foldl (fun a i => a * 32 + i) b → a = b ∧ xs = ys := by
  intro xs
  induction xs with
  | nil =>
    intro ys a b hl _ _ e
    cases ys with
    | nil => exact ⟨e, rfl⟩
    | cons y ys => simp at hl
  | cons x xs ih_ =>
    intro ys a b hl h1 h2 e
    cases ys with
    | nil => simp at hl
    | cons y ys =>
      obtain ⟨e1, e2⟩ := ih_ ys (a * 32 + x) (b * 32 + y) (by simpa using hl) (fun z hz => h1 z (by simp [hz])) (fun z hz => h2 z (by simp [hz])) e
      have hx := h1 x (by simp)
      have hy := h2 y (by simp)
      have e3 : a = b ∧ x = y := by omega
      rw [e3.2, e2]
      exact ⟨e3.1, rfl⟩
theorem wy_b : ∀ (xs : List Nat) (a : Nat), (∀ x ∈ xs, x < 32) → xs.foldl (fun a i => a * 32 + i) a < (a + 1) * 32 ^ xs.length := by
  intro xs
  induction xs with
  | nil => intro a _; simp
  | cons x xs ih_ =>
    intro a h
    have hx := h x (by simp)
    have h1 := ih_ (a * 32 + x) (fun z hz => h z (by simp [hz]))
    refine Nat.lt_of_lt_of_le h1 ?_
    rw [List.length_cons, Nat.pow_succ, Nat.mul_comm (32 ^ xs.length) 32, ← Nat.mul_assoc]
    exact Nat.mul_le_mul_right _ (by omega)
theorem wyE_lt {p : Pc} (b : PcB p) : wyE (pcW p) < 2 ^ 31 := by
  have h1 := wy_b (pcW p) 0 (fun x hx => by have := b.2.2.2.2.2.2.2.2.2.1 x hx; omega)
  have hl : (pcW p).length ≤ 5 := by have := b.2.1; have := b.2.2.1; omega
  have h2 : 32 ^ (pcW p).length ≤ 32 ^ 5 := Nat.pow_le_pow_right (by decide) hl
  have h3 : (32 : Nat) ^ 5 < 2 ^ 31 := by decide
  unfold wyE
  omega
/-- the class's way to tell makers is the reference's -/
theorem smA_e {m : Md} {p q : Pc} (hp : PcM m p) (hq : PcM m q) (bp : PcB p) (bq : PcB q) : (pcC p = pcC q ∧ pcI p = pcI q ∧ pcT p = pcT q ∧ wyE (pcW p) = wyE (pcW q)) ↔ smA p q = true := by
  rw [smA_iff]
  constructor
  · rintro ⟨h1, h2, h3, h4⟩
    have ea : pcA p = pcA q := by
      have e1 := hp.2.2.2.2.2
      have e2 := hq.2.2.2.2.2
      rw [h1] at e1
      have := pth_u _ _ _ e1 e2
      exact List.reverse_inj.mp this
    have el : (pcW p).length = (pcW q).length := by
      have h5 := bp.2.2.1
      have h6 := bq.2.2.1
      rw [ea] at h5
      omega
    exact ⟨ea, (wy_f _ _ 0 0 el (fun x hx => by have := bp.2.2.2.2.2.2.2.2.2.1 x hx; omega) (fun x hx => by have := bq.2.2.2.2.2.2.2.2.2.1 x hx; omega) h4).2, h2, h3⟩
  · rintro ⟨h1, h2, h3, h4⟩
    refine ⟨?_, h3, h4, by rw [h2]⟩
    have e1 := hp.2.2.2.2.1
    have e2 := hq.2.2.2.2.1
    unfold PcL at e1 e2
    rw [← e1, ← e2, h1]
theorem ec_hasMakerOf (l : Launch) (G : aG) (q q' st st' : Nat) (tg tg' : Nat × Nat) (p p' : Pc) (g : Gh) (m : Md) (h : aH) (cm : CM g m h) (c1_ : CPc g tg q p st h) (c2_ : CPc g tg' q' p' st' h) (mp_ : PcM m p) (mq_ : PcM m p') (bp_ : PcB p) (bq_ : PcB p') : Ev l G 0 0 0 mX5_hasMakerOf 0 (en 2 [.ref q, .ref q']) [] h (Ex (some (.int (bI (smA p p')))) h) := by
  refine Ev_hv (fun hv => ?_)
  have w1_ := wA_3 cm hv mp_.1
  have w2_ := wA_3 cm hv mq_.1
  have i1_ := bp_.2.2.2.1
  have i2_ := bq_.2.2.2.1
  have s1_ := bp_.2.2.2.2.1
  have s2_ := bq_.2.2.2.2.1
  refine Ev_aload_n dX5_hasMakerOf_0 rfl (by first | exact Or.inr ⟨_, rfl⟩ | exact rv_or _ | exact Or.inl rfl) ?_
  refine Ev_getA dX5_hasMakerOf_1 fX5_7 c1_.1.1 c1_.1.2.2.1 ?_
  refine Ev_aload_n dX5_hasMakerOf_4 rfl (by first | exact Or.inr ⟨_, rfl⟩ | exact rv_or _ | exact Or.inl rfl) ?_
  refine Ev_getA dX5_hasMakerOf_5 fX5_7 c2_.1.1 c2_.1.2.2.1 ?_
  refine Ev_acmp_ne (x := some (wA g (pcC p))) (y := some (wA g (pcC p'))) 48 dX5_hasMakerOf_8 (by decide) (fun _ e => by cases e; exact Or.inr w1_) (fun _ e => by cases e; exact Or.inr w2_) (fun zb8_ => ?_) (fun zb8_ => ?_)
  · refine Ev_iconst (v := nI 0) dX5_hasMakerOf_48 (by decide) ?_
    refine Ev_zret dX5_hasMakerOf_49 rfl (by decide) ?_
    first
    | (refine ⟨?_, rfl⟩
       rw [(smA_e mp_ mq_ bp_ bq_).mp ⟨?_, zb19_, zb30_, zb41_⟩]
       · rfl
       · exact wA_inj cm mp_.1 mq_.1 (Option.some.inj zb8_))
    | (refine ⟨?_, rfl⟩
       have e_ : smA p p' = false := Bool.eq_false_iff.mpr (fun z => ?_)
       · rw [e_]; rfl
       obtain ⟨y1, y2, y3, y4⟩ := (smA_e mp_ mq_ bp_ bq_).mpr z
       first
       | exact zb8_ (by rw [y1])
       | exact zb19_ y2
       | exact zb30_ y3
       | exact zb41_ y4)
  · refine Ev_aload_n dX5_hasMakerOf_11 rfl (by first | exact Or.inr ⟨_, rfl⟩ | exact rv_or _ | exact Or.inl rfl) ?_
    refine Ev_getE dX5_hasMakerOf_12 fX5_27 c1_.1.1 c1_.1.2.2.2.1 ?_
    refine Ev_aload_n dX5_hasMakerOf_15 rfl (by first | exact Or.inr ⟨_, rfl⟩ | exact rv_or _ | exact Or.inl rfl) ?_
    refine Ev_getE dX5_hasMakerOf_16 fX5_27 c2_.1.1 c2_.1.2.2.2.1 ?_
    refine Ev_icmp_neN 48 dX5_hasMakerOf_19 (by decide) (by omega) (by omega) (fun zb19_ => ?_) (fun zb19_ => ?_)
    · refine Ev_iconst (v := nI 0) dX5_hasMakerOf_48 (by decide) ?_
      refine Ev_zret dX5_hasMakerOf_49 rfl (by decide) ?_
      first
      | (refine ⟨?_, rfl⟩
         rw [(smA_e mp_ mq_ bp_ bq_).mp ⟨?_, zb19_, zb30_, zb41_⟩]
         · rfl
         · exact wA_inj cm mp_.1 mq_.1 (Option.some.inj zb8_))
      | (refine ⟨?_, rfl⟩
         have e_ : smA p p' = false := Bool.eq_false_iff.mpr (fun z => ?_)
         · rw [e_]; rfl
         obtain ⟨y1, y2, y3, y4⟩ := (smA_e mp_ mq_ bp_ bq_).mpr z
         first
         | exact zb8_ (by rw [y1])
         | exact zb19_ y2
         | exact zb30_ y3
         | exact zb41_ y4)
    · refine Ev_aload_n dX5_hasMakerOf_22 rfl (by first | exact Or.inr ⟨_, rfl⟩ | exact rv_or _ | exact Or.inl rfl) ?_
      refine Ev_getE dX5_hasMakerOf_23 fX5_30 c1_.1.1 c1_.1.2.2.2.2.1 ?_
      refine Ev_aload_n dX5_hasMakerOf_26 rfl (by first | exact Or.inr ⟨_, rfl⟩ | exact rv_or _ | exact Or.inl rfl) ?_
      refine Ev_getE dX5_hasMakerOf_27 fX5_30 c2_.1.1 c2_.1.2.2.2.2.1 ?_
      refine Ev_icmp_neN 48 dX5_hasMakerOf_30 (by decide) (by omega) (by omega) (fun zb30_ => ?_) (fun zb30_ => ?_)
      · refine Ev_iconst (v := nI 0) dX5_hasMakerOf_48 (by decide) ?_
        refine Ev_zret dX5_hasMakerOf_49 rfl (by decide) ?_
        first
        | (refine ⟨?_, rfl⟩
           rw [(smA_e mp_ mq_ bp_ bq_).mp ⟨?_, zb19_, zb30_, zb41_⟩]
           · rfl
           · exact wA_inj cm mp_.1 mq_.1 (Option.some.inj zb8_))
        | (refine ⟨?_, rfl⟩
           have e_ : smA p p' = false := Bool.eq_false_iff.mpr (fun z => ?_)
           · rw [e_]; rfl
           obtain ⟨y1, y2, y3, y4⟩ := (smA_e mp_ mq_ bp_ bq_).mpr z
           first
           | exact zb8_ (by rw [y1])
           | exact zb19_ y2
           | exact zb30_ y3
           | exact zb41_ y4)
      · refine Ev_aload_n dX5_hasMakerOf_33 rfl (by first | exact Or.inr ⟨_, rfl⟩ | exact rv_or _ | exact Or.inl rfl) ?_
        refine Ev_getE dX5_hasMakerOf_34 fX5_33 c1_.1.1 c1_.1.2.2.2.2.2.2.1 ?_
        refine Ev_aload_n dX5_hasMakerOf_37 rfl (by first | exact Or.inr ⟨_, rfl⟩ | exact rv_or _ | exact Or.inl rfl) ?_
        refine Ev_getE dX5_hasMakerOf_38 fX5_33 c2_.1.1 c2_.1.2.2.2.2.2.2.1 ?_
        refine Ev_icmp_neN 48 dX5_hasMakerOf_41 (by decide) (wyE_lt bp_) (wyE_lt bq_) (fun zb41_ => ?_) (fun zb41_ => ?_)
        · refine Ev_iconst (v := nI 0) dX5_hasMakerOf_48 (by decide) ?_
          refine Ev_zret dX5_hasMakerOf_49 rfl (by decide) ?_
          first
          | (refine ⟨?_, rfl⟩
             rw [(smA_e mp_ mq_ bp_ bq_).mp ⟨?_, zb19_, zb30_, zb41_⟩]
             · rfl
             · exact wA_inj cm mp_.1 mq_.1 (Option.some.inj zb8_))
          | (refine ⟨?_, rfl⟩
             have e_ : smA p p' = false := Bool.eq_false_iff.mpr (fun z => ?_)
             · rw [e_]; rfl
             obtain ⟨y1, y2, y3, y4⟩ := (smA_e mp_ mq_ bp_ bq_).mpr z
             first
             | exact zb8_ (by rw [y1])
             | exact zb19_ y2
             | exact zb30_ y3
             | exact zb41_ y4)
        · refine Ev_iconst (v := nI 1) dX5_hasMakerOf_44 (by decide) ?_
          refine Ev_goto 49 dX5_hasMakerOf_45 (by decide) ?_
          refine Ev_zret dX5_hasMakerOf_49 rfl (by decide) ?_
          first
          | (refine ⟨?_, rfl⟩
             rw [(smA_e mp_ mq_ bp_ bq_).mp ⟨?_, zb19_, zb30_, zb41_⟩]
             · rfl
             · exact wA_inj cm mp_.1 mq_.1 (Option.some.inj zb8_))
          | (refine ⟨?_, rfl⟩
             have e_ : smA p p' = false := Bool.eq_false_iff.mpr (fun z => ?_)
             · rw [e_]; rfl
             obtain ⟨y1, y2, y3, y4⟩ := (smA_e mp_ mq_ bp_ bq_).mpr z
             first
             | exact zb8_ (by rw [y1])
             | exact zb19_ y2
             | exact zb30_ y3
             | exact zb41_ y4)
theorem smA_c (p q : Pc) : smA p q = smA q p := by
  rw [Bool.eq_iff_iff, smA_iff, smA_iff]
  constructor
  · rintro ⟨a, b, c, d⟩; exact ⟨a.symm, b.symm, c.symm, d.symm⟩
  · rintro ⟨a, b, c, d⟩; exact ⟨a.symm, b.symm, c.symm, d.symm⟩
/-- no two pieces have one maker -/
def MkD (ps : List Pc) : Prop := ∀ (i j : Nat) (p q : Pc), ps[i]? = some p → ps[j]? = some q → smA p q = true → i = j
theorem fnd_one {ps : List Pc} {p q : Pc} {j : Nat} (d : MkD ps) (h : ps[j]? = some q) (e : smA p q = true) : fnd ps p = some j := by
  refine fstF_one (List.getElem?_eq_some_iff.mp h).1 (by unfold smJ; rw [h]; exact e) (fun i hi e2 => ?_)
  unfold smJ at e2
  rw [List.getElem?_eq_getElem hi] at e2
  refine d i j _ q (List.getElem?_eq_getElem hi) h ?_
  rw [smA_iff] at e e2 ⊢
  exact ⟨e2.1.symm.trans e.1, e2.2.1.symm.trans e.2.1, e2.2.2.1.symm.trans e.2.2.1, e2.2.2.2.symm.trans e.2.2.2⟩
theorem ec_find_l (l : Launch) (G : aG) (gs : Nat) (g : Gh) (T : Nat) (ps : List Pc) (h : aH) (cf : Cf h) (hT : T = 18 ∨ T = 21) (tx : CTx g T ps h) (hg_ : gs < ps.length ∨ ps.length = 0) (P : Pc) (st0 q0 : Nat) (tg0 : Nat × Nat) (m : Md) (cm : CM g m h) (c0_ : CPc g tg0 q0 P st0 h) (mP_ : PcM m P) (bP_ : PcB P) (mps_ : ∀ p ∈ ps, PcM m p) (md_ : MkD ps) (ms : Nat) : ∀ k, ps.length - k < ms → k ≤ ps.length → (∀ k', k' < k → ∀ p', ps[(if gs + k' < ps.length then gs + k' else gs + k' - ps.length)]? = some p' → smA p' P = false) → ∀ v4_ : Value, Ev l G 1 0 0 mX8_find 2 [.ref T, .ref q0, .int (nI gs), .int (nI k), v4_] [] h (Ex (some (.int (onI (fnd ps P)))) h) := by
  have tf_ := tx_f cf hT
  have n250_ := tx.2.1
  induction ms with
  | zero => intro k hk; omega
  | succ ms ih_ =>
    intro k hk1_ hk2_ nm_ v4_
    refine Ev_iload_n dX8_find_2 rfl ?_
    refine Ev_aload_n dX8_find_3 rfl (by first | exact Or.inr ⟨_, rfl⟩ | exact rv_or _ | exact Or.inl rfl) ?_
    refine Ev_getE dX8_find_4 fX8_25 tf_.1 tx.2.2.2.1 ?_
    refine Ev_icmp_geN 59 dX8_find_7 (by decide) (by omega) (by omega) (fun zb7_ => ?_) (fun zb7_ => ?_)
    · refine Ev_iconst (v := -1) dX8_find_59 (by decide) ?_
      refine Ev_iret dX8_find_60 rfl ?_
      refine ⟨?_, rfl⟩
      have e_ : fnd ps P = none := fstF_none (fun i hi => by
        unfold smJ
        rw [List.getElem?_eq_getElem hi]
        obtain ⟨k', k1, k2⟩ : ∃ k', k' < k ∧ i = (if gs + k' < ps.length then gs + k' else gs + k' - ps.length) := by
          by_cases z : gs ≤ i
          · exact ⟨i - gs, by omega, by rw [if_pos (by omega)]; omega⟩
          · exact ⟨i + ps.length - gs, by omega, by rw [if_neg (by omega)]; omega⟩
        have := nm_ k' k1 _ (by rw [← k2]; exact List.getElem?_eq_getElem hi)
        show smA P ps[i] = false
        rw [smA_c]; exact this)
      rw [e_]; rfl
    · obtain ⟨a_, ea_, al_⟩ : ∃ a, a = (if gs + k < ps.length then gs + k else gs + k - ps.length) ∧ a < ps.length := ⟨_, rfl, by split <;> omega⟩
      obtain ⟨p, hp_⟩ : ∃ p, ps[a_]? = some p := ⟨_, List.getElem?_eq_getElem al_⟩
      obtain ⟨q, hy_, cpc_, cp_⟩ := tx.p hp_
      have pb_ := (tx.2.2.2.2.1 a_ p hp_).1
      have pm_ := mps_ p (List.mem_of_getElem? hp_)
      refine Ev_iload_n dX8_find_10 rfl ?_
      refine Ev_iload_n dX8_find_11 rfl ?_
      refine Ev_iaddN dX8_find_12 ?_
      refine Ev_aload_n dX8_find_13 rfl (by first | exact Or.inr ⟨_, rfl⟩ | exact rv_or _ | exact Or.inl rfl) ?_
      refine Ev_getE dX8_find_14 fX8_25 tf_.1 tx.2.2.2.1 ?_
      refine Ev_icmp_geN 26 dX8_find_17 (by decide) (by omega) (by omega) (fun zb17_ => ?_) (fun zb17_ => ?_)
      · have ea2_ : gs + k - ps.length = a_ := by rw [ea_, if_neg (by omega)]
        refine Ev_iload_n dX8_find_26 rfl ?_
        refine Ev_iload_n dX8_find_27 rfl ?_
        refine Ev_iaddN dX8_find_28 ?_
        refine Ev_aload_n dX8_find_29 rfl (by first | exact Or.inr ⟨_, rfl⟩ | exact rv_or _ | exact Or.inl rfl) ?_
        refine Ev_getE dX8_find_30 fX8_25 tf_.1 tx.2.2.2.1 ?_
        refine Ev_isubN dX8_find_33 (by omega) ?_
        rw [ea2_]
        refine Ev_istore dX8_find_34 (by decide) ?_
        refine Ev_aload_n dX8_find_36 rfl (by first | exact Or.inr ⟨_, rfl⟩ | exact rv_or _ | exact Or.inl rfl) ?_
        refine Ev_getA dX8_find_37 fX8_11 tf_.1 tf_.2.1 ?_
        refine Ev_iload dX8_find_40 rfl ?_
        refine Ev_aald a_ dX8_find_42 tf_.2.2.2.1.1 (by omega) (by omega) (hi_n (by omega)) (by rw [tf_.2.2.2.1.2]; omega) ?_
        rw [hy_]
        refine Ev_top (y := .ref q) rfl ?_
        refine Ev_aload_n dX8_find_43 rfl (by first | exact Or.inr ⟨_, rfl⟩ | exact rv_or _ | exact Or.inl rfl) ?_
        refine Ev_V0 [.ref q0] dX8_find_44 vX5_hasMakerOf kX8_101 cp_.1.1 rfl rfl rfl (Nat.le_of_ble_eq_true rfl) (by omega) (ec_hasMakerOf l G q q0 _ st0 _ tg0 p P g m h cm cpc_ c0_ pm_ mP_ pb_ bP_) ?_
        refine Ev_if_eqB 53 dX8_find_47 (by decide) (fun zb47_ => ?_) (fun zb47_ => ?_)
        · refine Ev_iincN 1 dX8_find_53 (by decide) (by decide) rfl ?_
          refine Ev_goto 2 dX8_find_56 (by decide) ?_
          refine ih_ (k + 1) (by omega) (by omega) (fun k' hk' p' hp' => ?_) _
          by_cases z : k' = k
          · subst z
            rw [← ea_, hp_] at hp'
            cases hp'
            exact zb47_
          · exact nm_ k' (by omega) p' hp'
        · refine Ev_iload dX8_find_50 rfl ?_
          refine Ev_iret dX8_find_52 rfl ?_
          refine ⟨?_, rfl⟩
          rw [fnd_one md_ hp_ (by rw [smA_c]; exact zb47_)]
          rfl
      · have ea2_ : gs + k = a_ := by rw [ea_, if_pos (by omega)]
        refine Ev_iload_n dX8_find_20 rfl ?_
        refine Ev_iload_n dX8_find_21 rfl ?_
        refine Ev_iaddN dX8_find_22 ?_
        rw [ea2_]
        refine Ev_goto 34 dX8_find_23 (by decide) ?_
        refine Ev_istore dX8_find_34 (by decide) ?_
        refine Ev_aload_n dX8_find_36 rfl (by first | exact Or.inr ⟨_, rfl⟩ | exact rv_or _ | exact Or.inl rfl) ?_
        refine Ev_getA dX8_find_37 fX8_11 tf_.1 tf_.2.1 ?_
        refine Ev_iload dX8_find_40 rfl ?_
        refine Ev_aald a_ dX8_find_42 tf_.2.2.2.1.1 (by omega) (by omega) (hi_n (by omega)) (by rw [tf_.2.2.2.1.2]; omega) ?_
        rw [hy_]
        refine Ev_top (y := .ref q) rfl ?_
        refine Ev_aload_n dX8_find_43 rfl (by first | exact Or.inr ⟨_, rfl⟩ | exact rv_or _ | exact Or.inl rfl) ?_
        refine Ev_V0 [.ref q0] dX8_find_44 vX5_hasMakerOf kX8_101 cp_.1.1 rfl rfl rfl (Nat.le_of_ble_eq_true rfl) (by omega) (ec_hasMakerOf l G q q0 _ st0 _ tg0 p P g m h cm cpc_ c0_ pm_ mP_ pb_ bP_) ?_
        refine Ev_if_eqB 53 dX8_find_47 (by decide) (fun zb47_ => ?_) (fun zb47_ => ?_)
        · refine Ev_iincN 1 dX8_find_53 (by decide) (by decide) rfl ?_
          refine Ev_goto 2 dX8_find_56 (by decide) ?_
          refine ih_ (k + 1) (by omega) (by omega) (fun k' hk' p' hp' => ?_) _
          by_cases z : k' = k
          · subst z
            rw [← ea_, hp_] at hp'
            cases hp'
            exact zb47_
          · exact nm_ k' (by omega) p' hp'
        · refine Ev_iload dX8_find_50 rfl ?_
          refine Ev_iret dX8_find_52 rfl ?_
          refine ⟨?_, rfl⟩
          rw [fnd_one md_ hp_ (by rw [smA_c]; exact zb47_)]
          rfl
theorem ec_find (l : Launch) (G : aG) (gs : Nat) (g : Gh) (T : Nat) (ps : List Pc) (h : aH) (cf : Cf h) (hT : T = 18 ∨ T = 21) (tx : CTx g T ps h) (hg_ : gs < ps.length ∨ ps.length = 0) (P : Pc) (st0 q0 : Nat) (tg0 : Nat × Nat) (m : Md) (cm : CM g m h) (c0_ : CPc g tg0 q0 P st0 h) (mP_ : PcM m P) (bP_ : PcB P) (mps_ : ∀ p ∈ ps, PcM m p) (md_ : MkD ps) : Ev l G 1 0 0 mX8_find 0 (en 5 [.ref T, .ref q0, .int (nI gs)]) [] h (Ex (some (.int (onI (fnd ps P)))) h) := by
  refine Ev_iconst (v := nI 0) dX8_find_0 (by decide) ?_
  refine Ev_istore_n dX8_find_1 (by decide) ?_
  exact ec_find_l l G gs g T ps h cf hT tx hg_ P st0 q0 tg0 m cm c0_ mP_ bP_ mps_ md_ (ps.length + 1) 0 (by omega) (by omega) (fun k' hk' => absurd hk' (by omega)) _
