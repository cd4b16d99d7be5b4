/-- the same maker: item and sort, the things and items around -/
def smA (p q : Pc) : Bool := decide (pcA p = pcA q ∧ pcW p = pcW q ∧ pcI p = pcI q ∧ pcT p = pcT q)
theorem smA_iff {p q : Pc} : smA p q = true ↔ pcA p = pcA q ∧ pcW p = pcW q ∧ pcI p = pcI q ∧ pcT p = pcT q := by simp [smA]
def smJ (ps : List Pc) (p : Pc) (j : Nat) : Bool := match ps[j]? with
  | some q => smA p q
  | none => false
/-- the first piece of the same maker -/
def fnd (ps : List Pc) (p : Pc) : Option Nat := fstF (smJ ps p) ps.length 0
def tkO (ps : List Pc) (p : Pc) : List Pc := match fnd ps p with
  | none => ps
  | some j => match ps[j]? with
    | none => ps
    | some q => tkS ps j q (pcH p)
/-- the hands' texts are taken over -/
def tkA (old new : List Pc) : List Pc := old.foldl tkO new
def lsB (new : List Pc) (p : Pc) : Bool := (pcH p).isSome && (fnd new p).isNone
theorem extN {xs ys : List Nat} (h1 : xs.length = ys.length) (h2 : ∀ k, k < xs.length → xs.getD k 0 = ys.getD k 0) : xs = ys := by
  apply List.ext_getElem h1
  intro k a b
  have := h2 k a
  rw [List.getD_eq_getElem?_getD, List.getD_eq_getElem?_getD, List.getElem?_eq_getElem a, List.getElem?_eq_getElem b] at this
  exact this
theorem getD_mem {xs : List Nat} {k : Nat} (h : k < xs.length) : xs.getD k 0 ∈ xs := by
  rw [List.getD_eq_getElem?_getD, List.getElem?_eq_getElem h]
  exact List.getElem_mem _
theorem PcB.wi {p : Pc} (b : PcB p) (k : Nat) (hk : k < (pcA p).length) : (pcW p ++ [pcI p]).getD k 0 < 20 := by
  have hl : k < (pcW p ++ [pcI p]).length := by have := b.2.2.1; simp; omega
  rcases List.mem_append.mp (getD_mem hl) with h | h
  · exact b.2.2.2.2.2.2.2.2.2.1 _ h
  · rw [List.mem_singleton.mp h]; exact b.2.2.2.1
theorem smB_eq {p q : Pc} {i j mf mg : Nat} {h : aH} (bp : PcB p) (bq : PcB q) (rp : RP1 p i mf h) (rq : RP1 q j mg h) : smB h i j (pcA p).length = smA p q := by
  obtain ⟨⟨a1, a2, -, -, a5, -⟩, a7, -⟩ := rp
  obtain ⟨⟨b1, b2, -, -, b5, -⟩, b7, -⟩ := rq
  have l1 := bp.2.1
  have l2 := bq.2.1
  have i1 := bp.2.2.2.1
  have i2 := bq.2.2.2.1
  have s1 := bp.2.2.2.2.1
  have s2 := bq.2.2.2.2.1
  rw [Bool.eq_iff_iff, smB_iff, smA_iff, a1, a2, a5, b1, b2, b5]
  constructor
  · rintro ⟨⟨h1, h2, h3⟩, h4⟩
    have e1 := nI_inj (by omega) (by omega) h1
    have e2 := nI_inj (by omega) (by omega) h2
    have e3 := nI_inj (by omega) (by omega) h3
    refine ⟨extN e3 (fun k hk => ?_), ?_, e1, e2⟩
    · have h5 := h4 (2 * k) (by omega)
      rw [(a7 k hk).1, (b7 k (by omega)).1] at h5
      have g1 := bp.2.2.2.2.2.2.2.2.2.2.1 _ (getD_mem hk)
      have g2 := bq.2.2.2.2.2.2.2.2.2.2.1 _ (getD_mem (show k < (pcA q).length by omega))
      exact nI_inj (by omega) (by omega) h5
    · have e5 : pcW p ++ [pcI p] = pcW q ++ [pcI q] := by
        have w1 := bp.2.2.1
        have w2 := bq.2.2.1
        refine extN (by simp; omega) (fun k hk => ?_)
        simp only [List.length_append, List.length_cons, List.length_nil] at hk
        have h5 := h4 (2 * k + 1) (by omega)
        rw [← Nat.add_assoc, ← Nat.add_assoc, (a7 k (by omega)).2, (b7 k (by omega)).2] at h5
        have g1 := bp.wi k (by omega)
        have g2 := bq.wi k (by omega)
        exact nI_inj (by omega) (by omega) h5
      rw [e1] at e5
      exact List.append_cancel_right e5
  · rintro ⟨h1, h2, h3, h4⟩
    rw [h1, h3, h4]
    refine ⟨⟨rfl, rfl, rfl⟩, fun k hk => ?_⟩
    rw [h1] at a7
    rw [h2, h3] at a7
    rcases (show k = 2 * (k / 2) ∨ k = 2 * (k / 2) + 1 by omega) with e | e
    · rw [e, (a7 (k / 2) (by omega)).1, (b7 (k / 2) (by omega)).1]
    · rw [e, ← Nat.add_assoc, ← Nat.add_assoc, (a7 (k / 2) (by omega)).2, (b7 (k / 2) (by omega)).2]
theorem fstF_sh {p : Nat → Bool} {s : Nat} : ∀ (k t : Nat), fstF p k (s + t) = (fstF (fun j => p (s + j)) k t).map (fun j => s + j) := by
  intro k
  induction k with
  | zero => intro t; rfl
  | succ k ih_ =>
    intro t
    show (if p (s + t) = true then some (s + t) else fstF p k (s + t + 1)) = ((if p (s + t) = true then some t else fstF (fun j => p (s + j)) k (t + 1))).map _
    by_cases e : p (s + t) = true
    · rw [if_pos e, if_pos e]; rfl
    · rw [if_neg e, if_neg e]; exact ih_ (t + 1)
theorem fstF_cg {p q : Nat → Bool} : ∀ (k t : Nat), (∀ i, t ≤ i → i < t + k → p i = q i) → fstF p k t = fstF q k t := by
  intro k
  induction k with
  | zero => intro t _; rfl
  | succ k ih_ =>
    intro t h
    show (if p t = true then some t else fstF p k (t + 1)) = (if q t = true then some t else fstF q k (t + 1))
    rw [h t (by omega) (by omega), ih_ (t + 1) (fun i h1 h2 => h i (by omega) (by omega))]
theorem same_eq {ps0 ps1 : List Pc} {i : Nat} {p : Pc} {h : aH} (t0 : RTx ps0 0 h) (t1 : RTx ps1 1 h) (hi : ps0[i]? = some p) : fstF (fun q => smB h i q (pcA p).length) ps1.length 250 = (fnd ps1 p).map (fun j => 250 + j) := by
  rw [show (250 : Nat) = 250 + 0 from rfl, fstF_sh]
  unfold fnd
  congr 1
  refine fstF_cg _ _ (fun j _ hj => ?_)
  have hj' : j < ps1.length := by omega
  obtain ⟨b1, r1⟩ := t0.2.2.2.1 i p hi
  obtain ⟨b2, r2⟩ := t1.2.2.2.1 j _ (List.getElem?_eq_getElem hj')
  rw [show 250 * 0 + i = i by omega] at r1
  rw [show 250 * 1 + j = 250 + j by omega] at r2
  unfold smJ
  rw [List.getElem?_eq_getElem hj']
  exact smB_eq b1 b2 r1 r2
theorem fnd_at {ps : List Pc} {p : Pc} {j : Nat} (h : fnd ps p = some j) : ∃ q, ps[j]? = some q ∧ smA p q = true := by
  obtain ⟨a1, a2, a3, -⟩ := fstF_spec _ _ _ h
  have hj : j < ps.length := by omega
  unfold smJ at a3
  rw [List.getElem?_eq_getElem hj] at a3
  exact ⟨_, List.getElem?_eq_getElem hj, a3⟩
/-- the makers stay -/
def keyL (ps qs : List Pc) : Prop := ps.length = qs.length ∧ ∀ j : Nat, ∀ p, smJ ps p j = smJ qs p j
theorem tkS_key {ps : List Pc} {j : Nat} {N : Pc} {o_ : Option (List Int32 × List Int32)} (h : ps[j]? = some N) : keyL (tkS ps j N o_) ps := by
  unfold tkS
  cases o_ with
  | none => exact ⟨rfl, fun _ _ => rfl⟩
  | some hb =>
    show keyL (if pcM N = hb.1 then ps else ps.set j (setH N (some hb))) ps
    split
    · exact ⟨rfl, fun _ _ => rfl⟩
    · refine ⟨by simp, fun i p => ?_⟩
      unfold smJ
      rw [List.getElem?_set]
      by_cases z : j = i
      · subst z
        rw [if_pos rfl, if_pos (List.getElem?_eq_some_iff.mp h).1, h]; rfl
      · rw [if_neg z]
theorem tkO_key (ps : List Pc) (p : Pc) : keyL (tkO ps p) ps := by
  unfold tkO
  cases h : fnd ps p with
  | none => exact ⟨rfl, fun _ _ => rfl⟩
  | some j =>
    obtain ⟨q, hq, -⟩ := fnd_at h
    simp only [hq]
    exact tkS_key hq
theorem tkA_key (old : List Pc) : ∀ new : List Pc, keyL (tkA old new) new := by
  induction old with
  | nil => intro new; exact ⟨rfl, fun _ _ => rfl⟩
  | cons p old ih_ =>
    intro new
    have h1 := ih_ (tkO new p)
    have h2 := tkO_key new p
    exact ⟨h1.1.trans h2.1, fun j q => (h1.2 j q).trans (h2.2 j q)⟩
theorem keyL_fnd {ps qs : List Pc} (k : keyL ps qs) (p : Pc) : fnd ps p = fnd qs p := by
  unfold fnd
  rw [k.1]
  exact fstF_cg _ _ (fun i _ _ => k.2 i p)
theorem take_ps {ps : List Pc} {i : Nat} {p : Pc} (h : ps[i]? = some p) : ps.take (i + 1) = ps.take i ++ [p] := by
  obtain ⟨hl, e⟩ := List.getElem?_eq_some_iff.mp h
  rw [List.take_succ_eq_append_getElem hl, e]
theorem ev_takeAll_l (l : Launch) (G : aG) (ps0 ps1 : List Pc) (h : aH) (rf : Rf h) (n1_ : ps1.length ≤ 250) {Q : Option Value → aH → Prop} (kk_ : ∀ h1, FK h h1 → RTx ps0 0 h1 → RTx (tkA ps0 ps1) 1 h1 → Q (some (.int (nI (ps0.filter (lsB ps1)).length))) h1) (ms : Nat) : ∀ i, ps0.length - i < ms → i ≤ ps0.length → ∀ h1 v_, FK h h1 → RTx ps0 0 h1 → RTx ((ps0.take i).foldl tkO ps1) 1 h1 → ∀ n, n = ((ps0.take i).filter (lsB ps1)).length → Ev l G 2 0 0 mX11_takeAll 4 [.ref MO, .int (nI n), .int (nI i), v_] [] h1 Q := by
  induction ms with
  | zero => intro i hi; omega
  | succ ms ih_ =>
    intro i hi1_ hi2_ h1 v_ fr_ r0_ r1_ n hc_
    have rf1_ := rf.fr fr_
    have n0_ := r0_.1
    by_cases z_ : i = ps0.length
    · subst z_
      rw [List.take_length] at hc_ r1_
      subst hc_
      refine Ev_iload_n dX11_takeAll_4 rfl ?_
      refine Ev_aload_n dX11_takeAll_5 rfl (by first | exact Or.inr ⟨_, rfl⟩ | exact rv_or _ | exact Or.inl rfl) ?_
      refine Ev_getA dX11_takeAll_6 fX11_56 rf1_.1 (rr_pieces rf1_) ?_
      refine Ev_iconst (v := nI 0) dX11_takeAll_9 (by decide) ?_
      refine Ev_ialdE _ dX11_takeAll_10 (rk_pieces rf1_) (rl_pieces rf1_) (hi_n (by omega)) (by omega) r0_.2.2.1 ?_
      refine Ev_icmp_geN 64 dX11_takeAll_11 (by decide) (by omega) (by omega) (fun zb11_ => ?_) (fun zb11_ => ?_)
      · refine Ev_iload_n dX11_takeAll_64 rfl ?_
        refine Ev_iret dX11_takeAll_65 rfl ?_
        exact kk_ h1 fr_ r0_ r1_
      · exact False.elim (by omega)
    have il_ : i < ps0.length := by omega
    obtain ⟨p, hp_⟩ : ∃ p, ps0[i]? = some p := ⟨_, List.getElem?_eq_getElem il_⟩
    obtain ⟨bp_, rp_⟩ := r0_.2.2.2.1 i p hp_
    rw [show 250 * 0 + i = i by omega] at rp_
    generalize hcur_ : (ps0.take i).foldl tkO ps1 = cur at r1_
    have ky_ : keyL cur ps1 := by rw [← hcur_]; exact tkA_key _ _
    have n1e_ : hX h1 42 1 = nI ps1.length := by rw [← ky_.1]; exact r1_.2.2.1
    have se_ : fstF (fun q => smB h1 i q (pcA p).length) ps1.length 250 = (fnd ps1 p).map (fun j => 250 + j) := by
      rw [← ky_.1, ← keyL_fnd ky_ p]; exact same_eq r0_ r1_ hp_
    refine Ev_iload_n dX11_takeAll_4 rfl ?_
    refine Ev_aload_n dX11_takeAll_5 rfl (by first | exact Or.inr ⟨_, rfl⟩ | exact rv_or _ | exact Or.inl rfl) ?_
    refine Ev_getA dX11_takeAll_6 fX11_56 rf1_.1 (rr_pieces rf1_) ?_
    refine Ev_iconst (v := nI 0) dX11_takeAll_9 (by decide) ?_
    refine Ev_ialdE _ dX11_takeAll_10 (rk_pieces rf1_) (rl_pieces rf1_) (hi_n (by omega)) (by omega) r0_.2.2.1 ?_
    refine Ev_icmp_geN 64 dX11_takeAll_11 (by decide) (by omega) (by omega) (fun zb11_ => ?_) (fun zb11_ => ?_)
    · exact False.elim (by omega)
    · refine Ev_aload_n dX11_takeAll_14 rfl (by first | exact Or.inr ⟨_, rfl⟩ | exact rv_or _ | exact Or.inl rfl) ?_
      refine Ev_sipush (v := nI 250) dX11_takeAll_15 (by decide) ?_
      refine Ev_sipush (v := nI 250) dX11_takeAll_18 (by decide) ?_
      refine Ev_aload_n dX11_takeAll_21 rfl (by first | exact Or.inr ⟨_, rfl⟩ | exact rv_or _ | exact Or.inl rfl) ?_
      refine Ev_getA dX11_takeAll_22 fX11_56 rf1_.1 (rr_pieces rf1_) ?_
      refine Ev_iconst (v := nI 1) dX11_takeAll_25 (by decide) ?_
      refine Ev_ialdE _ dX11_takeAll_26 (rk_pieces rf1_) (rl_pieces rf1_) (hi_n (by omega)) (by omega) n1e_ ?_
      refine Ev_iaddN dX11_takeAll_27 ?_
      refine Ev_iload_n dX11_takeAll_28 rfl ?_
      refine Ev_V0 [.int (nI 250), .int (nI (250 + ps1.length)), .int (nI i)] dX11_takeAll_29 vX11_sameOf kX11_233 rf1_.1 rfl rfl rfl (Nat.le_of_ble_eq_true rfl) (by omega) (ev_sameOf l G 250 ps1.length i (pcA p).length (by omega) (by omega) h1 rf1_ rp_.1.2.2.2.2.1 bp_.2.1) ?_
      rw [se_]
      refine Ev_istore_n dX11_takeAll_32 (by decide) ?_
      cases hf_ : fnd ps1 p with
      | none =>
        refine Ev_iload_n dX11_takeAll_33 rfl ?_
        refine Ev_if_ltT 46 dX11_takeAll_34 (by decide) (fun zb34_ => ?_) (fun zb34_ => absurd (by decide) zb34_)
        have ek_ : tkO cur p = cur := by unfold tkO; rw [keyL_fnd ky_ p, hf_]
        cases hh_ : pcH p with
        | none =>
          have e53_ : hX h1 53 i = -1 := by
            have := rp_.2.2.2.2.2; rw [hh_] at this; exact this
          have lf_ : lsB ps1 p = false := by unfold lsB; rw [hh_]; rfl
          refine Ev_aload_n dX11_takeAll_46 rfl (by first | exact Or.inr ⟨_, rfl⟩ | exact rv_or _ | exact Or.inl rfl) ?_
          refine Ev_getA dX11_takeAll_47 fX11_89 rf1_.1 (rr_handLong rf1_) ?_
          refine Ev_iload_n dX11_takeAll_50 rfl ?_
          refine Ev_ialdE _ dX11_takeAll_51 (rk_handLong rf1_) (rl_handLong rf1_) (hi_n (by omega)) (by omega) e53_ ?_
          refine Ev_if_ltT 58 dX11_takeAll_52 (by decide) (fun zb52_ => ?_) (fun zb52_ => ?_)
          · refine Ev_iincN 1 dX11_takeAll_58 (by decide) (by decide) rfl ?_
            refine Ev_goto 4 dX11_takeAll_61 (by decide) ?_
            refine ih_ (i + 1) (by omega) (by omega) _ _ fr_ r0_ ?_ _ ?_
            · rw [take_ps hp_, List.foldl_append]; show RTx (tkO ((ps0.take i).foldl tkO ps1) p) 1 _; rw [hcur_]; rw [ek_]; exact r1_
            · rw [take_ps hp_, List.filter_append, List.length_append]; simp [lf_, hc_]
          · exact absurd (by decide) zb52_
        | some hb =>
          have hbl_ := bp_.2.2.2.2.2.2.2.2.2.2.2 hb hh_
          have e53_ : hX h1 53 i = nI hb.1.length := by
            have := rp_.2.2.2.2.2; rw [hh_] at this; exact this.1
          have lf_ : lsB ps1 p = true := by unfold lsB; rw [hh_, hf_]; rfl
          refine Ev_aload_n dX11_takeAll_46 rfl (by first | exact Or.inr ⟨_, rfl⟩ | exact rv_or _ | exact Or.inl rfl) ?_
          refine Ev_getA dX11_takeAll_47 fX11_89 rf1_.1 (rr_handLong rf1_) ?_
          refine Ev_iload_n dX11_takeAll_50 rfl ?_
          refine Ev_ialdE _ dX11_takeAll_51 (rk_handLong rf1_) (rl_handLong rf1_) (hi_n (by omega)) (by omega) e53_ ?_
          refine Ev_if_ltT 58 dX11_takeAll_52 (by decide) (fun zb52_ => ?_) (fun zb52_ => ?_)
          · exact absurd zb52_ (by rw [hi_n (by omega)]; omega)
          · refine Ev_iincN 1 dX11_takeAll_55 (by decide) (by decide) rfl ?_
            refine Ev_iincN 1 dX11_takeAll_58 (by decide) (by decide) rfl ?_
            refine Ev_goto 4 dX11_takeAll_61 (by decide) ?_
            refine ih_ (i + 1) (by omega) (by omega) _ _ fr_ r0_ ?_ _ ?_
            · rw [take_ps hp_, List.foldl_append]; show RTx (tkO ((ps0.take i).foldl tkO ps1) p) 1 _; rw [hcur_]; rw [ek_]; exact r1_
            · rw [take_ps hp_, List.filter_append, List.length_append]; simp [lf_, hc_]
      | some j =>
        have fj_ : fnd cur p = some j := (keyL_fnd ky_ p).trans hf_
        obtain ⟨q, hq_, -⟩ := fnd_at fj_
        have jl_ := (List.getElem?_eq_some_iff.mp hq_).1
        have jl2_ : j < ps1.length := by rw [← ky_.1]; exact jl_
        have lf_ : lsB ps1 p = false := by unfold lsB; rw [hf_]; cases (pcH p).isSome <;> rfl
        have ek_ : tkO cur p = tkS cur j q (pcH p) := by unfold tkO; rw [fj_]; simp only [hq_]
        refine Ev_iload_n dX11_takeAll_33 rfl ?_
        refine Ev_if_ltT 46 dX11_takeAll_34 (by decide) (fun zb34_ => ?_) (fun zb34_ => ?_)
        · have zz_ : (nI (250 + j)).toInt < 0 := zb34_
          rw [hi_n (by omega)] at zz_; omega
        · refine Ev_aload_n dX11_takeAll_37 rfl (by first | exact Or.inr ⟨_, rfl⟩ | exact rv_or _ | exact Or.inl rfl) ?_
          refine Ev_iload_n dX11_takeAll_38 rfl ?_
          refine Ev_iload_n dX11_takeAll_39 rfl ?_
          refine Ev_Vz [.int (nI (250 + j)), .int (nI i)] dX11_takeAll_40 vX11_takeOver kX11_236 rf1_.1 rfl rfl rfl (Nat.le_of_ble_eq_true rfl) (by omega) (ev_takeOver l G ps0 cur i j p q hp_ hq_ h1 rf1_ r0_ r1_) (fun v_ h2 e_ => ?_)
          obtain ⟨rfl, f2_, a0_, a1_⟩ := e_
          refine Ev_goto 58 dX11_takeAll_43 (by decide) ?_
          refine Ev_iincN 1 dX11_takeAll_58 (by decide) (by decide) rfl ?_
          refine Ev_goto 4 dX11_takeAll_61 (by decide) ?_
          refine ih_ (i + 1) (by omega) (by omega) _ _ (fr_.tr f2_) a0_ ?_ _ ?_
          · rw [take_ps hp_, List.foldl_append]; show RTx (tkO ((ps0.take i).foldl tkO ps1) p) 1 _; rw [hcur_]; rw [ek_]; exact a1_
          · rw [take_ps hp_, List.filter_append, List.length_append]; simp [lf_, hc_]
theorem ev_takeAll (l : Launch) (G : aG) (ps0 ps1 : List Pc) (h : aH) (rf : Rf h) (r0_ : RTx ps0 0 h) (r1_ : RTx ps1 1 h) : Ev l G 2 0 0 mX11_takeAll 0 (en 4 [.ref MO]) [] h (fun x h' => x = some (.int (nI (ps0.filter (lsB ps1)).length)) ∧ FK h h' ∧ RTx ps0 0 h' ∧ RTx (tkA ps0 ps1) 1 h') := by
  have n0_ := r0_.1
  refine Ev_iconst (v := nI 0) dX11_takeAll_0 (by decide) ?_
  refine Ev_istore_n dX11_takeAll_1 (by decide) ?_
  refine Ev_iconst (v := nI 0) dX11_takeAll_2 (by decide) ?_
  refine Ev_istore_n dX11_takeAll_3 (by decide) ?_
  exact ev_takeAll_l l G ps0 ps1 h rf r1_.1 (fun h1 f_ a0_ a1_ => ⟨rfl, f_, a0_, a1_⟩) 251 0 (by omega) (by omega) h _ Fr.rf r0_ r1_ 0 rfl
