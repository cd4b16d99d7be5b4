def letB (x : Int32) : Bool := decide ((97 ≤ x.toInt ∧ x.toInt ≤ 122) ∨ (65 ≤ x.toInt ∧ x.toInt ≤ 90))
theorem letB_iff {x : Int32} : letB x = true ↔ (97 ≤ x.toInt ∧ x.toInt ≤ 122) ∨ (65 ≤ x.toInt ∧ x.toInt ≤ 90) := by simp [letB]
/-- a name: one to six letters -/
def nmB (tp : List Int32) : Bool := decide (1 ≤ tp.length ∧ tp.length ≤ 6) && tp.all letB
theorem nmB_iff {tp : List Int32} : nmB tp = true ↔ (1 ≤ tp.length ∧ tp.length ≤ 6) ∧ ∀ k, k < tp.length → letB (tp.getD k 0) = true := by
  rw [nmB, Bool.and_eq_true, decide_eq_true_eq, List.all_eq_true]
  constructor
  · rintro ⟨h1, h2⟩
    refine ⟨h1, fun k hk => h2 _ ?_⟩
    rw [List.getD_eq_getElem?_getD, List.getElem?_eq_getElem hk]
    exact List.getElem_mem hk
  · rintro ⟨h1, h2⟩
    refine ⟨h1, fun x hx => ?_⟩
    obtain ⟨k, hk, rfl⟩ := List.getElem_of_mem hx
    have := h2 k hk
    rwa [List.getD_eq_getElem?_getD, List.getElem?_eq_getElem hk] at this
theorem t97 : (nI 97).toInt = 97 := by decide
theorem t122 : (nI 122).toInt = 122 := by decide
theorem t65 : (nI 65).toInt = 65 := by decide
theorem t90 : (nI 90).toInt = 90 := by decide
theorem inB_f {x lo hi : Int32} {a b : Int} (e1 : lo.toInt = a) (e2 : hi.toInt = b) (q : inB x lo hi = false) : ¬ (a ≤ x.toInt ∧ x.toInt ≤ b) := fun z => by
  rw [inB_iff.mpr (by rw [e1, e2]; exact z)] at q; cases q
theorem inB_t {x lo hi : Int32} {a b : Int} (e1 : lo.toInt = a) (e2 : hi.toInt = b) (q : inB x lo hi = true) : a ≤ x.toInt ∧ x.toInt ≤ b := by
  have := inB_iff.mp q
  rwa [e1, e2] at this
theorem ev_isName_l (l : Launch) (G : aG) (tp : List Int32) (h : aH) (rf : Rf h) (r0_ : RTp tp h) (hlen : 1 ≤ tp.length ∧ tp.length ≤ 6) (ms : Nat) : ∀ k, tp.length - k < ms → k ≤ tp.length → (∀ q, q < k → letB (tp.getD q 0) = true) → Ev l G 1 0 0 mX11_isName 17 [.ref MO, .int (nI k)] [] h (Ex (some (.int (bI (nmB tp)))) h) := by
  induction ms with
  | zero => intro k hk; omega
  | succ ms ih_ =>
    intro k hk hkn hpre
    refine Ev_iload_n dX11_isName_17 rfl ?_
    refine Ev_aload_n dX11_isName_18 rfl (by first | exact Or.inr ⟨_, rfl⟩ | exact rv_or _ | exact Or.inl rfl) ?_
    refine Ev_getE dX11_isName_19 fX11_134 rf.1 r0_.2.1 ?_
    refine Ev_icmp_geN 65 dX11_isName_22 (by decide) (by omega) (by omega) (fun zb22_ => ?_) (fun zb22_ => ?_)
    · refine Ev_iconst (v := nI 1) dX11_isName_65 (by decide) ?_
      refine Ev_zret dX11_isName_66 rfl (by decide) ?_
      exact Ex_b (bTr nmB_iff ⟨hlen, fun q hq => hpre q (by omega)⟩)
    · refine Ev_aload_n dX11_isName_25 rfl (by first | exact Or.inr ⟨_, rfl⟩ | exact rv_or _ | exact Or.inl rfl) ?_
      refine Ev_getA dX11_isName_26 fX11_53 rf.1 (rr_tape rf) ?_
      refine Ev_iload_n dX11_isName_29 rfl ?_
      refine Ev_ialdL _ dX11_isName_30 (rk_tape rf) (rl_tape rf) (hi_n (by omega)) (by omega) ?_
      refine Ev_bipush (v := nI 97) dX11_isName_31 (by decide) ?_
      refine Ev_bipush (v := nI 122) dX11_isName_33 (by decide) ?_
      refine Ev_S0 [.int (hX h 41 k), .int (nI 97), .int (nI 122)] dX11_isName_35 sX11_isIn kX11_130 rfl rfl rfl (by decide) (by omega) (ev_isIn l G _ _ _ _) ?_
      refine Ev_if_neB 59 dX11_isName_38 (by decide) (fun zb38_ => ?_) (fun zb38_ => ?_)
      · refine Ev_iincN 1 dX11_isName_59 (by decide) (by decide) rfl ?_
        refine Ev_goto 17 dX11_isName_62 (by decide) ?_
        exact ih_ (k + 1) (by omega) (by omega) (fun q hq => by
          by_cases e : q = k
          · rw [e, ← r0_.2.2 k (by omega)]; first | exact letB_iff.mpr (Or.inl (inB_t t97 t122 zb38_)) | exact letB_iff.mpr (Or.inr (inB_t t65 t90 zb54_))
          · exact hpre q (by omega))
      · refine Ev_aload_n dX11_isName_41 rfl (by first | exact Or.inr ⟨_, rfl⟩ | exact rv_or _ | exact Or.inl rfl) ?_
        refine Ev_getA dX11_isName_42 fX11_53 rf.1 (rr_tape rf) ?_
        refine Ev_iload_n dX11_isName_45 rfl ?_
        refine Ev_ialdL _ dX11_isName_46 (rk_tape rf) (rl_tape rf) (hi_n (by omega)) (by omega) ?_
        refine Ev_bipush (v := nI 65) dX11_isName_47 (by decide) ?_
        refine Ev_bipush (v := nI 90) dX11_isName_49 (by decide) ?_
        refine Ev_S0 [.int (hX h 41 k), .int (nI 65), .int (nI 90)] dX11_isName_51 sX11_isIn kX11_130 rfl rfl rfl (by decide) (by omega) (ev_isIn l G _ _ _ _) ?_
        refine Ev_if_neB 59 dX11_isName_54 (by decide) (fun zb54_ => ?_) (fun zb54_ => ?_)
        · refine Ev_iincN 1 dX11_isName_59 (by decide) (by decide) rfl ?_
          refine Ev_goto 17 dX11_isName_62 (by decide) ?_
          exact ih_ (k + 1) (by omega) (by omega) (fun q hq => by
            by_cases e : q = k
            · rw [e, ← r0_.2.2 k (by omega)]; first | exact letB_iff.mpr (Or.inl (inB_t t97 t122 zb38_)) | exact letB_iff.mpr (Or.inr (inB_t t65 t90 zb54_))
            · exact hpre q (by omega))
        · refine Ev_iconst (v := nI 0) dX11_isName_57 (by decide) ?_
          refine Ev_zret dX11_isName_58 rfl (by decide) ?_
          exact Ex_b (bFa nmB_iff (fun q => by
            have h1 := letB_iff.mp (q.2 k (by omega))
            rw [← r0_.2.2 k (by omega)] at h1
            have h2 := inB_f t97 t122 zb38_
            have h3 := inB_f t65 t90 zb54_
            omega))
theorem ev_isName (l : Launch) (G : aG) (tp : List Int32) (h : aH) (rf : Rf h) (r0_ : RTp tp h) : Ev l G 1 0 0 mX11_isName 0 (en 2 [.ref MO]) [] h (Ex (some (.int (bI (nmB tp)))) h) := by
  have hl0 := r0_.1
  refine Ev_aload_n dX11_isName_0 rfl (by first | exact Or.inr ⟨_, rfl⟩ | exact rv_or _ | exact Or.inl rfl) ?_
  refine Ev_getE dX11_isName_1 fX11_134 rf.1 r0_.2.1 ?_
  refine Ev_iconst (v := nI 1) dX11_isName_4 (by decide) ?_
  refine Ev_bipush (v := nI 6) dX11_isName_5 (by decide) ?_
  refine Ev_S0 [.int (nI tp.length), .int (nI 1), .int (nI 6)] dX11_isName_7 sX11_isIn kX11_130 rfl rfl rfl (by decide) (by omega) (ev_isIn l G _ _ _ _) ?_
  refine Ev_if_neB 15 dX11_isName_10 (by decide) (fun zb10_ => ?_) (fun zb10_ => ?_)
  · have zb10_ := inB_t t1 t6 zb10_
    rw [hi_n (by omega)] at zb10_
    refine Ev_iconst (v := nI 0) dX11_isName_15 (by decide) ?_
    refine Ev_istore_n dX11_isName_16 (by decide) ?_
    exact ev_isName_l l G tp h rf r0_ (by omega) 7 0 (by omega) (by omega) (fun q hq => by omega)
  · have zb10_ := inB_f t1 t6 zb10_
    rw [hi_n (by omega)] at zb10_
    refine Ev_iconst (v := nI 0) dX11_isName_13 (by decide) ?_
    refine Ev_zret dX11_isName_14 rfl (by decide) ?_
    exact Ex_b (bFa nmB_iff (fun q => by omega))
def TkN (tp : List Int32) (t : Nat) (h h' : aH) : Prop := hX h' 35 t = nI tp.length ∧ (∀ i, i ≠ t → hX h' 35 i = hX h 35 i) ∧ (∀ k, k < tp.length → hX h' 34 (6 * t + k) = tp.getD k 0) ∧ (∀ i, i < 6 * t ∨ 6 * t + 6 ≤ i → hX h' 34 i = hX h 34 i)
theorem ev_takeName_l (l : Launch) (G : aG) (tp : List Int32) (t : Nat) (ht : t < 24) (h : aH) (rf : Rf h) (r0_ : RTp tp h) (hlen : tp.length ≤ 6) {Q : Option Value → aH → Prop} (kk_ : ∀ h', Fr [785] [34] h h' → ((∀ q, q < tp.length → hX h' 34 (6 * t + q) = tp.getD q 0) ∧ ∀ i, i < 6 * t ∨ 6 * t + 6 ≤ i → hX h' 34 i = hX h 34 i) → RTp tp h' → Q none (sI h' 785 MO (nI 0))) (ms : Nat) : ∀ k, tp.length - k < ms → k ≤ tp.length → ∀ h1, Fr [785] [34] h h1 → ((∀ q, q < k → hX h1 34 (6 * t + q) = tp.getD q 0) ∧ ∀ i, i < 6 * t ∨ 6 * t + 6 ≤ i → hX h1 34 i = hX h 34 i) → RTp tp h1 → Ev l G 0 0 0 mX11_takeName 12 [.ref MO, .int (nI t), .int (nI k)] [] h1 Q := by
  induction ms with
  | zero => intro k hk; omega
  | succ ms ih_ =>
    intro k hk hkn h1 fr_ hn_ rt_
    have rf1_ := rf.fr fr_
    refine Ev_iload_n dX11_takeName_12 rfl ?_
    refine Ev_aload_n dX11_takeName_13 rfl (by first | exact Or.inr ⟨_, rfl⟩ | exact rv_or _ | exact Or.inl rfl) ?_
    refine Ev_getE dX11_takeName_14 fX11_134 rf1_.1 rt_.2.1 ?_
    refine Ev_icmp_geN 43 dX11_takeName_17 (by decide) (by omega) (by omega) (fun zb17_ => ?_) (fun zb17_ => ?_)
    · refine Ev_aload_n dX11_takeName_43 rfl (by first | exact Or.inr ⟨_, rfl⟩ | exact rv_or _ | exact Or.inl rfl) ?_
      refine Ev_iconst (v := nI 0) dX11_takeName_44 (by decide) ?_
      refine Ev_putI dX11_takeName_45 fX11_134 ⟨_, rfl, Or.inl rfl⟩ (Or.inl rfl) rf1_.1 ?_
      refine Ev_vret dX11_takeName_48 rfl ?_
      have ek_ : k = tp.length := by omega
      subst ek_
      exact kk_ _ fr_ hn_ rt_
    · refine Ev_aload_n dX11_takeName_20 rfl (by first | exact Or.inr ⟨_, rfl⟩ | exact rv_or _ | exact Or.inl rfl) ?_
      refine Ev_getA dX11_takeName_21 fX11_25 rf1_.1 (rr_name rf1_) ?_
      refine Ev_bipush (v := nI 6) dX11_takeName_24 (by decide) ?_
      refine Ev_iload_n dX11_takeName_26 rfl ?_
      refine Ev_imulN dX11_takeName_27 ?_
      refine Ev_iload_n dX11_takeName_28 rfl ?_
      refine Ev_iaddN dX11_takeName_29 ?_
      refine Ev_aload_n dX11_takeName_30 rfl (by first | exact Or.inr ⟨_, rfl⟩ | exact rv_or _ | exact Or.inl rfl) ?_
      refine Ev_getA dX11_takeName_31 fX11_53 rf1_.1 (rr_tape rf1_) ?_
      refine Ev_iload_n dX11_takeName_34 rfl ?_
      refine Ev_ialdL _ dX11_takeName_35 (rk_tape rf1_) (rl_tape rf1_) (hi_n (by omega)) (by omega) ?_
      refine Ev_iastL _ dX11_takeName_36 (rk_name rf1_) (rl_name rf1_) (hi_n (by omega)) (by omega) ?_
      refine Ev_iincN 1 dX11_takeName_37 (by decide) (by decide) rfl ?_
      refine Ev_goto 12 dX11_takeName_40 (by decide) ?_
      refine ih_ (k + 1) (by omega) (by omega) _ (fr_.tr (Fr.row (by decide))) ⟨?_, fun i hi => ?_⟩ rt_
      · intro q hq
        by_cases e : q = k
        · rw [e, hX_s]; exact rt_.2.2 k (by omega)
        · rw [hX_n _ _ (by omega)]; exact hn_.1 q (by omega)
      · rw [hX_n _ _ (by omega)]; exact hn_.2 i hi
theorem ev_takeName (l : Launch) (G : aG) (tp : List Int32) (t : Nat) (ht : t < 24) (h : aH) (rf : Rf h) (r0_ : RTp tp h) (hlen : tp.length ≤ 6) : Ev l G 0 0 0 mX11_takeName 0 (en 3 [.ref MO, .int (nI t)]) [] h (fun x h' => x = none ∧ RTp [] h' ∧ Fr [785] [34, 35] h h' ∧ TkN tp t h h') := by
  refine Ev_aload_n dX11_takeName_0 rfl (by first | exact Or.inr ⟨_, rfl⟩ | exact rv_or _ | exact Or.inl rfl) ?_
  refine Ev_getA dX11_takeName_1 fX11_28 rf.1 (rr_named rf) ?_
  refine Ev_iload_n dX11_takeName_4 rfl ?_
  refine Ev_aload_n dX11_takeName_5 rfl (by first | exact Or.inr ⟨_, rfl⟩ | exact rv_or _ | exact Or.inl rfl) ?_
  refine Ev_getE dX11_takeName_6 fX11_134 rf.1 r0_.2.1 ?_
  refine Ev_iastL _ dX11_takeName_9 (rk_named rf) (rl_named rf) (hi_n (by omega)) (by omega) ?_
  refine Ev_iconst (v := nI 0) dX11_takeName_10 (by decide) ?_
  refine Ev_istore_n dX11_takeName_11 (by decide) ?_
  exact ev_takeName_l l G tp t ht (sX h 35 t (nI tp.length)) rf r0_ hlen (fun h' f_ n_ r_ => ⟨rfl, ⟨by simp, hI_s _ _ _ _, fun k hk => absurd hk (by simp)⟩, ((Fr.row (by decide)).tr (f_.mo (by decide) (by decide))).tr (Fr.int (by decide)), by
    have e35 : hX h' 35 = hX (sX h 35 t (nI tp.length)) 35 := f_.2.2.2.2.2.2 35 (by decide)
    have e34 : hX (sX h 35 t (nI tp.length)) 34 = hX h 34 := hX_o _ _ (by decide)
    exact ⟨(congrFun e35 t).trans (hX_s _ _ _ _), fun i hi => (congrFun e35 i).trans (hX_n _ _ hi), n_.1, fun i hi => (n_.2 i hi).trans (congrFun e34 i)⟩⟩) 7 0 (by omega) (by omega) _ Fr.rf ⟨fun q hq => by omega, fun i hi => rfl⟩ r0_
