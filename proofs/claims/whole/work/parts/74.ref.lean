/-- only what a hand made of the piece q has changed -/
def FH (q : Nat) (h h' : aH) : Prop := Fr [] [53, 54, 55, 56, 57] h h' ∧ (∀ r ∈ [53, 55, 57], ∀ i, i ≠ q → hX h' r i = hX h r i) ∧ (∀ i, i < 60 * q ∨ 60 * q + 60 ≤ i → hX h' 54 i = hX h 54 i) ∧ ∀ i, i < 120 * q ∨ 120 * q + 120 ≤ i → hX h' 56 i = hX h 56 i
theorem FH.rf {q : Nat} {h : aH} : FH q h h := ⟨Fr.rf, fun _ _ _ _ => rfl, fun _ _ => rfl, fun _ _ => rfl⟩
theorem FH.tr {q : Nat} {h h1 h2 : aH} (a : FH q h h1) (b : FH q h1 h2) : FH q h h2 := ⟨a.1.tr b.1, fun r hr i hi => (b.2.1 r hr i hi).trans (a.2.1 r hr i hi), fun i hi => (b.2.2.1 i hi).trans (a.2.2.1 i hi), fun i hi => (b.2.2.2 i hi).trans (a.2.2.2 i hi)⟩
theorem FH.row {q : Nat} {h : aH} {a : Nat} {v : Int32} (ha : a ∈ [53, 55, 57]) : FH q h (sX h a q v) := by
  refine ⟨Fr.row (by revert ha; revert a; decide), fun r hr i hi => ?_, fun i hi => gX_X _ (fun z => by subst z; revert ha; decide), fun i hi => gX_X _ (fun z => by subst z; revert ha; decide)⟩
  by_cases e : r = a
  · subst e; exact hX_n _ _ hi
  · exact gX_X _ e
theorem FH.hand {q s n : Nat} {h h' : aH} {f : Nat → Int32} (fr : Fr [] [54] h h') (c : CpF f (hX h 54) (hX h' 54) (60 * q) s n) (hn : n ≤ 60) : FH q h h' :=
  ⟨fr.mo (by decide) (by decide), fun r hr i hi => congrFun (fr.2.2.2.2.2.2 r (by revert hr; revert r; decide)) i, fun i hi => c.out (by omega), fun i hi => congrFun (fr.2.2.2.2.2.2 56 (by decide)) i⟩
theorem FH.base {q s n : Nat} {h h' : aH} {f : Nat → Int32} (fr : Fr [] [56] h h') (c : CpF f (hX h 56) (hX h' 56) (120 * q) s n) (hn : n ≤ 120) : FH q h h' :=
  ⟨fr.mo (by decide) (by decide), fun r hr i hi => congrFun (fr.2.2.2.2.2.2 r (by revert hr; revert r; decide)) i, fun i hi => congrFun (fr.2.2.2.2.2.2 54 (by decide)) i, fun i hi => c.out (by omega)⟩
theorem RHd.fh {o_ : Option (List Int32 × List Int32)} {q i : Nat} {h h' : aH} (r : RHd o_ i h) (f : FH q h h') (hi : i ≠ q) (hb : ∀ x, o_ = some x → x.1.length ≤ 60 ∧ x.2.length ≤ 120) : RHd o_ i h' := by
  unfold RHd at r ⊢
  cases o_ with
  | none => exact (f.2.1 53 (by decide) i hi).trans r
  | some x =>
    obtain ⟨d1, d2, d3, d4⟩ := r
    have hl := hb x rfl
    refine ⟨(f.2.1 53 (by decide) i hi).trans d1, (f.2.1 55 (by decide) i hi).trans d2, fun k hk => ?_, fun k hk => ?_⟩
    · rw [f.2.2.1 _ (by omega)]; exact d3 k hk
    · rw [f.2.2.2 _ (by omega)]; exact d4 k hk
/-- the rows of a piece that no hand touches -/
def RP0 (p : Pc) (q mf : Nat) (h : aH) : Prop := (hX h 43 q = nI (pcI p) ∧ hX h 44 q = nI (pcT p) ∧ hX h 45 q = nI (pcK p) ∧ (pcT p = 2 → hX h 46 q = nI (pcN p)) ∧ hX h 47 q = nI (pcA p).length ∧ hX h 49 q = nI (pcS p)) ∧ (∀ k, k < (pcA p).length → hX h 48 (12 * q + 2 * k) = nI ((pcA p).getD k 0) ∧ hX h 48 (12 * q + 2 * k + 1) = nI ((pcW p ++ [pcI p]).getD k 0)) ∧ hX h 50 q = nI mf ∧ hX h 51 q = nI (pcM p).length
theorem RP1_iff {p : Pc} {q mf : Nat} {h : aH} : RP1 p q mf h ↔ RP0 p q mf h ∧ hX h 57 q = bI (clB p) ∧ RHd (pcH p) q h := by
  unfold RP1 RP0
  constructor
  · rintro ⟨a, b, c, d, e, f⟩; exact ⟨⟨a, b, c, d⟩, e, f⟩
  · rintro ⟨⟨a, b, c, d⟩, e, f⟩; exact ⟨a, b, c, d, e, f⟩
theorem RP0.fr {p : Pc} {q mf : Nat} {h h' : aH} {ks as : List Nat} (r : RP0 p q mf h) (f : Fr ks as h h') (h2 : ∀ r ∈ [43, 44, 45, 46, 47, 48, 49, 50, 51], r ∉ as) : RP0 p q mf h' := by
  have x := f.2.2.2.2.2.2
  unfold RP0
  rw [x 43 (h2 _ (by decide)), x 44 (h2 _ (by decide)), x 45 (h2 _ (by decide)), x 46 (h2 _ (by decide)), x 47 (h2 _ (by decide)), x 48 (h2 _ (by decide)), x 49 (h2 _ (by decide)), x 50 (h2 _ (by decide)), x 51 (h2 _ (by decide))]
  exact r
theorem RP0.setH {p : Pc} {hb : Option (List Int32 × List Int32)} {q mf : Nat} {h : aH} (r : RP0 p q mf h) : RP0 (setH p hb) q mf h := r
theorem RTx.fh {ps : List Pc} {w q : Nat} {h h' : aH} (r : RTx ps w h) (f : FH q h h') (hq : ∀ i, i < ps.length → 250 * w + i ≠ q) : RTx ps w h' := by
  obtain ⟨r1, r2, r3, r4, r5⟩ := r
  refine ⟨r1, r2, (congrFun (f.1.2.2.2.2.2.2 42 (by decide)) w).trans r3, fun i p hp => ?_, fun k hk => (congrFun (f.1.2.2.2.2.2.2 52 (by decide)) _).trans (r5 k hk)⟩
  obtain ⟨b, a⟩ := r4 i p hp
  have hi := hq i (List.getElem?_eq_some_iff.mp hp).1
  obtain ⟨a1, a2, a3⟩ := RP1_iff.mp a
  exact ⟨b, RP1_iff.mpr ⟨a1.fr f.1 (by decide), (f.2.1 57 (by decide) _ hi).trans a2, a3.fh f hi b.2.2.2.2.2.2.2.2.2.2.2⟩⟩
theorem flat_set {ps : List Pc} {j : Nat} {N : Pc} {hb : Option (List Int32 × List Int32)} (h : ps[j]? = some N) : flat (ps.set j (setH N hb)) = flat ps := by
  have e : (ps.set j (setH N hb)).map pcM = ps.map pcM := by
    rw [List.map_set]
    apply List.ext_getElem?
    intro i
    rw [List.getElem?_set]
    by_cases z : j = i
    · subst z
      rw [if_pos rfl]
      have hj := (List.getElem?_eq_some_iff.mp h).1
      rw [if_pos (by simpa using hj), List.getElem?_map, h]; rfl
    · rw [if_neg z]
  unfold flat
  rw [List.flatMap_def, List.flatMap_def, e]
theorem stt_set {ps : List Pc} {j : Nat} {N : Pc} {hb : Option (List Int32 × List Int32)} (h : ps[j]? = some N) (i : Nat) : stt (ps.set j (setH N hb)) i = stt ps i := by
  unfold stt
  rw [List.take_set]
  by_cases z : j < i
  · rw [flat_set (by rw [List.getElem?_take, if_pos z]; exact h)]
  · rw [List.set_eq_of_length_le (by rw [List.length_take]; omega)]
theorem RTx.setH {ps : List Pc} {w j : Nat} {N : Pc} {hb : Option (List Int32 × List Int32)} {h h' : aH} (r : RTx ps w h) (hj : ps[j]? = some N) (f : FH (250 * w + j) h h') (hd : RHd hb (250 * w + j) h') (hc : hX h' 57 (250 * w + j) = bI (clB (setH N hb))) (hl : ∀ x, hb = some x → x.1.length ≤ 60 ∧ x.2.length ≤ 120) : RTx (ps.set j (setH N hb)) w h' := by
  obtain ⟨r1, r2, r3, r4, r5⟩ := r
  refine ⟨by simpa using r1, by rw [flat_set hj]; exact r2, by rw [List.length_set]; exact (congrFun (f.1.2.2.2.2.2.2 42 (by decide)) w).trans r3, fun i p hp => ?_, fun k hk => ?_⟩
  · rw [stt_set hj]
    rw [List.getElem?_set] at hp
    by_cases z : j = i
    · subst z
      have hjl := (List.getElem?_eq_some_iff.mp hj).1
      rw [if_pos rfl, if_pos hjl] at hp
      cases hp
      obtain ⟨b, a⟩ := r4 j N hj
      obtain ⟨a1, a2, a3⟩ := RP1_iff.mp a
      obtain ⟨b1, b2, b3, b4, b5, b6, b7, b8, b9, b10, b11, b12⟩ := b
      exact ⟨⟨b1, b2, b3, b4, b5, b6, b7, b8, b9, b10, b11, hl⟩, RP1_iff.mpr ⟨(a1.fr f.1 (by decide)).setH, hc, hd⟩⟩
    · rw [if_neg z] at hp
      obtain ⟨b, a⟩ := r4 i p hp
      obtain ⟨a1, a2, a3⟩ := RP1_iff.mp a
      exact ⟨b, RP1_iff.mpr ⟨a1.fr f.1 (by decide), (f.2.1 57 (by decide) _ (by omega)).trans a2, a3.fh f (by omega) b.2.2.2.2.2.2.2.2.2.2.2⟩⟩
  · rw [flat_set hj] at hk ⊢
    exact (congrFun (f.1.2.2.2.2.2.2 52 (by decide)) _).trans (r5 k hk)
theorem ext_getD {xs ys : List Int32} (h1 : xs.length = ys.length) (h2 : ∀ k, k < xs.length → xs.getD k 0 = ys.getD k 0) : xs = ys := by
  apply List.ext_getElem h1
  intro k a b
  have := h2 k a
  rw [List.getD_eq_getElem?_getD, List.getD_eq_getElem?_getD, List.getElem?_eq_getElem a, List.getElem?_eq_getElem b] at this
  exact this
theorem RTx.md {ps : List Pc} {w j a f : Nat} {N : Pc} {xs : List Int32} {h : aH} (r : RTx ps w h) (hw : w < 2) (hj : ps[j]? = some N) (hx : ∀ k, k < xs.length → hX h a (f + k) = xs.getD k 0) (hl : xs.length < 1000) : isMd h (250 * w + j) (stt ps j) a f xs.length = decide (pcM N = xs) := by
  obtain ⟨b, p⟩ := r.2.2.2.1 j N hj
  have e51 := p.2.2.2.1
  have hm := b.2.2.2.2.2.2.1
  have hjl := (List.getElem?_eq_some_iff.mp hj).1
  have h250 := r.1
  have hst := stt_le hj
  have ho : mof (250 * w + j) = 3000 * w := by
    unfold mof
    rcases (show w = 0 ∨ w = 1 by omega) with rfl | rfl
    · rw [if_pos (by omega)]
    · rw [if_neg (by omega)]
  rw [Bool.eq_iff_iff, isMd_iff, decide_eq_true_iff, e51, ho]
  constructor
  · rintro ⟨h1, h2⟩
    have el := nI_inj (by omega) (by omega) h1
    refine ext_getD el (fun k hk => ?_)
    have := h2 k (by omega)
    rw [Nat.add_assoc, r.2.2.2.2 _ (by omega), flat_at hj hk, hx k (by omega)] at this
    exact this
  · rintro rfl
    refine ⟨rfl, fun k hk => ?_⟩
    rw [Nat.add_assoc, r.2.2.2.2 _ (by omega), flat_at hj hk, hx k hk]
theorem ev_to_h (l : Launch) (G : aG) (q p n : Nat) (h : aH) (rf : Rf h) {Q : Option Value → aH → Prop} (hq : q < 500) (hp : p < 500) (hn : n ≤ 60) (hpq : p + 1 ≤ q) (eL_ : hX h 53 p = nI n) (kk_ : ∀ h1, Fr [] [54] h h1 → CpF (hX h 54) (hX h 54) (hX h1 54) (60 * q) (60 * p) (n) → Ev l G 1 0 0 mX11_takeOver 85 [.ref MO, .int (nI q), .int (nI p), .int (nI (n))] [] h1 Q) (ms : Nat) : ∀ k, n - k < ms → k ≤ n → ∀ h1, Fr [] [54] h h1 → CpF (hX h 54) (hX h 54) (hX h1 54) (60 * q) (60 * p) k → Ev l G 1 0 0 mX11_takeOver 47 [.ref MO, .int (nI q), .int (nI p), .int (nI k)] [] h1 Q := by
  induction ms with
  | zero => intro k hk; omega
  | succ ms ih_ =>
    intro k hk1_ hk2_ h1 fr_ cp_
    have rf1_ := rf.fr fr_
    have g_ : ∀ r, r ∉ [54] → ∀ {i : Nat} {v : Int32}, hX h r i = v → hX h1 r i = v := fun r hr i v e => (congrFun (fr_.2.2.2.2.2.2 r hr) i).trans e
    have gi_ : ∀ q, ∀ {v : Int32}, hI h q MO = v → hI h1 q MO = v := fun q v e => (fr_.2.2.2.2.2.1 q MO (fun z => absurd z.2 (by simp))).trans e
    refine Ev_iload_n dX11_takeOver_47 rfl ?_
    refine Ev_aload_n dX11_takeOver_48 rfl (by first | exact Or.inr ⟨_, rfl⟩ | exact rv_or _ | exact Or.inl rfl) ?_
    refine Ev_getA dX11_takeOver_49 fX11_89 rf1_.1 (rr_handLong rf1_) ?_
    refine Ev_iload_n dX11_takeOver_52 rfl ?_
    refine Ev_ialdE _ dX11_takeOver_53 (rk_handLong rf1_) (rl_handLong rf1_) (hi_n (by omega)) (by omega) (g_ 53 (by decide) eL_) ?_
    refine Ev_icmp_geN 85 dX11_takeOver_54 (by decide) (by omega) (by omega) (fun zb54_ => ?_) (fun zb54_ => ?_)
    · have ek_ : k = n := by omega
      subst ek_
      exact kk_ _ fr_ cp_
    · refine Ev_aload_n dX11_takeOver_57 rfl (by first | exact Or.inr ⟨_, rfl⟩ | exact rv_or _ | exact Or.inl rfl) ?_
      refine Ev_getA dX11_takeOver_58 fX11_92 rf1_.1 (rr_hand rf1_) ?_
      refine Ev_bipush (v := nI 60) dX11_takeOver_61 (by decide) ?_
      refine Ev_iload_n dX11_takeOver_63 rfl ?_
      refine Ev_imulN dX11_takeOver_64 ?_
      refine Ev_iload_n dX11_takeOver_65 rfl ?_
      refine Ev_iaddN dX11_takeOver_66 ?_
      refine Ev_aload_n dX11_takeOver_67 rfl (by first | exact Or.inr ⟨_, rfl⟩ | exact rv_or _ | exact Or.inl rfl) ?_
      refine Ev_getA dX11_takeOver_68 fX11_92 rf1_.1 (rr_hand rf1_) ?_
      refine Ev_bipush (v := nI 60) dX11_takeOver_71 (by decide) ?_
      refine Ev_iload_n dX11_takeOver_73 rfl ?_
      refine Ev_imulN dX11_takeOver_74 ?_
      refine Ev_iload_n dX11_takeOver_75 rfl ?_
      refine Ev_iaddN dX11_takeOver_76 ?_
      refine Ev_ialdL _ dX11_takeOver_77 (rk_hand rf1_) (rl_hand rf1_) (hi_n (by omega)) (by omega) ?_
      refine Ev_iastL _ dX11_takeOver_78 (rk_hand rf1_) (rl_hand rf1_) (hi_n (by omega)) (by omega) ?_
      refine Ev_iincN 1 dX11_takeOver_79 (by decide) (by decide) rfl ?_
      refine Ev_goto 47 dX11_takeOver_82 (by decide) ?_
      refine ih_ (k + 1) (by omega) (by omega) _ (fr_.tr (Fr.row (by decide))) ?_
      rw [hX_up]
      exact cp_.step (cp_.out (by omega))
theorem ev_to_b (l : Launch) (G : aG) (q p n : Nat) (h : aH) (rf : Rf h) {Q : Option Value → aH → Prop} (hq : q < 500) (hp : p < 500) (hn : n ≤ 120) (hpq : p + 1 ≤ q) (eL_ : hX h 55 p = nI n) (kk_ : ∀ h1, Fr [] [56] h h1 → CpF (hX h 56) (hX h 56) (hX h1 56) (120 * q) (120 * p) (n) → Ev l G 1 0 0 mX11_takeOver 137 [.ref MO, .int (nI q), .int (nI p), .int (nI (n))] [] h1 Q) (ms : Nat) : ∀ k, n - k < ms → k ≤ n → ∀ h1, Fr [] [56] h h1 → CpF (hX h 56) (hX h 56) (hX h1 56) (120 * q) (120 * p) k → Ev l G 1 0 0 mX11_takeOver 99 [.ref MO, .int (nI q), .int (nI p), .int (nI k)] [] h1 Q := by
  induction ms with
  | zero => intro k hk; omega
  | succ ms ih_ =>
    intro k hk1_ hk2_ h1 fr_ cp_
    have rf1_ := rf.fr fr_
    have g_ : ∀ r, r ∉ [56] → ∀ {i : Nat} {v : Int32}, hX h r i = v → hX h1 r i = v := fun r hr i v e => (congrFun (fr_.2.2.2.2.2.2 r hr) i).trans e
    have gi_ : ∀ q, ∀ {v : Int32}, hI h q MO = v → hI h1 q MO = v := fun q v e => (fr_.2.2.2.2.2.1 q MO (fun z => absurd z.2 (by simp))).trans e
    refine Ev_iload_n dX11_takeOver_99 rfl ?_
    refine Ev_aload_n dX11_takeOver_100 rfl (by first | exact Or.inr ⟨_, rfl⟩ | exact rv_or _ | exact Or.inl rfl) ?_
    refine Ev_getA dX11_takeOver_101 fX11_95 rf1_.1 (rr_baseLong rf1_) ?_
    refine Ev_iload_n dX11_takeOver_104 rfl ?_
    refine Ev_ialdE _ dX11_takeOver_105 (rk_baseLong rf1_) (rl_baseLong rf1_) (hi_n (by omega)) (by omega) (g_ 55 (by decide) eL_) ?_
    refine Ev_icmp_geN 137 dX11_takeOver_106 (by decide) (by omega) (by omega) (fun zb106_ => ?_) (fun zb106_ => ?_)
    · have ek_ : k = n := by omega
      subst ek_
      exact kk_ _ fr_ cp_
    · refine Ev_aload_n dX11_takeOver_109 rfl (by first | exact Or.inr ⟨_, rfl⟩ | exact rv_or _ | exact Or.inl rfl) ?_
      refine Ev_getA dX11_takeOver_110 fX11_99 rf1_.1 (rr_base rf1_) ?_
      refine Ev_bipush (v := nI 120) dX11_takeOver_113 (by decide) ?_
      refine Ev_iload_n dX11_takeOver_115 rfl ?_
      refine Ev_imulN dX11_takeOver_116 ?_
      refine Ev_iload_n dX11_takeOver_117 rfl ?_
      refine Ev_iaddN dX11_takeOver_118 ?_
      refine Ev_aload_n dX11_takeOver_119 rfl (by first | exact Or.inr ⟨_, rfl⟩ | exact rv_or _ | exact Or.inl rfl) ?_
      refine Ev_getA dX11_takeOver_120 fX11_99 rf1_.1 (rr_base rf1_) ?_
      refine Ev_bipush (v := nI 120) dX11_takeOver_123 (by decide) ?_
      refine Ev_iload_n dX11_takeOver_125 rfl ?_
      refine Ev_imulN dX11_takeOver_126 ?_
      refine Ev_iload_n dX11_takeOver_127 rfl ?_
      refine Ev_iaddN dX11_takeOver_128 ?_
      refine Ev_ialdL _ dX11_takeOver_129 (rk_base rf1_) (rl_base rf1_) (hi_n (by omega)) (by omega) ?_
      refine Ev_iastL _ dX11_takeOver_130 (rk_base rf1_) (rl_base rf1_) (hi_n (by omega)) (by omega) ?_
      refine Ev_iincN 1 dX11_takeOver_131 (by decide) (by decide) rfl ?_
      refine Ev_goto 99 dX11_takeOver_134 (by decide) ?_
      refine ih_ (k + 1) (by omega) (by omega) _ (fr_.tr (Fr.row (by decide))) ?_
      rw [hX_up]
      exact cp_.step (cp_.out (by omega))
