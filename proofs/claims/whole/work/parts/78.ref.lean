/-- only the rows of piece i have changed -/
def FC (i : Nat) (h h' : aH) : Prop := Fr [] [43, 44, 45, 46, 47, 48, 49, 50, 51, 53, 54, 55, 56, 57] h h' ∧ (∀ r ∈ [43, 44, 45, 46, 47, 49, 50, 51, 53, 55, 57], ∀ k, k ≠ i → hX h' r k = hX h r k) ∧ (∀ k, k < 12 * i ∨ 12 * i + 12 ≤ k → hX h' 48 k = hX h 48 k) ∧ (∀ k, k < 60 * i ∨ 60 * i + 60 ≤ k → hX h' 54 k = hX h 54 k) ∧ ∀ k, k < 120 * i ∨ 120 * i + 120 ≤ k → hX h' 56 k = hX h 56 k
theorem FC.rf {i : Nat} {h : aH} : FC i h h := ⟨Fr.rf, fun _ _ _ _ => rfl, fun _ _ => rfl, fun _ _ => rfl, fun _ _ => rfl⟩
theorem FC.tr {i : Nat} {h h1 h2 : aH} (a : FC i h h1) (b : FC i h1 h2) : FC i h h2 := ⟨a.1.tr b.1, fun r hr k hk => (b.2.1 r hr k hk).trans (a.2.1 r hr k hk), fun k hk => (b.2.2.1 k hk).trans (a.2.2.1 k hk), fun k hk => (b.2.2.2.1 k hk).trans (a.2.2.2.1 k hk), fun k hk => (b.2.2.2.2 k hk).trans (a.2.2.2.2 k hk)⟩
theorem FC.row {i : Nat} {h : aH} {a : Nat} {v : Int32} (ha : a ∈ [43, 44, 45, 46, 47, 49, 50, 51, 53, 55, 57]) : FC i h (sX h a i v) := by
  have n1 : a ≠ 48 ∧ a ≠ 54 ∧ a ≠ 56 := by revert ha; revert a; decide
  refine ⟨Fr.row (by clear n1; revert ha; revert a; decide), fun r hr k hk => ?_, fun k hk => gX_X _ n1.1.symm, fun k hk => gX_X _ n1.2.1.symm, fun k hk => gX_X _ n1.2.2.symm⟩
  by_cases e : r = a
  · subst e; exact hX_n _ _ hk
  · exact gX_X _ e
theorem FC.way {i s : Nat} {h h' : aH} {f : Nat → Int32} (fr : Fr [] [48] h h') (c : CpF f (hX h 48) (hX h' 48) (12 * i) s 12) : FC i h h' :=
  ⟨fr.mo (by decide) (by decide), fun r hr k hk => congrFun (fr.2.2.2.2.2.2 r (by revert hr; revert r; decide)) k, fun k hk => c.out (by omega), fun k hk => congrFun (fr.2.2.2.2.2.2 54 (by decide)) k, fun k hk => congrFun (fr.2.2.2.2.2.2 56 (by decide)) k⟩
theorem FC.hand {i s n : Nat} {h h' : aH} {f : Nat → Int32} (fr : Fr [] [54] h h') (c : CpF f (hX h 54) (hX h' 54) (60 * i) s n) (hn : n ≤ 60) : FC i h h' :=
  ⟨fr.mo (by decide) (by decide), fun r hr k hk => congrFun (fr.2.2.2.2.2.2 r (by revert hr; revert r; decide)) k, fun k hk => congrFun (fr.2.2.2.2.2.2 48 (by decide)) k, fun k hk => c.out (by omega), fun k hk => congrFun (fr.2.2.2.2.2.2 56 (by decide)) k⟩
theorem FC.base {i s n : Nat} {h h' : aH} {f : Nat → Int32} (fr : Fr [] [56] h h') (c : CpF f (hX h 56) (hX h' 56) (120 * i) s n) (hn : n ≤ 120) : FC i h h' :=
  ⟨fr.mo (by decide) (by decide), fun r hr k hk => congrFun (fr.2.2.2.2.2.2 r (by revert hr; revert r; decide)) k, fun k hk => congrFun (fr.2.2.2.2.2.2 48 (by decide)) k, fun k hk => congrFun (fr.2.2.2.2.2.2 54 (by decide)) k, fun k hk => c.out (by omega)⟩
theorem RP1.fc {p : Pc} {i k mf : Nat} {h h' : aH} (r : RP1 p k mf h) (b : PcB p) (f : FC i h h') (hk : k ≠ i) : RP1 p k mf h' := by
  obtain ⟨⟨a1, a2, a3, a4, a5, a6⟩, b7, c1, c2, c3, c4⟩ := r
  have e1 : ∀ r ∈ [43, 44, 45, 46, 47, 49, 50, 51, 53, 55, 57], hX h' r k = hX h r k := fun r hr => f.2.1 r hr k hk
  have l6 := b.2.1
  refine ⟨⟨(e1 _ (by decide)).trans a1, (e1 _ (by decide)).trans a2, (e1 _ (by decide)).trans a3, fun z => (e1 _ (by decide)).trans (a4 z), (e1 _ (by decide)).trans a5, (e1 _ (by decide)).trans a6⟩, fun j hj => ⟨(f.2.2.1 _ (by omega)).trans (b7 j hj).1, (f.2.2.1 _ (by omega)).trans (b7 j hj).2⟩, (e1 _ (by decide)).trans c1, (e1 _ (by decide)).trans c2, (e1 _ (by decide)).trans c3, ?_⟩
  have hb := b.2.2.2.2.2.2.2.2.2.2.2
  unfold RHd at c4 ⊢
  cases hh : pcH p with
  | none => rw [hh] at c4; exact (e1 _ (by decide)).trans c4
  | some q =>
    rw [hh] at c4
    have hl := hb q hh
    obtain ⟨d1, d2, d3, d4⟩ := c4
    exact ⟨(e1 _ (by decide)).trans d1, (e1 _ (by decide)).trans d2, fun j hj => (f.2.2.2.1 _ (by omega)).trans (d3 j hj), fun j hj => (f.2.2.2.2 _ (by omega)).trans (d4 j hj)⟩
theorem ev_cp_w (l : Launch) (G : aG) (i : Nat) (h : aH) (rf : Rf h) {Q : Option Value → aH → Prop} (hi : i < 250) (kk_ : ∀ h1, Fr [] [48] h h1 → CpF (hX h 48) (hX h 48) (hX h1 48) (12 * i) (12 * (250 + i)) (12) → Ev l G 0 0 0 mX11_copy 108 [.ref MO, .int (nI (250 + i)), .int (nI i), .int (nI (12))] [] h1 Q) (ms : Nat) : ∀ k, 12 - k < ms → k ≤ 12 → ∀ h1, Fr [] [48] h h1 → CpF (hX h 48) (hX h 48) (hX h1 48) (12 * i) (12 * (250 + i)) k → Ev l G 0 0 0 mX11_copy 74 [.ref MO, .int (nI (250 + i)), .int (nI i), .int (nI k)] [] h1 Q := by
  induction ms with
  | zero => intro k hk; omega
  | succ ms ih_ =>
    intro k hk1_ hk2_ h1 fr_ cp_
    have rf1_ := rf.fr fr_
    have g_ : ∀ r, r ∉ [48] → ∀ {i : Nat} {v : Int32}, hX h r i = v → hX h1 r i = v := fun r hr i v e => (congrFun (fr_.2.2.2.2.2.2 r hr) i).trans e
    have gi_ : ∀ q, ∀ {v : Int32}, hI h q MO = v → hI h1 q MO = v := fun q v e => (fr_.2.2.2.2.2.1 q MO (fun z => absurd z.2 (by simp))).trans e
    refine Ev_iload_n dX11_copy_74 rfl ?_
    refine Ev_bipush (v := nI 12) dX11_copy_75 (by decide) ?_
    refine Ev_icmp_geN 108 dX11_copy_77 (by decide) (by omega) (by omega) (fun zb77_ => ?_) (fun zb77_ => ?_)
    · have ek_ : k = 12 := by omega
      subst ek_
      exact kk_ _ fr_ cp_
    · refine Ev_aload_n dX11_copy_80 rfl (by first | exact Or.inr ⟨_, rfl⟩ | exact rv_or _ | exact Or.inl rfl) ?_
      refine Ev_getA dX11_copy_81 fX11_74 rf1_.1 (rr_way rf1_) ?_
      refine Ev_bipush (v := nI 12) dX11_copy_84 (by decide) ?_
      refine Ev_iload_n dX11_copy_86 rfl ?_
      refine Ev_imulN dX11_copy_87 ?_
      refine Ev_iload_n dX11_copy_88 rfl ?_
      refine Ev_iaddN dX11_copy_89 ?_
      refine Ev_aload_n dX11_copy_90 rfl (by first | exact Or.inr ⟨_, rfl⟩ | exact rv_or _ | exact Or.inl rfl) ?_
      refine Ev_getA dX11_copy_91 fX11_74 rf1_.1 (rr_way rf1_) ?_
      refine Ev_bipush (v := nI 12) dX11_copy_94 (by decide) ?_
      refine Ev_iload_n dX11_copy_96 rfl ?_
      refine Ev_imulN dX11_copy_97 ?_
      refine Ev_iload_n dX11_copy_98 rfl ?_
      refine Ev_iaddN dX11_copy_99 ?_
      refine Ev_ialdL _ dX11_copy_100 (rk_way rf1_) (rl_way rf1_) (hi_n (by omega)) (by omega) ?_
      refine Ev_iastL _ dX11_copy_101 (rk_way rf1_) (rl_way rf1_) (hi_n (by omega)) (by omega) ?_
      refine Ev_iincN 1 dX11_copy_102 (by decide) (by decide) rfl ?_
      refine Ev_goto 74 dX11_copy_105 (by decide) ?_
      refine ih_ (k + 1) (by omega) (by omega) _ (fr_.tr (Fr.row (by decide))) ?_
      rw [hX_up]
      exact cp_.step (cp_.out (by omega))
theorem ev_cp_h (l : Launch) (G : aG) (i n : Nat) (h : aH) (rf : Rf h) {Q : Option Value → aH → Prop} (hi : i < 250) (hn : n ≤ 60) (eL_ : hX h 53 (250 + i) = nI n) (kk_ : ∀ h1, Fr [] [54] h h1 → CpF (hX h 54) (hX h 54) (hX h1 54) (60 * i) (60 * (250 + i)) (n) → Ev l G 0 0 0 mX11_copy 184 [.ref MO, .int (nI (250 + i)), .int (nI i), .int (nI (n))] [] h1 Q) (ms : Nat) : ∀ k, n - k < ms → k ≤ n → ∀ h1, Fr [] [54] h h1 → CpF (hX h 54) (hX h 54) (hX h1 54) (60 * i) (60 * (250 + i)) k → Ev l G 0 0 0 mX11_copy 146 [.ref MO, .int (nI (250 + i)), .int (nI i), .int (nI k)] [] h1 Q := by
  induction ms with
  | zero => intro k hk; omega
  | succ ms ih_ =>
    intro k hk1_ hk2_ h1 fr_ cp_
    have rf1_ := rf.fr fr_
    have g_ : ∀ r, r ∉ [54] → ∀ {i : Nat} {v : Int32}, hX h r i = v → hX h1 r i = v := fun r hr i v e => (congrFun (fr_.2.2.2.2.2.2 r hr) i).trans e
    have gi_ : ∀ q, ∀ {v : Int32}, hI h q MO = v → hI h1 q MO = v := fun q v e => (fr_.2.2.2.2.2.1 q MO (fun z => absurd z.2 (by simp))).trans e
    refine Ev_iload_n dX11_copy_146 rfl ?_
    refine Ev_aload_n dX11_copy_147 rfl (by first | exact Or.inr ⟨_, rfl⟩ | exact rv_or _ | exact Or.inl rfl) ?_
    refine Ev_getA dX11_copy_148 fX11_89 rf1_.1 (rr_handLong rf1_) ?_
    refine Ev_iload_n dX11_copy_151 rfl ?_
    refine Ev_ialdE _ dX11_copy_152 (rk_handLong rf1_) (rl_handLong rf1_) (hi_n (by omega)) (by omega) (g_ 53 (by decide) eL_) ?_
    refine Ev_icmp_geN 184 dX11_copy_153 (by decide) (by omega) (by omega) (fun zb153_ => ?_) (fun zb153_ => ?_)
    · have ek_ : k = n := by omega
      subst ek_
      exact kk_ _ fr_ cp_
    · refine Ev_aload_n dX11_copy_156 rfl (by first | exact Or.inr ⟨_, rfl⟩ | exact rv_or _ | exact Or.inl rfl) ?_
      refine Ev_getA dX11_copy_157 fX11_92 rf1_.1 (rr_hand rf1_) ?_
      refine Ev_bipush (v := nI 60) dX11_copy_160 (by decide) ?_
      refine Ev_iload_n dX11_copy_162 rfl ?_
      refine Ev_imulN dX11_copy_163 ?_
      refine Ev_iload_n dX11_copy_164 rfl ?_
      refine Ev_iaddN dX11_copy_165 ?_
      refine Ev_aload_n dX11_copy_166 rfl (by first | exact Or.inr ⟨_, rfl⟩ | exact rv_or _ | exact Or.inl rfl) ?_
      refine Ev_getA dX11_copy_167 fX11_92 rf1_.1 (rr_hand rf1_) ?_
      refine Ev_bipush (v := nI 60) dX11_copy_170 (by decide) ?_
      refine Ev_iload_n dX11_copy_172 rfl ?_
      refine Ev_imulN dX11_copy_173 ?_
      refine Ev_iload_n dX11_copy_174 rfl ?_
      refine Ev_iaddN dX11_copy_175 ?_
      refine Ev_ialdL _ dX11_copy_176 (rk_hand rf1_) (rl_hand rf1_) (hi_n (by omega)) (by omega) ?_
      refine Ev_iastL _ dX11_copy_177 (rk_hand rf1_) (rl_hand rf1_) (hi_n (by omega)) (by omega) ?_
      refine Ev_iincN 1 dX11_copy_178 (by decide) (by decide) rfl ?_
      refine Ev_goto 146 dX11_copy_181 (by decide) ?_
      refine ih_ (k + 1) (by omega) (by omega) _ (fr_.tr (Fr.row (by decide))) ?_
      rw [hX_up]
      exact cp_.step (cp_.out (by omega))
theorem ev_cp_b (l : Launch) (G : aG) (i n : Nat) (h : aH) (rf : Rf h) {Q : Option Value → aH → Prop} (hi : i < 250) (hn : n ≤ 120) (eL_ : hX h 55 (250 + i) = nI n) (kk_ : ∀ h1, Fr [] [56] h h1 → CpF (hX h 56) (hX h 56) (hX h1 56) (120 * i) (120 * (250 + i)) (n) → Ev l G 0 0 0 mX11_copy 245 [.ref MO, .int (nI (250 + i)), .int (nI i), .int (nI (n))] [] h1 Q) (ms : Nat) : ∀ k, n - k < ms → k ≤ n → ∀ h1, Fr [] [56] h h1 → CpF (hX h 56) (hX h 56) (hX h1 56) (120 * i) (120 * (250 + i)) k → Ev l G 0 0 0 mX11_copy 207 [.ref MO, .int (nI (250 + i)), .int (nI i), .int (nI k)] [] h1 Q := by
  induction ms with
  | zero => intro k hk; omega
  | succ ms ih_ =>
    intro k hk1_ hk2_ h1 fr_ cp_
    have rf1_ := rf.fr fr_
    have g_ : ∀ r, r ∉ [56] → ∀ {i : Nat} {v : Int32}, hX h r i = v → hX h1 r i = v := fun r hr i v e => (congrFun (fr_.2.2.2.2.2.2 r hr) i).trans e
    have gi_ : ∀ q, ∀ {v : Int32}, hI h q MO = v → hI h1 q MO = v := fun q v e => (fr_.2.2.2.2.2.1 q MO (fun z => absurd z.2 (by simp))).trans e
    refine Ev_iload_n dX11_copy_207 rfl ?_
    refine Ev_aload_n dX11_copy_208 rfl (by first | exact Or.inr ⟨_, rfl⟩ | exact rv_or _ | exact Or.inl rfl) ?_
    refine Ev_getA dX11_copy_209 fX11_95 rf1_.1 (rr_baseLong rf1_) ?_
    refine Ev_iload_n dX11_copy_212 rfl ?_
    refine Ev_ialdE _ dX11_copy_213 (rk_baseLong rf1_) (rl_baseLong rf1_) (hi_n (by omega)) (by omega) (g_ 55 (by decide) eL_) ?_
    refine Ev_icmp_geN 245 dX11_copy_214 (by decide) (by omega) (by omega) (fun zb214_ => ?_) (fun zb214_ => ?_)
    · have ek_ : k = n := by omega
      subst ek_
      exact kk_ _ fr_ cp_
    · refine Ev_aload_n dX11_copy_217 rfl (by first | exact Or.inr ⟨_, rfl⟩ | exact rv_or _ | exact Or.inl rfl) ?_
      refine Ev_getA dX11_copy_218 fX11_99 rf1_.1 (rr_base rf1_) ?_
      refine Ev_bipush (v := nI 120) dX11_copy_221 (by decide) ?_
      refine Ev_iload_n dX11_copy_223 rfl ?_
      refine Ev_imulN dX11_copy_224 ?_
      refine Ev_iload_n dX11_copy_225 rfl ?_
      refine Ev_iaddN dX11_copy_226 ?_
      refine Ev_aload_n dX11_copy_227 rfl (by first | exact Or.inr ⟨_, rfl⟩ | exact rv_or _ | exact Or.inl rfl) ?_
      refine Ev_getA dX11_copy_228 fX11_99 rf1_.1 (rr_base rf1_) ?_
      refine Ev_bipush (v := nI 120) dX11_copy_231 (by decide) ?_
      refine Ev_iload_n dX11_copy_233 rfl ?_
      refine Ev_imulN dX11_copy_234 ?_
      refine Ev_iload_n dX11_copy_235 rfl ?_
      refine Ev_iaddN dX11_copy_236 ?_
      refine Ev_ialdL _ dX11_copy_237 (rk_base rf1_) (rl_base rf1_) (hi_n (by omega)) (by omega) ?_
      refine Ev_iastL _ dX11_copy_238 (rk_base rf1_) (rl_base rf1_) (hi_n (by omega)) (by omega) ?_
      refine Ev_iincN 1 dX11_copy_239 (by decide) (by decide) rfl ?_
      refine Ev_goto 207 dX11_copy_242 (by decide) ?_
      refine ih_ (k + 1) (by omega) (by omega) _ (fr_.tr (Fr.row (by decide))) ?_
      rw [hX_up]
      exact cp_.step (cp_.out (by omega))
theorem ev_copy (l : Launch) (G : aG) (i mf : Nat) (p : Pc) (h : aH) (rf : Rf h) (hi_ : i < 250) (bp_ : PcB p) (rp_ : RP1 p (250 + i) mf h) : Ev l G 0 0 0 mX11_copy 0 (en 4 [.ref MO, .int (nI (250 + i)), .int (nI i)]) [] h (fun x h' => x = none ∧ FC i h h' ∧ RP1 p i mf h') := by
  have hd_ := rp_.2.2.2.2.2
  refine Ev_aload_n dX11_copy_0 rfl (by first | exact Or.inr ⟨_, rfl⟩ | exact rv_or _ | exact Or.inl rfl) ?_
  refine Ev_getA dX11_copy_1 fX11_59 rf.1 (rr_item rf) ?_
  refine Ev_iload_n dX11_copy_4 rfl ?_
  refine Ev_aload_n dX11_copy_5 rfl (by first | exact Or.inr ⟨_, rfl⟩ | exact rv_or _ | exact Or.inl rfl) ?_
  refine Ev_getA dX11_copy_6 fX11_59 rf.1 (rr_item rf) ?_
  refine Ev_iload_n dX11_copy_9 rfl ?_
  refine Ev_ialdE _ dX11_copy_10 (rk_item rf) (rl_item rf) (hi_n (by omega)) (by omega) rp_.1.1 ?_
  refine Ev_iastL _ dX11_copy_11 (rk_item rf) (rl_item rf) (hi_n (by omega)) (by omega) ?_
  refine Ev_aload_n dX11_copy_12 rfl (by first | exact Or.inr ⟨_, rfl⟩ | exact rv_or _ | exact Or.inl rfl) ?_
  refine Ev_getA dX11_copy_13 fX11_62 rf.1 (rr_pieceSort rf) ?_
  refine Ev_iload_n dX11_copy_16 rfl ?_
  refine Ev_aload_n dX11_copy_17 rfl (by first | exact Or.inr ⟨_, rfl⟩ | exact rv_or _ | exact Or.inl rfl) ?_
  refine Ev_getA dX11_copy_18 fX11_62 rf.1 (rr_pieceSort rf) ?_
  refine Ev_iload_n dX11_copy_21 rfl ?_
  refine Ev_ialdE _ dX11_copy_22 (rk_pieceSort rf) (rl_pieceSort rf) (hi_n (by omega)) (by omega) ((gX_X _ (by decide)).trans rp_.1.2.1) ?_
  refine Ev_iastL _ dX11_copy_23 (rk_pieceSort rf) (rl_pieceSort rf) (hi_n (by omega)) (by omega) ?_
  refine Ev_aload_n dX11_copy_24 rfl (by first | exact Or.inr ⟨_, rfl⟩ | exact rv_or _ | exact Or.inl rfl) ?_
  refine Ev_getA dX11_copy_25 fX11_65 rf.1 (rr_pieceKind rf) ?_
  refine Ev_iload_n dX11_copy_28 rfl ?_
  refine Ev_aload_n dX11_copy_29 rfl (by first | exact Or.inr ⟨_, rfl⟩ | exact rv_or _ | exact Or.inl rfl) ?_
  refine Ev_getA dX11_copy_30 fX11_65 rf.1 (rr_pieceKind rf) ?_
  refine Ev_iload_n dX11_copy_33 rfl ?_
  refine Ev_ialdE _ dX11_copy_34 (rk_pieceKind rf) (rl_pieceKind rf) (hi_n (by omega)) (by omega) ((gX_X _ (by decide)).trans ((gX_X _ (by decide)).trans rp_.1.2.2.1)) ?_
  refine Ev_iastL _ dX11_copy_35 (rk_pieceKind rf) (rl_pieceKind rf) (hi_n (by omega)) (by omega) ?_
  refine Ev_aload_n dX11_copy_36 rfl (by first | exact Or.inr ⟨_, rfl⟩ | exact rv_or _ | exact Or.inl rfl) ?_
  refine Ev_getA dX11_copy_37 fX11_68 rf.1 (rr_pieceNumber rf) ?_
  refine Ev_iload_n dX11_copy_40 rfl ?_
  refine Ev_aload_n dX11_copy_41 rfl (by first | exact Or.inr ⟨_, rfl⟩ | exact rv_or _ | exact Or.inl rfl) ?_
  refine Ev_getA dX11_copy_42 fX11_68 rf.1 (rr_pieceNumber rf) ?_
  refine Ev_iload_n dX11_copy_45 rfl ?_
  refine Ev_ialdL _ dX11_copy_46 (rk_pieceNumber rf) (rl_pieceNumber rf) (hi_n (by omega)) (by omega) ?_
  refine Ev_iastL _ dX11_copy_47 (rk_pieceNumber rf) (rl_pieceNumber rf) (hi_n (by omega)) (by omega) ?_
  refine Ev_aload_n dX11_copy_48 rfl (by first | exact Or.inr ⟨_, rfl⟩ | exact rv_or _ | exact Or.inl rfl) ?_
  refine Ev_getA dX11_copy_49 fX11_71 rf.1 (rr_deep rf) ?_
  refine Ev_iload_n dX11_copy_52 rfl ?_
  refine Ev_aload_n dX11_copy_53 rfl (by first | exact Or.inr ⟨_, rfl⟩ | exact rv_or _ | exact Or.inl rfl) ?_
  refine Ev_getA dX11_copy_54 fX11_71 rf.1 (rr_deep rf) ?_
  refine Ev_iload_n dX11_copy_57 rfl ?_
  refine Ev_ialdE _ dX11_copy_58 (rk_deep rf) (rl_deep rf) (hi_n (by omega)) (by omega) ((gX_X _ (by decide)).trans ((gX_X _ (by decide)).trans ((gX_X _ (by decide)).trans ((gX_X _ (by decide)).trans rp_.1.2.2.2.2.1)))) ?_
  refine Ev_iastL _ dX11_copy_59 (rk_deep rf) (rl_deep rf) (hi_n (by omega)) (by omega) ?_
  refine Ev_aload_n dX11_copy_60 rfl (by first | exact Or.inr ⟨_, rfl⟩ | exact rv_or _ | exact Or.inl rfl) ?_
  refine Ev_getA dX11_copy_61 fX11_77 rf.1 (rr_thingOf rf) ?_
  refine Ev_iload_n dX11_copy_64 rfl ?_
  refine Ev_aload_n dX11_copy_65 rfl (by first | exact Or.inr ⟨_, rfl⟩ | exact rv_or _ | exact Or.inl rfl) ?_
  refine Ev_getA dX11_copy_66 fX11_77 rf.1 (rr_thingOf rf) ?_
  refine Ev_iload_n dX11_copy_69 rfl ?_
  refine Ev_ialdE _ dX11_copy_70 (rk_thingOf rf) (rl_thingOf rf) (hi_n (by omega)) (by omega) ((gX_X _ (by decide)).trans ((gX_X _ (by decide)).trans ((gX_X _ (by decide)).trans ((gX_X _ (by decide)).trans ((gX_X _ (by decide)).trans rp_.1.2.2.2.2.2))))) ?_
  refine Ev_iastL _ dX11_copy_71 (rk_thingOf rf) (rl_thingOf rf) (hi_n (by omega)) (by omega) ?_
  refine Ev_iconst (v := nI 0) dX11_copy_72 (by decide) ?_
  refine Ev_istore_n dX11_copy_73 (by decide) ?_
  refine Ev_gen (fun hA => FC i h hA ∧ (hX hA 43 i = nI (pcI p) ∧ hX hA 44 i = nI (pcT p) ∧ hX hA 45 i = nI (pcK p) ∧ (pcT p = 2 → hX hA 46 i = nI (pcN p)) ∧ hX hA 47 i = nI (pcA p).length ∧ hX hA 49 i = nI (pcS p))) ⟨(((((FC.row (by decide)).tr (FC.row (by decide))).tr (FC.row (by decide))).tr (FC.row (by decide))).tr (FC.row (by decide))).tr (FC.row (by decide)), ((gX_X _ (by decide)).trans ((gX_X _ (by decide)).trans ((gX_X _ (by decide)).trans ((gX_X _ (by decide)).trans ((gX_X _ (by decide)).trans (hX_s _ _ _ _)))))), ((gX_X _ (by decide)).trans ((gX_X _ (by decide)).trans ((gX_X _ (by decide)).trans ((gX_X _ (by decide)).trans (hX_s _ _ _ _))))), ((gX_X _ (by decide)).trans ((gX_X _ (by decide)).trans ((gX_X _ (by decide)).trans (hX_s _ _ _ _)))), fun z => ((gX_X _ (by decide)).trans ((gX_X _ (by decide)).trans ((hX_s _ _ _ _).trans ((gX_X _ (by decide)).trans ((gX_X _ (by decide)).trans ((gX_X _ (by decide)).trans (rp_.1.2.2.2.1 z))))))), ((gX_X _ (by decide)).trans (hX_s _ _ _ _)), (hX_s _ _ _ _)⟩ (fun hA z_ => ?_)
  obtain ⟨fA_, pvA_⟩ := z_
  have rfA_ : Rf hA := rf.fr fA_.1
  refine ev_cp_w l G i hA rfA_ hi_ (fun h1 fr1_ cp1_ => ?_) 13 0 (by omega) (by omega) _ Fr.rf CpF.zero
  have f1_ : FC i h h1 := fA_.tr (FC.way fr1_ cp1_)
  have rf1_ : Rf h1 := rf.fr f1_.1
  have g1_ : ∀ r, r ∉ [48] → ∀ {i : Nat} {v : Int32}, hX hA r i = v → hX h1 r i = v := fun r hr i v e => (congrFun (fr1_.2.2.2.2.2.2 r hr) i).trans e
  have pv1_ : (hX h1 43 i = nI (pcI p) ∧ hX h1 44 i = nI (pcT p) ∧ hX h1 45 i = nI (pcK p) ∧ (pcT p = 2 → hX h1 46 i = nI (pcN p)) ∧ hX h1 47 i = nI (pcA p).length ∧ hX h1 49 i = nI (pcS p)) := ⟨g1_ 43 (by decide) pvA_.1, g1_ 44 (by decide) pvA_.2.1, g1_ 45 (by decide) pvA_.2.2.1, fun z => g1_ 46 (by decide) (pvA_.2.2.2.1 z), g1_ 47 (by decide) pvA_.2.2.2.2.1, g1_ 49 (by decide) pvA_.2.2.2.2.2⟩
  have wv1_ : ∀ k, k < (pcA p).length → hX h1 48 (12 * i + 2 * k) = nI ((pcA p).getD k 0) ∧ hX h1 48 (12 * i + 2 * k + 1) = nI ((pcW p ++ [pcI p]).getD k 0) := fun k hk => by
    have l6_ := bp_.2.1
    have q1_ := cp1_.in (i := 2 * k) (by omega)
    have q2_ := cp1_.in (i := 2 * k + 1) (by omega)
    rw [fA_.2.2.1 _ (by omega)] at q1_ q2_
    exact ⟨q1_.trans (rp_.2.1 k hk).1, q2_.trans (rp_.2.1 k hk).2⟩
  cases hh_ : pcH p with
  | none =>
    rw [hh_] at hd_
    have e0_ : hX h 53 (250 + i) = -1 := hd_
    refine Ev_aload_n dX11_copy_108 rfl (by first | exact Or.inr ⟨_, rfl⟩ | exact rv_or _ | exact Or.inl rfl) ?_
    refine Ev_getA dX11_copy_109 fX11_80 rf1_.1 (rr_madeFrom rf1_) ?_
    refine Ev_iload_n dX11_copy_112 rfl ?_
    refine Ev_aload_n dX11_copy_113 rfl (by first | exact Or.inr ⟨_, rfl⟩ | exact rv_or _ | exact Or.inl rfl) ?_
    refine Ev_getA dX11_copy_114 fX11_80 rf1_.1 (rr_madeFrom rf1_) ?_
    refine Ev_iload_n dX11_copy_117 rfl ?_
    refine Ev_ialdE _ dX11_copy_118 (rk_madeFrom rf1_) (rl_madeFrom rf1_) (hi_n (by omega)) (by omega) ((f1_.2.1 50 (by decide) _ (by omega)).trans rp_.2.2.1) ?_
    refine Ev_iastL _ dX11_copy_119 (rk_madeFrom rf1_) (rl_madeFrom rf1_) (hi_n (by omega)) (by omega) ?_
    refine Ev_aload_n dX11_copy_120 rfl (by first | exact Or.inr ⟨_, rfl⟩ | exact rv_or _ | exact Or.inl rfl) ?_
    refine Ev_getA dX11_copy_121 fX11_83 rf1_.1 (rr_madeLong rf1_) ?_
    refine Ev_iload_n dX11_copy_124 rfl ?_
    refine Ev_aload_n dX11_copy_125 rfl (by first | exact Or.inr ⟨_, rfl⟩ | exact rv_or _ | exact Or.inl rfl) ?_
    refine Ev_getA dX11_copy_126 fX11_83 rf1_.1 (rr_madeLong rf1_) ?_
    refine Ev_iload_n dX11_copy_129 rfl ?_
    refine Ev_ialdE _ dX11_copy_130 (rk_madeLong rf1_) (rl_madeLong rf1_) (hi_n (by omega)) (by omega) ((gX_X _ (by decide)).trans ((f1_.2.1 51 (by decide) _ (by omega)).trans rp_.2.2.2.1)) ?_
    refine Ev_iastL _ dX11_copy_131 (rk_madeLong rf1_) (rl_madeLong rf1_) (hi_n (by omega)) (by omega) ?_
    refine Ev_aload_n dX11_copy_132 rfl (by first | exact Or.inr ⟨_, rfl⟩ | exact rv_or _ | exact Or.inl rfl) ?_
    refine Ev_getA dX11_copy_133 fX11_89 rf1_.1 (rr_handLong rf1_) ?_
    refine Ev_iload_n dX11_copy_136 rfl ?_
    refine Ev_aload_n dX11_copy_137 rfl (by first | exact Or.inr ⟨_, rfl⟩ | exact rv_or _ | exact Or.inl rfl) ?_
    refine Ev_getA dX11_copy_138 fX11_89 rf1_.1 (rr_handLong rf1_) ?_
    refine Ev_iload_n dX11_copy_141 rfl ?_
    refine Ev_ialdE _ dX11_copy_142 (rk_handLong rf1_) (rl_handLong rf1_) (hi_n (by omega)) (by omega) ((gX_X _ (by decide)).trans ((gX_X _ (by decide)).trans ((f1_.2.1 53 (by decide) _ (by omega)).trans e0_))) ?_
    refine Ev_iastL _ dX11_copy_143 (rk_handLong rf1_) (rl_handLong rf1_) (hi_n (by omega)) (by omega) ?_
    refine Ev_iconst (v := nI 0) dX11_copy_144 (by decide) ?_
    refine Ev_istore_n dX11_copy_145 (by decide) ?_
    refine Ev_gen (fun hB => FC i h hB ∧ (hX hB 43 i = nI (pcI p) ∧ hX hB 44 i = nI (pcT p) ∧ hX hB 45 i = nI (pcK p) ∧ (pcT p = 2 → hX hB 46 i = nI (pcN p)) ∧ hX hB 47 i = nI (pcA p).length ∧ hX hB 49 i = nI (pcS p)) ∧ (∀ k, k < (pcA p).length → hX hB 48 (12 * i + 2 * k) = nI ((pcA p).getD k 0) ∧ hX hB 48 (12 * i + 2 * k + 1) = nI ((pcW p ++ [pcI p]).getD k 0)) ∧ hX hB 50 i = nI mf ∧ hX hB 51 i = nI (pcM p).length ∧ hX hB 53 i = -1) ⟨((f1_.tr (FC.row (by decide))).tr (FC.row (by decide))).tr (FC.row (by decide)), ⟨((gX_X _ (by decide)).trans ((gX_X _ (by decide)).trans ((gX_X _ (by decide)).trans pv1_.1))), ((gX_X _ (by decide)).trans ((gX_X _ (by decide)).trans ((gX_X _ (by decide)).trans pv1_.2.1))), ((gX_X _ (by decide)).trans ((gX_X _ (by decide)).trans ((gX_X _ (by decide)).trans pv1_.2.2.1))), fun z => ((gX_X _ (by decide)).trans ((gX_X _ (by decide)).trans ((gX_X _ (by decide)).trans (pv1_.2.2.2.1 z)))), ((gX_X _ (by decide)).trans ((gX_X _ (by decide)).trans ((gX_X _ (by decide)).trans pv1_.2.2.2.2.1))), ((gX_X _ (by decide)).trans ((gX_X _ (by decide)).trans ((gX_X _ (by decide)).trans pv1_.2.2.2.2.2)))⟩, fun k hk => ⟨((gX_X _ (by decide)).trans ((gX_X _ (by decide)).trans ((gX_X _ (by decide)).trans (wv1_ k hk).1))), ((gX_X _ (by decide)).trans ((gX_X _ (by decide)).trans ((gX_X _ (by decide)).trans (wv1_ k hk).2)))⟩, ((gX_X _ (by decide)).trans ((gX_X _ (by decide)).trans (hX_s _ _ _ _))), ((gX_X _ (by decide)).trans (hX_s _ _ _ _)), (hX_s _ _ _ _)⟩ (fun hB z_ => ?_)
    obtain ⟨fB_, pv_, wv_, v50_, v51_, v53_⟩ := z_
    have rfB_ : Rf hB := rf.fr fB_.1
    have e53q_ : hX hB 53 (250 + i) = -1 := (fB_.2.1 53 (by decide) _ (by omega)).trans e0_
    refine Ev_iload_n dX11_copy_146 rfl ?_
    refine Ev_aload_n dX11_copy_147 rfl (by first | exact Or.inr ⟨_, rfl⟩ | exact rv_or _ | exact Or.inl rfl) ?_
    refine Ev_getA dX11_copy_148 fX11_89 rfB_.1 (rr_handLong rfB_) ?_
    refine Ev_iload_n dX11_copy_151 rfl ?_
    refine Ev_ialdE _ dX11_copy_152 (rk_handLong rfB_) (rl_handLong rfB_) (hi_n (by omega)) (by omega) e53q_ ?_
    refine Ev_icmp_geT 184 dX11_copy_153 (by decide) (fun zb153_ => ?_) (fun zb153_ => ?_)
    · refine Ev_aload_n dX11_copy_184 rfl (by first | exact Or.inr ⟨_, rfl⟩ | exact rv_or _ | exact Or.inl rfl) ?_
      refine Ev_getA dX11_copy_185 fX11_89 rfB_.1 (rr_handLong rfB_) ?_
      refine Ev_iload_n dX11_copy_188 rfl ?_
      refine Ev_ialdE _ dX11_copy_189 (rk_handLong rfB_) (rl_handLong rfB_) (hi_n (by omega)) (by omega) e53q_ ?_
      refine Ev_if_ltT 245 dX11_copy_190 (by decide) (fun zb190_ => ?_) (fun zb190_ => ?_)
      · refine Ev_aload_n dX11_copy_245 rfl (by first | exact Or.inr ⟨_, rfl⟩ | exact rv_or _ | exact Or.inl rfl) ?_
        refine Ev_getA dX11_copy_246 fX11_102 rfB_.1 (rr_clash rfB_) ?_
        refine Ev_iload_n dX11_copy_249 rfl ?_
        refine Ev_aload_n dX11_copy_250 rfl (by first | exact Or.inr ⟨_, rfl⟩ | exact rv_or _ | exact Or.inl rfl) ?_
        refine Ev_getA dX11_copy_251 fX11_102 rfB_.1 (rr_clash rfB_) ?_
        refine Ev_iload_n dX11_copy_254 rfl ?_
        refine Ev_zaldE _ dX11_copy_255 (rk_clash rfB_) (rl_clash rfB_) (hi_n (by omega)) (by omega) ((fB_.2.1 57 (by decide) _ (by omega)).trans rp_.2.2.2.2.1) ?_
        refine Ev_zastL _ dX11_copy_256 (rk_clash rfB_) (rl_clash rfB_) (bI_or _) (hi_n (by omega)) (by omega) ?_
        refine Ev_vret dX11_copy_257 rfl ?_
        have fC_ := fB_.tr (FC.row (i := i) (h := hB) (a := 57) (v := bI (clB p)) (by decide))
        exact ⟨rfl, fC_, RP1_iff.mpr ⟨⟨⟨(gX_X _ (by decide)).trans pv_.1, (gX_X _ (by decide)).trans pv_.2.1, (gX_X _ (by decide)).trans pv_.2.2.1, fun z => (gX_X _ (by decide)).trans (pv_.2.2.2.1 z), (gX_X _ (by decide)).trans pv_.2.2.2.2.1, (gX_X _ (by decide)).trans pv_.2.2.2.2.2⟩, fun k hk => ⟨(gX_X _ (by decide)).trans (wv_ k hk).1, (gX_X _ (by decide)).trans (wv_ k hk).2⟩, (gX_X _ (by decide)).trans v50_, (gX_X _ (by decide)).trans v51_⟩, hX_s _ _ _ _, (by rw [hh_]; exact (gX_X _ (by decide)).trans v53_)⟩⟩
      · exact absurd (by decide) zb190_
    · exact absurd (by decide) zb153_
  | some hb =>
    have hbl_ := bp_.2.2.2.2.2.2.2.2.2.2.2 hb hh_
    rw [hh_] at hd_
    refine Ev_aload_n dX11_copy_108 rfl (by first | exact Or.inr ⟨_, rfl⟩ | exact rv_or _ | exact Or.inl rfl) ?_
    refine Ev_getA dX11_copy_109 fX11_80 rf1_.1 (rr_madeFrom rf1_) ?_
    refine Ev_iload_n dX11_copy_112 rfl ?_
    refine Ev_aload_n dX11_copy_113 rfl (by first | exact Or.inr ⟨_, rfl⟩ | exact rv_or _ | exact Or.inl rfl) ?_
    refine Ev_getA dX11_copy_114 fX11_80 rf1_.1 (rr_madeFrom rf1_) ?_
    refine Ev_iload_n dX11_copy_117 rfl ?_
    refine Ev_ialdE _ dX11_copy_118 (rk_madeFrom rf1_) (rl_madeFrom rf1_) (hi_n (by omega)) (by omega) ((f1_.2.1 50 (by decide) _ (by omega)).trans rp_.2.2.1) ?_
    refine Ev_iastL _ dX11_copy_119 (rk_madeFrom rf1_) (rl_madeFrom rf1_) (hi_n (by omega)) (by omega) ?_
    refine Ev_aload_n dX11_copy_120 rfl (by first | exact Or.inr ⟨_, rfl⟩ | exact rv_or _ | exact Or.inl rfl) ?_
    refine Ev_getA dX11_copy_121 fX11_83 rf1_.1 (rr_madeLong rf1_) ?_
    refine Ev_iload_n dX11_copy_124 rfl ?_
    refine Ev_aload_n dX11_copy_125 rfl (by first | exact Or.inr ⟨_, rfl⟩ | exact rv_or _ | exact Or.inl rfl) ?_
    refine Ev_getA dX11_copy_126 fX11_83 rf1_.1 (rr_madeLong rf1_) ?_
    refine Ev_iload_n dX11_copy_129 rfl ?_
    refine Ev_ialdE _ dX11_copy_130 (rk_madeLong rf1_) (rl_madeLong rf1_) (hi_n (by omega)) (by omega) ((gX_X _ (by decide)).trans ((f1_.2.1 51 (by decide) _ (by omega)).trans rp_.2.2.2.1)) ?_
    refine Ev_iastL _ dX11_copy_131 (rk_madeLong rf1_) (rl_madeLong rf1_) (hi_n (by omega)) (by omega) ?_
    refine Ev_aload_n dX11_copy_132 rfl (by first | exact Or.inr ⟨_, rfl⟩ | exact rv_or _ | exact Or.inl rfl) ?_
    refine Ev_getA dX11_copy_133 fX11_89 rf1_.1 (rr_handLong rf1_) ?_
    refine Ev_iload_n dX11_copy_136 rfl ?_
    refine Ev_aload_n dX11_copy_137 rfl (by first | exact Or.inr ⟨_, rfl⟩ | exact rv_or _ | exact Or.inl rfl) ?_
    refine Ev_getA dX11_copy_138 fX11_89 rf1_.1 (rr_handLong rf1_) ?_
    refine Ev_iload_n dX11_copy_141 rfl ?_
    refine Ev_ialdE _ dX11_copy_142 (rk_handLong rf1_) (rl_handLong rf1_) (hi_n (by omega)) (by omega) ((gX_X _ (by decide)).trans ((gX_X _ (by decide)).trans ((f1_.2.1 53 (by decide) _ (by omega)).trans hd_.1))) ?_
    refine Ev_iastL _ dX11_copy_143 (rk_handLong rf1_) (rl_handLong rf1_) (hi_n (by omega)) (by omega) ?_
    refine Ev_iconst (v := nI 0) dX11_copy_144 (by decide) ?_
    refine Ev_istore_n dX11_copy_145 (by decide) ?_
    refine Ev_gen (fun hB => FC i h hB ∧ (hX hB 43 i = nI (pcI p) ∧ hX hB 44 i = nI (pcT p) ∧ hX hB 45 i = nI (pcK p) ∧ (pcT p = 2 → hX hB 46 i = nI (pcN p)) ∧ hX hB 47 i = nI (pcA p).length ∧ hX hB 49 i = nI (pcS p)) ∧ (∀ k, k < (pcA p).length → hX hB 48 (12 * i + 2 * k) = nI ((pcA p).getD k 0) ∧ hX hB 48 (12 * i + 2 * k + 1) = nI ((pcW p ++ [pcI p]).getD k 0)) ∧ hX hB 50 i = nI mf ∧ hX hB 51 i = nI (pcM p).length ∧ hX hB 53 i = nI hb.1.length) ⟨((f1_.tr (FC.row (by decide))).tr (FC.row (by decide))).tr (FC.row (by decide)), ⟨((gX_X _ (by decide)).trans ((gX_X _ (by decide)).trans ((gX_X _ (by decide)).trans pv1_.1))), ((gX_X _ (by decide)).trans ((gX_X _ (by decide)).trans ((gX_X _ (by decide)).trans pv1_.2.1))), ((gX_X _ (by decide)).trans ((gX_X _ (by decide)).trans ((gX_X _ (by decide)).trans pv1_.2.2.1))), fun z => ((gX_X _ (by decide)).trans ((gX_X _ (by decide)).trans ((gX_X _ (by decide)).trans (pv1_.2.2.2.1 z)))), ((gX_X _ (by decide)).trans ((gX_X _ (by decide)).trans ((gX_X _ (by decide)).trans pv1_.2.2.2.2.1))), ((gX_X _ (by decide)).trans ((gX_X _ (by decide)).trans ((gX_X _ (by decide)).trans pv1_.2.2.2.2.2)))⟩, fun k hk => ⟨((gX_X _ (by decide)).trans ((gX_X _ (by decide)).trans ((gX_X _ (by decide)).trans (wv1_ k hk).1))), ((gX_X _ (by decide)).trans ((gX_X _ (by decide)).trans ((gX_X _ (by decide)).trans (wv1_ k hk).2)))⟩, ((gX_X _ (by decide)).trans ((gX_X _ (by decide)).trans (hX_s _ _ _ _))), ((gX_X _ (by decide)).trans (hX_s _ _ _ _)), (hX_s _ _ _ _)⟩ (fun hB z_ => ?_)
    obtain ⟨fB_, pv_, wv_, v50_, v51_, v53_⟩ := z_
    have rfB_ : Rf hB := rf.fr fB_.1
    have e53q_ : hX hB 53 (250 + i) = nI hb.1.length := (fB_.2.1 53 (by decide) _ (by omega)).trans hd_.1
    refine ev_cp_h l G i hb.1.length hB rfB_ hi_ hbl_.1 e53q_ (fun hC fr2_ cp2_ => ?_) 61 0 (by omega) (by omega) _ Fr.rf CpF.zero
    have fC0_ : FC i h hC := fB_.tr (FC.hand fr2_ cp2_ hbl_.1)
    have rfC_ : Rf hC := rf.fr fC0_.1
    refine Ev_aload_n dX11_copy_184 rfl (by first | exact Or.inr ⟨_, rfl⟩ | exact rv_or _ | exact Or.inl rfl) ?_
    refine Ev_getA dX11_copy_185 fX11_89 rfC_.1 (rr_handLong rfC_) ?_
    refine Ev_iload_n dX11_copy_188 rfl ?_
    refine Ev_ialdE _ dX11_copy_189 (rk_handLong rfC_) (rl_handLong rfC_) (hi_n (by omega)) (by omega) ((fC0_.2.1 53 (by decide) _ (by omega)).trans hd_.1) ?_
    refine Ev_if_ltT 245 dX11_copy_190 (by decide) (fun zb190_ => ?_) (fun zb190_ => ?_)
    · exact absurd zb190_ (by rw [hi_n (by omega)]; omega)
    · refine Ev_aload_n dX11_copy_193 rfl (by first | exact Or.inr ⟨_, rfl⟩ | exact rv_or _ | exact Or.inl rfl) ?_
      refine Ev_getA dX11_copy_194 fX11_95 rfC_.1 (rr_baseLong rfC_) ?_
      refine Ev_iload_n dX11_copy_197 rfl ?_
      refine Ev_aload_n dX11_copy_198 rfl (by first | exact Or.inr ⟨_, rfl⟩ | exact rv_or _ | exact Or.inl rfl) ?_
      refine Ev_getA dX11_copy_199 fX11_95 rfC_.1 (rr_baseLong rfC_) ?_
      refine Ev_iload_n dX11_copy_202 rfl ?_
      refine Ev_ialdE _ dX11_copy_203 (rk_baseLong rfC_) (rl_baseLong rfC_) (hi_n (by omega)) (by omega) ((fC0_.2.1 55 (by decide) _ (by omega)).trans hd_.2.1) ?_
      refine Ev_iastL _ dX11_copy_204 (rk_baseLong rfC_) (rl_baseLong rfC_) (hi_n (by omega)) (by omega) ?_
      refine Ev_iconst (v := nI 0) dX11_copy_205 (by decide) ?_
      refine Ev_istore_n dX11_copy_206 (by decide) ?_
      refine ev_cp_b l G i hb.2.length (sX hC 55 i (nI hb.2.length)) rfC_ hi_ hbl_.2 ((hX_n _ _ (by omega)).trans ((fC0_.2.1 55 (by decide) _ (by omega)).trans hd_.2.1)) (fun hD fr3_ cp3_ => ?_) 121 0 (by omega) (by omega) _ Fr.rf CpF.zero
      have fD_ : FC i h hD := (fC0_.tr (FC.row (by decide))).tr (FC.base fr3_ cp3_ hbl_.2)
      have rfD_ : Rf hD := rf.fr fD_.1
      have g3_ : ∀ r, r ∉ [54, 55, 56] → hX hD r = hX hB r := fun r hr => by
        rw [fr3_.2.2.2.2.2.2 r (fun z => hr (by rw [List.mem_singleton.mp z]; decide)), hX_o _ _ (fun z => hr (by rw [z]; decide)), fr2_.2.2.2.2.2.2 r (fun z => hr (by rw [List.mem_singleton.mp z]; decide))]
      rw [← g3_ 43 (by decide), ← g3_ 44 (by decide), ← g3_ 45 (by decide), ← g3_ 46 (by decide), ← g3_ 47 (by decide), ← g3_ 49 (by decide)] at pv_
      rw [← g3_ 48 (by decide)] at wv_
      rw [← g3_ 50 (by decide)] at v50_
      rw [← g3_ 51 (by decide)] at v51_
      have v53d_ : hX hD 53 i = nI hb.1.length := by rw [g3_ 53 (by decide)]; exact v53_
      have v55d_ : hX hD 55 i = nI hb.2.length := (congrFun (fr3_.2.2.2.2.2.2 55 (by decide)) _).trans (hX_s _ _ _ _)
      have v54d_ : ∀ k, k < hb.1.length → hX hD 54 (60 * i + k) = hb.1.getD k 0 := fun k hk => (congrFun (fr3_.2.2.2.2.2.2 54 (by decide)) _).trans ((gX_X _ (by decide)).trans ((cp2_.in hk).trans ((fB_.2.2.2.1 _ (by omega)).trans (hd_.2.2.1 k hk))))
      have v56d_ : ∀ k, k < hb.2.length → hX hD 56 (120 * i + k) = hb.2.getD k 0 := fun k hk => (cp3_.in hk).trans ((gX_X _ (by decide)).trans ((fC0_.2.2.2.2 _ (by omega)).trans (hd_.2.2.2 k hk)))
      refine Ev_aload_n dX11_copy_245 rfl (by first | exact Or.inr ⟨_, rfl⟩ | exact rv_or _ | exact Or.inl rfl) ?_
      refine Ev_getA dX11_copy_246 fX11_102 rfD_.1 (rr_clash rfD_) ?_
      refine Ev_iload_n dX11_copy_249 rfl ?_
      refine Ev_aload_n dX11_copy_250 rfl (by first | exact Or.inr ⟨_, rfl⟩ | exact rv_or _ | exact Or.inl rfl) ?_
      refine Ev_getA dX11_copy_251 fX11_102 rfD_.1 (rr_clash rfD_) ?_
      refine Ev_iload_n dX11_copy_254 rfl ?_
      refine Ev_zaldE _ dX11_copy_255 (rk_clash rfD_) (rl_clash rfD_) (hi_n (by omega)) (by omega) ((fD_.2.1 57 (by decide) _ (by omega)).trans rp_.2.2.2.2.1) ?_
      refine Ev_zastL _ dX11_copy_256 (rk_clash rfD_) (rl_clash rfD_) (bI_or _) (hi_n (by omega)) (by omega) ?_
      refine Ev_vret dX11_copy_257 rfl ?_
      have fC_ := fD_.tr (FC.row (i := i) (h := hD) (a := 57) (v := bI (clB p)) (by decide))
      exact ⟨rfl, fC_, RP1_iff.mpr ⟨⟨⟨(gX_X _ (by decide)).trans pv_.1, (gX_X _ (by decide)).trans pv_.2.1, (gX_X _ (by decide)).trans pv_.2.2.1, fun z => (gX_X _ (by decide)).trans (pv_.2.2.2.1 z), (gX_X _ (by decide)).trans pv_.2.2.2.2.1, (gX_X _ (by decide)).trans pv_.2.2.2.2.2⟩, fun k hk => ⟨(gX_X _ (by decide)).trans (wv_ k hk).1, (gX_X _ (by decide)).trans (wv_ k hk).2⟩, (gX_X _ (by decide)).trans v50_, (gX_X _ (by decide)).trans v51_⟩, hX_s _ _ _ _, (by rw [hh_]; exact ⟨(gX_X _ (by decide)).trans v53d_, (gX_X _ (by decide)).trans v55d_, fun k hk => (gX_X _ (by decide)).trans (v54d_ k hk), fun k hk => (gX_X _ (by decide)).trans (v56d_ k hk)⟩)⟩⟩
