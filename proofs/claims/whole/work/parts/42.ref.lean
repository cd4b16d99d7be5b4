/-- the lone texts: bytes, sort, item; those that fell out -/
def RLn (ln : List (List Int32 × Nat × Nat)) (fa : Nat) (h : aH) : Prop := ln.length ≤ 30 ∧ hI h 813 MO = nI ln.length ∧ hI h 818 MO = nI fa ∧ fa ≤ 200000 ∧ ∀ i q, ln[i]? = some q → q.1.length ≤ 60 ∧ q.2.1 ≤ 4 ∧ q.2.2 ≤ 19 ∧ hX h 62 i = nI q.2.1 ∧ hX h 63 i = nI q.2.2 ∧ hX h 64 i = nI q.1.length ∧ ∀ b, b < q.1.length → hX h 65 (60 * i + b) = q.1.getD b 0
/-- rows from x on have come one forward, as far as k -/
def LnK (x k : Nat) (h h1 : aH) : Prop := Fr [] [62, 63, 64, 65] h h1 ∧ (∀ i, hX h1 62 i = if x ≤ i ∧ i < k then hX h 62 (i + 1) else hX h 62 i) ∧ (∀ i, hX h1 63 i = if x ≤ i ∧ i < k then hX h 63 (i + 1) else hX h 63 i) ∧ (∀ i, hX h1 64 i = if x ≤ i ∧ i < k then hX h 64 (i + 1) else hX h 64 i) ∧ (∀ i b, b < 60 → hX h1 65 (60 * i + b) = if x ≤ i ∧ i < k then hX h 65 (60 * (i + 1) + b) else hX h 65 (60 * i + b))
theorem LnK.zero {x : Nat} {h : aH} : LnK x x h h := ⟨Fr.rf, fun i => by rw [if_neg (by omega)], fun i => by rw [if_neg (by omega)], fun i => by rw [if_neg (by omega)], fun i b hb => by rw [if_neg (by omega)]⟩
theorem up_if {x k : Nat} {f g g' : Nat → Int32} (hx : x ≤ k) (h1 : ∀ i, g i = if x ≤ i ∧ i < k then f (i + 1) else f i) (e1 : g' k = f (k + 1)) (e2 : ∀ i, i ≠ k → g' i = g i) : ∀ i, g' i = if x ≤ i ∧ i < k + 1 then f (i + 1) else f i := by
  intro i
  by_cases e : i = k
  · subst e; rw [if_pos (by omega), e1]
  · rw [e2 i e, h1 i]
    by_cases z : x ≤ i ∧ i < k
    · rw [if_pos z, if_pos (by omega)]
    · rw [if_neg z, if_neg (by omega)]
theorem ev_dropLone_b (l : Launch) (G : aG) {d mc ms : Nat} (x k : Nat) (hk : k < 29) (h : aH) (rf : Rf h) {Q : Option Value → aH → Prop} (kk_ : ∀ h2, Fr [] [65] h h2 → ((∀ q, q < 60 → hX h2 65 (60 * k + q) = hX h 65 (60 * (k + 1) + q)) ∧ ∀ i, i < 60 * k ∨ 60 * k + 60 ≤ i → hX h2 65 i = hX h 65 i) → Ev l G d mc ms mX11_dropLone 92 [.ref MO, .int (nI x), .int (nI k), .int (nI 60)] [] h2 Q) (mm : Nat) : ∀ b, 60 - b < mm → b ≤ 60 → ∀ h2, Fr [] [65] h h2 → ((∀ q, q < b → hX h2 65 (60 * k + q) = hX h 65 (60 * (k + 1) + q)) ∧ ∀ i, i < 60 * k ∨ 60 * k + b ≤ i → hX h2 65 i = hX h 65 i) → Ev l G d mc ms mX11_dropLone 56 [.ref MO, .int (nI x), .int (nI k), .int (nI b)] [] h2 Q := by
  induction mm with
  | zero => intro b hb; omega
  | succ mm ih_ =>
    intro b hb hb2 h2 f2_ n2_
    have rf2_ := rf.fr f2_
    refine Ev_iload_n dX11_dropLone_56 rfl ?_
    refine Ev_bipush (v := nI 60) dX11_dropLone_57 (by decide) ?_
    refine Ev_icmp_geN 92 dX11_dropLone_59 (by decide) (by omega) (by omega) (fun zb59_ => ?_) (fun zb59_ => ?_)
    · have eb_ : b = 60 := by omega
      subst eb_
      exact kk_ _ f2_ n2_
    · refine Ev_aload_n dX11_dropLone_62 rfl (by first | exact Or.inr ⟨_, rfl⟩ | exact rv_or _ | exact Or.inl rfl) ?_
      refine Ev_getA dX11_dropLone_63 fX11_127 rf2_.1 (rr_lone rf2_) ?_
      refine Ev_bipush (v := nI 60) dX11_dropLone_66 (by decide) ?_
      refine Ev_iload_n dX11_dropLone_68 rfl ?_
      refine Ev_imulN dX11_dropLone_69 ?_
      refine Ev_iload_n dX11_dropLone_70 rfl ?_
      refine Ev_iaddN dX11_dropLone_71 ?_
      refine Ev_aload_n dX11_dropLone_72 rfl (by first | exact Or.inr ⟨_, rfl⟩ | exact rv_or _ | exact Or.inl rfl) ?_
      refine Ev_getA dX11_dropLone_73 fX11_127 rf2_.1 (rr_lone rf2_) ?_
      refine Ev_bipush (v := nI 60) dX11_dropLone_76 (by decide) ?_
      refine Ev_iload_n dX11_dropLone_78 rfl ?_
      refine Ev_iconst (v := nI 1) dX11_dropLone_79 (by decide) ?_
      refine Ev_iaddN dX11_dropLone_80 ?_
      refine Ev_imulN dX11_dropLone_81 ?_
      refine Ev_iload_n dX11_dropLone_82 rfl ?_
      refine Ev_iaddN dX11_dropLone_83 ?_
      refine Ev_ialdL _ dX11_dropLone_84 (rk_lone rf2_) (rl_lone rf2_) (hi_n (by omega)) (by omega) ?_
      refine Ev_iastL _ dX11_dropLone_85 (rk_lone rf2_) (rl_lone rf2_) (hi_n (by omega)) (by omega) ?_
      refine Ev_iincN 1 dX11_dropLone_86 (by decide) (by decide) rfl ?_
      refine Ev_goto 56 dX11_dropLone_89 (by decide) ?_
      refine ih_ (b + 1) (by omega) (by omega) _ (f2_.tr (Fr.row (by decide))) ⟨fun q hq => ?_, fun i hi => ?_⟩
      · by_cases e : q = b
        · rw [e, hX_s, n2_.2 _ (by omega)]
        · rw [hX_n _ _ (by omega)]; exact n2_.1 q (by omega)
      · rw [hX_n _ _ (by omega)]; exact n2_.2 i (by omega)
theorem ev_dropLone_l (l : Launch) (G : aG) (x n : Nat) (hx : x < n) (hn : n ≤ 30) (h : aH) (rf : Rf h) (el0_ : hI h 813 MO = nI n) {Q : Option Value → aH → Prop} (kk_ : ∀ h1, LnK x (n - 1) h h1 → Q none (sI h1 813 MO (nI (n - 1)))) (mm : Nat) : ∀ k, n - k < mm → x ≤ k → k ≤ n - 1 → ∀ h1, LnK x k h h1 → ∀ v_ : Value, Ev l G 0 0 0 mX11_dropLone 2 [.ref MO, .int (nI x), .int (nI k), v_] [] h1 Q := by
  induction mm with
  | zero => intro k hk; omega
  | succ mm ih_ =>
    intro k hk hxk hkn h1 ls_ v_
    have rf1_ := rf.fr ls_.1
    have el_ : hI h1 813 MO = nI n := (ls_.1.2.2.2.2.2.1 813 MO (by simp)).trans el0_
    refine Ev_iload_n dX11_dropLone_2 rfl ?_
    refine Ev_aload_n dX11_dropLone_3 rfl (by first | exact Or.inr ⟨_, rfl⟩ | exact rv_or _ | exact Or.inl rfl) ?_
    refine Ev_getE dX11_dropLone_4 fX11_239 rf1_.1 el_ ?_
    refine Ev_iconst (v := nI 1) dX11_dropLone_7 (by decide) ?_
    refine Ev_isubN dX11_dropLone_8 (by omega) ?_
    refine Ev_icmp_geN 98 dX11_dropLone_9 (by decide) (by omega) (by omega) (fun zb9_ => ?_) (fun zb9_ => ?_)
    · refine Ev_aload_n dX11_dropLone_98 rfl (by first | exact Or.inr ⟨_, rfl⟩ | exact rv_or _ | exact Or.inl rfl) ?_
      refine Ev_dup dX11_dropLone_99 (by first | rfl | exact okv_rv _) ?_
      refine Ev_getE dX11_dropLone_100 fX11_239 rf1_.1 el_ ?_
      refine Ev_iconst (v := nI 1) dX11_dropLone_103 (by decide) ?_
      refine Ev_isubN dX11_dropLone_104 (by omega) ?_
      refine Ev_putI dX11_dropLone_105 fX11_239 ⟨_, rfl, Or.inl rfl⟩ (Or.inl rfl) rf1_.1 ?_
      refine Ev_vret dX11_dropLone_108 rfl ?_
      have ek_ : k = n - 1 := by omega
      subst ek_
      exact kk_ _ ls_
    · refine Ev_aload_n dX11_dropLone_12 rfl (by first | exact Or.inr ⟨_, rfl⟩ | exact rv_or _ | exact Or.inl rfl) ?_
      refine Ev_getA dX11_dropLone_13 fX11_118 rf1_.1 (rr_loneSort rf1_) ?_
      refine Ev_iload_n dX11_dropLone_16 rfl ?_
      refine Ev_aload_n dX11_dropLone_17 rfl (by first | exact Or.inr ⟨_, rfl⟩ | exact rv_or _ | exact Or.inl rfl) ?_
      refine Ev_getA dX11_dropLone_18 fX11_118 rf1_.1 (rr_loneSort rf1_) ?_
      refine Ev_iload_n dX11_dropLone_21 rfl ?_
      refine Ev_iconst (v := nI 1) dX11_dropLone_22 (by decide) ?_
      refine Ev_iaddN dX11_dropLone_23 ?_
      refine Ev_ialdL _ dX11_dropLone_24 (rk_loneSort rf1_) (rl_loneSort rf1_) (hi_n (by omega)) (by omega) ?_
      refine Ev_iastL _ dX11_dropLone_25 (rk_loneSort rf1_) (rl_loneSort rf1_) (hi_n (by omega)) (by omega) ?_
      refine Ev_aload_n dX11_dropLone_26 rfl (by first | exact Or.inr ⟨_, rfl⟩ | exact rv_or _ | exact Or.inl rfl) ?_
      refine Ev_getA dX11_dropLone_27 fX11_121 rf1_.1 (rr_loneItem rf1_) ?_
      refine Ev_iload_n dX11_dropLone_30 rfl ?_
      refine Ev_aload_n dX11_dropLone_31 rfl (by first | exact Or.inr ⟨_, rfl⟩ | exact rv_or _ | exact Or.inl rfl) ?_
      refine Ev_getA dX11_dropLone_32 fX11_121 rf1_.1 (rr_loneItem rf1_) ?_
      refine Ev_iload_n dX11_dropLone_35 rfl ?_
      refine Ev_iconst (v := nI 1) dX11_dropLone_36 (by decide) ?_
      refine Ev_iaddN dX11_dropLone_37 ?_
      refine Ev_ialdL _ dX11_dropLone_38 (rk_loneItem rf1_) (rl_loneItem rf1_) (hi_n (by omega)) (by omega) ?_
      refine Ev_iastL _ dX11_dropLone_39 (rk_loneItem rf1_) (rl_loneItem rf1_) (hi_n (by omega)) (by omega) ?_
      refine Ev_aload_n dX11_dropLone_40 rfl (by first | exact Or.inr ⟨_, rfl⟩ | exact rv_or _ | exact Or.inl rfl) ?_
      refine Ev_getA dX11_dropLone_41 fX11_124 rf1_.1 (rr_loneLong rf1_) ?_
      refine Ev_iload_n dX11_dropLone_44 rfl ?_
      refine Ev_aload_n dX11_dropLone_45 rfl (by first | exact Or.inr ⟨_, rfl⟩ | exact rv_or _ | exact Or.inl rfl) ?_
      refine Ev_getA dX11_dropLone_46 fX11_124 rf1_.1 (rr_loneLong rf1_) ?_
      refine Ev_iload_n dX11_dropLone_49 rfl ?_
      refine Ev_iconst (v := nI 1) dX11_dropLone_50 (by decide) ?_
      refine Ev_iaddN dX11_dropLone_51 ?_
      refine Ev_ialdL _ dX11_dropLone_52 (rk_loneLong rf1_) (rl_loneLong rf1_) (hi_n (by omega)) (by omega) ?_
      refine Ev_iastL _ dX11_dropLone_53 (rk_loneLong rf1_) (rl_loneLong rf1_) (hi_n (by omega)) (by omega) ?_
      refine Ev_iconst (v := nI 0) dX11_dropLone_54 (by decide) ?_
      refine Ev_istore_n dX11_dropLone_55 (by decide) ?_
      refine ev_dropLone_b l G x k (by omega) (sX (sX (sX h1 62 k (hX h1 62 (k + 1))) 63 k (hX h1 63 (k + 1))) 64 k (hX h1 64 (k + 1))) rf1_ (fun h2 f2_ n2_ => ?_) 61 0 (by omega) (by omega) _ Fr.rf ⟨fun q hq => by omega, fun i hi => rfl⟩
      have x2_ := f2_.2.2.2.2.2.2
      refine Ev_iincN 1 dX11_dropLone_92 (by decide) (by decide) rfl ?_
      refine Ev_goto 2 dX11_dropLone_95 (by decide) ?_
      refine ih_ (k + 1) (by omega) (by omega) (by omega) h2 ⟨ls_.1.tr (Fr.tr (((Fr.row (by decide)).tr (Fr.row (by decide))).tr (Fr.row (by decide))) (f2_.mo (by decide) (by decide))), ?_, ?_, ?_, fun i b hb => ?_⟩ _
      · refine up_if hxk ls_.2.1 ?_ (fun i hi => ?_)
        · rw [x2_ 62 (by decide), hX_o _ _ (by decide), hX_o _ _ (by decide), hX_s, ls_.2.1, if_neg (by omega)]
        · rw [x2_ 62 (by decide), hX_o _ _ (by decide), hX_o _ _ (by decide), hX_n _ _ hi]
      · refine up_if hxk ls_.2.2.1 ?_ (fun i hi => ?_)
        · rw [x2_ 63 (by decide), hX_o _ _ (by decide), hX_s, ls_.2.2.1, if_neg (by omega)]
        · rw [x2_ 63 (by decide), hX_o _ _ (by decide), hX_n _ _ hi, hX_o _ _ (by decide)]
      · refine up_if hxk ls_.2.2.2.1 ?_ (fun i hi => ?_)
        · rw [x2_ 64 (by decide), hX_s, ls_.2.2.2.1, if_neg (by omega)]
        · rw [x2_ 64 (by decide), hX_n _ _ hi, hX_o _ _ (by decide), hX_o _ _ (by decide)]
      · have e65_ : hX (sX (sX (sX h1 62 k (hX h1 62 (k + 1))) 63 k (hX h1 63 (k + 1))) 64 k (hX h1 64 (k + 1))) 65 = hX h1 65 := by
          rw [hX_o _ _ (by decide), hX_o _ _ (by decide), hX_o _ _ (by decide)]
        rw [e65_] at n2_
        by_cases e : i = k
        · subst e
          rw [n2_.1 b hb, ls_.2.2.2.2 (i + 1) b hb, if_neg (by omega), if_pos (by omega)]
        · rw [n2_.2 _ (by omega), ls_.2.2.2.2 i b hb]
          by_cases z : x ≤ i ∧ i < k
          · rw [if_pos z, if_pos (by omega)]
          · rw [if_neg z, if_neg (by omega)]
theorem ev_dropLone (l : Launch) (G : aG) (x n : Nat) (hx : x < n) (hn : n ≤ 30) (h : aH) (rf : Rf h) (el0_ : hI h 813 MO = nI n) : Ev l G 0 0 0 mX11_dropLone 0 (en 4 [.ref MO, .int (nI x)]) [] h (fun r h' => r = none ∧ ∃ h1, LnK x (n - 1) h h1 ∧ h' = sI h1 813 MO (nI (n - 1))) := by
  refine Ev_iload_n dX11_dropLone_0 rfl ?_
  refine Ev_istore_n dX11_dropLone_1 (by decide) ?_
  exact ev_dropLone_l l G x n hx hn h rf el0_ (fun h1 a_ => ⟨rfl, h1, a_, rfl⟩) (n + 1) x (by omega) (by omega) (by omega) h LnK.zero _
theorem RLn.drop {ln : List (List Int32 × Nat × Nat)} {fa x : Nat} {h h1 : aH} (r : RLn ln fa h) (hx : x < ln.length) (s : LnK x (ln.length - 1) h h1) : RLn (ln.eraseIdx x) fa (sI h1 813 MO (nI (ln.length - 1))) ∧ Fr [813] [62, 63, 64, 65] h (sI h1 813 MO (nI (ln.length - 1))) := by
  have hl : (ln.eraseIdx x).length = ln.length - 1 := by rw [List.length_eraseIdx]; simp [hx]
  refine ⟨⟨by have := r.1; omega, by rw [hI_s, hl], ?_, r.2.2.2.1, fun i q hq => ?_⟩, (s.1.mo (by decide) (by decide)).tr (Fr.int (by decide))⟩
  · exact (show hI (sI h1 813 MO (nI (ln.length - 1))) 818 MO = hI h1 818 MO from rfl).trans ((s.1.2.2.2.2.2.1 818 MO (by simp)).trans r.2.2.1)
  · have hi : i < (ln.eraseIdx x).length := (List.getElem?_eq_some_iff.mp hq).1
    rw [hl] at hi
    rw [List.getElem?_eraseIdx] at hq
    show _ ∧ _ ∧ _ ∧ hX h1 62 i = _ ∧ hX h1 63 i = _ ∧ hX h1 64 i = _ ∧ ∀ b, b < q.1.length → hX h1 65 (60 * i + b) = _
    rw [s.2.1 i, s.2.2.1 i, s.2.2.2.1 i]
    by_cases e : i < x
    · rw [if_pos e] at hq
      obtain ⟨a1, a2, a3, a4, a5, a6, a7⟩ := r.2.2.2.2 i q hq
      rw [if_neg (by omega), if_neg (by omega), if_neg (by omega)]
      exact ⟨a1, a2, a3, a4, a5, a6, fun b hb => by rw [s.2.2.2.2 i b (by omega), if_neg (by omega)]; exact a7 b hb⟩
    · rw [if_neg e] at hq
      obtain ⟨a1, a2, a3, a4, a5, a6, a7⟩ := r.2.2.2.2 (i + 1) q hq
      rw [if_pos (by omega), if_pos (by omega), if_pos (by omega)]
      exact ⟨a1, a2, a3, a4, a5, a6, fun b hb => by rw [s.2.2.2.2 i b (by omega), if_pos (by omega)]; exact a7 b hb⟩
