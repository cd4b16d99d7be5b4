theorem ev_kl_c (l : Launch) (G : aG) (i n c : Nat) (h : aH) (rf : Rf h) {Q : Option Value → aH → Prop} (hi : i < 500) (hn : n < 30) (hc : c ≤ 60) (eL_ : hX h 53 i = nI c) (en_ : hI h 813 MO = nI n) (kk_ : ∀ h1, Fr [] [65] h h1 → CpF (hX h 54) (hX h 65) (hX h1 65) (60 * n) (60 * i) (c) → Ev l G 1 0 0 mX11_keepLone 112 [.ref MO, .int (nI i), .int (nI (c))] [] h1 Q) (ms : Nat) : ∀ k, c - k < ms → k ≤ c → ∀ h1, Fr [] [65] h h1 → CpF (hX h 54) (hX h 65) (hX h1 65) (60 * n) (60 * i) k → Ev l G 1 0 0 mX11_keepLone 71 [.ref MO, .int (nI i), .int (nI k)] [] h1 Q := by
  induction ms with
  | zero => intro k hk; omega
  | succ ms ih_ =>
    intro k hk1_ hk2_ h1 fr_ cp_
    have rf1_ := rf.fr fr_
    have g_ : ∀ r, r ∉ [65] → ∀ {i : Nat} {v : Int32}, hX h r i = v → hX h1 r i = v := fun r hr i v e => (congrFun (fr_.2.2.2.2.2.2 r hr) i).trans e
    have gi_ : ∀ q, ∀ {v : Int32}, hI h q MO = v → hI h1 q MO = v := fun q v e => (fr_.2.2.2.2.2.1 q MO (fun z => absurd z.2 (by simp))).trans e
    refine Ev_iload_n dX11_keepLone_71 rfl ?_
    refine Ev_aload_n dX11_keepLone_72 rfl (by first | exact Or.inr ⟨_, rfl⟩ | exact rv_or _ | exact Or.inl rfl) ?_
    refine Ev_getA dX11_keepLone_73 fX11_89 rf1_.1 (rr_handLong rf1_) ?_
    refine Ev_iload_n dX11_keepLone_76 rfl ?_
    refine Ev_ialdE _ dX11_keepLone_77 (rk_handLong rf1_) (rl_handLong rf1_) (hi_n (by omega)) (by omega) (g_ 53 (by decide) eL_) ?_
    refine Ev_icmp_geN 112 dX11_keepLone_78 (by decide) (by omega) (by omega) (fun zb78_ => ?_) (fun zb78_ => ?_)
    · have ek_ : k = c := by omega
      subst ek_
      exact kk_ _ fr_ cp_
    · refine Ev_aload_n dX11_keepLone_81 rfl (by first | exact Or.inr ⟨_, rfl⟩ | exact rv_or _ | exact Or.inl rfl) ?_
      refine Ev_getA dX11_keepLone_82 fX11_127 rf1_.1 (rr_lone rf1_) ?_
      refine Ev_bipush (v := nI 60) dX11_keepLone_85 (by decide) ?_
      refine Ev_aload_n dX11_keepLone_87 rfl (by first | exact Or.inr ⟨_, rfl⟩ | exact rv_or _ | exact Or.inl rfl) ?_
      refine Ev_getE dX11_keepLone_88 fX11_239 rf1_.1 (gi_ 813 en_) ?_
      refine Ev_imulN dX11_keepLone_91 ?_
      refine Ev_iload_n dX11_keepLone_92 rfl ?_
      refine Ev_iaddN dX11_keepLone_93 ?_
      refine Ev_aload_n dX11_keepLone_94 rfl (by first | exact Or.inr ⟨_, rfl⟩ | exact rv_or _ | exact Or.inl rfl) ?_
      refine Ev_getA dX11_keepLone_95 fX11_92 rf1_.1 (rr_hand rf1_) ?_
      refine Ev_bipush (v := nI 60) dX11_keepLone_98 (by decide) ?_
      refine Ev_iload_n dX11_keepLone_100 rfl ?_
      refine Ev_imulN dX11_keepLone_101 ?_
      refine Ev_iload_n dX11_keepLone_102 rfl ?_
      refine Ev_iaddN dX11_keepLone_103 ?_
      refine Ev_ialdL _ dX11_keepLone_104 (rk_hand rf1_) (rl_hand rf1_) (hi_n (by omega)) (by omega) ?_
      refine Ev_iastL _ dX11_keepLone_105 (rk_lone rf1_) (rl_lone rf1_) (hi_n (by omega)) (by omega) ?_
      refine Ev_iincN 1 dX11_keepLone_106 (by decide) (by decide) rfl ?_
      refine Ev_goto 71 dX11_keepLone_109 (by decide) ?_
      refine ih_ (k + 1) (by omega) (by omega) _ (fr_.tr (Fr.row (by decide))) ?_
      rw [hX_up]
      exact cp_.step (congrFun (fr_.2.2.2.2.2.2 54 (by decide)) _)
theorem RLn.add {ln : List (List Int32 × Nat × Nat)} {fa i t it : Nat} {xs : List Int32} {h h2 : aH} (r : RLn ln fa h) (hl : ln.length < 30) (hx : xs.length ≤ 60) (ht : t ≤ 4) (hi : it ≤ 19) (fr : Fr [] [65] (sX (sX (sX h 62 ln.length (nI t)) 63 ln.length (nI it)) 64 ln.length (nI xs.length)) h2) (cp : CpF (hX (sX (sX (sX h 62 ln.length (nI t)) 63 ln.length (nI it)) 64 ln.length (nI xs.length)) 54) (hX (sX (sX (sX h 62 ln.length (nI t)) 63 ln.length (nI it)) 64 ln.length (nI xs.length)) 65) (hX h2 65) (60 * ln.length) (60 * i) xs.length) (hs : ∀ k, k < xs.length → hX h 54 (60 * i + k) = xs.getD k 0) : RLn (ln ++ [(xs, t, it)]) fa (sI h2 813 MO (nI (ln.length + 1))) := by
  obtain ⟨r1, r2, r3, r4, r5⟩ := r
  have x := fr.2.2.2.2.2.2
  refine ⟨by simp; omega, by rw [hI_s]; simp, ?_, r4, fun k q hq => ?_⟩
  · rw [hI_o _ _ (by decide), fr.2.2.2.2.2.1 818 MO (fun z => absurd z.2 (by simp))]; exact r3
  · show q.1.length ≤ 60 ∧ q.2.1 ≤ 4 ∧ q.2.2 ≤ 19 ∧ hX h2 62 k = nI q.2.1 ∧ hX h2 63 k = nI q.2.2 ∧ hX h2 64 k = nI q.1.length ∧ ∀ b, b < q.1.length → hX h2 65 (60 * k + b) = q.1.getD b 0
    rw [x 62 (by decide), x 63 (by decide), x 64 (by decide)]
    rw [List.getElem?_append] at hq
    by_cases e : k < ln.length
    · rw [if_pos e] at hq
      obtain ⟨a1, a2, a3, a4, a5, a6, a7⟩ := r5 k q hq
      refine ⟨a1, a2, a3, ?_, ?_, ?_, fun b hb => ?_⟩
      · rw [gX_X _ (by decide), gX_X _ (by decide), hX_n _ _ (by omega)]; exact a4
      · rw [gX_X _ (by decide), hX_n _ _ (by omega), gX_X _ (by decide)]; exact a5
      · rw [hX_n _ _ (by omega), gX_X _ (by decide), gX_X _ (by decide)]; exact a6
      · rw [cp.out (by omega), gX_X _ (by decide), gX_X _ (by decide), gX_X _ (by decide)]; exact a7 b hb
    · rw [if_neg e] at hq
      have e0 : k = ln.length := by
        have := (List.getElem?_eq_some_iff.mp hq).1
        simp at this
        omega
      subst e0
      simp at hq
      subst hq
      refine ⟨hx, ht, hi, ?_, ?_, hX_s _ _ _ _, fun b hb => ?_⟩
      · rw [gX_X _ (by decide), gX_X _ (by decide), hX_s]
      · rw [gX_X _ (by decide), hX_s]
      · rw [cp.in hb, gX_X _ (by decide), gX_X _ (by decide), gX_X _ (by decide)]; exact hs b hb
theorem ev_kl_24 (l : Launch) (G : aG) (i mf : Nat) (p : Pc) (hb : List Int32 × List Int32) (ln : List (List Int32 × Nat × Nat)) (fa : Nat) (h : aH) (rf : Rf h) (hi_ : i < 500) (bp_ : PcB p) (rp_ : RP1 p i mf h) (hh_ : pcH p = some hb) (r_ : RLn ln fa h) (hl_ : ln.length < 30) (v_ : Value) : Ev l G 1 0 0 mX11_keepLone 24 [.ref MO, .int (nI i), v_] [] h (fun x h' => x = none ∧ Fr [813, 818] [62, 63, 64, 65] h h' ∧ RLn (ln ++ [(hb.1, pcT p, pcI p)]) fa h') := by
  have hbl_ := bp_.2.2.2.2.2.2.2.2.2.2.2 hb hh_
  have hd_ := rp_.2.2.2.2.2
  rw [hh_] at hd_
  refine Ev_aload_n dX11_keepLone_24 rfl (by first | exact Or.inr ⟨_, rfl⟩ | exact rv_or _ | exact Or.inl rfl) ?_
  refine Ev_getA dX11_keepLone_25 fX11_118 rf.1 (rr_loneSort rf) ?_
  refine Ev_aload_n dX11_keepLone_28 rfl (by first | exact Or.inr ⟨_, rfl⟩ | exact rv_or _ | exact Or.inl rfl) ?_
  refine Ev_getE dX11_keepLone_29 fX11_239 rf.1 r_.2.1 ?_
  refine Ev_aload_n dX11_keepLone_32 rfl (by first | exact Or.inr ⟨_, rfl⟩ | exact rv_or _ | exact Or.inl rfl) ?_
  refine Ev_getA dX11_keepLone_33 fX11_62 rf.1 (rr_pieceSort rf) ?_
  refine Ev_iload_n dX11_keepLone_36 rfl ?_
  refine Ev_ialdE _ dX11_keepLone_37 (rk_pieceSort rf) (rl_pieceSort rf) (hi_n (by omega)) (by omega) rp_.1.2.1 ?_
  refine Ev_iastL _ dX11_keepLone_38 (rk_loneSort rf) (rl_loneSort rf) (hi_n (by omega)) (by omega) ?_
  refine Ev_aload_n dX11_keepLone_39 rfl (by first | exact Or.inr ⟨_, rfl⟩ | exact rv_or _ | exact Or.inl rfl) ?_
  refine Ev_getA dX11_keepLone_40 fX11_121 rf.1 (rr_loneItem rf) ?_
  refine Ev_aload_n dX11_keepLone_43 rfl (by first | exact Or.inr ⟨_, rfl⟩ | exact rv_or _ | exact Or.inl rfl) ?_
  refine Ev_getE dX11_keepLone_44 fX11_239 rf.1 ((gI_X _ _ _ _ _ _).trans r_.2.1) ?_
  refine Ev_aload_n dX11_keepLone_47 rfl (by first | exact Or.inr ⟨_, rfl⟩ | exact rv_or _ | exact Or.inl rfl) ?_
  refine Ev_getA dX11_keepLone_48 fX11_59 rf.1 (rr_item rf) ?_
  refine Ev_iload_n dX11_keepLone_51 rfl ?_
  refine Ev_ialdE _ dX11_keepLone_52 (rk_item rf) (rl_item rf) (hi_n (by omega)) (by omega) ((gX_X _ (by decide)).trans rp_.1.1) ?_
  refine Ev_iastL _ dX11_keepLone_53 (rk_loneItem rf) (rl_loneItem rf) (hi_n (by omega)) (by omega) ?_
  refine Ev_aload_n dX11_keepLone_54 rfl (by first | exact Or.inr ⟨_, rfl⟩ | exact rv_or _ | exact Or.inl rfl) ?_
  refine Ev_getA dX11_keepLone_55 fX11_124 rf.1 (rr_loneLong rf) ?_
  refine Ev_aload_n dX11_keepLone_58 rfl (by first | exact Or.inr ⟨_, rfl⟩ | exact rv_or _ | exact Or.inl rfl) ?_
  refine Ev_getE dX11_keepLone_59 fX11_239 rf.1 ((gI_X _ _ _ _ _ _).trans ((gI_X _ _ _ _ _ _).trans r_.2.1)) ?_
  refine Ev_aload_n dX11_keepLone_62 rfl (by first | exact Or.inr ⟨_, rfl⟩ | exact rv_or _ | exact Or.inl rfl) ?_
  refine Ev_getA dX11_keepLone_63 fX11_89 rf.1 (rr_handLong rf) ?_
  refine Ev_iload_n dX11_keepLone_66 rfl ?_
  refine Ev_ialdE _ dX11_keepLone_67 (rk_handLong rf) (rl_handLong rf) (hi_n (by omega)) (by omega) ((gX_X _ (by decide)).trans ((gX_X _ (by decide)).trans hd_.1)) ?_
  refine Ev_iastL _ dX11_keepLone_68 (rk_loneLong rf) (rl_loneLong rf) (hi_n (by omega)) (by omega) ?_
  refine Ev_iconst (v := nI 0) dX11_keepLone_69 (by decide) ?_
  refine Ev_istore_n dX11_keepLone_70 (by decide) ?_
  refine ev_kl_c l G i ln.length hb.1.length (sX (sX (sX h 62 ln.length (nI (pcT p))) 63 ln.length (nI (pcI p))) 64 ln.length (nI hb.1.length)) rf hi_ hl_ hbl_.1 ((gX_X _ (by decide)).trans ((gX_X _ (by decide)).trans ((gX_X _ (by decide)).trans hd_.1))) ((gI_X _ _ _ _ _ _).trans ((gI_X _ _ _ _ _ _).trans ((gI_X _ _ _ _ _ _).trans r_.2.1))) (fun h1 fr_ cp_ => ?_) 61 0 (by omega) (by omega) _ Fr.rf CpF.zero
  have rf1_ : Rf h1 := Rf.fr (h := sX (sX (sX h 62 ln.length (nI (pcT p))) 63 ln.length (nI (pcI p))) 64 ln.length (nI hb.1.length)) rf fr_
  have en1_ : hI h1 813 MO = nI ln.length := (fr_.2.2.2.2.2.1 813 MO (fun z => absurd z.2 (by simp))).trans ((gI_X _ _ _ _ _ _).trans ((gI_X _ _ _ _ _ _).trans ((gI_X _ _ _ _ _ _).trans r_.2.1)))
  refine Ev_aload_n dX11_keepLone_112 rfl (by first | exact Or.inr ⟨_, rfl⟩ | exact rv_or _ | exact Or.inl rfl) ?_
  refine Ev_dup dX11_keepLone_113 (by first | rfl | exact okv_rv _) ?_
  refine Ev_getE dX11_keepLone_114 fX11_239 rf1_.1 en1_ ?_
  refine Ev_iconst (v := nI 1) dX11_keepLone_117 (by decide) ?_
  refine Ev_iaddN dX11_keepLone_118 ?_
  refine Ev_putI dX11_keepLone_119 fX11_239 ⟨_, rfl, Or.inl rfl⟩ (Or.inl rfl) rf1_.1 ?_
  refine Ev_vret dX11_keepLone_122 rfl ?_
  refine ⟨rfl, ?_, r_.add hl_ hbl_.1 bp_.2.2.2.2.1 (by have := bp_.2.2.2.1; omega) fr_ cp_ hd_.2.2.1⟩
  exact ((((Fr.row (by decide)).tr (Fr.row (by decide))).tr (Fr.row (by decide))).tr (fr_.mo (by decide) (by decide))).tr (Fr.int (by decide))
/-- a text is kept as a lone one -/
def kpL (s : List (List Int32 × Nat × Nat) × Nat) (p : Pc) : List (List Int32 × Nat × Nat) × Nat := match pcH p with
  | none => s
  | some hb => if s.1.length = 30 then (s.1.eraseIdx 0 ++ [(hb.1, pcT p, pcI p)], s.2 + 1) else (s.1 ++ [(hb.1, pcT p, pcI p)], s.2)
theorem RP1.fr {p : Pc} {q mf : Nat} {h h' : aH} {ks as : List Nat} (r : RP1 p q mf h) (f : Fr ks as h h') (h2 : ∀ r ∈ [43, 44, 45, 46, 47, 48, 49, 50, 51, 53, 54, 55, 56, 57], r ∉ as) : RP1 p q mf h' := by
  have x := f.2.2.2.2.2.2
  unfold RP1 RHd
  rw [x 43 (h2 _ (by decide)), x 44 (h2 _ (by decide)), x 45 (h2 _ (by decide)), x 46 (h2 _ (by decide)), x 47 (h2 _ (by decide)), x 48 (h2 _ (by decide)), x 49 (h2 _ (by decide)), x 50 (h2 _ (by decide)), x 51 (h2 _ (by decide)), x 53 (h2 _ (by decide)), x 54 (h2 _ (by decide)), x 55 (h2 _ (by decide)), x 56 (h2 _ (by decide)), x 57 (h2 _ (by decide))]
  exact r
theorem ev_keepLone (l : Launch) (G : aG) (i mf : Nat) (p : Pc) (hb : List Int32 × List Int32) (ln : List (List Int32 × Nat × Nat)) (fa : Nat) (h : aH) (rf : Rf h) (hi_ : i < 500) (bp_ : PcB p) (rp_ : RP1 p i mf h) (hh_ : pcH p = some hb) (r_ : RLn ln fa h) (hf_ : fa + 1 ≤ 200000) : Ev l G 1 0 0 mX11_keepLone 0 (en 3 [.ref MO, .int (nI i)]) [] h (fun x h' => x = none ∧ Fr [813, 818] [62, 63, 64, 65] h h' ∧ RLn (kpL (ln, fa) p).1 (kpL (ln, fa) p).2 h') := by
  have l30_ := r_.1
  refine Ev_aload_n dX11_keepLone_0 rfl (by first | exact Or.inr ⟨_, rfl⟩ | exact rv_or _ | exact Or.inl rfl) ?_
  refine Ev_getE dX11_keepLone_1 fX11_239 rf.1 r_.2.1 ?_
  refine Ev_bipush (v := nI 30) dX11_keepLone_4 (by decide) ?_
  refine Ev_icmp_neN 24 dX11_keepLone_6 (by decide) (by omega) (by omega) (fun zb6_ => ?_) (fun zb6_ => ?_)
  · refine Ev.post (fun x h' e_ => ?_) (ev_kl_24 l G i mf p hb ln fa h rf hi_ bp_ rp_ hh_ r_ (by omega) _)
    refine ⟨e_.1, e_.2.1, ?_⟩
    unfold kpL
    rw [hh_]
    show RLn (if ln.length = 30 then _ else _ : List (List Int32 × Nat × Nat) × Nat).1 (if ln.length = 30 then _ else _ : List (List Int32 × Nat × Nat) × Nat).2 h'
    rw [if_neg zb6_]
    exact e_.2.2
  · refine Ev_aload_n dX11_keepLone_9 rfl (by first | exact Or.inr ⟨_, rfl⟩ | exact rv_or _ | exact Or.inl rfl) ?_
    refine Ev_iconst (v := nI 0) dX11_keepLone_10 (by decide) ?_
    refine Ev_Vz [.int (nI 0)] dX11_keepLone_11 vX11_dropLone kX11_242 rf.1 rfl rfl rfl (Nat.le_of_ble_eq_true rfl) (by omega) (ev_dropLone l G 0 ln.length (by omega) r_.1 h rf r_.2.1) (fun v_ h2 e_ => ?_)
    obtain ⟨rfl, h1, lk_, rfl⟩ := e_
    obtain ⟨r2_, f2_⟩ := r_.drop (by omega) lk_
    have rf2_ := rf.fr f2_
    refine Ev_aload_n dX11_keepLone_14 rfl (by first | exact Or.inr ⟨_, rfl⟩ | exact rv_or _ | exact Or.inl rfl) ?_
    refine Ev_dup dX11_keepLone_15 (by first | rfl | exact okv_rv _) ?_
    refine Ev_getE dX11_keepLone_16 fX11_245 rf2_.1 r2_.2.2.1 ?_
    refine Ev_iconst (v := nI 1) dX11_keepLone_19 (by decide) ?_
    refine Ev_iaddN dX11_keepLone_20 ?_
    refine Ev_putI dX11_keepLone_21 fX11_245 ⟨_, rfl, Or.inl rfl⟩ (Or.inl rfl) rf2_.1 ?_
    have r3_ : RLn (ln.eraseIdx 0) (fa + 1) (sI (sI h1 813 MO (nI (ln.length - 1))) 818 MO (nI (fa + 1))) := ⟨r2_.1, (hI_o _ _ (by decide)).trans r2_.2.1, hI_s _ _ _ _, by omega, r2_.2.2.2.2⟩
    have f3_ : Fr [813, 818] [62, 63, 64, 65] h (sI (sI h1 813 MO (nI (ln.length - 1))) 818 MO (nI (fa + 1))) := (f2_.mo (by decide) (by decide)).tr (Fr.int (by decide))
    refine Ev.post (fun x h' e_ => ?_) (ev_kl_24 l G i mf p hb (ln.eraseIdx 0) (fa + 1) _ (rf.fr f3_) hi_ bp_ (rp_.fr f3_ (by decide)) hh_ r3_ (by rw [List.length_eraseIdx]; split <;> omega) _)
    refine ⟨e_.1, f3_.tr e_.2.1, ?_⟩
    show RLn (kpL (ln, fa) p).1 (kpL (ln, fa) p).2 h'
    unfold kpL
    rw [hh_]
    show RLn (if ln.length = 30 then _ else _ : List (List Int32 × Nat × Nat) × Nat).1 (if ln.length = 30 then _ else _ : List (List Int32 × Nat × Nat) × Nat).2 h'
    rw [if_pos zb6_]
    exact e_.2.2 --end
