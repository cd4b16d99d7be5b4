def frB (m : Md) (t : Nat) : Bool := (mLv m t).isNone
def frS (m : Md) : Option Nat := fstF (frB m) 24 0
theorem fstF_some {p : Nat → Bool} : ∀ (k t : Nat), (∃ i, t ≤ i ∧ i < t + k ∧ p i = true) → ∃ j, fstF p k t = some j := by
  intro k
  induction k with
  | zero => rintro t ⟨i, h1, h2, -⟩; omega
  | succ k ih_ =>
    rintro t ⟨i, h1, h2, h3⟩
    unfold fstF
    by_cases e : p t = true
    · rw [if_pos e]; exact ⟨t, rfl⟩
    · rw [if_neg e]
      refine ih_ (t + 1) ⟨i, ?_, by omega, h3⟩
      have : i ≠ t := fun z => e (by rw [← z]; exact h3)
      omega
theorem fstF_spec {p : Nat → Bool} : ∀ (k t j : Nat), fstF p k t = some j → t ≤ j ∧ j < t + k ∧ p j = true ∧ ∀ i, t ≤ i → i < j → p i = false := by
  intro k
  induction k with
  | zero => intro t j h; cases h
  | succ k ih_ =>
    intro t j h
    unfold fstF at h
    by_cases e : p t = true
    · rw [if_pos e] at h
      cases h
      exact ⟨Nat.le_refl _, by omega, e, fun i h1 h2 => by omega⟩
    · rw [if_neg e] at h
      obtain ⟨h1, h2, h3, h4⟩ := ih_ (t + 1) j h
      refine ⟨by omega, by omega, h3, fun i h5 h6 => ?_⟩
      by_cases z : i = t
      · rw [z]; cases hq : p t
        · rfl
        · exact absurd hq e
      · exact h4 i (by omega) h6
theorem frS_some {m : Md} (h : mCnt m ≠ 24) : ∃ t, frS m = some t := by
  refine fstF_some 24 0 ?_
  have h1 : mCnt m ≤ 24 := fb_ct_le _ _
  have h2 : ¬ ∀ k, k < 24 → (mLv m k).isSome = true := fun q => h (fb_ct_all.mpr q)
  apply Classical.byContradiction
  intro h3
  refine h2 (fun k hk => ?_)
  cases hv : mLv m k with
  | some c => rfl
  | none => exact absurd ⟨k, by omega, by omega, by unfold frB; rw [hv]; rfl⟩ h3
theorem frS_spec {m : Md} {t : Nat} (h : frS m = some t) : t < 24 ∧ mLv m t = none := by
  obtain ⟨-, h2, h3, -⟩ := fstF_spec 24 0 t h
  exact ⟨by omega, Option.isNone_iff_eq_none.mp h3⟩
def okTh (m : Md) (tp : List Int32) (kd inn : Int32) : Prop := nmB tp = true ∧ (0 ≤ kd.toInt ∧ kd.toInt ≤ 7) ∧ (∃ p, inn = pI m p ∧ ∀ q, p = some q → mLive m q ∧ mDp m q < 6) ∧ mCnt m ≠ 24
theorem ev_thing_l (l : Launch) (G : aG) {d mc ms : Nat} (kd inn : Int32) (t0_ : Nat) (m : Md) (h : aH) (rf : Rf h) (mk : MOk m) (rm : RM m h) {Q : Option Value → aH → Prop} (kk_ : Ev l G d mc ms mX11_thing 68 [.ref MO, .int kd, .int inn, .int (nI t0_), .retAddr 0] [] h Q) (k : Nat) : ∀ t, t + k = 24 → fstF (frB m) k t = some t0_ → Ev l G d mc ms mX11_thing 53 [.ref MO, .int kd, .int inn, .int (nI t), .retAddr 0] [] h Q := by
  induction k with
  | zero => intro t ht hf_; cases hf_
  | succ k ih_ =>
    intro t ht hf_
    refine Ev_aload_n dX11_thing_53 rfl (by first | exact Or.inr ⟨_, rfl⟩ | exact rv_or _ | exact Or.inl rfl) ?_
    refine Ev_getA dX11_thing_54 fX11_7 rf.1 (rr_came rf) ?_
    refine Ev_iload_n dX11_thing_57 rfl ?_
    refine Ev_ialdL _ dX11_thing_58 (rk_came rf) (rl_came rf) (hi_n (by omega)) (by omega) ?_
    refine Ev_if_ltT 68 dX11_thing_59 (by decide) (fun zb59_ => ?_) (fun zb59_ => ?_)
    · have hq_ : frB m t = true := by
        unfold frB
        cases hv : mLv m t with
        | none => rfl
        | some c =>
          have h1 := (mk.1 _ _ hv).2.1
          have h2 := rm.1
          rw [rm.2.1 t (by omega), hv] at zb59_
          exact absurd zb59_ (by show ¬ (nI c).toInt < 0; rw [hi_n (by omega)]; omega)
      unfold fstF at hf_
      rw [if_pos hq_] at hf_
      cases hf_
      exact kk_
    · have hq_ : ¬ frB m t = true := by
        unfold frB
        cases hv : mLv m t with
        | some c => simp
        | none =>
          rw [rm.2.1 t (by omega), hv] at zb59_
          exact absurd (by decide) zb59_
      refine Ev_iincN 1 dX11_thing_62 (by decide) (by decide) rfl ?_
      refine Ev_goto 53 dX11_thing_65 (by decide) ?_
      unfold fstF at hf_
      rw [if_neg hq_] at hf_
      exact ih_ (t + 1) (by omega) hf_
theorem ev_thing_n (l : Launch) (G : aG) {d mc ms : Nat} (kd inn : Int32) (t : Nat) (ht : t < 24) (h : aH) (rf : Rf h) {Q : Option Value → aH → Prop} (kk_ : ∀ h1, Fr [] [33] h h1 → ((∀ q, q < 4 → hX h1 33 (4 * t + q) = 0) ∧ ∀ i, i < 4 * t ∨ 4 * t + 4 ≤ i → hX h1 33 i = hX h 33 i) → Ev l G d mc ms mX11_thing 120 [.ref MO, .int kd, .int inn, .int (nI t), .int (nI 4)] [] h1 Q) (k : Nat) : ∀ j, 4 - j < k → j ≤ 4 → ∀ h1, Fr [] [33] h h1 → ((∀ q, q < j → hX h1 33 (4 * t + q) = 0) ∧ ∀ i, i < 4 * t ∨ 4 * t + 4 ≤ i → hX h1 33 i = hX h 33 i) → Ev l G d mc ms mX11_thing 96 [.ref MO, .int kd, .int inn, .int (nI t), .int (nI j)] [] h1 Q := by
  induction k with
  | zero => intro j hj; omega
  | succ k ih_ =>
    intro j hk hj h1 fr_ hn_
    have rf1_ := rf.fr fr_
    refine Ev_iload dX11_thing_96 rfl ?_
    refine Ev_iconst (v := nI 4) dX11_thing_98 (by decide) ?_
    refine Ev_icmp_geN 120 dX11_thing_99 (by decide) (by omega) (by omega) (fun zb99_ => ?_) (fun zb99_ => ?_)
    · have ej_ : j = 4 := by omega
      subst ej_
      exact kk_ _ fr_ hn_
    · refine Ev_aload_n dX11_thing_102 rfl (by first | exact Or.inr ⟨_, rfl⟩ | exact rv_or _ | exact Or.inl rfl) ?_
      refine Ev_getA dX11_thing_103 fX11_22 rf1_.1 (rr_number rf1_) ?_
      refine Ev_iconst (v := nI 4) dX11_thing_106 (by decide) ?_
      refine Ev_iload_n dX11_thing_107 rfl ?_
      refine Ev_imulN dX11_thing_108 ?_
      refine Ev_iload dX11_thing_109 rfl ?_
      refine Ev_iaddN dX11_thing_111 ?_
      refine Ev_iconst (v := nI 0) dX11_thing_112 (by decide) ?_
      refine Ev_iastL _ dX11_thing_113 (rk_number rf1_) (rl_number rf1_) (hi_n (by omega)) (by omega) ?_
      refine Ev_iincN 1 dX11_thing_114 (by decide) (by decide) rfl ?_
      refine Ev_goto 96 dX11_thing_117 (by decide) ?_
      refine ih_ (j + 1) (by omega) (by omega) _ (fr_.tr (Fr.row (by decide))) ⟨?_, fun i hi => ?_⟩
      · intro q hq
        by_cases e : q = j
        · rw [e, hX_s]; rfl
        · rw [hX_n _ _ (by omega)]; exact hn_.1 q (by omega)
      · rw [hX_n _ _ (by omega)]; exact hn_.2 i hi
theorem ev_thing_e (l : Launch) (G : aG) (kd inn : Int32) (t : Nat) (ht : t < 24) (tp : List Int32) (hn : tp.length ≤ 6) (cm cn : Nat) (h1 : aH) (rf1_ : Rf h1) (rt_ : RTp tp h1) (e770_ : hI h1 770 MO = nI cm) (e768_ : hI h1 768 MO = nI cn) {Q : Option Value → aH → Prop} (kk_ : ∀ h2, RTp [] h2 → Fr [785] [34, 35] (sI (sI (sX h1 29 t (nI cm)) 770 MO (nI (cm + 1))) 768 MO (nI (cn + 1))) h2 → TkN tp t (sI (sI (sX h1 29 t (nI cm)) 770 MO (nI (cm + 1))) 768 MO (nI (cn + 1))) h2 → Q (some (.int (nI t))) h2) : Ev l G 2 0 0 mX11_thing 120 [.ref MO, .int kd, .int inn, .int (nI t), .int (nI 4)] [] h1 Q := by
  refine Ev_aload_n dX11_thing_120 rfl (by first | exact Or.inr ⟨_, rfl⟩ | exact rv_or _ | exact Or.inl rfl) ?_
  refine Ev_getA dX11_thing_121 fX11_7 rf1_.1 (rr_came rf1_) ?_
  refine Ev_iload_n dX11_thing_124 rfl ?_
  refine Ev_aload_n dX11_thing_125 rfl (by first | exact Or.inr ⟨_, rfl⟩ | exact rv_or _ | exact Or.inl rfl) ?_
  refine Ev_getE dX11_thing_126 fX11_159 rf1_.1 e770_ ?_
  refine Ev_iastL _ dX11_thing_129 (rk_came rf1_) (rl_came rf1_) (hi_n (by omega)) (by omega) ?_
  refine Ev_aload_n dX11_thing_130 rfl (by first | exact Or.inr ⟨_, rfl⟩ | exact rv_or _ | exact Or.inl rfl) ?_
  refine Ev_dup dX11_thing_131 (by first | rfl | exact okv_rv _) ?_
  refine Ev_getE dX11_thing_132 fX11_159 rf1_.1 e770_ ?_
  refine Ev_iconst (v := nI 1) dX11_thing_135 (by decide) ?_
  refine Ev_iaddN dX11_thing_136 ?_
  refine Ev_putI dX11_thing_137 fX11_159 ⟨_, rfl, Or.inl rfl⟩ (Or.inl rfl) rf1_.1 ?_
  refine Ev_aload_n dX11_thing_140 rfl (by first | exact Or.inr ⟨_, rfl⟩ | exact rv_or _ | exact Or.inl rfl) ?_
  refine Ev_dup dX11_thing_141 (by first | rfl | exact okv_rv _) ?_
  refine Ev_getE dX11_thing_142 fX11_153 rf1_.1 e768_ ?_
  refine Ev_iconst (v := nI 1) dX11_thing_145 (by decide) ?_
  refine Ev_iaddN dX11_thing_146 ?_
  refine Ev_putI dX11_thing_147 fX11_153 ⟨_, rfl, Or.inl rfl⟩ (Or.inl rfl) rf1_.1 ?_
  refine Ev_aload_n dX11_thing_150 rfl (by first | exact Or.inr ⟨_, rfl⟩ | exact rv_or _ | exact Or.inl rfl) ?_
  refine Ev_iload_n dX11_thing_151 rfl ?_
  refine Ev_Vz [.int (nI t)] dX11_thing_152 vX11_takeName kX11_162 rf1_.1 rfl rfl rfl (by decide) (by omega) (ev_takeName l G tp t ht _ rf1_ rt_ hn) (fun x_ h2 e_ => ?_)
  obtain ⟨rfl, e1_, e2_, e3_⟩ := e_
  refine Ev_iload_n dX11_thing_155 rfl ?_
  refine Ev_iret dX11_thing_156 rfl ?_
  exact kk_ _ e1_ e2_ e3_
theorem ev_thing_68 (l : Launch) (G : aG) (kd t : Nat) (ht : t < 24) (tp : List Int32) (hn : tp.length ≤ 6) (p : Option Nat) (m : Md) (h : aH) (rf : Rf h) (mk : MOk m) (rm : RM m h) (rt_ : RTp tp h) (hp : ∀ q, p = some q → mLive m q) {Q : Option Value → aH → Prop} (kk_ : ∀ h2, RTp [] h2 → Fr [785, 768, 770] [29, 30, 31, 32, 33, 34, 35] h h2 → NTr m t kd p tp h h2 → Q (some (.int (nI t))) h2) : Ev l G 2 0 0 mX11_thing 68 [.ref MO, .int (nI kd), .int (pI m p), .int (nI t), .retAddr 0] [] h Q := by
  refine Ev_aload_n dX11_thing_68 rfl (by first | exact Or.inr ⟨_, rfl⟩ | exact rv_or _ | exact Or.inl rfl) ?_
  refine Ev_getA dX11_thing_69 fX11_19 rf.1 (rr_place rf) ?_
  refine Ev_iload_n dX11_thing_72 rfl ?_
  refine Ev_aload_n dX11_thing_73 rfl (by first | exact Or.inr ⟨_, rfl⟩ | exact rv_or _ | exact Or.inl rfl) ?_
  refine Ev_iload_n dX11_thing_74 rfl ?_
  refine Ev_V0 [.int (pI m p)] dX11_thing_75 vX11_many kX11_156 rf.1 rfl rfl rfl (Nat.le_of_ble_eq_true rfl) (by omega) (ev_many l G _ h rf) ?_
  rw [rm.mny mk hp]
  refine Ev_iastL _ dX11_thing_78 (rk_place rf) (rl_place rf) (hi_n (by omega)) (by omega) ?_
  refine Ev_aload_n dX11_thing_79 rfl (by first | exact Or.inr ⟨_, rfl⟩ | exact rv_or _ | exact Or.inl rfl) ?_
  refine Ev_getA dX11_thing_80 fX11_16 rf.1 (rr_parent rf) ?_
  refine Ev_iload_n dX11_thing_83 rfl ?_
  refine Ev_iload_n dX11_thing_84 rfl ?_
  refine Ev_iastL _ dX11_thing_85 (rk_parent rf) (rl_parent rf) (hi_n (by omega)) (by omega) ?_
  refine Ev_aload_n dX11_thing_86 rfl (by first | exact Or.inr ⟨_, rfl⟩ | exact rv_or _ | exact Or.inl rfl) ?_
  refine Ev_getA dX11_thing_87 fX11_13 rf.1 (rr_kind rf) ?_
  refine Ev_iload_n dX11_thing_90 rfl ?_
  refine Ev_iload_n dX11_thing_91 rfl ?_
  refine Ev_iastL _ dX11_thing_92 (rk_kind rf) (rl_kind rf) (hi_n (by omega)) (by omega) ?_
  refine Ev_iconst (v := nI 0) dX11_thing_93 (by decide) ?_
  refine Ev_istore dX11_thing_94 (by decide) ?_
  refine ev_thing_n l G _ _ t ht _ (show Rf (sX (sX (sX h 32 t (nI (mCh m p).length)) 31 t (pI m p)) 30 t (nI kd)) from rf) (fun h1 f1_ n1_ => ?_) 5 0 (by omega) (by omega) _ Fr.rf ⟨fun q hq => by omega, fun i hi => rfl⟩
  have x1_ := f1_.2.2.2.2.2.2
  have y1_ := f1_.2.2.2.2.2.1
  refine ev_thing_e l G _ _ t ht tp hn (mCm m) (mCnt m) h1 ((show Rf (sX (sX (sX h 32 t (nI (mCh m p).length)) 31 t (pI m p)) 30 t (nI kd)) from rf).fr f1_) ⟨rt_.1, (y1_ 785 MO (by simp)).trans rt_.2.1, fun q hq => (congrFun (x1_ 41 (by decide)) q).trans (rt_.2.2 q hq)⟩ ((y1_ 770 MO (by simp)).trans rm.2.2.2.2.2) ((y1_ 768 MO (by simp)).trans rm.2.2.2.2.1) (fun h2 a1_ a2_ a3_ => ?_)
  have x2_ := a2_.2.2.2.2.2.2
  have y2_ := a2_.2.2.2.2.2.1
  refine kk_ h2 a1_ ?_ ?_
  · refine Fr.tr (h1 := h1) (Fr.tr (h1 := sX (sX (sX h 32 t (nI (mCh m p).length)) 31 t (pI m p)) 30 t (nI kd)) ?_ (f1_.mo (by decide) (by decide))) (Fr.tr (h1 := sI (sI (sX h1 29 t (nI (mCm m))) 770 MO (nI (mCm m + 1))) 768 MO (nI (mCnt m + 1))) ?_ (a2_.mo (by decide) (by decide)))
    · exact ((Fr.row (by decide)).tr (Fr.row (by decide))).tr (Fr.row (by decide))
    · exact ((Fr.row (by decide)).tr (Fr.int (by decide))).tr (Fr.int (by decide))
  · refine ⟨⟨?_, fun i hi => ?_⟩, ⟨?_, fun i hi => ?_⟩, ⟨?_, fun i hi => ?_⟩, ⟨?_, fun i hi => ?_⟩, ⟨fun j hj => ?_, fun i hi => ?_⟩, ⟨a3_.1, fun i hi => ?_, a3_.2.2.1, fun i hi => ?_⟩, ?_, ?_⟩
    · rw [x2_ 29 (by decide)]; exact hX_s _ _ _ _
    · rw [x2_ 29 (by decide)]; exact (hX_n _ _ hi).trans (congrFun (x1_ 29 (by decide)) i)
    · rw [x2_ 30 (by decide)]; exact (congrFun (x1_ 30 (by decide)) t).trans (hX_s _ _ _ _)
    · rw [x2_ 30 (by decide)]; exact (congrFun (x1_ 30 (by decide)) i).trans (hX_n _ _ hi)
    · rw [x2_ 31 (by decide)]; exact (congrFun (x1_ 31 (by decide)) t).trans (by rw [hX_o _ _ (by decide)]; exact hX_s _ _ _ _)
    · rw [x2_ 31 (by decide)]; exact (congrFun (x1_ 31 (by decide)) i).trans (by rw [hX_o _ _ (by decide)]; first | exact hX_n _ _ hi | (rw [hX_n _ _ hi]; rw [hX_o _ _ (by decide)]))
    · rw [x2_ 32 (by decide)]; exact (congrFun (x1_ 32 (by decide)) t).trans (by rw [hX_o _ _ (by decide), hX_o _ _ (by decide)]; exact hX_s _ _ _ _)
    · rw [x2_ 32 (by decide)]; exact (congrFun (x1_ 32 (by decide)) i).trans (by rw [hX_o _ _ (by decide), hX_o _ _ (by decide)]; first | exact hX_n _ _ hi | (rw [hX_n _ _ hi]; rw [hX_o _ _ (by decide)]))
    · rw [x2_ 33 (by decide)]; exact n1_.1 j hj
    · rw [x2_ 33 (by decide)]; exact n1_.2 i hi
    · exact (a3_.2.1 i hi).trans (congrFun (x1_ 35 (by decide)) i)
    · exact (a3_.2.2.2 i hi).trans (congrFun (x1_ 34 (by decide)) i)
    · exact (y2_ 768 MO (fun q => absurd q.2 (by decide))).trans (hI_s _ _ _ _)
    · exact (y2_ 770 MO (fun q => absurd q.2 (by decide))).trans (hI_s (sX h1 29 t (nI (mCm m))) 770 MO _)
theorem ev_thing (l : Launch) (G : aG) (kd inn : Int32) (tp : List Int32) (m : Md) (h : aH) (rf : Rf h) (mk : MOk m) (rm : RM m h) (rt_ : RTp tp h) (hcm : mCm m + 1 ≤ 600) : Ev l G 2 0 0 mX11_thing 0 (en 5 [.ref MO, .int kd, .int inn]) [] h (fun x h' => (¬ okTh m tp kd inn ∧ x = some (.int (-1)) ∧ h' = h) ∨ (∃ t kd' p, frS m = some t ∧ kd' < 8 ∧ kd = nI kd' ∧ inn = pI m p ∧ (∀ q, p = some q → mLive m q ∧ mDp m q < 6) ∧ nmB tp = true ∧ x = some (.int (nI t)) ∧ RM (nT m t kd' p tp) h' ∧ RTp [] h' ∧ Fr [785, 768, 770] [29, 30, 31, 32, 33, 34, 35] h h')) := by
  have jn_ : ∀ p, inn = pI m p → (∀ q, p = some q → mLive m q ∧ mDp m q < 6) → nmB tp = true → (0 ≤ kd.toInt ∧ kd.toInt ≤ 7) → Ev l G 2 0 0 mX11_thing 40 (en 5 [.ref MO, .int kd, .int inn]) [] h (fun x h' => (¬ okTh m tp kd inn ∧ x = some (.int (-1)) ∧ h' = h) ∨ (∃ t kd' p, frS m = some t ∧ kd' < 8 ∧ kd = nI kd' ∧ inn = pI m p ∧ (∀ q, p = some q → mLive m q ∧ mDp m q < 6) ∧ nmB tp = true ∧ x = some (.int (nI t)) ∧ RM (nT m t kd' p tp) h' ∧ RTp [] h' ∧ Fr [785, 768, 770] [29, 30, 31, 32, 33, 34, 35] h h')) := by
    intro p hin hp hnm_ hk_
    subst hin
    have hct : mCnt m ≤ 24 := fb_ct_le _ _
    refine Ev_aload_n dX11_thing_40 rfl (by first | exact Or.inr ⟨_, rfl⟩ | exact rv_or _ | exact Or.inl rfl) ?_
    refine Ev_getE dX11_thing_41 fX11_153 rf.1 rm.2.2.2.2.1 ?_
    refine Ev_bipush (v := nI 24) dX11_thing_44 (by decide) ?_
    refine Ev_icmp_neN 51 dX11_thing_46 (by decide) (by omega) (by omega) (fun zb46_ => ?_) (fun zb46_ => ?_)
    · refine Ev_iconst (v := nI 0) dX11_thing_51 (by decide) ?_
      refine Ev_istore_n dX11_thing_52 (by decide) ?_
      obtain ⟨t0_, hf0_⟩ := frS_some zb46_
      obtain ⟨hf1_, hf2_⟩ := frS_spec hf0_
      obtain ⟨kd', hkd_, rfl⟩ := as_nI (n := 7) hk_.1 hk_.2
      have hnl_ := (nmB_iff.mp hnm_).1
      refine ev_thing_l l G _ _ t0_ m h rf mk rm ?_ 24 0 rfl hf0_
      refine ev_thing_68 l G kd' t0_ hf1_ tp (by omega) p m h rf mk rm rt_ (fun q hq => (hp q hq).1) (fun h2 b1_ b2_ b3_ => ?_)
      exact Or.inr ⟨t0_, kd', p, hf0_, by omega, rfl, rfl, hp, hnm_, rfl, rm.add mk hf2_ hf1_ (fun q hq => (hp q hq).1) (by omega) hcm b3_, b1_, b2_⟩
    · refine Ev_iconst (v := -1) dX11_thing_49 (by decide) ?_
      refine Ev_iret dX11_thing_50 rfl ?_
      exact Or.inl ⟨fun q => q.2.2.2 zb46_, rfl, rfl⟩
  refine Ev_aload_n dX11_thing_0 rfl (by first | exact Or.inr ⟨_, rfl⟩ | exact rv_or _ | exact Or.inl rfl) ?_
  refine Ev_V0 [] dX11_thing_1 vX11_isName kX11_141 rf.1 rfl rfl rfl (by decide) (by omega) (ev_isName l G tp h rf rt_) ?_
  refine Ev_if_eqB 49 dX11_thing_4 (by decide) (fun zb4_ => ?_) (fun zb4_ => ?_)
  · have zn_ := zb4_
    refine Ev_iconst (v := -1) dX11_thing_49 (by decide) ?_
    refine Ev_iret dX11_thing_50 rfl ?_
    first
    | exact Or.inl ⟨fun q => absurd (zn_.symm.trans q.1) (by decide), rfl, rfl⟩
    | exact Or.inl ⟨fun q => zk_ q.2.1, rfl, rfl⟩
    | (refine Or.inl ⟨fun q => ?_, rfl, rfl⟩
       obtain ⟨p, hp1, hp2⟩ := q.2.2.1
       cases p with
       | none => exact zb19_ hp1
       | some q1 => exact zt_ ⟨q1, (hp2 q1 rfl).1, hp1⟩)
    | (refine Or.inl ⟨fun q => ?_, rfl, rfl⟩
       obtain ⟨p, hp1, hp2⟩ := q.2.2.1
       cases p with
       | none => exact nI_m1 (by omega) hp1
       | some q1 =>
         have h1 := mk.sl (hp2 q1 rfl).1
         have h2 := sl_inj hc (hp2 q1 rfl).1 (nI_inj (by omega) (by omega) hp1)
         subst h2
         have := (hp2 c rfl).2
         omega)
  · have zn_ := nmB_iff.mp zb4_
    refine Ev_iload_n dX11_thing_7 rfl ?_
    refine Ev_iconst (v := nI 0) dX11_thing_8 (by decide) ?_
    refine Ev_bipush (v := nI 7) dX11_thing_9 (by decide) ?_
    refine Ev_S0 [.int kd, .int (nI 0), .int (nI 7)] dX11_thing_11 sX11_isIn kX11_130 rfl rfl rfl (by decide) (by omega) (ev_isIn l G _ _ _ _) ?_
    refine Ev_if_eqB 49 dX11_thing_14 (by decide) (fun zb14_ => ?_) (fun zb14_ => ?_)
    · have zk_ := inB_f t0 t7 zb14_
      refine Ev_iconst (v := -1) dX11_thing_49 (by decide) ?_
      refine Ev_iret dX11_thing_50 rfl ?_
      first
      | exact Or.inl ⟨fun q => absurd (zn_.symm.trans q.1) (by decide), rfl, rfl⟩
      | exact Or.inl ⟨fun q => zk_ q.2.1, rfl, rfl⟩
      | (refine Or.inl ⟨fun q => ?_, rfl, rfl⟩
         obtain ⟨p, hp1, hp2⟩ := q.2.2.1
         cases p with
         | none => exact zb19_ hp1
         | some q1 => exact zt_ ⟨q1, (hp2 q1 rfl).1, hp1⟩)
      | (refine Or.inl ⟨fun q => ?_, rfl, rfl⟩
         obtain ⟨p, hp1, hp2⟩ := q.2.2.1
         cases p with
         | none => exact nI_m1 (by omega) hp1
         | some q1 =>
           have h1 := mk.sl (hp2 q1 rfl).1
           have h2 := sl_inj hc (hp2 q1 rfl).1 (nI_inj (by omega) (by omega) hp1)
           subst h2
           have := (hp2 c rfl).2
           omega)
    · have zk_ := inB_t t0 t7 zb14_
      refine Ev_iload_n dX11_thing_17 rfl ?_
      refine Ev_iconst (v := -1) dX11_thing_18 (by decide) ?_
      refine Ev_icmp_eq 40 dX11_thing_19 (by decide) (fun zb19_ => ?_) (fun zb19_ => ?_)
      · first
        | exact jn_ none zb19_ (fun q hq => by cases hq) zb4_ zk_
        | exact jn_ (some c) rfl (fun q hq => by cases hq; exact ⟨hc, by omega⟩) zb4_ zk_
      · have zb19_ : inn ≠ -1 := zb19_
        refine Ev_aload_n dX11_thing_22 rfl (by first | exact Or.inr ⟨_, rfl⟩ | exact rv_or _ | exact Or.inl rfl) ?_
        refine Ev_iload_n dX11_thing_23 rfl ?_
        refine Ev_V0 [.int inn] dX11_thing_24 vX11_isThing kX11_145 rf.1 rfl rfl rfl (by decide) (by omega) (ev_isThing l G _ _ rf) ?_
        refine Ev_if_eqB 49 dX11_thing_27 (by decide) (fun zb27_ => ?_) (fun zb27_ => ?_)
        · have zt_ := isT_f rm mk zb27_
          refine Ev_iconst (v := -1) dX11_thing_49 (by decide) ?_
          refine Ev_iret dX11_thing_50 rfl ?_
          first
          | exact Or.inl ⟨fun q => absurd (zn_.symm.trans q.1) (by decide), rfl, rfl⟩
          | exact Or.inl ⟨fun q => zk_ q.2.1, rfl, rfl⟩
          | (refine Or.inl ⟨fun q => ?_, rfl, rfl⟩
             obtain ⟨p, hp1, hp2⟩ := q.2.2.1
             cases p with
             | none => exact zb19_ hp1
             | some q1 => exact zt_ ⟨q1, (hp2 q1 rfl).1, hp1⟩)
          | (refine Or.inl ⟨fun q => ?_, rfl, rfl⟩
             obtain ⟨p, hp1, hp2⟩ := q.2.2.1
             cases p with
             | none => exact nI_m1 (by omega) hp1
             | some q1 =>
               have h1 := mk.sl (hp2 q1 rfl).1
               have h2 := sl_inj hc (hp2 q1 rfl).1 (nI_inj (by omega) (by omega) hp1)
               subst h2
               have := (hp2 c rfl).2
               omega)
        · obtain ⟨c, hc, rfl⟩ := (rm.isTh mk).mp zb27_
          have hs := mk.sl hc
          have hdd := (mk.2.1 c (mk.lt hc)).2.2.2.1
          refine Ev_aload_n dX11_thing_30 rfl (by first | exact Or.inr ⟨_, rfl⟩ | exact rv_or _ | exact Or.inl rfl) ?_
          refine Ev_iload_n dX11_thing_31 rfl ?_
          refine Ev_V0 [.int (nI (mSl m c))] dX11_thing_32 vX11_depthOf kX11_149 rf.1 rfl rfl rfl (by decide) (by omega) (ev_depthOf l G c m h rf mk rm hc) ?_
          refine Ev_bipush (v := nI 6) dX11_thing_35 (by decide) ?_
          refine Ev_icmp_eqN 49 dX11_thing_37 (by decide) (by omega) (by omega) (fun zb37_ => ?_) (fun zb37_ => ?_)
          · refine Ev_iconst (v := -1) dX11_thing_49 (by decide) ?_
            refine Ev_iret dX11_thing_50 rfl ?_
            first
            | exact Or.inl ⟨fun q => absurd (zn_.symm.trans q.1) (by decide), rfl, rfl⟩
            | exact Or.inl ⟨fun q => zk_ q.2.1, rfl, rfl⟩
            | (refine Or.inl ⟨fun q => ?_, rfl, rfl⟩
               obtain ⟨p, hp1, hp2⟩ := q.2.2.1
               cases p with
               | none => exact zb19_ hp1
               | some q1 => exact zt_ ⟨q1, (hp2 q1 rfl).1, hp1⟩)
            | (refine Or.inl ⟨fun q => ?_, rfl, rfl⟩
               obtain ⟨p, hp1, hp2⟩ := q.2.2.1
               cases p with
               | none => exact nI_m1 (by omega) hp1
               | some q1 =>
                 have h1 := mk.sl (hp2 q1 rfl).1
                 have h2 := sl_inj hc (hp2 q1 rfl).1 (nI_inj (by omega) (by omega) hp1)
                 subst h2
                 have := (hp2 c rfl).2
                 omega)
          · first
            | exact jn_ none zb19_ (fun q hq => by cases hq) zb4_ zk_
            | exact jn_ (some c) rfl (fun q hq => by cases hq; exact ⟨hc, by omega⟩) zb4_ zk_
